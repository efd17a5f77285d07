/-! What each instruction is: class CommitDesk$Transaction. -/
theorem d_T_init_0 : decode c_T_init 0 = .ok (.aload_n 0, 1) := by decide +kernel
theorem d_T_init_1 : decode c_T_init 1 = .ok (.invokespecial 3, 3) := by decide +kernel
theorem d_T_init_4 : decode c_T_init 4 = .ok (.aload_n 0, 1) := by decide +kernel
theorem d_T_init_5 : decode c_T_init 5 = .ok (.iconst 0, 1) := by decide +kernel
theorem d_T_init_6 : decode c_T_init 6 = .ok (.putfield 9, 3) := by decide +kernel
theorem d_T_init_9 : decode c_T_init 9 = .ok (.aload_n 0, 1) := by decide +kernel
theorem d_T_init_10 : decode c_T_init 10 = .ok (.iconst 0, 1) := by decide +kernel
theorem d_T_init_11 : decode c_T_init 11 = .ok (.putfield 15, 3) := by decide +kernel
theorem d_T_init_14 : decode c_T_init 14 = .ok (.aload_n 0, 1) := by decide +kernel
theorem d_T_init_15 : decode c_T_init 15 = .ok (.iconst 0, 1) := by decide +kernel
theorem d_T_init_16 : decode c_T_init 16 = .ok (.putfield 18, 3) := by decide +kernel
theorem d_T_init_19 : decode c_T_init 19 = .ok (.aload_n 0, 1) := by decide +kernel
theorem d_T_init_20 : decode c_T_init 20 = .ok (.iconst 1, 1) := by decide +kernel
theorem d_T_init_21 : decode c_T_init 21 = .ok (.putfield 22, 3) := by decide +kernel
theorem d_T_init_24 : decode c_T_init 24 = .ok (.aload_n 0, 1) := by decide +kernel
theorem d_T_init_25 : decode c_T_init 25 = .ok (.iconst 5, 1) := by decide +kernel
theorem d_T_init_26 : decode c_T_init 26 = .ok (.newarray .int, 2) := by decide +kernel
theorem d_T_init_28 : decode c_T_init 28 = .ok (.putfield 25, 3) := by decide +kernel
theorem d_T_init_31 : decode c_T_init 31 = .ok (.aload_n 0, 1) := by decide +kernel
theorem d_T_init_32 : decode c_T_init 32 = .ok (.iconst 5, 1) := by decide +kernel
theorem d_T_init_33 : decode c_T_init 33 = .ok (.bipush 32, 2) := by decide +kernel
theorem d_T_init_35 : decode c_T_init 35 = .ok (.multianewarray 29 2, 4) := by decide +kernel
theorem d_T_init_39 : decode c_T_init 39 = .ok (.putfield 31, 3) := by decide +kernel
theorem d_T_init_42 : decode c_T_init 42 = .ok (.return_, 1) := by decide +kernel
theorem d_T_isOpen_0 : decode c_T_isOpen 0 = .ok (.aload_n 0, 1) := by decide +kernel
theorem d_T_isOpen_1 : decode c_T_isOpen 1 = .ok (.getfield 9, 3) := by decide +kernel
theorem d_T_isOpen_4 : decode c_T_isOpen 4 = .ok (.ireturn, 1) := by decide +kernel
theorem d_T_start_0 : decode c_T_start 0 = .ok (.aload_n 0, 1) := by decide +kernel
theorem d_T_start_1 : decode c_T_start 1 = .ok (.iconst 1, 1) := by decide +kernel
theorem d_T_start_2 : decode c_T_start 2 = .ok (.putfield 9, 3) := by decide +kernel
theorem d_T_start_5 : decode c_T_start 5 = .ok (.aload_n 0, 1) := by decide +kernel
theorem d_T_start_6 : decode c_T_start 6 = .ok (.iconst 0, 1) := by decide +kernel
theorem d_T_start_7 : decode c_T_start 7 = .ok (.putfield 15, 3) := by decide +kernel
theorem d_T_start_10 : decode c_T_start 10 = .ok (.aload_n 0, 1) := by decide +kernel
theorem d_T_start_11 : decode c_T_start 11 = .ok (.iconst 0, 1) := by decide +kernel
theorem d_T_start_12 : decode c_T_start 12 = .ok (.putfield 18, 3) := by decide +kernel
theorem d_T_start_15 : decode c_T_start 15 = .ok (.aload_n 0, 1) := by decide +kernel
theorem d_T_start_16 : decode c_T_start 16 = .ok (.iconst 1, 1) := by decide +kernel
theorem d_T_start_17 : decode c_T_start 17 = .ok (.putfield 22, 3) := by decide +kernel
theorem d_T_start_20 : decode c_T_start 20 = .ok (.aload_n 0, 1) := by decide +kernel
theorem d_T_start_21 : decode c_T_start 21 = .ok (.getfield 25, 3) := by decide +kernel
theorem d_T_start_24 : decode c_T_start 24 = .ok (.iconst 0, 1) := by decide +kernel
theorem d_T_start_25 : decode c_T_start 25 = .ok (.iconst 0, 1) := by decide +kernel
theorem d_T_start_26 : decode c_T_start 26 = .ok (.iastore, 1) := by decide +kernel
theorem d_T_start_27 : decode c_T_start 27 = .ok (.return_, 1) := by decide +kernel
theorem d_T_lastPartWith_0 : decode c_T_lastPartWith 0 = .ok (.aload_n 0, 1) := by decide +kernel
theorem d_T_lastPartWith_1 : decode c_T_lastPartWith 1 = .ok (.getfield 22, 3) := by decide +kernel
theorem d_T_lastPartWith_4 : decode c_T_lastPartWith 4 = .ok (.iconst 1, 1) := by decide +kernel
theorem d_T_lastPartWith_5 : decode c_T_lastPartWith 5 = .ok (.isub, 1) := by decide +kernel
theorem d_T_lastPartWith_6 : decode c_T_lastPartWith 6 = .ok (.istore_n 2, 1) := by decide +kernel
theorem d_T_lastPartWith_7 : decode c_T_lastPartWith 7 = .ok (.iload_n 2, 1) := by decide +kernel
theorem d_T_lastPartWith_8 : decode c_T_lastPartWith 8 = .ok (.ifCond .lt 24, 3) := by decide +kernel
theorem d_T_lastPartWith_11 : decode c_T_lastPartWith 11 = .ok (.aload_n 0, 1) := by decide +kernel
theorem d_T_lastPartWith_12 : decode c_T_lastPartWith 12 = .ok (.getfield 25, 3) := by decide +kernel
theorem d_T_lastPartWith_15 : decode c_T_lastPartWith 15 = .ok (.iload_n 2, 1) := by decide +kernel
theorem d_T_lastPartWith_16 : decode c_T_lastPartWith 16 = .ok (.iaload, 1) := by decide +kernel
theorem d_T_lastPartWith_17 : decode c_T_lastPartWith 17 = .ok (.iload_n 1, 1) := by decide +kernel
theorem d_T_lastPartWith_18 : decode c_T_lastPartWith 18 = .ok (.invokestatic 40, 3) := by decide +kernel
theorem d_T_lastPartWith_21 : decode c_T_lastPartWith 21 = .ok (.ifCond .eq 5, 3) := by decide +kernel
theorem d_T_lastPartWith_24 : decode c_T_lastPartWith 24 = .ok (.iload_n 2, 1) := by decide +kernel
theorem d_T_lastPartWith_25 : decode c_T_lastPartWith 25 = .ok (.ireturn, 1) := by decide +kernel
theorem d_T_lastPartWith_26 : decode c_T_lastPartWith 26 = .ok (.iinc 2 (-1), 3) := by decide +kernel
theorem d_T_lastPartWith_29 : decode c_T_lastPartWith 29 = .ok (.goto (-22), 3) := by decide +kernel
theorem d_T_lastPartWith_32 : decode c_T_lastPartWith 32 = .ok (.iconst (-1), 1) := by decide +kernel
theorem d_T_lastPartWith_33 : decode c_T_lastPartWith 33 = .ok (.ireturn, 1) := by decide +kernel
theorem d_T_holds_0 : decode c_T_holds 0 = .ok (.iload_n 0, 1) := by decide +kernel
theorem d_T_holds_1 : decode c_T_holds 1 = .ok (.iload_n 1, 1) := by decide +kernel
theorem d_T_holds_2 : decode c_T_holds 2 = .ok (.ishr, 1) := by decide +kernel
theorem d_T_holds_3 : decode c_T_holds 3 = .ok (.iconst 1, 1) := by decide +kernel
theorem d_T_holds_4 : decode c_T_holds 4 = .ok (.iand, 1) := by decide +kernel
theorem d_T_holds_5 : decode c_T_holds 5 = .ok (.iconst 1, 1) := by decide +kernel
theorem d_T_holds_6 : decode c_T_holds 6 = .ok (.if_icmp .ne 7, 3) := by decide +kernel
theorem d_T_holds_9 : decode c_T_holds 9 = .ok (.iconst 1, 1) := by decide +kernel
theorem d_T_holds_10 : decode c_T_holds 10 = .ok (.goto 4, 3) := by decide +kernel
theorem d_T_holds_13 : decode c_T_holds 13 = .ok (.iconst 0, 1) := by decide +kernel
theorem d_T_holds_14 : decode c_T_holds 14 = .ok (.ireturn, 1) := by decide +kernel
theorem d_T_writtenIn_0 : decode c_T_writtenIn 0 = .ok (.aload_n 0, 1) := by decide +kernel
theorem d_T_writtenIn_1 : decode c_T_writtenIn 1 = .ok (.getfield 31, 3) := by decide +kernel
theorem d_T_writtenIn_4 : decode c_T_writtenIn 4 = .ok (.iload_n 1, 1) := by decide +kernel
theorem d_T_writtenIn_5 : decode c_T_writtenIn 5 = .ok (.aaload, 1) := by decide +kernel
theorem d_T_writtenIn_6 : decode c_T_writtenIn 6 = .ok (.iload_n 2, 1) := by decide +kernel
theorem d_T_writtenIn_7 : decode c_T_writtenIn 7 = .ok (.laload, 1) := by decide +kernel
theorem d_T_writtenIn_8 : decode c_T_writtenIn 8 = .ok (.lreturn, 1) := by decide +kernel
theorem d_T_isStale_0 : decode c_T_isStale 0 = .ok (.aload_n 0, 1) := by decide +kernel
theorem d_T_isStale_1 : decode c_T_isStale 1 = .ok (.getfield 15, 3) := by decide +kernel
theorem d_T_isStale_4 : decode c_T_isStale 4 = .ok (.ireturn, 1) := by decide +kernel
theorem d_T_close_0 : decode c_T_close 0 = .ok (.aload_n 0, 1) := by decide +kernel
theorem d_T_close_1 : decode c_T_close 1 = .ok (.iconst 0, 1) := by decide +kernel
theorem d_T_close_2 : decode c_T_close 2 = .ok (.putfield 9, 3) := by decide +kernel
theorem d_T_close_5 : decode c_T_close 5 = .ok (.return_, 1) := by decide +kernel
theorem d_T_markRead_0 : decode c_T_markRead 0 = .ok (.aload_n 0, 1) := by decide +kernel
theorem d_T_markRead_1 : decode c_T_markRead 1 = .ok (.dup, 1) := by decide +kernel
theorem d_T_markRead_2 : decode c_T_markRead 2 = .ok (.getfield 18, 3) := by decide +kernel
theorem d_T_markRead_5 : decode c_T_markRead 5 = .ok (.iconst 1, 1) := by decide +kernel
theorem d_T_markRead_6 : decode c_T_markRead 6 = .ok (.iload_n 1, 1) := by decide +kernel
theorem d_T_markRead_7 : decode c_T_markRead 7 = .ok (.ishl, 1) := by decide +kernel
theorem d_T_markRead_8 : decode c_T_markRead 8 = .ok (.ior, 1) := by decide +kernel
theorem d_T_markRead_9 : decode c_T_markRead 9 = .ok (.putfield 18, 3) := by decide +kernel
theorem d_T_markRead_12 : decode c_T_markRead 12 = .ok (.return_, 1) := by decide +kernel
theorem d_T_putInLastPart_0 : decode c_T_putInLastPart 0 = .ok (.aload_n 0, 1) := by decide +kernel
theorem d_T_putInLastPart_1 : decode c_T_putInLastPart 1 = .ok (.aload_n 0, 1) := by decide +kernel
theorem d_T_putInLastPart_2 : decode c_T_putInLastPart 2 = .ok (.getfield 22, 3) := by decide +kernel
theorem d_T_putInLastPart_5 : decode c_T_putInLastPart 5 = .ok (.iconst 1, 1) := by decide +kernel
theorem d_T_putInLastPart_6 : decode c_T_putInLastPart 6 = .ok (.isub, 1) := by decide +kernel
theorem d_T_putInLastPart_7 : decode c_T_putInLastPart 7 = .ok (.iload_n 1, 1) := by decide +kernel
theorem d_T_putInLastPart_8 : decode c_T_putInLastPart 8 = .ok (.lload_n 2, 1) := by decide +kernel
theorem d_T_putInLastPart_9 : decode c_T_putInLastPart 9 = .ok (.invokevirtual 44, 3) := by decide +kernel
theorem d_T_putInLastPart_12 : decode c_T_putInLastPart 12 = .ok (.return_, 1) := by decide +kernel
theorem d_T_putInPart_0 : decode c_T_putInPart 0 = .ok (.aload_n 0, 1) := by decide +kernel
theorem d_T_putInPart_1 : decode c_T_putInPart 1 = .ok (.getfield 25, 3) := by decide +kernel
theorem d_T_putInPart_4 : decode c_T_putInPart 4 = .ok (.iload_n 1, 1) := by decide +kernel
theorem d_T_putInPart_5 : decode c_T_putInPart 5 = .ok (.dup2, 1) := by decide +kernel
theorem d_T_putInPart_6 : decode c_T_putInPart 6 = .ok (.iaload, 1) := by decide +kernel
theorem d_T_putInPart_7 : decode c_T_putInPart 7 = .ok (.iconst 1, 1) := by decide +kernel
theorem d_T_putInPart_8 : decode c_T_putInPart 8 = .ok (.iload_n 2, 1) := by decide +kernel
theorem d_T_putInPart_9 : decode c_T_putInPart 9 = .ok (.ishl, 1) := by decide +kernel
theorem d_T_putInPart_10 : decode c_T_putInPart 10 = .ok (.ior, 1) := by decide +kernel
theorem d_T_putInPart_11 : decode c_T_putInPart 11 = .ok (.iastore, 1) := by decide +kernel
theorem d_T_putInPart_12 : decode c_T_putInPart 12 = .ok (.aload_n 0, 1) := by decide +kernel
theorem d_T_putInPart_13 : decode c_T_putInPart 13 = .ok (.getfield 31, 3) := by decide +kernel
theorem d_T_putInPart_16 : decode c_T_putInPart 16 = .ok (.iload_n 1, 1) := by decide +kernel
theorem d_T_putInPart_17 : decode c_T_putInPart 17 = .ok (.aaload, 1) := by decide +kernel
theorem d_T_putInPart_18 : decode c_T_putInPart 18 = .ok (.iload_n 2, 1) := by decide +kernel
theorem d_T_putInPart_19 : decode c_T_putInPart 19 = .ok (.lload_n 3, 1) := by decide +kernel
theorem d_T_putInPart_20 : decode c_T_putInPart 20 = .ok (.lastore, 1) := by decide +kernel
theorem d_T_putInPart_21 : decode c_T_putInPart 21 = .ok (.return_, 1) := by decide +kernel
theorem d_T_partCount_0 : decode c_T_partCount 0 = .ok (.aload_n 0, 1) := by decide +kernel
theorem d_T_partCount_1 : decode c_T_partCount 1 = .ok (.getfield 22, 3) := by decide +kernel
theorem d_T_partCount_4 : decode c_T_partCount 4 = .ok (.ireturn, 1) := by decide +kernel
theorem d_T_addPart_0 : decode c_T_addPart 0 = .ok (.aload_n 0, 1) := by decide +kernel
theorem d_T_addPart_1 : decode c_T_addPart 1 = .ok (.getfield 25, 3) := by decide +kernel
theorem d_T_addPart_4 : decode c_T_addPart 4 = .ok (.aload_n 0, 1) := by decide +kernel
theorem d_T_addPart_5 : decode c_T_addPart 5 = .ok (.getfield 22, 3) := by decide +kernel
theorem d_T_addPart_8 : decode c_T_addPart 8 = .ok (.iconst 0, 1) := by decide +kernel
theorem d_T_addPart_9 : decode c_T_addPart 9 = .ok (.iastore, 1) := by decide +kernel
theorem d_T_addPart_10 : decode c_T_addPart 10 = .ok (.aload_n 0, 1) := by decide +kernel
theorem d_T_addPart_11 : decode c_T_addPart 11 = .ok (.dup, 1) := by decide +kernel
theorem d_T_addPart_12 : decode c_T_addPart 12 = .ok (.getfield 22, 3) := by decide +kernel
theorem d_T_addPart_15 : decode c_T_addPart 15 = .ok (.iconst 1, 1) := by decide +kernel
theorem d_T_addPart_16 : decode c_T_addPart 16 = .ok (.iadd, 1) := by decide +kernel
theorem d_T_addPart_17 : decode c_T_addPart 17 = .ok (.putfield 22, 3) := by decide +kernel
theorem d_T_addPart_20 : decode c_T_addPart 20 = .ok (.return_, 1) := by decide +kernel
theorem d_T_dropLastPart_0 : decode c_T_dropLastPart 0 = .ok (.aload_n 0, 1) := by decide +kernel
theorem d_T_dropLastPart_1 : decode c_T_dropLastPart 1 = .ok (.dup, 1) := by decide +kernel
theorem d_T_dropLastPart_2 : decode c_T_dropLastPart 2 = .ok (.getfield 22, 3) := by decide +kernel
theorem d_T_dropLastPart_5 : decode c_T_dropLastPart 5 = .ok (.iconst 1, 1) := by decide +kernel
theorem d_T_dropLastPart_6 : decode c_T_dropLastPart 6 = .ok (.isub, 1) := by decide +kernel
theorem d_T_dropLastPart_7 : decode c_T_dropLastPart 7 = .ok (.putfield 22, 3) := by decide +kernel
theorem d_T_dropLastPart_10 : decode c_T_dropLastPart 10 = .ok (.return_, 1) := by decide +kernel
theorem d_T_mergeLastPart_0 : decode c_T_mergeLastPart 0 = .ok (.aload_n 0, 1) := by decide +kernel
theorem d_T_mergeLastPart_1 : decode c_T_mergeLastPart 1 = .ok (.getfield 22, 3) := by decide +kernel
theorem d_T_mergeLastPart_4 : decode c_T_mergeLastPart 4 = .ok (.iconst 1, 1) := by decide +kernel
theorem d_T_mergeLastPart_5 : decode c_T_mergeLastPart 5 = .ok (.isub, 1) := by decide +kernel
theorem d_T_mergeLastPart_6 : decode c_T_mergeLastPart 6 = .ok (.istore_n 1, 1) := by decide +kernel
theorem d_T_mergeLastPart_7 : decode c_T_mergeLastPart 7 = .ok (.iconst 0, 1) := by decide +kernel
theorem d_T_mergeLastPart_8 : decode c_T_mergeLastPart 8 = .ok (.istore_n 2, 1) := by decide +kernel
theorem d_T_mergeLastPart_9 : decode c_T_mergeLastPart 9 = .ok (.iload_n 2, 1) := by decide +kernel
theorem d_T_mergeLastPart_10 : decode c_T_mergeLastPart 10 = .ok (.bipush 32, 2) := by decide +kernel
theorem d_T_mergeLastPart_12 : decode c_T_mergeLastPart 12 = .ok (.if_icmp .ge 38, 3) := by decide +kernel
theorem d_T_mergeLastPart_15 : decode c_T_mergeLastPart 15 = .ok (.aload_n 0, 1) := by decide +kernel
theorem d_T_mergeLastPart_16 : decode c_T_mergeLastPart 16 = .ok (.getfield 25, 3) := by decide +kernel
theorem d_T_mergeLastPart_19 : decode c_T_mergeLastPart 19 = .ok (.iload_n 1, 1) := by decide +kernel
theorem d_T_mergeLastPart_20 : decode c_T_mergeLastPart 20 = .ok (.iaload, 1) := by decide +kernel
theorem d_T_mergeLastPart_21 : decode c_T_mergeLastPart 21 = .ok (.iload_n 2, 1) := by decide +kernel
theorem d_T_mergeLastPart_22 : decode c_T_mergeLastPart 22 = .ok (.invokestatic 40, 3) := by decide +kernel
theorem d_T_mergeLastPart_25 : decode c_T_mergeLastPart 25 = .ok (.ifCond .eq 19, 3) := by decide +kernel
theorem d_T_mergeLastPart_28 : decode c_T_mergeLastPart 28 = .ok (.aload_n 0, 1) := by decide +kernel
theorem d_T_mergeLastPart_29 : decode c_T_mergeLastPart 29 = .ok (.iload_n 1, 1) := by decide +kernel
theorem d_T_mergeLastPart_30 : decode c_T_mergeLastPart 30 = .ok (.iconst 1, 1) := by decide +kernel
theorem d_T_mergeLastPart_31 : decode c_T_mergeLastPart 31 = .ok (.isub, 1) := by decide +kernel
theorem d_T_mergeLastPart_32 : decode c_T_mergeLastPart 32 = .ok (.iload_n 2, 1) := by decide +kernel
theorem d_T_mergeLastPart_33 : decode c_T_mergeLastPart 33 = .ok (.aload_n 0, 1) := by decide +kernel
theorem d_T_mergeLastPart_34 : decode c_T_mergeLastPart 34 = .ok (.getfield 31, 3) := by decide +kernel
theorem d_T_mergeLastPart_37 : decode c_T_mergeLastPart 37 = .ok (.iload_n 1, 1) := by decide +kernel
theorem d_T_mergeLastPart_38 : decode c_T_mergeLastPart 38 = .ok (.aaload, 1) := by decide +kernel
theorem d_T_mergeLastPart_39 : decode c_T_mergeLastPart 39 = .ok (.iload_n 2, 1) := by decide +kernel
theorem d_T_mergeLastPart_40 : decode c_T_mergeLastPart 40 = .ok (.laload, 1) := by decide +kernel
theorem d_T_mergeLastPart_41 : decode c_T_mergeLastPart 41 = .ok (.invokevirtual 44, 3) := by decide +kernel
theorem d_T_mergeLastPart_44 : decode c_T_mergeLastPart 44 = .ok (.iinc 2 1, 3) := by decide +kernel
theorem d_T_mergeLastPart_47 : decode c_T_mergeLastPart 47 = .ok (.goto (-38), 3) := by decide +kernel
theorem d_T_mergeLastPart_50 : decode c_T_mergeLastPart 50 = .ok (.aload_n 0, 1) := by decide +kernel
theorem d_T_mergeLastPart_51 : decode c_T_mergeLastPart 51 = .ok (.invokevirtual 48, 3) := by decide +kernel
theorem d_T_mergeLastPart_54 : decode c_T_mergeLastPart 54 = .ok (.return_, 1) := by decide +kernel
theorem d_T_noteChange_0 : decode c_T_noteChange 0 = .ok (.aload_n 0, 1) := by decide +kernel
theorem d_T_noteChange_1 : decode c_T_noteChange 1 = .ok (.getfield 9, 3) := by decide +kernel
theorem d_T_noteChange_4 : decode c_T_noteChange 4 = .ok (.ifCond .eq 19, 3) := by decide +kernel
theorem d_T_noteChange_7 : decode c_T_noteChange 7 = .ok (.aload_n 0, 1) := by decide +kernel
theorem d_T_noteChange_8 : decode c_T_noteChange 8 = .ok (.getfield 18, 3) := by decide +kernel
theorem d_T_noteChange_11 : decode c_T_noteChange 11 = .ok (.iload_n 1, 1) := by decide +kernel
theorem d_T_noteChange_12 : decode c_T_noteChange 12 = .ok (.invokestatic 40, 3) := by decide +kernel
theorem d_T_noteChange_15 : decode c_T_noteChange 15 = .ok (.ifCond .eq 8, 3) := by decide +kernel
theorem d_T_noteChange_18 : decode c_T_noteChange 18 = .ok (.aload_n 0, 1) := by decide +kernel
theorem d_T_noteChange_19 : decode c_T_noteChange 19 = .ok (.iconst 1, 1) := by decide +kernel
theorem d_T_noteChange_20 : decode c_T_noteChange 20 = .ok (.putfield 15, 3) := by decide +kernel
theorem d_T_noteChange_23 : decode c_T_noteChange 23 = .ok (.return_, 1) := by decide +kernel
theorem d_T_readCount_0 : decode c_T_readCount 0 = .ok (.aload_n 0, 1) := by decide +kernel
theorem d_T_readCount_1 : decode c_T_readCount 1 = .ok (.getfield 18, 3) := by decide +kernel
theorem d_T_readCount_4 : decode c_T_readCount 4 = .ok (.invokestatic 34, 3) := by decide +kernel
theorem d_T_readCount_7 : decode c_T_readCount 7 = .ok (.ireturn, 1) := by decide +kernel
theorem d_T_writtenCount_0 : decode c_T_writtenCount 0 = .ok (.iconst 0, 1) := by decide +kernel
theorem d_T_writtenCount_1 : decode c_T_writtenCount 1 = .ok (.istore_n 1, 1) := by decide +kernel
theorem d_T_writtenCount_2 : decode c_T_writtenCount 2 = .ok (.iconst 0, 1) := by decide +kernel
theorem d_T_writtenCount_3 : decode c_T_writtenCount 3 = .ok (.istore_n 2, 1) := by decide +kernel
theorem d_T_writtenCount_4 : decode c_T_writtenCount 4 = .ok (.iload_n 2, 1) := by decide +kernel
theorem d_T_writtenCount_5 : decode c_T_writtenCount 5 = .ok (.aload_n 0, 1) := by decide +kernel
theorem d_T_writtenCount_6 : decode c_T_writtenCount 6 = .ok (.getfield 22, 3) := by decide +kernel
theorem d_T_writtenCount_9 : decode c_T_writtenCount 9 = .ok (.if_icmp .ge 18, 3) := by decide +kernel
theorem d_T_writtenCount_12 : decode c_T_writtenCount 12 = .ok (.iload_n 1, 1) := by decide +kernel
theorem d_T_writtenCount_13 : decode c_T_writtenCount 13 = .ok (.aload_n 0, 1) := by decide +kernel
theorem d_T_writtenCount_14 : decode c_T_writtenCount 14 = .ok (.getfield 25, 3) := by decide +kernel
theorem d_T_writtenCount_17 : decode c_T_writtenCount 17 = .ok (.iload_n 2, 1) := by decide +kernel
theorem d_T_writtenCount_18 : decode c_T_writtenCount 18 = .ok (.iaload, 1) := by decide +kernel
theorem d_T_writtenCount_19 : decode c_T_writtenCount 19 = .ok (.ior, 1) := by decide +kernel
theorem d_T_writtenCount_20 : decode c_T_writtenCount 20 = .ok (.istore_n 1, 1) := by decide +kernel
theorem d_T_writtenCount_21 : decode c_T_writtenCount 21 = .ok (.iinc 2 1, 3) := by decide +kernel
theorem d_T_writtenCount_24 : decode c_T_writtenCount 24 = .ok (.goto (-20), 3) := by decide +kernel
theorem d_T_writtenCount_27 : decode c_T_writtenCount 27 = .ok (.iload_n 1, 1) := by decide +kernel
theorem d_T_writtenCount_28 : decode c_T_writtenCount 28 = .ok (.invokestatic 34, 3) := by decide +kernel
theorem d_T_writtenCount_31 : decode c_T_writtenCount 31 = .ok (.ireturn, 1) := by decide +kernel
