/-! What each instruction is: class CommitDesk. -/
theorem d_D_init_0 : decode c_D_init 0 = .ok (.aload_n 0, 1) := by decide +kernel
theorem d_D_init_1 : decode c_D_init 1 = .ok (.invokespecial 1, 3) := by decide +kernel
theorem d_D_init_4 : decode c_D_init 4 = .ok (.aload_n 0, 1) := by decide +kernel
theorem d_D_init_5 : decode c_D_init 5 = .ok (.bipush 32, 2) := by decide +kernel
theorem d_D_init_7 : decode c_D_init 7 = .ok (.newarray .long, 2) := by decide +kernel
theorem d_D_init_9 : decode c_D_init 9 = .ok (.putfield 9, 3) := by decide +kernel
theorem d_D_init_12 : decode c_D_init 12 = .ok (.aload_n 0, 1) := by decide +kernel
theorem d_D_init_13 : decode c_D_init 13 = .ok (.bipush 32, 2) := by decide +kernel
theorem d_D_init_15 : decode c_D_init 15 = .ok (.newarray .int, 2) := by decide +kernel
theorem d_D_init_17 : decode c_D_init 17 = .ok (.putfield 13, 3) := by decide +kernel
theorem d_D_init_20 : decode c_D_init 20 = .ok (.aload_n 0, 1) := by decide +kernel
theorem d_D_init_21 : decode c_D_init 21 = .ok (.bipush 8, 2) := by decide +kernel
theorem d_D_init_23 : decode c_D_init 23 = .ok (.anewarray 17, 3) := by decide +kernel
theorem d_D_init_26 : decode c_D_init 26 = .ok (.putfield 19, 3) := by decide +kernel
theorem d_D_init_29 : decode c_D_init 29 = .ok (.aload_n 0, 1) := by decide +kernel
theorem d_D_init_30 : decode c_D_init 30 = .ok (.iconst 0, 1) := by decide +kernel
theorem d_D_init_31 : decode c_D_init 31 = .ok (.putfield 23, 3) := by decide +kernel
theorem d_D_init_34 : decode c_D_init 34 = .ok (.aload_n 0, 1) := by decide +kernel
theorem d_D_init_35 : decode c_D_init 35 = .ok (.iconst 0, 1) := by decide +kernel
theorem d_D_init_36 : decode c_D_init 36 = .ok (.putfield 27, 3) := by decide +kernel
theorem d_D_init_39 : decode c_D_init 39 = .ok (.iconst 0, 1) := by decide +kernel
theorem d_D_init_40 : decode c_D_init 40 = .ok (.istore_n 1, 1) := by decide +kernel
theorem d_D_init_41 : decode c_D_init 41 = .ok (.iload_n 1, 1) := by decide +kernel
theorem d_D_init_42 : decode c_D_init 42 = .ok (.bipush 8, 2) := by decide +kernel
theorem d_D_init_44 : decode c_D_init 44 = .ok (.if_icmp .ge 22, 3) := by decide +kernel
theorem d_D_init_47 : decode c_D_init 47 = .ok (.aload_n 0, 1) := by decide +kernel
theorem d_D_init_48 : decode c_D_init 48 = .ok (.getfield 19, 3) := by decide +kernel
theorem d_D_init_51 : decode c_D_init 51 = .ok (.iload_n 1, 1) := by decide +kernel
theorem d_D_init_52 : decode c_D_init 52 = .ok (.new 17, 3) := by decide +kernel
theorem d_D_init_55 : decode c_D_init 55 = .ok (.dup, 1) := by decide +kernel
theorem d_D_init_56 : decode c_D_init 56 = .ok (.invokespecial 30, 3) := by decide +kernel
theorem d_D_init_59 : decode c_D_init 59 = .ok (.aastore, 1) := by decide +kernel
theorem d_D_init_60 : decode c_D_init 60 = .ok (.iinc 1 1, 3) := by decide +kernel
theorem d_D_init_63 : decode c_D_init 63 = .ok (.goto (-22), 3) := by decide +kernel
theorem d_D_init_66 : decode c_D_init 66 = .ok (.return_, 1) := by decide +kernel
theorem d_D_begin_0 : decode c_D_begin 0 = .ok (.aload_n 0, 1) := by decide +kernel
theorem d_D_begin_1 : decode c_D_begin 1 = .ok (.iload_n 1, 1) := by decide +kernel
theorem d_D_begin_2 : decode c_D_begin 2 = .ok (.invokevirtual 31, 3) := by decide +kernel
theorem d_D_begin_5 : decode c_D_begin 5 = .ok (.astore_n 2, 1) := by decide +kernel
theorem d_D_begin_6 : decode c_D_begin 6 = .ok (.aload_n 2, 1) := by decide +kernel
theorem d_D_begin_7 : decode c_D_begin 7 = .ok (.invokevirtual 35, 3) := by decide +kernel
theorem d_D_begin_10 : decode c_D_begin 10 = .ok (.ifCond .eq 13, 3) := by decide +kernel
theorem d_D_begin_13 : decode c_D_begin 13 = .ok (.new 39, 3) := by decide +kernel
theorem d_D_begin_16 : decode c_D_begin 16 = .ok (.dup, 1) := by decide +kernel
theorem d_D_begin_17 : decode c_D_begin 17 = .ok (.ldc 41, 2) := by decide +kernel
theorem d_D_begin_19 : decode c_D_begin 19 = .ok (.invokespecial 43, 3) := by decide +kernel
theorem d_D_begin_22 : decode c_D_begin 22 = .ok (.athrow, 1) := by decide +kernel
theorem d_D_begin_23 : decode c_D_begin 23 = .ok (.aload_n 2, 1) := by decide +kernel
theorem d_D_begin_24 : decode c_D_begin 24 = .ok (.invokevirtual 46, 3) := by decide +kernel
theorem d_D_begin_27 : decode c_D_begin 27 = .ok (.return_, 1) := by decide +kernel
theorem d_D_transactionOf_0 : decode c_D_transactionOf 0 = .ok (.iload_n 1, 1) := by decide +kernel
theorem d_D_transactionOf_1 : decode c_D_transactionOf 1 = .ok (.ifCond .lt 9, 3) := by decide +kernel
theorem d_D_transactionOf_4 : decode c_D_transactionOf 4 = .ok (.iload_n 1, 1) := by decide +kernel
theorem d_D_transactionOf_5 : decode c_D_transactionOf 5 = .ok (.bipush 8, 2) := by decide +kernel
theorem d_D_transactionOf_7 : decode c_D_transactionOf 7 = .ok (.if_icmp .lt 13, 3) := by decide +kernel
theorem d_D_transactionOf_10 : decode c_D_transactionOf 10 = .ok (.new 111, 3) := by decide +kernel
theorem d_D_transactionOf_13 : decode c_D_transactionOf 13 = .ok (.dup, 1) := by decide +kernel
theorem d_D_transactionOf_14 : decode c_D_transactionOf 14 = .ok (.ldc 125, 2) := by decide +kernel
theorem d_D_transactionOf_16 : decode c_D_transactionOf 16 = .ok (.invokespecial 115, 3) := by decide +kernel
theorem d_D_transactionOf_19 : decode c_D_transactionOf 19 = .ok (.athrow, 1) := by decide +kernel
theorem d_D_transactionOf_20 : decode c_D_transactionOf 20 = .ok (.aload_n 0, 1) := by decide +kernel
theorem d_D_transactionOf_21 : decode c_D_transactionOf 21 = .ok (.getfield 19, 3) := by decide +kernel
theorem d_D_transactionOf_24 : decode c_D_transactionOf 24 = .ok (.iload_n 1, 1) := by decide +kernel
theorem d_D_transactionOf_25 : decode c_D_transactionOf 25 = .ok (.aaload, 1) := by decide +kernel
theorem d_D_transactionOf_26 : decode c_D_transactionOf 26 = .ok (.areturn, 1) := by decide +kernel
theorem d_D_read_0 : decode c_D_read 0 = .ok (.aload_n 0, 1) := by decide +kernel
theorem d_D_read_1 : decode c_D_read 1 = .ok (.iload_n 1, 1) := by decide +kernel
theorem d_D_read_2 : decode c_D_read 2 = .ok (.iload_n 2, 1) := by decide +kernel
theorem d_D_read_3 : decode c_D_read 3 = .ok (.invokevirtual 49, 3) := by decide +kernel
theorem d_D_read_6 : decode c_D_read 6 = .ok (.astore_n 3, 1) := by decide +kernel
theorem d_D_read_7 : decode c_D_read 7 = .ok (.aload_n 3, 1) := by decide +kernel
theorem d_D_read_8 : decode c_D_read 8 = .ok (.iload_n 2, 1) := by decide +kernel
theorem d_D_read_9 : decode c_D_read 9 = .ok (.invokevirtual 53, 3) := by decide +kernel
theorem d_D_read_12 : decode c_D_read 12 = .ok (.istore 4, 2) := by decide +kernel
theorem d_D_read_14 : decode c_D_read 14 = .ok (.iload 4, 2) := by decide +kernel
theorem d_D_read_16 : decode c_D_read 16 = .ok (.ifCond .lt 11, 3) := by decide +kernel
theorem d_D_read_19 : decode c_D_read 19 = .ok (.aload_n 3, 1) := by decide +kernel
theorem d_D_read_20 : decode c_D_read 20 = .ok (.iload 4, 2) := by decide +kernel
theorem d_D_read_22 : decode c_D_read 22 = .ok (.iload_n 2, 1) := by decide +kernel
theorem d_D_read_23 : decode c_D_read 23 = .ok (.invokevirtual 57, 3) := by decide +kernel
theorem d_D_read_26 : decode c_D_read 26 = .ok (.lreturn, 1) := by decide +kernel
theorem d_D_read_27 : decode c_D_read 27 = .ok (.aload_n 3, 1) := by decide +kernel
theorem d_D_read_28 : decode c_D_read 28 = .ok (.invokevirtual 61, 3) := by decide +kernel
theorem d_D_read_31 : decode c_D_read 31 = .ok (.ifCond .eq 18, 3) := by decide +kernel
theorem d_D_read_34 : decode c_D_read 34 = .ok (.aload_n 0, 1) := by decide +kernel
theorem d_D_read_35 : decode c_D_read 35 = .ok (.aload_n 3, 1) := by decide +kernel
theorem d_D_read_36 : decode c_D_read 36 = .ok (.invokevirtual 64, 3) := by decide +kernel
theorem d_D_read_39 : decode c_D_read 39 = .ok (.new 68, 3) := by decide +kernel
theorem d_D_read_42 : decode c_D_read 42 = .ok (.dup, 1) := by decide +kernel
theorem d_D_read_43 : decode c_D_read 43 = .ok (.ldc 70, 2) := by decide +kernel
theorem d_D_read_45 : decode c_D_read 45 = .ok (.invokespecial 72, 3) := by decide +kernel
theorem d_D_read_48 : decode c_D_read 48 = .ok (.athrow, 1) := by decide +kernel
theorem d_D_read_49 : decode c_D_read 49 = .ok (.aload_n 3, 1) := by decide +kernel
theorem d_D_read_50 : decode c_D_read 50 = .ok (.iload_n 2, 1) := by decide +kernel
theorem d_D_read_51 : decode c_D_read 51 = .ok (.invokevirtual 73, 3) := by decide +kernel
theorem d_D_read_54 : decode c_D_read 54 = .ok (.aload_n 0, 1) := by decide +kernel
theorem d_D_read_55 : decode c_D_read 55 = .ok (.getfield 9, 3) := by decide +kernel
theorem d_D_read_58 : decode c_D_read 58 = .ok (.iload_n 2, 1) := by decide +kernel
theorem d_D_read_59 : decode c_D_read 59 = .ok (.laload, 1) := by decide +kernel
theorem d_D_read_60 : decode c_D_read 60 = .ok (.lreturn, 1) := by decide +kernel
theorem d_D_openTransactionAt_0 : decode c_D_openTransactionAt 0 = .ok (.aload_n 0, 1) := by decide +kernel
theorem d_D_openTransactionAt_1 : decode c_D_openTransactionAt 1 = .ok (.iload_n 1, 1) := by decide +kernel
theorem d_D_openTransactionAt_2 : decode c_D_openTransactionAt 2 = .ok (.invokevirtual 31, 3) := by decide +kernel
theorem d_D_openTransactionAt_5 : decode c_D_openTransactionAt 5 = .ok (.pop, 1) := by decide +kernel
theorem d_D_openTransactionAt_6 : decode c_D_openTransactionAt 6 = .ok (.aload_n 0, 1) := by decide +kernel
theorem d_D_openTransactionAt_7 : decode c_D_openTransactionAt 7 = .ok (.iload_n 2, 1) := by decide +kernel
theorem d_D_openTransactionAt_8 : decode c_D_openTransactionAt 8 = .ok (.invokevirtual 108, 3) := by decide +kernel
theorem d_D_openTransactionAt_11 : decode c_D_openTransactionAt 11 = .ok (.aload_n 0, 1) := by decide +kernel
theorem d_D_openTransactionAt_12 : decode c_D_openTransactionAt 12 = .ok (.iload_n 1, 1) := by decide +kernel
theorem d_D_openTransactionAt_13 : decode c_D_openTransactionAt 13 = .ok (.invokevirtual 81, 3) := by decide +kernel
theorem d_D_openTransactionAt_16 : decode c_D_openTransactionAt 16 = .ok (.areturn, 1) := by decide +kernel
theorem d_D_requireCell_0 : decode c_D_requireCell 0 = .ok (.iload_n 1, 1) := by decide +kernel
theorem d_D_requireCell_1 : decode c_D_requireCell 1 = .ok (.ifCond .lt 9, 3) := by decide +kernel
theorem d_D_requireCell_4 : decode c_D_requireCell 4 = .ok (.iload_n 1, 1) := by decide +kernel
theorem d_D_requireCell_5 : decode c_D_requireCell 5 = .ok (.bipush 32, 2) := by decide +kernel
theorem d_D_requireCell_7 : decode c_D_requireCell 7 = .ok (.if_icmp .lt 13, 3) := by decide +kernel
theorem d_D_requireCell_10 : decode c_D_requireCell 10 = .ok (.new 127, 3) := by decide +kernel
theorem d_D_requireCell_13 : decode c_D_requireCell 13 = .ok (.dup, 1) := by decide +kernel
theorem d_D_requireCell_14 : decode c_D_requireCell 14 = .ok (.ldc 129, 2) := by decide +kernel
theorem d_D_requireCell_16 : decode c_D_requireCell 16 = .ok (.invokespecial 131, 3) := by decide +kernel
theorem d_D_requireCell_19 : decode c_D_requireCell 19 = .ok (.athrow, 1) := by decide +kernel
theorem d_D_requireCell_20 : decode c_D_requireCell 20 = .ok (.return_, 1) := by decide +kernel
theorem d_D_openTransactionOf_0 : decode c_D_openTransactionOf 0 = .ok (.aload_n 0, 1) := by decide +kernel
theorem d_D_openTransactionOf_1 : decode c_D_openTransactionOf 1 = .ok (.iload_n 1, 1) := by decide +kernel
theorem d_D_openTransactionOf_2 : decode c_D_openTransactionOf 2 = .ok (.invokevirtual 31, 3) := by decide +kernel
theorem d_D_openTransactionOf_5 : decode c_D_openTransactionOf 5 = .ok (.astore_n 2, 1) := by decide +kernel
theorem d_D_openTransactionOf_6 : decode c_D_openTransactionOf 6 = .ok (.aload_n 2, 1) := by decide +kernel
theorem d_D_openTransactionOf_7 : decode c_D_openTransactionOf 7 = .ok (.invokevirtual 35, 3) := by decide +kernel
theorem d_D_openTransactionOf_10 : decode c_D_openTransactionOf 10 = .ok (.ifCond .ne 13, 3) := by decide +kernel
theorem d_D_openTransactionOf_13 : decode c_D_openTransactionOf 13 = .ok (.new 39, 3) := by decide +kernel
theorem d_D_openTransactionOf_16 : decode c_D_openTransactionOf 16 = .ok (.dup, 1) := by decide +kernel
theorem d_D_openTransactionOf_17 : decode c_D_openTransactionOf 17 = .ok (.ldc 132, 2) := by decide +kernel
theorem d_D_openTransactionOf_19 : decode c_D_openTransactionOf 19 = .ok (.invokespecial 43, 3) := by decide +kernel
theorem d_D_openTransactionOf_22 : decode c_D_openTransactionOf 22 = .ok (.athrow, 1) := by decide +kernel
theorem d_D_openTransactionOf_23 : decode c_D_openTransactionOf 23 = .ok (.aload_n 2, 1) := by decide +kernel
theorem d_D_openTransactionOf_24 : decode c_D_openTransactionOf 24 = .ok (.areturn, 1) := by decide +kernel
theorem d_D_endStale_0 : decode c_D_endStale 0 = .ok (.aload_n 1, 1) := by decide +kernel
theorem d_D_endStale_1 : decode c_D_endStale 1 = .ok (.invokevirtual 102, 3) := by decide +kernel
theorem d_D_endStale_4 : decode c_D_endStale 4 = .ok (.aload_n 0, 1) := by decide +kernel
theorem d_D_endStale_5 : decode c_D_endStale 5 = .ok (.dup, 1) := by decide +kernel
theorem d_D_endStale_6 : decode c_D_endStale 6 = .ok (.getfield 27, 3) := by decide +kernel
theorem d_D_endStale_9 : decode c_D_endStale 9 = .ok (.iconst 1, 1) := by decide +kernel
theorem d_D_endStale_10 : decode c_D_endStale 10 = .ok (.iadd, 1) := by decide +kernel
theorem d_D_endStale_11 : decode c_D_endStale 11 = .ok (.putfield 27, 3) := by decide +kernel
theorem d_D_endStale_14 : decode c_D_endStale 14 = .ok (.return_, 1) := by decide +kernel
theorem d_D_write_0 : decode c_D_write 0 = .ok (.aload_n 0, 1) := by decide +kernel
theorem d_D_write_1 : decode c_D_write 1 = .ok (.iload_n 1, 1) := by decide +kernel
theorem d_D_write_2 : decode c_D_write 2 = .ok (.iload_n 2, 1) := by decide +kernel
theorem d_D_write_3 : decode c_D_write 3 = .ok (.invokevirtual 49, 3) := by decide +kernel
theorem d_D_write_6 : decode c_D_write 6 = .ok (.iload_n 2, 1) := by decide +kernel
theorem d_D_write_7 : decode c_D_write 7 = .ok (.lload_n 3, 1) := by decide +kernel
theorem d_D_write_8 : decode c_D_write 8 = .ok (.invokevirtual 77, 3) := by decide +kernel
theorem d_D_write_11 : decode c_D_write 11 = .ok (.return_, 1) := by decide +kernel
theorem d_D_save_0 : decode c_D_save 0 = .ok (.aload_n 0, 1) := by decide +kernel
theorem d_D_save_1 : decode c_D_save 1 = .ok (.iload_n 1, 1) := by decide +kernel
theorem d_D_save_2 : decode c_D_save 2 = .ok (.invokevirtual 81, 3) := by decide +kernel
theorem d_D_save_5 : decode c_D_save 5 = .ok (.astore_n 2, 1) := by decide +kernel
theorem d_D_save_6 : decode c_D_save 6 = .ok (.aload_n 2, 1) := by decide +kernel
theorem d_D_save_7 : decode c_D_save 7 = .ok (.invokevirtual 84, 3) := by decide +kernel
theorem d_D_save_10 : decode c_D_save 10 = .ok (.iconst 5, 1) := by decide +kernel
theorem d_D_save_11 : decode c_D_save 11 = .ok (.if_icmp .lt 13, 3) := by decide +kernel
theorem d_D_save_14 : decode c_D_save 14 = .ok (.new 68, 3) := by decide +kernel
theorem d_D_save_17 : decode c_D_save 17 = .ok (.dup, 1) := by decide +kernel
theorem d_D_save_18 : decode c_D_save 18 = .ok (.ldc 88, 2) := by decide +kernel
theorem d_D_save_20 : decode c_D_save 20 = .ok (.invokespecial 72, 3) := by decide +kernel
theorem d_D_save_23 : decode c_D_save 23 = .ok (.athrow, 1) := by decide +kernel
theorem d_D_save_24 : decode c_D_save 24 = .ok (.aload_n 2, 1) := by decide +kernel
theorem d_D_save_25 : decode c_D_save 25 = .ok (.invokevirtual 90, 3) := by decide +kernel
theorem d_D_save_28 : decode c_D_save 28 = .ok (.aload_n 2, 1) := by decide +kernel
theorem d_D_save_29 : decode c_D_save 29 = .ok (.invokevirtual 84, 3) := by decide +kernel
theorem d_D_save_32 : decode c_D_save 32 = .ok (.ireturn, 1) := by decide +kernel
theorem d_D_back_0 : decode c_D_back 0 = .ok (.aload_n 0, 1) := by decide +kernel
theorem d_D_back_1 : decode c_D_back 1 = .ok (.iload_n 1, 1) := by decide +kernel
theorem d_D_back_2 : decode c_D_back 2 = .ok (.invokevirtual 93, 3) := by decide +kernel
theorem d_D_back_5 : decode c_D_back 5 = .ok (.invokevirtual 96, 3) := by decide +kernel
theorem d_D_back_8 : decode c_D_back 8 = .ok (.return_, 1) := by decide +kernel
theorem d_D_transactionWithSeveralParts_0 : decode c_D_transactionWithSeveralParts 0 = .ok (.aload_n 0, 1) := by decide +kernel
theorem d_D_transactionWithSeveralParts_1 : decode c_D_transactionWithSeveralParts 1 = .ok (.iload_n 1, 1) := by decide +kernel
theorem d_D_transactionWithSeveralParts_2 : decode c_D_transactionWithSeveralParts 2 = .ok (.invokevirtual 81, 3) := by decide +kernel
theorem d_D_transactionWithSeveralParts_5 : decode c_D_transactionWithSeveralParts 5 = .ok (.astore_n 2, 1) := by decide +kernel
theorem d_D_transactionWithSeveralParts_6 : decode c_D_transactionWithSeveralParts 6 = .ok (.aload_n 2, 1) := by decide +kernel
theorem d_D_transactionWithSeveralParts_7 : decode c_D_transactionWithSeveralParts 7 = .ok (.invokevirtual 84, 3) := by decide +kernel
theorem d_D_transactionWithSeveralParts_10 : decode c_D_transactionWithSeveralParts 10 = .ok (.iconst 1, 1) := by decide +kernel
theorem d_D_transactionWithSeveralParts_11 : decode c_D_transactionWithSeveralParts 11 = .ok (.if_icmp .gt 13, 3) := by decide +kernel
theorem d_D_transactionWithSeveralParts_14 : decode c_D_transactionWithSeveralParts 14 = .ok (.new 68, 3) := by decide +kernel
theorem d_D_transactionWithSeveralParts_17 : decode c_D_transactionWithSeveralParts 17 = .ok (.dup, 1) := by decide +kernel
theorem d_D_transactionWithSeveralParts_18 : decode c_D_transactionWithSeveralParts 18 = .ok (.ldc 134, 2) := by decide +kernel
theorem d_D_transactionWithSeveralParts_20 : decode c_D_transactionWithSeveralParts 20 = .ok (.invokespecial 72, 3) := by decide +kernel
theorem d_D_transactionWithSeveralParts_23 : decode c_D_transactionWithSeveralParts 23 = .ok (.athrow, 1) := by decide +kernel
theorem d_D_transactionWithSeveralParts_24 : decode c_D_transactionWithSeveralParts 24 = .ok (.aload_n 2, 1) := by decide +kernel
theorem d_D_transactionWithSeveralParts_25 : decode c_D_transactionWithSeveralParts 25 = .ok (.areturn, 1) := by decide +kernel
theorem d_D_keep_0 : decode c_D_keep 0 = .ok (.aload_n 0, 1) := by decide +kernel
theorem d_D_keep_1 : decode c_D_keep 1 = .ok (.iload_n 1, 1) := by decide +kernel
theorem d_D_keep_2 : decode c_D_keep 2 = .ok (.invokevirtual 93, 3) := by decide +kernel
theorem d_D_keep_5 : decode c_D_keep 5 = .ok (.invokevirtual 99, 3) := by decide +kernel
theorem d_D_keep_8 : decode c_D_keep 8 = .ok (.return_, 1) := by decide +kernel
theorem d_D_done_0 : decode c_D_done 0 = .ok (.aload_n 0, 1) := by decide +kernel
theorem d_D_done_1 : decode c_D_done 1 = .ok (.iload_n 1, 1) := by decide +kernel
theorem d_D_done_2 : decode c_D_done 2 = .ok (.invokevirtual 81, 3) := by decide +kernel
theorem d_D_done_5 : decode c_D_done 5 = .ok (.astore_n 2, 1) := by decide +kernel
theorem d_D_done_6 : decode c_D_done 6 = .ok (.aload_n 2, 1) := by decide +kernel
theorem d_D_done_7 : decode c_D_done 7 = .ok (.invokevirtual 61, 3) := by decide +kernel
theorem d_D_done_10 : decode c_D_done 10 = .ok (.ifCond .eq 10, 3) := by decide +kernel
theorem d_D_done_13 : decode c_D_done 13 = .ok (.aload_n 0, 1) := by decide +kernel
theorem d_D_done_14 : decode c_D_done 14 = .ok (.aload_n 2, 1) := by decide +kernel
theorem d_D_done_15 : decode c_D_done 15 = .ok (.invokevirtual 64, 3) := by decide +kernel
theorem d_D_done_18 : decode c_D_done 18 = .ok (.iconst 0, 1) := by decide +kernel
theorem d_D_done_19 : decode c_D_done 19 = .ok (.ireturn, 1) := by decide +kernel
theorem d_D_done_20 : decode c_D_done 20 = .ok (.aload_n 2, 1) := by decide +kernel
theorem d_D_done_21 : decode c_D_done 21 = .ok (.invokevirtual 102, 3) := by decide +kernel
theorem d_D_done_24 : decode c_D_done 24 = .ok (.iconst 0, 1) := by decide +kernel
theorem d_D_done_25 : decode c_D_done 25 = .ok (.istore_n 3, 1) := by decide +kernel
theorem d_D_done_26 : decode c_D_done 26 = .ok (.iload_n 3, 1) := by decide +kernel
theorem d_D_done_27 : decode c_D_done 27 = .ok (.bipush 32, 2) := by decide +kernel
theorem d_D_done_29 : decode c_D_done 29 = .ok (.if_icmp .ge 33, 3) := by decide +kernel
theorem d_D_done_32 : decode c_D_done 32 = .ok (.aload_n 2, 1) := by decide +kernel
theorem d_D_done_33 : decode c_D_done 33 = .ok (.iload_n 3, 1) := by decide +kernel
theorem d_D_done_34 : decode c_D_done 34 = .ok (.invokevirtual 53, 3) := by decide +kernel
theorem d_D_done_37 : decode c_D_done 37 = .ok (.istore 4, 2) := by decide +kernel
theorem d_D_done_39 : decode c_D_done 39 = .ok (.iload 4, 2) := by decide +kernel
theorem d_D_done_41 : decode c_D_done 41 = .ok (.ifCond .lt 15, 3) := by decide +kernel
theorem d_D_done_44 : decode c_D_done 44 = .ok (.aload_n 0, 1) := by decide +kernel
theorem d_D_done_45 : decode c_D_done 45 = .ok (.iload_n 3, 1) := by decide +kernel
theorem d_D_done_46 : decode c_D_done 46 = .ok (.aload_n 2, 1) := by decide +kernel
theorem d_D_done_47 : decode c_D_done 47 = .ok (.iload 4, 2) := by decide +kernel
theorem d_D_done_49 : decode c_D_done 49 = .ok (.iload_n 3, 1) := by decide +kernel
theorem d_D_done_50 : decode c_D_done 50 = .ok (.invokevirtual 57, 3) := by decide +kernel
theorem d_D_done_53 : decode c_D_done 53 = .ok (.invokevirtual 105, 3) := by decide +kernel
theorem d_D_done_56 : decode c_D_done 56 = .ok (.iinc 3 1, 3) := by decide +kernel
theorem d_D_done_59 : decode c_D_done 59 = .ok (.goto (-33), 3) := by decide +kernel
theorem d_D_done_62 : decode c_D_done 62 = .ok (.aload_n 0, 1) := by decide +kernel
theorem d_D_done_63 : decode c_D_done 63 = .ok (.dup, 1) := by decide +kernel
theorem d_D_done_64 : decode c_D_done 64 = .ok (.getfield 23, 3) := by decide +kernel
theorem d_D_done_67 : decode c_D_done 67 = .ok (.iconst 1, 1) := by decide +kernel
theorem d_D_done_68 : decode c_D_done 68 = .ok (.iadd, 1) := by decide +kernel
theorem d_D_done_69 : decode c_D_done 69 = .ok (.putfield 23, 3) := by decide +kernel
theorem d_D_done_72 : decode c_D_done 72 = .ok (.iconst 1, 1) := by decide +kernel
theorem d_D_done_73 : decode c_D_done 73 = .ok (.ireturn, 1) := by decide +kernel
theorem d_D_change_0 : decode c_D_change 0 = .ok (.aload_n 0, 1) := by decide +kernel
theorem d_D_change_1 : decode c_D_change 1 = .ok (.getfield 9, 3) := by decide +kernel
theorem d_D_change_4 : decode c_D_change 4 = .ok (.iload_n 1, 1) := by decide +kernel
theorem d_D_change_5 : decode c_D_change 5 = .ok (.lload_n 2, 1) := by decide +kernel
theorem d_D_change_6 : decode c_D_change 6 = .ok (.lastore, 1) := by decide +kernel
theorem d_D_change_7 : decode c_D_change 7 = .ok (.aload_n 0, 1) := by decide +kernel
theorem d_D_change_8 : decode c_D_change 8 = .ok (.getfield 13, 3) := by decide +kernel
theorem d_D_change_11 : decode c_D_change 11 = .ok (.iload_n 1, 1) := by decide +kernel
theorem d_D_change_12 : decode c_D_change 12 = .ok (.dup2, 1) := by decide +kernel
theorem d_D_change_13 : decode c_D_change 13 = .ok (.iaload, 1) := by decide +kernel
theorem d_D_change_14 : decode c_D_change 14 = .ok (.iconst 1, 1) := by decide +kernel
theorem d_D_change_15 : decode c_D_change 15 = .ok (.iadd, 1) := by decide +kernel
theorem d_D_change_16 : decode c_D_change 16 = .ok (.iastore, 1) := by decide +kernel
theorem d_D_change_17 : decode c_D_change 17 = .ok (.iconst 0, 1) := by decide +kernel
theorem d_D_change_18 : decode c_D_change 18 = .ok (.istore 4, 2) := by decide +kernel
theorem d_D_change_20 : decode c_D_change 20 = .ok (.iload 4, 2) := by decide +kernel
theorem d_D_change_22 : decode c_D_change 22 = .ok (.bipush 8, 2) := by decide +kernel
theorem d_D_change_24 : decode c_D_change 24 = .ok (.if_icmp .ge 20, 3) := by decide +kernel
theorem d_D_change_27 : decode c_D_change 27 = .ok (.aload_n 0, 1) := by decide +kernel
theorem d_D_change_28 : decode c_D_change 28 = .ok (.getfield 19, 3) := by decide +kernel
theorem d_D_change_31 : decode c_D_change 31 = .ok (.iload 4, 2) := by decide +kernel
theorem d_D_change_33 : decode c_D_change 33 = .ok (.aaload, 1) := by decide +kernel
theorem d_D_change_34 : decode c_D_change 34 = .ok (.iload_n 1, 1) := by decide +kernel
theorem d_D_change_35 : decode c_D_change 35 = .ok (.invokevirtual 136, 3) := by decide +kernel
theorem d_D_change_38 : decode c_D_change 38 = .ok (.iinc 4 1, 3) := by decide +kernel
theorem d_D_change_41 : decode c_D_change 41 = .ok (.goto (-21), 3) := by decide +kernel
theorem d_D_change_44 : decode c_D_change 44 = .ok (.return_, 1) := by decide +kernel
theorem d_D_leave_0 : decode c_D_leave 0 = .ok (.aload_n 0, 1) := by decide +kernel
theorem d_D_leave_1 : decode c_D_leave 1 = .ok (.iload_n 1, 1) := by decide +kernel
theorem d_D_leave_2 : decode c_D_leave 2 = .ok (.invokevirtual 81, 3) := by decide +kernel
theorem d_D_leave_5 : decode c_D_leave 5 = .ok (.invokevirtual 102, 3) := by decide +kernel
theorem d_D_leave_8 : decode c_D_leave 8 = .ok (.return_, 1) := by decide +kernel
theorem d_D_set_0 : decode c_D_set 0 = .ok (.aload_n 0, 1) := by decide +kernel
theorem d_D_set_1 : decode c_D_set 1 = .ok (.iload_n 1, 1) := by decide +kernel
theorem d_D_set_2 : decode c_D_set 2 = .ok (.invokevirtual 108, 3) := by decide +kernel
theorem d_D_set_5 : decode c_D_set 5 = .ok (.aload_n 0, 1) := by decide +kernel
theorem d_D_set_6 : decode c_D_set 6 = .ok (.iload_n 1, 1) := by decide +kernel
theorem d_D_set_7 : decode c_D_set 7 = .ok (.lload_n 2, 1) := by decide +kernel
theorem d_D_set_8 : decode c_D_set 8 = .ok (.invokevirtual 105, 3) := by decide +kernel
theorem d_D_set_11 : decode c_D_set 11 = .ok (.return_, 1) := by decide +kernel
theorem d_D_cell_0 : decode c_D_cell 0 = .ok (.aload_n 0, 1) := by decide +kernel
theorem d_D_cell_1 : decode c_D_cell 1 = .ok (.iload_n 1, 1) := by decide +kernel
theorem d_D_cell_2 : decode c_D_cell 2 = .ok (.invokevirtual 108, 3) := by decide +kernel
theorem d_D_cell_5 : decode c_D_cell 5 = .ok (.aload_n 0, 1) := by decide +kernel
theorem d_D_cell_6 : decode c_D_cell 6 = .ok (.getfield 9, 3) := by decide +kernel
theorem d_D_cell_9 : decode c_D_cell 9 = .ok (.iload_n 1, 1) := by decide +kernel
theorem d_D_cell_10 : decode c_D_cell 10 = .ok (.laload, 1) := by decide +kernel
theorem d_D_cell_11 : decode c_D_cell 11 = .ok (.lreturn, 1) := by decide +kernel
theorem d_D_changed_0 : decode c_D_changed 0 = .ok (.aload_n 0, 1) := by decide +kernel
theorem d_D_changed_1 : decode c_D_changed 1 = .ok (.iload_n 1, 1) := by decide +kernel
theorem d_D_changed_2 : decode c_D_changed 2 = .ok (.invokevirtual 108, 3) := by decide +kernel
theorem d_D_changed_5 : decode c_D_changed 5 = .ok (.aload_n 0, 1) := by decide +kernel
theorem d_D_changed_6 : decode c_D_changed 6 = .ok (.getfield 13, 3) := by decide +kernel
theorem d_D_changed_9 : decode c_D_changed 9 = .ok (.iload_n 1, 1) := by decide +kernel
theorem d_D_changed_10 : decode c_D_changed 10 = .ok (.iaload, 1) := by decide +kernel
theorem d_D_changed_11 : decode c_D_changed 11 = .ok (.ireturn, 1) := by decide +kernel
theorem d_D_count_0 : decode c_D_count 0 = .ok (.iload_n 2, 1) := by decide +kernel
theorem d_D_count_1 : decode c_D_count 1 = .ok (.ifCond .lt 8, 3) := by decide +kernel
theorem d_D_count_4 : decode c_D_count 4 = .ok (.iload_n 2, 1) := by decide +kernel
theorem d_D_count_5 : decode c_D_count 5 = .ok (.iconst 3, 1) := by decide +kernel
theorem d_D_count_6 : decode c_D_count 6 = .ok (.if_icmp .le 13, 3) := by decide +kernel
theorem d_D_count_9 : decode c_D_count 9 = .ok (.new 111, 3) := by decide +kernel
theorem d_D_count_12 : decode c_D_count 12 = .ok (.dup, 1) := by decide +kernel
theorem d_D_count_13 : decode c_D_count 13 = .ok (.ldc 113, 2) := by decide +kernel
theorem d_D_count_15 : decode c_D_count 15 = .ok (.invokespecial 115, 3) := by decide +kernel
theorem d_D_count_18 : decode c_D_count 18 = .ok (.athrow, 1) := by decide +kernel
theorem d_D_count_19 : decode c_D_count 19 = .ok (.aload_n 0, 1) := by decide +kernel
theorem d_D_count_20 : decode c_D_count 20 = .ok (.iload_n 1, 1) := by decide +kernel
theorem d_D_count_21 : decode c_D_count 21 = .ok (.invokevirtual 81, 3) := by decide +kernel
theorem d_D_count_24 : decode c_D_count 24 = .ok (.astore_n 3, 1) := by decide +kernel
theorem d_D_count_25 : decode c_D_count 25 = .ok (.iload_n 2, 1) := by decide +kernel
theorem d_D_count_26 : decode c_D_count 26 = .ok (.tableswitch 41 0 2 #[26, 31, 36], 26) := by decide +kernel
theorem d_D_count_52 : decode c_D_count 52 = .ok (.aload_n 3, 1) := by decide +kernel
theorem d_D_count_53 : decode c_D_count 53 = .ok (.invokevirtual 116, 3) := by decide +kernel
theorem d_D_count_56 : decode c_D_count 56 = .ok (.ireturn, 1) := by decide +kernel
theorem d_D_count_57 : decode c_D_count 57 = .ok (.aload_n 3, 1) := by decide +kernel
theorem d_D_count_58 : decode c_D_count 58 = .ok (.invokevirtual 119, 3) := by decide +kernel
theorem d_D_count_61 : decode c_D_count 61 = .ok (.ireturn, 1) := by decide +kernel
theorem d_D_count_62 : decode c_D_count 62 = .ok (.aload_n 3, 1) := by decide +kernel
theorem d_D_count_63 : decode c_D_count 63 = .ok (.invokevirtual 84, 3) := by decide +kernel
theorem d_D_count_66 : decode c_D_count 66 = .ok (.ireturn, 1) := by decide +kernel
theorem d_D_count_67 : decode c_D_count 67 = .ok (.aload_n 3, 1) := by decide +kernel
theorem d_D_count_68 : decode c_D_count 68 = .ok (.invokevirtual 61, 3) := by decide +kernel
theorem d_D_count_71 : decode c_D_count 71 = .ok (.ifCond .eq 7, 3) := by decide +kernel
theorem d_D_count_74 : decode c_D_count 74 = .ok (.iconst 1, 1) := by decide +kernel
theorem d_D_count_75 : decode c_D_count 75 = .ok (.goto 4, 3) := by decide +kernel
theorem d_D_count_78 : decode c_D_count 78 = .ok (.iconst 0, 1) := by decide +kernel
theorem d_D_count_79 : decode c_D_count 79 = .ok (.ireturn, 1) := by decide +kernel
theorem d_D_all_0 : decode c_D_all 0 = .ok (.iload_n 1, 1) := by decide +kernel
theorem d_D_all_1 : decode c_D_all 1 = .ok (.tableswitch 42 0 2 #[27, 32, 37], 27) := by decide +kernel
theorem d_D_all_28 : decode c_D_all 28 = .ok (.aload_n 0, 1) := by decide +kernel
theorem d_D_all_29 : decode c_D_all 29 = .ok (.invokevirtual 122, 3) := by decide +kernel
theorem d_D_all_32 : decode c_D_all 32 = .ok (.ireturn, 1) := by decide +kernel
theorem d_D_all_33 : decode c_D_all 33 = .ok (.aload_n 0, 1) := by decide +kernel
theorem d_D_all_34 : decode c_D_all 34 = .ok (.getfield 23, 3) := by decide +kernel
theorem d_D_all_37 : decode c_D_all 37 = .ok (.ireturn, 1) := by decide +kernel
theorem d_D_all_38 : decode c_D_all 38 = .ok (.aload_n 0, 1) := by decide +kernel
theorem d_D_all_39 : decode c_D_all 39 = .ok (.getfield 27, 3) := by decide +kernel
theorem d_D_all_42 : decode c_D_all 42 = .ok (.ireturn, 1) := by decide +kernel
theorem d_D_all_43 : decode c_D_all 43 = .ok (.new 111, 3) := by decide +kernel
theorem d_D_all_46 : decode c_D_all 46 = .ok (.dup, 1) := by decide +kernel
theorem d_D_all_47 : decode c_D_all 47 = .ok (.ldc 113, 2) := by decide +kernel
theorem d_D_all_49 : decode c_D_all 49 = .ok (.invokespecial 115, 3) := by decide +kernel
theorem d_D_all_52 : decode c_D_all 52 = .ok (.athrow, 1) := by decide +kernel
theorem d_D_openTotal_0 : decode c_D_openTotal 0 = .ok (.iconst 0, 1) := by decide +kernel
theorem d_D_openTotal_1 : decode c_D_openTotal 1 = .ok (.istore_n 1, 1) := by decide +kernel
theorem d_D_openTotal_2 : decode c_D_openTotal 2 = .ok (.iconst 0, 1) := by decide +kernel
theorem d_D_openTotal_3 : decode c_D_openTotal 3 = .ok (.istore_n 2, 1) := by decide +kernel
theorem d_D_openTotal_4 : decode c_D_openTotal 4 = .ok (.iload_n 2, 1) := by decide +kernel
theorem d_D_openTotal_5 : decode c_D_openTotal 5 = .ok (.bipush 8, 2) := by decide +kernel
theorem d_D_openTotal_7 : decode c_D_openTotal 7 = .ok (.if_icmp .ge 24, 3) := by decide +kernel
theorem d_D_openTotal_10 : decode c_D_openTotal 10 = .ok (.aload_n 0, 1) := by decide +kernel
theorem d_D_openTotal_11 : decode c_D_openTotal 11 = .ok (.getfield 19, 3) := by decide +kernel
theorem d_D_openTotal_14 : decode c_D_openTotal 14 = .ok (.iload_n 2, 1) := by decide +kernel
theorem d_D_openTotal_15 : decode c_D_openTotal 15 = .ok (.aaload, 1) := by decide +kernel
theorem d_D_openTotal_16 : decode c_D_openTotal 16 = .ok (.invokevirtual 35, 3) := by decide +kernel
theorem d_D_openTotal_19 : decode c_D_openTotal 19 = .ok (.ifCond .eq 6, 3) := by decide +kernel
theorem d_D_openTotal_22 : decode c_D_openTotal 22 = .ok (.iinc 1 1, 3) := by decide +kernel
theorem d_D_openTotal_25 : decode c_D_openTotal 25 = .ok (.iinc 2 1, 3) := by decide +kernel
theorem d_D_openTotal_28 : decode c_D_openTotal 28 = .ok (.goto (-24), 3) := by decide +kernel
theorem d_D_openTotal_31 : decode c_D_openTotal 31 = .ok (.iload_n 1, 1) := by decide +kernel
theorem d_D_openTotal_32 : decode c_D_openTotal 32 = .ok (.ireturn, 1) := by decide +kernel
