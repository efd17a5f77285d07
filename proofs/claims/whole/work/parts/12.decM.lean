/-! What each instruction is: class CommitDeskModel. -/
theorem d_M_init_0 : decode c_M_init 0 = .ok (.aload_n 0, 1) := by decide +kernel
theorem d_M_init_1 : decode c_M_init 1 = .ok (.invokespecial 1, 3) := by decide +kernel
theorem d_M_init_4 : decode c_M_init 4 = .ok (.aload_n 0, 1) := by decide +kernel
theorem d_M_init_5 : decode c_M_init 5 = .ok (.bipush 32, 2) := by decide +kernel
theorem d_M_init_7 : decode c_M_init 7 = .ok (.newarray .long, 2) := by decide +kernel
theorem d_M_init_9 : decode c_M_init 9 = .ok (.putfield 9, 3) := by decide +kernel
theorem d_M_init_12 : decode c_M_init 12 = .ok (.aload_n 0, 1) := by decide +kernel
theorem d_M_init_13 : decode c_M_init 13 = .ok (.sipush 1280, 3) := by decide +kernel
theorem d_M_init_16 : decode c_M_init 16 = .ok (.newarray .long, 2) := by decide +kernel
theorem d_M_init_18 : decode c_M_init 18 = .ok (.putfield 13, 3) := by decide +kernel
theorem d_M_init_21 : decode c_M_init 21 = .ok (.aload_n 0, 1) := by decide +kernel
theorem d_M_init_22 : decode c_M_init 22 = .ok (.bipush 32, 2) := by decide +kernel
theorem d_M_init_24 : decode c_M_init 24 = .ok (.newarray .int, 2) := by decide +kernel
theorem d_M_init_26 : decode c_M_init 26 = .ok (.putfield 16, 3) := by decide +kernel
theorem d_M_init_29 : decode c_M_init 29 = .ok (.aload_n 0, 1) := by decide +kernel
theorem d_M_init_30 : decode c_M_init 30 = .ok (.bipush 8, 2) := by decide +kernel
theorem d_M_init_32 : decode c_M_init 32 = .ok (.newarray .int, 2) := by decide +kernel
theorem d_M_init_34 : decode c_M_init 34 = .ok (.putfield 20, 3) := by decide +kernel
theorem d_M_init_37 : decode c_M_init 37 = .ok (.aload_n 0, 1) := by decide +kernel
theorem d_M_init_38 : decode c_M_init 38 = .ok (.sipush 256, 3) := by decide +kernel
theorem d_M_init_41 : decode c_M_init 41 = .ok (.newarray .int, 2) := by decide +kernel
theorem d_M_init_43 : decode c_M_init 43 = .ok (.putfield 23, 3) := by decide +kernel
theorem d_M_init_46 : decode c_M_init 46 = .ok (.aload_n 0, 1) := by decide +kernel
theorem d_M_init_47 : decode c_M_init 47 = .ok (.sipush 1280, 3) := by decide +kernel
theorem d_M_init_50 : decode c_M_init 50 = .ok (.newarray .boolean, 2) := by decide +kernel
theorem d_M_init_52 : decode c_M_init 52 = .ok (.putfield 26, 3) := by decide +kernel
theorem d_M_init_55 : decode c_M_init 55 = .ok (.aload_n 0, 1) := by decide +kernel
theorem d_M_init_56 : decode c_M_init 56 = .ok (.sipush 256, 3) := by decide +kernel
theorem d_M_init_59 : decode c_M_init 59 = .ok (.newarray .boolean, 2) := by decide +kernel
theorem d_M_init_61 : decode c_M_init 61 = .ok (.putfield 30, 3) := by decide +kernel
theorem d_M_init_64 : decode c_M_init 64 = .ok (.aload_n 0, 1) := by decide +kernel
theorem d_M_init_65 : decode c_M_init 65 = .ok (.bipush 8, 2) := by decide +kernel
theorem d_M_init_67 : decode c_M_init 67 = .ok (.newarray .boolean, 2) := by decide +kernel
theorem d_M_init_69 : decode c_M_init 69 = .ok (.putfield 33, 3) := by decide +kernel
theorem d_M_init_72 : decode c_M_init 72 = .ok (.return_, 1) := by decide +kernel
theorem d_M_thrown_0 : decode c_M_thrown 0 = .ok (.aload_n 0, 1) := by decide +kernel
theorem d_M_thrown_1 : decode c_M_thrown 1 = .ok (.getfield 36, 3) := by decide +kernel
theorem d_M_thrown_4 : decode c_M_thrown 4 = .ok (.ireturn, 1) := by decide +kernel
theorem d_M_begin_0 : decode c_M_begin 0 = .ok (.aload_n 0, 1) := by decide +kernel
theorem d_M_begin_1 : decode c_M_begin 1 = .ok (.iconst 0, 1) := by decide +kernel
theorem d_M_begin_2 : decode c_M_begin 2 = .ok (.putfield 36, 3) := by decide +kernel
theorem d_M_begin_5 : decode c_M_begin 5 = .ok (.aload_n 0, 1) := by decide +kernel
theorem d_M_begin_6 : decode c_M_begin 6 = .ok (.iload_n 1, 1) := by decide +kernel
theorem d_M_begin_7 : decode c_M_begin 7 = .ok (.invokestatic 48, 3) := by decide +kernel
theorem d_M_begin_10 : decode c_M_begin 10 = .ok (.ifCond .ne 7, 3) := by decide +kernel
theorem d_M_begin_13 : decode c_M_begin 13 = .ok (.iconst 1, 1) := by decide +kernel
theorem d_M_begin_14 : decode c_M_begin 14 = .ok (.goto 4, 3) := by decide +kernel
theorem d_M_begin_17 : decode c_M_begin 17 = .ok (.iconst 0, 1) := by decide +kernel
theorem d_M_begin_18 : decode c_M_begin 18 = .ok (.iconst 1, 1) := by decide +kernel
theorem d_M_begin_19 : decode c_M_begin 19 = .ok (.invokevirtual 52, 3) := by decide +kernel
theorem d_M_begin_22 : decode c_M_begin 22 = .ok (.ifCond .ne 17, 3) := by decide +kernel
theorem d_M_begin_25 : decode c_M_begin 25 = .ok (.aload_n 0, 1) := by decide +kernel
theorem d_M_begin_26 : decode c_M_begin 26 = .ok (.aload_n 0, 1) := by decide +kernel
theorem d_M_begin_27 : decode c_M_begin 27 = .ok (.getfield 33, 3) := by decide +kernel
theorem d_M_begin_30 : decode c_M_begin 30 = .ok (.iload_n 1, 1) := by decide +kernel
theorem d_M_begin_31 : decode c_M_begin 31 = .ok (.baload, 1) := by decide +kernel
theorem d_M_begin_32 : decode c_M_begin 32 = .ok (.iconst 2, 1) := by decide +kernel
theorem d_M_begin_33 : decode c_M_begin 33 = .ok (.invokevirtual 52, 3) := by decide +kernel
theorem d_M_begin_36 : decode c_M_begin 36 = .ok (.ifCond .eq 4, 3) := by decide +kernel
theorem d_M_begin_39 : decode c_M_begin 39 = .ok (.return_, 1) := by decide +kernel
theorem d_M_begin_40 : decode c_M_begin 40 = .ok (.aload_n 0, 1) := by decide +kernel
theorem d_M_begin_41 : decode c_M_begin 41 = .ok (.getfield 33, 3) := by decide +kernel
theorem d_M_begin_44 : decode c_M_begin 44 = .ok (.iload_n 1, 1) := by decide +kernel
theorem d_M_begin_45 : decode c_M_begin 45 = .ok (.iconst 1, 1) := by decide +kernel
theorem d_M_begin_46 : decode c_M_begin 46 = .ok (.bastore, 1) := by decide +kernel
theorem d_M_begin_47 : decode c_M_begin 47 = .ok (.aload_n 0, 1) := by decide +kernel
theorem d_M_begin_48 : decode c_M_begin 48 = .ok (.getfield 20, 3) := by decide +kernel
theorem d_M_begin_51 : decode c_M_begin 51 = .ok (.iload_n 1, 1) := by decide +kernel
theorem d_M_begin_52 : decode c_M_begin 52 = .ok (.iconst 1, 1) := by decide +kernel
theorem d_M_begin_53 : decode c_M_begin 53 = .ok (.iastore, 1) := by decide +kernel
theorem d_M_begin_54 : decode c_M_begin 54 = .ok (.iconst 0, 1) := by decide +kernel
theorem d_M_begin_55 : decode c_M_begin 55 = .ok (.istore_n 2, 1) := by decide +kernel
theorem d_M_begin_56 : decode c_M_begin 56 = .ok (.iload_n 2, 1) := by decide +kernel
theorem d_M_begin_57 : decode c_M_begin 57 = .ok (.bipush 32, 2) := by decide +kernel
theorem d_M_begin_59 : decode c_M_begin 59 = .ok (.if_icmp .ge 33, 3) := by decide +kernel
theorem d_M_begin_62 : decode c_M_begin 62 = .ok (.aload_n 0, 1) := by decide +kernel
theorem d_M_begin_63 : decode c_M_begin 63 = .ok (.getfield 30, 3) := by decide +kernel
theorem d_M_begin_66 : decode c_M_begin 66 = .ok (.bipush 32, 2) := by decide +kernel
theorem d_M_begin_68 : decode c_M_begin 68 = .ok (.iload_n 1, 1) := by decide +kernel
theorem d_M_begin_69 : decode c_M_begin 69 = .ok (.imul, 1) := by decide +kernel
theorem d_M_begin_70 : decode c_M_begin 70 = .ok (.iload_n 2, 1) := by decide +kernel
theorem d_M_begin_71 : decode c_M_begin 71 = .ok (.iadd, 1) := by decide +kernel
theorem d_M_begin_72 : decode c_M_begin 72 = .ok (.iconst 0, 1) := by decide +kernel
theorem d_M_begin_73 : decode c_M_begin 73 = .ok (.bastore, 1) := by decide +kernel
theorem d_M_begin_74 : decode c_M_begin 74 = .ok (.aload_n 0, 1) := by decide +kernel
theorem d_M_begin_75 : decode c_M_begin 75 = .ok (.getfield 26, 3) := by decide +kernel
theorem d_M_begin_78 : decode c_M_begin 78 = .ok (.aload_n 0, 1) := by decide +kernel
theorem d_M_begin_79 : decode c_M_begin 79 = .ok (.iload_n 1, 1) := by decide +kernel
theorem d_M_begin_80 : decode c_M_begin 80 = .ok (.iload_n 2, 1) := by decide +kernel
theorem d_M_begin_81 : decode c_M_begin 81 = .ok (.invokevirtual 56, 3) := by decide +kernel
theorem d_M_begin_84 : decode c_M_begin 84 = .ok (.iconst 0, 1) := by decide +kernel
theorem d_M_begin_85 : decode c_M_begin 85 = .ok (.bastore, 1) := by decide +kernel
theorem d_M_begin_86 : decode c_M_begin 86 = .ok (.iinc 2 1, 3) := by decide +kernel
theorem d_M_begin_89 : decode c_M_begin 89 = .ok (.goto (-33), 3) := by decide +kernel
theorem d_M_begin_92 : decode c_M_begin 92 = .ok (.return_, 1) := by decide +kernel
theorem d_M_isOne_0 : decode c_M_isOne 0 = .ok (.iload_n 0, 1) := by decide +kernel
theorem d_M_isOne_1 : decode c_M_isOne 1 = .ok (.i2l, 1) := by decide +kernel
theorem d_M_isOne_2 : decode c_M_isOne 2 = .ok (.lconst 0, 1) := by decide +kernel
theorem d_M_isOne_3 : decode c_M_isOne 3 = .ok (.ldc2_w 40, 3) := by decide +kernel
theorem d_M_isOne_6 : decode c_M_isOne 6 = .ok (.invokestatic 42, 3) := by decide +kernel
theorem d_M_isOne_9 : decode c_M_isOne 9 = .ok (.ireturn, 1) := by decide +kernel
theorem d_M_in_0 : decode c_M_in 0 = .ok (.lload_n 0, 1) := by decide +kernel
theorem d_M_in_1 : decode c_M_in 1 = .ok (.lload_n 2, 1) := by decide +kernel
theorem d_M_in_2 : decode c_M_in 2 = .ok (.lcmp, 1) := by decide +kernel
theorem d_M_in_3 : decode c_M_in 3 = .ok (.ifCond .lt 14, 3) := by decide +kernel
theorem d_M_in_6 : decode c_M_in 6 = .ok (.lload_n 0, 1) := by decide +kernel
theorem d_M_in_7 : decode c_M_in 7 = .ok (.lload 4, 2) := by decide +kernel
theorem d_M_in_9 : decode c_M_in 9 = .ok (.lcmp, 1) := by decide +kernel
theorem d_M_in_10 : decode c_M_in 10 = .ok (.ifCond .gt 7, 3) := by decide +kernel
theorem d_M_in_13 : decode c_M_in 13 = .ok (.iconst 1, 1) := by decide +kernel
theorem d_M_in_14 : decode c_M_in 14 = .ok (.goto 4, 3) := by decide +kernel
theorem d_M_in_17 : decode c_M_in 17 = .ok (.iconst 0, 1) := by decide +kernel
theorem d_M_in_18 : decode c_M_in 18 = .ok (.ireturn, 1) := by decide +kernel
theorem d_M_fails_0 : decode c_M_fails 0 = .ok (.iload_n 1, 1) := by decide +kernel
theorem d_M_fails_1 : decode c_M_fails 1 = .ok (.ifCond .eq 15, 3) := by decide +kernel
theorem d_M_fails_4 : decode c_M_fails 4 = .ok (.aload_n 0, 1) := by decide +kernel
theorem d_M_fails_5 : decode c_M_fails 5 = .ok (.getfield 36, 3) := by decide +kernel
theorem d_M_fails_8 : decode c_M_fails 8 = .ok (.ifCond .ne 8, 3) := by decide +kernel
theorem d_M_fails_11 : decode c_M_fails 11 = .ok (.aload_n 0, 1) := by decide +kernel
theorem d_M_fails_12 : decode c_M_fails 12 = .ok (.iload_n 2, 1) := by decide +kernel
theorem d_M_fails_13 : decode c_M_fails 13 = .ok (.putfield 36, 3) := by decide +kernel
theorem d_M_fails_16 : decode c_M_fails 16 = .ok (.aload_n 0, 1) := by decide +kernel
theorem d_M_fails_17 : decode c_M_fails 17 = .ok (.getfield 36, 3) := by decide +kernel
theorem d_M_fails_20 : decode c_M_fails 20 = .ok (.ifCond .eq 7, 3) := by decide +kernel
theorem d_M_fails_23 : decode c_M_fails 23 = .ok (.iconst 1, 1) := by decide +kernel
theorem d_M_fails_24 : decode c_M_fails 24 = .ok (.goto 4, 3) := by decide +kernel
theorem d_M_fails_27 : decode c_M_fails 27 = .ok (.iconst 0, 1) := by decide +kernel
theorem d_M_fails_28 : decode c_M_fails 28 = .ok (.ireturn, 1) := by decide +kernel
theorem d_M_last_0 : decode c_M_last 0 = .ok (.iconst 5, 1) := by decide +kernel
theorem d_M_last_1 : decode c_M_last 1 = .ok (.iload_n 1, 1) := by decide +kernel
theorem d_M_last_2 : decode c_M_last 2 = .ok (.imul, 1) := by decide +kernel
theorem d_M_last_3 : decode c_M_last 3 = .ok (.aload_n 0, 1) := by decide +kernel
theorem d_M_last_4 : decode c_M_last 4 = .ok (.getfield 20, 3) := by decide +kernel
theorem d_M_last_7 : decode c_M_last 7 = .ok (.iload_n 1, 1) := by decide +kernel
theorem d_M_last_8 : decode c_M_last 8 = .ok (.iaload, 1) := by decide +kernel
theorem d_M_last_9 : decode c_M_last 9 = .ok (.iadd, 1) := by decide +kernel
theorem d_M_last_10 : decode c_M_last 10 = .ok (.iconst 1, 1) := by decide +kernel
theorem d_M_last_11 : decode c_M_last 11 = .ok (.isub, 1) := by decide +kernel
theorem d_M_last_12 : decode c_M_last 12 = .ok (.bipush 32, 2) := by decide +kernel
theorem d_M_last_14 : decode c_M_last 14 = .ok (.imul, 1) := by decide +kernel
theorem d_M_last_15 : decode c_M_last 15 = .ok (.iload_n 2, 1) := by decide +kernel
theorem d_M_last_16 : decode c_M_last 16 = .ok (.iadd, 1) := by decide +kernel
theorem d_M_last_17 : decode c_M_last 17 = .ok (.ireturn, 1) := by decide +kernel
theorem d_M_read_0 : decode c_M_read 0 = .ok (.aload_n 0, 1) := by decide +kernel
theorem d_M_read_1 : decode c_M_read 1 = .ok (.iconst 0, 1) := by decide +kernel
theorem d_M_read_2 : decode c_M_read 2 = .ok (.putfield 36, 3) := by decide +kernel
theorem d_M_read_5 : decode c_M_read 5 = .ok (.aload_n 0, 1) := by decide +kernel
theorem d_M_read_6 : decode c_M_read 6 = .ok (.iload_n 1, 1) := by decide +kernel
theorem d_M_read_7 : decode c_M_read 7 = .ok (.invokestatic 48, 3) := by decide +kernel
theorem d_M_read_10 : decode c_M_read 10 = .ok (.ifCond .ne 7, 3) := by decide +kernel
theorem d_M_read_13 : decode c_M_read 13 = .ok (.iconst 1, 1) := by decide +kernel
theorem d_M_read_14 : decode c_M_read 14 = .ok (.goto 4, 3) := by decide +kernel
theorem d_M_read_17 : decode c_M_read 17 = .ok (.iconst 0, 1) := by decide +kernel
theorem d_M_read_18 : decode c_M_read 18 = .ok (.iconst 1, 1) := by decide +kernel
theorem d_M_read_19 : decode c_M_read 19 = .ok (.invokevirtual 52, 3) := by decide +kernel
theorem d_M_read_22 : decode c_M_read 22 = .ok (.ifCond .ne 45, 3) := by decide +kernel
theorem d_M_read_25 : decode c_M_read 25 = .ok (.aload_n 0, 1) := by decide +kernel
theorem d_M_read_26 : decode c_M_read 26 = .ok (.iload_n 2, 1) := by decide +kernel
theorem d_M_read_27 : decode c_M_read 27 = .ok (.invokestatic 60, 3) := by decide +kernel
theorem d_M_read_30 : decode c_M_read 30 = .ok (.ifCond .ne 7, 3) := by decide +kernel
theorem d_M_read_33 : decode c_M_read 33 = .ok (.iconst 1, 1) := by decide +kernel
theorem d_M_read_34 : decode c_M_read 34 = .ok (.goto 4, 3) := by decide +kernel
theorem d_M_read_37 : decode c_M_read 37 = .ok (.iconst 0, 1) := by decide +kernel
theorem d_M_read_38 : decode c_M_read 38 = .ok (.iconst 2, 1) := by decide +kernel
theorem d_M_read_39 : decode c_M_read 39 = .ok (.invokevirtual 52, 3) := by decide +kernel
theorem d_M_read_42 : decode c_M_read 42 = .ok (.ifCond .ne 25, 3) := by decide +kernel
theorem d_M_read_45 : decode c_M_read 45 = .ok (.aload_n 0, 1) := by decide +kernel
theorem d_M_read_46 : decode c_M_read 46 = .ok (.aload_n 0, 1) := by decide +kernel
theorem d_M_read_47 : decode c_M_read 47 = .ok (.getfield 33, 3) := by decide +kernel
theorem d_M_read_50 : decode c_M_read 50 = .ok (.iload_n 1, 1) := by decide +kernel
theorem d_M_read_51 : decode c_M_read 51 = .ok (.baload, 1) := by decide +kernel
theorem d_M_read_52 : decode c_M_read 52 = .ok (.ifCond .ne 7, 3) := by decide +kernel
theorem d_M_read_55 : decode c_M_read 55 = .ok (.iconst 1, 1) := by decide +kernel
theorem d_M_read_56 : decode c_M_read 56 = .ok (.goto 4, 3) := by decide +kernel
theorem d_M_read_59 : decode c_M_read 59 = .ok (.iconst 0, 1) := by decide +kernel
theorem d_M_read_60 : decode c_M_read 60 = .ok (.iconst 3, 1) := by decide +kernel
theorem d_M_read_61 : decode c_M_read 61 = .ok (.invokevirtual 52, 3) := by decide +kernel
theorem d_M_read_64 : decode c_M_read 64 = .ok (.ifCond .eq 5, 3) := by decide +kernel
theorem d_M_read_67 : decode c_M_read 67 = .ok (.lconst 0, 1) := by decide +kernel
theorem d_M_read_68 : decode c_M_read 68 = .ok (.lreturn, 1) := by decide +kernel
theorem d_M_read_69 : decode c_M_read 69 = .ok (.aload_n 0, 1) := by decide +kernel
theorem d_M_read_70 : decode c_M_read 70 = .ok (.getfield 26, 3) := by decide +kernel
theorem d_M_read_73 : decode c_M_read 73 = .ok (.aload_n 0, 1) := by decide +kernel
theorem d_M_read_74 : decode c_M_read 74 = .ok (.iload_n 1, 1) := by decide +kernel
theorem d_M_read_75 : decode c_M_read 75 = .ok (.iload_n 2, 1) := by decide +kernel
theorem d_M_read_76 : decode c_M_read 76 = .ok (.invokevirtual 56, 3) := by decide +kernel
theorem d_M_read_79 : decode c_M_read 79 = .ok (.baload, 1) := by decide +kernel
theorem d_M_read_80 : decode c_M_read 80 = .ok (.ifCond .eq 15, 3) := by decide +kernel
theorem d_M_read_83 : decode c_M_read 83 = .ok (.aload_n 0, 1) := by decide +kernel
theorem d_M_read_84 : decode c_M_read 84 = .ok (.getfield 13, 3) := by decide +kernel
theorem d_M_read_87 : decode c_M_read 87 = .ok (.aload_n 0, 1) := by decide +kernel
theorem d_M_read_88 : decode c_M_read 88 = .ok (.iload_n 1, 1) := by decide +kernel
theorem d_M_read_89 : decode c_M_read 89 = .ok (.iload_n 2, 1) := by decide +kernel
theorem d_M_read_90 : decode c_M_read 90 = .ok (.invokevirtual 56, 3) := by decide +kernel
theorem d_M_read_93 : decode c_M_read 93 = .ok (.laload, 1) := by decide +kernel
theorem d_M_read_94 : decode c_M_read 94 = .ok (.lreturn, 1) := by decide +kernel
theorem d_M_read_95 : decode c_M_read 95 = .ok (.aload_n 0, 1) := by decide +kernel
theorem d_M_read_96 : decode c_M_read 96 = .ok (.iload_n 1, 1) := by decide +kernel
theorem d_M_read_97 : decode c_M_read 97 = .ok (.invokevirtual 63, 3) := by decide +kernel
theorem d_M_read_100 : decode c_M_read 100 = .ok (.ifCond .eq 29, 3) := by decide +kernel
theorem d_M_read_103 : decode c_M_read 103 = .ok (.aload_n 0, 1) := by decide +kernel
theorem d_M_read_104 : decode c_M_read 104 = .ok (.getfield 33, 3) := by decide +kernel
theorem d_M_read_107 : decode c_M_read 107 = .ok (.iload_n 1, 1) := by decide +kernel
theorem d_M_read_108 : decode c_M_read 108 = .ok (.iconst 0, 1) := by decide +kernel
theorem d_M_read_109 : decode c_M_read 109 = .ok (.bastore, 1) := by decide +kernel
theorem d_M_read_110 : decode c_M_read 110 = .ok (.aload_n 0, 1) := by decide +kernel
theorem d_M_read_111 : decode c_M_read 111 = .ok (.dup, 1) := by decide +kernel
theorem d_M_read_112 : decode c_M_read 112 = .ok (.getfield 66, 3) := by decide +kernel
theorem d_M_read_115 : decode c_M_read 115 = .ok (.iconst 1, 1) := by decide +kernel
theorem d_M_read_116 : decode c_M_read 116 = .ok (.iadd, 1) := by decide +kernel
theorem d_M_read_117 : decode c_M_read 117 = .ok (.putfield 66, 3) := by decide +kernel
theorem d_M_read_120 : decode c_M_read 120 = .ok (.aload_n 0, 1) := by decide +kernel
theorem d_M_read_121 : decode c_M_read 121 = .ok (.iconst 1, 1) := by decide +kernel
theorem d_M_read_122 : decode c_M_read 122 = .ok (.iconst 4, 1) := by decide +kernel
theorem d_M_read_123 : decode c_M_read 123 = .ok (.invokevirtual 52, 3) := by decide +kernel
theorem d_M_read_126 : decode c_M_read 126 = .ok (.pop, 1) := by decide +kernel
theorem d_M_read_127 : decode c_M_read 127 = .ok (.lconst 0, 1) := by decide +kernel
theorem d_M_read_128 : decode c_M_read 128 = .ok (.lreturn, 1) := by decide +kernel
theorem d_M_read_129 : decode c_M_read 129 = .ok (.aload_n 0, 1) := by decide +kernel
theorem d_M_read_130 : decode c_M_read 130 = .ok (.getfield 30, 3) := by decide +kernel
theorem d_M_read_133 : decode c_M_read 133 = .ok (.bipush 32, 2) := by decide +kernel
theorem d_M_read_135 : decode c_M_read 135 = .ok (.iload_n 1, 1) := by decide +kernel
theorem d_M_read_136 : decode c_M_read 136 = .ok (.imul, 1) := by decide +kernel
theorem d_M_read_137 : decode c_M_read 137 = .ok (.iload_n 2, 1) := by decide +kernel
theorem d_M_read_138 : decode c_M_read 138 = .ok (.iadd, 1) := by decide +kernel
theorem d_M_read_139 : decode c_M_read 139 = .ok (.baload, 1) := by decide +kernel
theorem d_M_read_140 : decode c_M_read 140 = .ok (.ifCond .ne 20, 3) := by decide +kernel
theorem d_M_read_143 : decode c_M_read 143 = .ok (.aload_n 0, 1) := by decide +kernel
theorem d_M_read_144 : decode c_M_read 144 = .ok (.getfield 23, 3) := by decide +kernel
theorem d_M_read_147 : decode c_M_read 147 = .ok (.bipush 32, 2) := by decide +kernel
theorem d_M_read_149 : decode c_M_read 149 = .ok (.iload_n 1, 1) := by decide +kernel
theorem d_M_read_150 : decode c_M_read 150 = .ok (.imul, 1) := by decide +kernel
theorem d_M_read_151 : decode c_M_read 151 = .ok (.iload_n 2, 1) := by decide +kernel
theorem d_M_read_152 : decode c_M_read 152 = .ok (.iadd, 1) := by decide +kernel
theorem d_M_read_153 : decode c_M_read 153 = .ok (.aload_n 0, 1) := by decide +kernel
theorem d_M_read_154 : decode c_M_read 154 = .ok (.getfield 16, 3) := by decide +kernel
theorem d_M_read_157 : decode c_M_read 157 = .ok (.iload_n 2, 1) := by decide +kernel
theorem d_M_read_158 : decode c_M_read 158 = .ok (.iaload, 1) := by decide +kernel
theorem d_M_read_159 : decode c_M_read 159 = .ok (.iastore, 1) := by decide +kernel
theorem d_M_read_160 : decode c_M_read 160 = .ok (.aload_n 0, 1) := by decide +kernel
theorem d_M_read_161 : decode c_M_read 161 = .ok (.getfield 30, 3) := by decide +kernel
theorem d_M_read_164 : decode c_M_read 164 = .ok (.bipush 32, 2) := by decide +kernel
theorem d_M_read_166 : decode c_M_read 166 = .ok (.iload_n 1, 1) := by decide +kernel
theorem d_M_read_167 : decode c_M_read 167 = .ok (.imul, 1) := by decide +kernel
theorem d_M_read_168 : decode c_M_read 168 = .ok (.iload_n 2, 1) := by decide +kernel
theorem d_M_read_169 : decode c_M_read 169 = .ok (.iadd, 1) := by decide +kernel
theorem d_M_read_170 : decode c_M_read 170 = .ok (.iconst 1, 1) := by decide +kernel
theorem d_M_read_171 : decode c_M_read 171 = .ok (.bastore, 1) := by decide +kernel
theorem d_M_read_172 : decode c_M_read 172 = .ok (.aload_n 0, 1) := by decide +kernel
theorem d_M_read_173 : decode c_M_read 173 = .ok (.getfield 9, 3) := by decide +kernel
theorem d_M_read_176 : decode c_M_read 176 = .ok (.iload_n 2, 1) := by decide +kernel
theorem d_M_read_177 : decode c_M_read 177 = .ok (.laload, 1) := by decide +kernel
theorem d_M_read_178 : decode c_M_read 178 = .ok (.lreturn, 1) := by decide +kernel
theorem d_M_isCell_0 : decode c_M_isCell 0 = .ok (.iload_n 0, 1) := by decide +kernel
theorem d_M_isCell_1 : decode c_M_isCell 1 = .ok (.i2l, 1) := by decide +kernel
theorem d_M_isCell_2 : decode c_M_isCell 2 = .ok (.lconst 0, 1) := by decide +kernel
theorem d_M_isCell_3 : decode c_M_isCell 3 = .ok (.ldc2_w 46, 3) := by decide +kernel
theorem d_M_isCell_6 : decode c_M_isCell 6 = .ok (.invokestatic 42, 3) := by decide +kernel
theorem d_M_isCell_9 : decode c_M_isCell 9 = .ok (.ireturn, 1) := by decide +kernel
theorem d_M_isStale_0 : decode c_M_isStale 0 = .ok (.iconst 0, 1) := by decide +kernel
theorem d_M_isStale_1 : decode c_M_isStale 1 = .ok (.istore_n 2, 1) := by decide +kernel
theorem d_M_isStale_2 : decode c_M_isStale 2 = .ok (.iload_n 2, 1) := by decide +kernel
theorem d_M_isStale_3 : decode c_M_isStale 3 = .ok (.bipush 32, 2) := by decide +kernel
theorem d_M_isStale_5 : decode c_M_isStale 5 = .ok (.if_icmp .ge 45, 3) := by decide +kernel
theorem d_M_isStale_8 : decode c_M_isStale 8 = .ok (.aload_n 0, 1) := by decide +kernel
theorem d_M_isStale_9 : decode c_M_isStale 9 = .ok (.getfield 30, 3) := by decide +kernel
theorem d_M_isStale_12 : decode c_M_isStale 12 = .ok (.bipush 32, 2) := by decide +kernel
theorem d_M_isStale_14 : decode c_M_isStale 14 = .ok (.iload_n 1, 1) := by decide +kernel
theorem d_M_isStale_15 : decode c_M_isStale 15 = .ok (.imul, 1) := by decide +kernel
theorem d_M_isStale_16 : decode c_M_isStale 16 = .ok (.iload_n 2, 1) := by decide +kernel
theorem d_M_isStale_17 : decode c_M_isStale 17 = .ok (.iadd, 1) := by decide +kernel
theorem d_M_isStale_18 : decode c_M_isStale 18 = .ok (.baload, 1) := by decide +kernel
theorem d_M_isStale_19 : decode c_M_isStale 19 = .ok (.ifCond .eq 25, 3) := by decide +kernel
theorem d_M_isStale_22 : decode c_M_isStale 22 = .ok (.aload_n 0, 1) := by decide +kernel
theorem d_M_isStale_23 : decode c_M_isStale 23 = .ok (.getfield 23, 3) := by decide +kernel
theorem d_M_isStale_26 : decode c_M_isStale 26 = .ok (.bipush 32, 2) := by decide +kernel
theorem d_M_isStale_28 : decode c_M_isStale 28 = .ok (.iload_n 1, 1) := by decide +kernel
theorem d_M_isStale_29 : decode c_M_isStale 29 = .ok (.imul, 1) := by decide +kernel
theorem d_M_isStale_30 : decode c_M_isStale 30 = .ok (.iload_n 2, 1) := by decide +kernel
theorem d_M_isStale_31 : decode c_M_isStale 31 = .ok (.iadd, 1) := by decide +kernel
theorem d_M_isStale_32 : decode c_M_isStale 32 = .ok (.iaload, 1) := by decide +kernel
theorem d_M_isStale_33 : decode c_M_isStale 33 = .ok (.aload_n 0, 1) := by decide +kernel
theorem d_M_isStale_34 : decode c_M_isStale 34 = .ok (.getfield 16, 3) := by decide +kernel
theorem d_M_isStale_37 : decode c_M_isStale 37 = .ok (.iload_n 2, 1) := by decide +kernel
theorem d_M_isStale_38 : decode c_M_isStale 38 = .ok (.iaload, 1) := by decide +kernel
theorem d_M_isStale_39 : decode c_M_isStale 39 = .ok (.if_icmp .eq 5, 3) := by decide +kernel
theorem d_M_isStale_42 : decode c_M_isStale 42 = .ok (.iconst 1, 1) := by decide +kernel
theorem d_M_isStale_43 : decode c_M_isStale 43 = .ok (.ireturn, 1) := by decide +kernel
theorem d_M_isStale_44 : decode c_M_isStale 44 = .ok (.iinc 2 1, 3) := by decide +kernel
theorem d_M_isStale_47 : decode c_M_isStale 47 = .ok (.goto (-45), 3) := by decide +kernel
theorem d_M_isStale_50 : decode c_M_isStale 50 = .ok (.iconst 0, 1) := by decide +kernel
theorem d_M_isStale_51 : decode c_M_isStale 51 = .ok (.ireturn, 1) := by decide +kernel
theorem d_M_write_0 : decode c_M_write 0 = .ok (.aload_n 0, 1) := by decide +kernel
theorem d_M_write_1 : decode c_M_write 1 = .ok (.iconst 0, 1) := by decide +kernel
theorem d_M_write_2 : decode c_M_write 2 = .ok (.putfield 36, 3) := by decide +kernel
theorem d_M_write_5 : decode c_M_write 5 = .ok (.aload_n 0, 1) := by decide +kernel
theorem d_M_write_6 : decode c_M_write 6 = .ok (.iload_n 1, 1) := by decide +kernel
theorem d_M_write_7 : decode c_M_write 7 = .ok (.invokestatic 48, 3) := by decide +kernel
theorem d_M_write_10 : decode c_M_write 10 = .ok (.ifCond .ne 7, 3) := by decide +kernel
theorem d_M_write_13 : decode c_M_write 13 = .ok (.iconst 1, 1) := by decide +kernel
theorem d_M_write_14 : decode c_M_write 14 = .ok (.goto 4, 3) := by decide +kernel
theorem d_M_write_17 : decode c_M_write 17 = .ok (.iconst 0, 1) := by decide +kernel
theorem d_M_write_18 : decode c_M_write 18 = .ok (.iconst 1, 1) := by decide +kernel
theorem d_M_write_19 : decode c_M_write 19 = .ok (.invokevirtual 52, 3) := by decide +kernel
theorem d_M_write_22 : decode c_M_write 22 = .ok (.ifCond .ne 45, 3) := by decide +kernel
theorem d_M_write_25 : decode c_M_write 25 = .ok (.aload_n 0, 1) := by decide +kernel
theorem d_M_write_26 : decode c_M_write 26 = .ok (.iload_n 2, 1) := by decide +kernel
theorem d_M_write_27 : decode c_M_write 27 = .ok (.invokestatic 60, 3) := by decide +kernel
theorem d_M_write_30 : decode c_M_write 30 = .ok (.ifCond .ne 7, 3) := by decide +kernel
theorem d_M_write_33 : decode c_M_write 33 = .ok (.iconst 1, 1) := by decide +kernel
theorem d_M_write_34 : decode c_M_write 34 = .ok (.goto 4, 3) := by decide +kernel
theorem d_M_write_37 : decode c_M_write 37 = .ok (.iconst 0, 1) := by decide +kernel
theorem d_M_write_38 : decode c_M_write 38 = .ok (.iconst 2, 1) := by decide +kernel
theorem d_M_write_39 : decode c_M_write 39 = .ok (.invokevirtual 52, 3) := by decide +kernel
theorem d_M_write_42 : decode c_M_write 42 = .ok (.ifCond .ne 25, 3) := by decide +kernel
theorem d_M_write_45 : decode c_M_write 45 = .ok (.aload_n 0, 1) := by decide +kernel
theorem d_M_write_46 : decode c_M_write 46 = .ok (.aload_n 0, 1) := by decide +kernel
theorem d_M_write_47 : decode c_M_write 47 = .ok (.getfield 33, 3) := by decide +kernel
theorem d_M_write_50 : decode c_M_write 50 = .ok (.iload_n 1, 1) := by decide +kernel
theorem d_M_write_51 : decode c_M_write 51 = .ok (.baload, 1) := by decide +kernel
theorem d_M_write_52 : decode c_M_write 52 = .ok (.ifCond .ne 7, 3) := by decide +kernel
theorem d_M_write_55 : decode c_M_write 55 = .ok (.iconst 1, 1) := by decide +kernel
theorem d_M_write_56 : decode c_M_write 56 = .ok (.goto 4, 3) := by decide +kernel
theorem d_M_write_59 : decode c_M_write 59 = .ok (.iconst 0, 1) := by decide +kernel
theorem d_M_write_60 : decode c_M_write 60 = .ok (.iconst 3, 1) := by decide +kernel
theorem d_M_write_61 : decode c_M_write 61 = .ok (.invokevirtual 52, 3) := by decide +kernel
theorem d_M_write_64 : decode c_M_write 64 = .ok (.ifCond .eq 4, 3) := by decide +kernel
theorem d_M_write_67 : decode c_M_write 67 = .ok (.return_, 1) := by decide +kernel
theorem d_M_write_68 : decode c_M_write 68 = .ok (.aload_n 0, 1) := by decide +kernel
theorem d_M_write_69 : decode c_M_write 69 = .ok (.getfield 26, 3) := by decide +kernel
theorem d_M_write_72 : decode c_M_write 72 = .ok (.aload_n 0, 1) := by decide +kernel
theorem d_M_write_73 : decode c_M_write 73 = .ok (.iload_n 1, 1) := by decide +kernel
theorem d_M_write_74 : decode c_M_write 74 = .ok (.iload_n 2, 1) := by decide +kernel
theorem d_M_write_75 : decode c_M_write 75 = .ok (.invokevirtual 56, 3) := by decide +kernel
theorem d_M_write_78 : decode c_M_write 78 = .ok (.iconst 1, 1) := by decide +kernel
theorem d_M_write_79 : decode c_M_write 79 = .ok (.bastore, 1) := by decide +kernel
theorem d_M_write_80 : decode c_M_write 80 = .ok (.aload_n 0, 1) := by decide +kernel
theorem d_M_write_81 : decode c_M_write 81 = .ok (.getfield 13, 3) := by decide +kernel
theorem d_M_write_84 : decode c_M_write 84 = .ok (.aload_n 0, 1) := by decide +kernel
theorem d_M_write_85 : decode c_M_write 85 = .ok (.iload_n 1, 1) := by decide +kernel
theorem d_M_write_86 : decode c_M_write 86 = .ok (.iload_n 2, 1) := by decide +kernel
theorem d_M_write_87 : decode c_M_write 87 = .ok (.invokevirtual 56, 3) := by decide +kernel
theorem d_M_write_90 : decode c_M_write 90 = .ok (.lload_n 3, 1) := by decide +kernel
theorem d_M_write_91 : decode c_M_write 91 = .ok (.lastore, 1) := by decide +kernel
theorem d_M_write_92 : decode c_M_write 92 = .ok (.return_, 1) := by decide +kernel
theorem d_M_save_0 : decode c_M_save 0 = .ok (.aload_n 0, 1) := by decide +kernel
theorem d_M_save_1 : decode c_M_save 1 = .ok (.iconst 0, 1) := by decide +kernel
theorem d_M_save_2 : decode c_M_save 2 = .ok (.putfield 36, 3) := by decide +kernel
theorem d_M_save_5 : decode c_M_save 5 = .ok (.aload_n 0, 1) := by decide +kernel
theorem d_M_save_6 : decode c_M_save 6 = .ok (.iload_n 1, 1) := by decide +kernel
theorem d_M_save_7 : decode c_M_save 7 = .ok (.invokestatic 48, 3) := by decide +kernel
theorem d_M_save_10 : decode c_M_save 10 = .ok (.ifCond .ne 7, 3) := by decide +kernel
theorem d_M_save_13 : decode c_M_save 13 = .ok (.iconst 1, 1) := by decide +kernel
theorem d_M_save_14 : decode c_M_save 14 = .ok (.goto 4, 3) := by decide +kernel
theorem d_M_save_17 : decode c_M_save 17 = .ok (.iconst 0, 1) := by decide +kernel
theorem d_M_save_18 : decode c_M_save 18 = .ok (.iconst 1, 1) := by decide +kernel
theorem d_M_save_19 : decode c_M_save 19 = .ok (.invokevirtual 52, 3) := by decide +kernel
theorem d_M_save_22 : decode c_M_save 22 = .ok (.ifCond .ne 48, 3) := by decide +kernel
theorem d_M_save_25 : decode c_M_save 25 = .ok (.aload_n 0, 1) := by decide +kernel
theorem d_M_save_26 : decode c_M_save 26 = .ok (.aload_n 0, 1) := by decide +kernel
theorem d_M_save_27 : decode c_M_save 27 = .ok (.getfield 33, 3) := by decide +kernel
theorem d_M_save_30 : decode c_M_save 30 = .ok (.iload_n 1, 1) := by decide +kernel
theorem d_M_save_31 : decode c_M_save 31 = .ok (.baload, 1) := by decide +kernel
theorem d_M_save_32 : decode c_M_save 32 = .ok (.ifCond .ne 7, 3) := by decide +kernel
theorem d_M_save_35 : decode c_M_save 35 = .ok (.iconst 1, 1) := by decide +kernel
theorem d_M_save_36 : decode c_M_save 36 = .ok (.goto 4, 3) := by decide +kernel
theorem d_M_save_39 : decode c_M_save 39 = .ok (.iconst 0, 1) := by decide +kernel
theorem d_M_save_40 : decode c_M_save 40 = .ok (.iconst 2, 1) := by decide +kernel
theorem d_M_save_41 : decode c_M_save 41 = .ok (.invokevirtual 52, 3) := by decide +kernel
theorem d_M_save_44 : decode c_M_save 44 = .ok (.ifCond .ne 26, 3) := by decide +kernel
theorem d_M_save_47 : decode c_M_save 47 = .ok (.aload_n 0, 1) := by decide +kernel
theorem d_M_save_48 : decode c_M_save 48 = .ok (.aload_n 0, 1) := by decide +kernel
theorem d_M_save_49 : decode c_M_save 49 = .ok (.getfield 20, 3) := by decide +kernel
theorem d_M_save_52 : decode c_M_save 52 = .ok (.iload_n 1, 1) := by decide +kernel
theorem d_M_save_53 : decode c_M_save 53 = .ok (.iaload, 1) := by decide +kernel
theorem d_M_save_54 : decode c_M_save 54 = .ok (.iconst 5, 1) := by decide +kernel
theorem d_M_save_55 : decode c_M_save 55 = .ok (.if_icmp .ne 7, 3) := by decide +kernel
theorem d_M_save_58 : decode c_M_save 58 = .ok (.iconst 1, 1) := by decide +kernel
theorem d_M_save_59 : decode c_M_save 59 = .ok (.goto 4, 3) := by decide +kernel
theorem d_M_save_62 : decode c_M_save 62 = .ok (.iconst 0, 1) := by decide +kernel
theorem d_M_save_63 : decode c_M_save 63 = .ok (.iconst 3, 1) := by decide +kernel
theorem d_M_save_64 : decode c_M_save 64 = .ok (.invokevirtual 52, 3) := by decide +kernel
theorem d_M_save_67 : decode c_M_save 67 = .ok (.ifCond .eq 5, 3) := by decide +kernel
theorem d_M_save_70 : decode c_M_save 70 = .ok (.iconst 0, 1) := by decide +kernel
theorem d_M_save_71 : decode c_M_save 71 = .ok (.ireturn, 1) := by decide +kernel
theorem d_M_save_72 : decode c_M_save 72 = .ok (.aload_n 0, 1) := by decide +kernel
theorem d_M_save_73 : decode c_M_save 73 = .ok (.getfield 20, 3) := by decide +kernel
theorem d_M_save_76 : decode c_M_save 76 = .ok (.iload_n 1, 1) := by decide +kernel
theorem d_M_save_77 : decode c_M_save 77 = .ok (.dup2, 1) := by decide +kernel
theorem d_M_save_78 : decode c_M_save 78 = .ok (.iaload, 1) := by decide +kernel
theorem d_M_save_79 : decode c_M_save 79 = .ok (.iconst 1, 1) := by decide +kernel
theorem d_M_save_80 : decode c_M_save 80 = .ok (.iadd, 1) := by decide +kernel
theorem d_M_save_81 : decode c_M_save 81 = .ok (.iastore, 1) := by decide +kernel
theorem d_M_save_82 : decode c_M_save 82 = .ok (.aload_n 0, 1) := by decide +kernel
theorem d_M_save_83 : decode c_M_save 83 = .ok (.aload_n 0, 1) := by decide +kernel
theorem d_M_save_84 : decode c_M_save 84 = .ok (.iload_n 1, 1) := by decide +kernel
theorem d_M_save_85 : decode c_M_save 85 = .ok (.iconst 0, 1) := by decide +kernel
theorem d_M_save_86 : decode c_M_save 86 = .ok (.invokevirtual 56, 3) := by decide +kernel
theorem d_M_save_89 : decode c_M_save 89 = .ok (.bipush 32, 2) := by decide +kernel
theorem d_M_save_91 : decode c_M_save 91 = .ok (.isub, 1) := by decide +kernel
theorem d_M_save_92 : decode c_M_save 92 = .ok (.aload_n 0, 1) := by decide +kernel
theorem d_M_save_93 : decode c_M_save 93 = .ok (.iload_n 1, 1) := by decide +kernel
theorem d_M_save_94 : decode c_M_save 94 = .ok (.iconst 0, 1) := by decide +kernel
theorem d_M_save_95 : decode c_M_save 95 = .ok (.invokevirtual 56, 3) := by decide +kernel
theorem d_M_save_98 : decode c_M_save 98 = .ok (.invokevirtual 69, 3) := by decide +kernel
theorem d_M_save_101 : decode c_M_save 101 = .ok (.aload_n 0, 1) := by decide +kernel
theorem d_M_save_102 : decode c_M_save 102 = .ok (.getfield 20, 3) := by decide +kernel
theorem d_M_save_105 : decode c_M_save 105 = .ok (.iload_n 1, 1) := by decide +kernel
theorem d_M_save_106 : decode c_M_save 106 = .ok (.iaload, 1) := by decide +kernel
theorem d_M_save_107 : decode c_M_save 107 = .ok (.ireturn, 1) := by decide +kernel
theorem d_M_copy_0 : decode c_M_copy 0 = .ok (.iconst 0, 1) := by decide +kernel
theorem d_M_copy_1 : decode c_M_copy 1 = .ok (.istore_n 3, 1) := by decide +kernel
theorem d_M_copy_2 : decode c_M_copy 2 = .ok (.iload_n 3, 1) := by decide +kernel
theorem d_M_copy_3 : decode c_M_copy 3 = .ok (.bipush 32, 2) := by decide +kernel
theorem d_M_copy_5 : decode c_M_copy 5 = .ok (.if_icmp .ge 41, 3) := by decide +kernel
theorem d_M_copy_8 : decode c_M_copy 8 = .ok (.aload_n 0, 1) := by decide +kernel
theorem d_M_copy_9 : decode c_M_copy 9 = .ok (.getfield 26, 3) := by decide +kernel
theorem d_M_copy_12 : decode c_M_copy 12 = .ok (.iload_n 2, 1) := by decide +kernel
theorem d_M_copy_13 : decode c_M_copy 13 = .ok (.iload_n 3, 1) := by decide +kernel
theorem d_M_copy_14 : decode c_M_copy 14 = .ok (.iadd, 1) := by decide +kernel
theorem d_M_copy_15 : decode c_M_copy 15 = .ok (.aload_n 0, 1) := by decide +kernel
theorem d_M_copy_16 : decode c_M_copy 16 = .ok (.getfield 26, 3) := by decide +kernel
theorem d_M_copy_19 : decode c_M_copy 19 = .ok (.iload_n 1, 1) := by decide +kernel
theorem d_M_copy_20 : decode c_M_copy 20 = .ok (.iload_n 3, 1) := by decide +kernel
theorem d_M_copy_21 : decode c_M_copy 21 = .ok (.iadd, 1) := by decide +kernel
theorem d_M_copy_22 : decode c_M_copy 22 = .ok (.baload, 1) := by decide +kernel
theorem d_M_copy_23 : decode c_M_copy 23 = .ok (.bastore, 1) := by decide +kernel
theorem d_M_copy_24 : decode c_M_copy 24 = .ok (.aload_n 0, 1) := by decide +kernel
theorem d_M_copy_25 : decode c_M_copy 25 = .ok (.getfield 13, 3) := by decide +kernel
theorem d_M_copy_28 : decode c_M_copy 28 = .ok (.iload_n 2, 1) := by decide +kernel
theorem d_M_copy_29 : decode c_M_copy 29 = .ok (.iload_n 3, 1) := by decide +kernel
theorem d_M_copy_30 : decode c_M_copy 30 = .ok (.iadd, 1) := by decide +kernel
theorem d_M_copy_31 : decode c_M_copy 31 = .ok (.aload_n 0, 1) := by decide +kernel
theorem d_M_copy_32 : decode c_M_copy 32 = .ok (.getfield 13, 3) := by decide +kernel
theorem d_M_copy_35 : decode c_M_copy 35 = .ok (.iload_n 1, 1) := by decide +kernel
theorem d_M_copy_36 : decode c_M_copy 36 = .ok (.iload_n 3, 1) := by decide +kernel
theorem d_M_copy_37 : decode c_M_copy 37 = .ok (.iadd, 1) := by decide +kernel
theorem d_M_copy_38 : decode c_M_copy 38 = .ok (.laload, 1) := by decide +kernel
theorem d_M_copy_39 : decode c_M_copy 39 = .ok (.lastore, 1) := by decide +kernel
theorem d_M_copy_40 : decode c_M_copy 40 = .ok (.iinc 3 1, 3) := by decide +kernel
theorem d_M_copy_43 : decode c_M_copy 43 = .ok (.goto (-41), 3) := by decide +kernel
theorem d_M_copy_46 : decode c_M_copy 46 = .ok (.return_, 1) := by decide +kernel
theorem d_M_back_0 : decode c_M_back 0 = .ok (.aload_n 0, 1) := by decide +kernel
theorem d_M_back_1 : decode c_M_back 1 = .ok (.iconst 0, 1) := by decide +kernel
theorem d_M_back_2 : decode c_M_back 2 = .ok (.putfield 36, 3) := by decide +kernel
theorem d_M_back_5 : decode c_M_back 5 = .ok (.aload_n 0, 1) := by decide +kernel
theorem d_M_back_6 : decode c_M_back 6 = .ok (.iload_n 1, 1) := by decide +kernel
theorem d_M_back_7 : decode c_M_back 7 = .ok (.invokestatic 48, 3) := by decide +kernel
theorem d_M_back_10 : decode c_M_back 10 = .ok (.ifCond .ne 7, 3) := by decide +kernel
theorem d_M_back_13 : decode c_M_back 13 = .ok (.iconst 1, 1) := by decide +kernel
theorem d_M_back_14 : decode c_M_back 14 = .ok (.goto 4, 3) := by decide +kernel
theorem d_M_back_17 : decode c_M_back 17 = .ok (.iconst 0, 1) := by decide +kernel
theorem d_M_back_18 : decode c_M_back 18 = .ok (.iconst 1, 1) := by decide +kernel
theorem d_M_back_19 : decode c_M_back 19 = .ok (.invokevirtual 52, 3) := by decide +kernel
theorem d_M_back_22 : decode c_M_back 22 = .ok (.ifCond .ne 48, 3) := by decide +kernel
theorem d_M_back_25 : decode c_M_back 25 = .ok (.aload_n 0, 1) := by decide +kernel
theorem d_M_back_26 : decode c_M_back 26 = .ok (.aload_n 0, 1) := by decide +kernel
theorem d_M_back_27 : decode c_M_back 27 = .ok (.getfield 33, 3) := by decide +kernel
theorem d_M_back_30 : decode c_M_back 30 = .ok (.iload_n 1, 1) := by decide +kernel
theorem d_M_back_31 : decode c_M_back 31 = .ok (.baload, 1) := by decide +kernel
theorem d_M_back_32 : decode c_M_back 32 = .ok (.ifCond .ne 7, 3) := by decide +kernel
theorem d_M_back_35 : decode c_M_back 35 = .ok (.iconst 1, 1) := by decide +kernel
theorem d_M_back_36 : decode c_M_back 36 = .ok (.goto 4, 3) := by decide +kernel
theorem d_M_back_39 : decode c_M_back 39 = .ok (.iconst 0, 1) := by decide +kernel
theorem d_M_back_40 : decode c_M_back 40 = .ok (.iconst 2, 1) := by decide +kernel
theorem d_M_back_41 : decode c_M_back 41 = .ok (.invokevirtual 52, 3) := by decide +kernel
theorem d_M_back_44 : decode c_M_back 44 = .ok (.ifCond .ne 26, 3) := by decide +kernel
theorem d_M_back_47 : decode c_M_back 47 = .ok (.aload_n 0, 1) := by decide +kernel
theorem d_M_back_48 : decode c_M_back 48 = .ok (.aload_n 0, 1) := by decide +kernel
theorem d_M_back_49 : decode c_M_back 49 = .ok (.getfield 20, 3) := by decide +kernel
theorem d_M_back_52 : decode c_M_back 52 = .ok (.iload_n 1, 1) := by decide +kernel
theorem d_M_back_53 : decode c_M_back 53 = .ok (.iaload, 1) := by decide +kernel
theorem d_M_back_54 : decode c_M_back 54 = .ok (.iconst 1, 1) := by decide +kernel
theorem d_M_back_55 : decode c_M_back 55 = .ok (.if_icmp .ne 7, 3) := by decide +kernel
theorem d_M_back_58 : decode c_M_back 58 = .ok (.iconst 1, 1) := by decide +kernel
theorem d_M_back_59 : decode c_M_back 59 = .ok (.goto 4, 3) := by decide +kernel
theorem d_M_back_62 : decode c_M_back 62 = .ok (.iconst 0, 1) := by decide +kernel
theorem d_M_back_63 : decode c_M_back 63 = .ok (.iconst 3, 1) := by decide +kernel
theorem d_M_back_64 : decode c_M_back 64 = .ok (.invokevirtual 52, 3) := by decide +kernel
theorem d_M_back_67 : decode c_M_back 67 = .ok (.ifCond .eq 4, 3) := by decide +kernel
theorem d_M_back_70 : decode c_M_back 70 = .ok (.return_, 1) := by decide +kernel
theorem d_M_back_71 : decode c_M_back 71 = .ok (.aload_n 0, 1) := by decide +kernel
theorem d_M_back_72 : decode c_M_back 72 = .ok (.getfield 20, 3) := by decide +kernel
theorem d_M_back_75 : decode c_M_back 75 = .ok (.iload_n 1, 1) := by decide +kernel
theorem d_M_back_76 : decode c_M_back 76 = .ok (.dup2, 1) := by decide +kernel
theorem d_M_back_77 : decode c_M_back 77 = .ok (.iaload, 1) := by decide +kernel
theorem d_M_back_78 : decode c_M_back 78 = .ok (.iconst 1, 1) := by decide +kernel
theorem d_M_back_79 : decode c_M_back 79 = .ok (.isub, 1) := by decide +kernel
theorem d_M_back_80 : decode c_M_back 80 = .ok (.iastore, 1) := by decide +kernel
theorem d_M_back_81 : decode c_M_back 81 = .ok (.return_, 1) := by decide +kernel
theorem d_M_keep_0 : decode c_M_keep 0 = .ok (.aload_n 0, 1) := by decide +kernel
theorem d_M_keep_1 : decode c_M_keep 1 = .ok (.iconst 0, 1) := by decide +kernel
theorem d_M_keep_2 : decode c_M_keep 2 = .ok (.putfield 36, 3) := by decide +kernel
theorem d_M_keep_5 : decode c_M_keep 5 = .ok (.aload_n 0, 1) := by decide +kernel
theorem d_M_keep_6 : decode c_M_keep 6 = .ok (.iload_n 1, 1) := by decide +kernel
theorem d_M_keep_7 : decode c_M_keep 7 = .ok (.invokestatic 48, 3) := by decide +kernel
theorem d_M_keep_10 : decode c_M_keep 10 = .ok (.ifCond .ne 7, 3) := by decide +kernel
theorem d_M_keep_13 : decode c_M_keep 13 = .ok (.iconst 1, 1) := by decide +kernel
theorem d_M_keep_14 : decode c_M_keep 14 = .ok (.goto 4, 3) := by decide +kernel
theorem d_M_keep_17 : decode c_M_keep 17 = .ok (.iconst 0, 1) := by decide +kernel
theorem d_M_keep_18 : decode c_M_keep 18 = .ok (.iconst 1, 1) := by decide +kernel
theorem d_M_keep_19 : decode c_M_keep 19 = .ok (.invokevirtual 52, 3) := by decide +kernel
theorem d_M_keep_22 : decode c_M_keep 22 = .ok (.ifCond .ne 48, 3) := by decide +kernel
theorem d_M_keep_25 : decode c_M_keep 25 = .ok (.aload_n 0, 1) := by decide +kernel
theorem d_M_keep_26 : decode c_M_keep 26 = .ok (.aload_n 0, 1) := by decide +kernel
theorem d_M_keep_27 : decode c_M_keep 27 = .ok (.getfield 33, 3) := by decide +kernel
theorem d_M_keep_30 : decode c_M_keep 30 = .ok (.iload_n 1, 1) := by decide +kernel
theorem d_M_keep_31 : decode c_M_keep 31 = .ok (.baload, 1) := by decide +kernel
theorem d_M_keep_32 : decode c_M_keep 32 = .ok (.ifCond .ne 7, 3) := by decide +kernel
theorem d_M_keep_35 : decode c_M_keep 35 = .ok (.iconst 1, 1) := by decide +kernel
theorem d_M_keep_36 : decode c_M_keep 36 = .ok (.goto 4, 3) := by decide +kernel
theorem d_M_keep_39 : decode c_M_keep 39 = .ok (.iconst 0, 1) := by decide +kernel
theorem d_M_keep_40 : decode c_M_keep 40 = .ok (.iconst 2, 1) := by decide +kernel
theorem d_M_keep_41 : decode c_M_keep 41 = .ok (.invokevirtual 52, 3) := by decide +kernel
theorem d_M_keep_44 : decode c_M_keep 44 = .ok (.ifCond .ne 26, 3) := by decide +kernel
theorem d_M_keep_47 : decode c_M_keep 47 = .ok (.aload_n 0, 1) := by decide +kernel
theorem d_M_keep_48 : decode c_M_keep 48 = .ok (.aload_n 0, 1) := by decide +kernel
theorem d_M_keep_49 : decode c_M_keep 49 = .ok (.getfield 20, 3) := by decide +kernel
theorem d_M_keep_52 : decode c_M_keep 52 = .ok (.iload_n 1, 1) := by decide +kernel
theorem d_M_keep_53 : decode c_M_keep 53 = .ok (.iaload, 1) := by decide +kernel
theorem d_M_keep_54 : decode c_M_keep 54 = .ok (.iconst 1, 1) := by decide +kernel
theorem d_M_keep_55 : decode c_M_keep 55 = .ok (.if_icmp .ne 7, 3) := by decide +kernel
theorem d_M_keep_58 : decode c_M_keep 58 = .ok (.iconst 1, 1) := by decide +kernel
theorem d_M_keep_59 : decode c_M_keep 59 = .ok (.goto 4, 3) := by decide +kernel
theorem d_M_keep_62 : decode c_M_keep 62 = .ok (.iconst 0, 1) := by decide +kernel
theorem d_M_keep_63 : decode c_M_keep 63 = .ok (.iconst 3, 1) := by decide +kernel
theorem d_M_keep_64 : decode c_M_keep 64 = .ok (.invokevirtual 52, 3) := by decide +kernel
theorem d_M_keep_67 : decode c_M_keep 67 = .ok (.ifCond .eq 4, 3) := by decide +kernel
theorem d_M_keep_70 : decode c_M_keep 70 = .ok (.return_, 1) := by decide +kernel
theorem d_M_keep_71 : decode c_M_keep 71 = .ok (.aload_n 0, 1) := by decide +kernel
theorem d_M_keep_72 : decode c_M_keep 72 = .ok (.getfield 20, 3) := by decide +kernel
theorem d_M_keep_75 : decode c_M_keep 75 = .ok (.iload_n 1, 1) := by decide +kernel
theorem d_M_keep_76 : decode c_M_keep 76 = .ok (.dup2, 1) := by decide +kernel
theorem d_M_keep_77 : decode c_M_keep 77 = .ok (.iaload, 1) := by decide +kernel
theorem d_M_keep_78 : decode c_M_keep 78 = .ok (.iconst 1, 1) := by decide +kernel
theorem d_M_keep_79 : decode c_M_keep 79 = .ok (.isub, 1) := by decide +kernel
theorem d_M_keep_80 : decode c_M_keep 80 = .ok (.iastore, 1) := by decide +kernel
theorem d_M_keep_81 : decode c_M_keep 81 = .ok (.aload_n 0, 1) := by decide +kernel
theorem d_M_keep_82 : decode c_M_keep 82 = .ok (.aload_n 0, 1) := by decide +kernel
theorem d_M_keep_83 : decode c_M_keep 83 = .ok (.iload_n 1, 1) := by decide +kernel
theorem d_M_keep_84 : decode c_M_keep 84 = .ok (.iconst 0, 1) := by decide +kernel
theorem d_M_keep_85 : decode c_M_keep 85 = .ok (.invokevirtual 56, 3) := by decide +kernel
theorem d_M_keep_88 : decode c_M_keep 88 = .ok (.bipush 32, 2) := by decide +kernel
theorem d_M_keep_90 : decode c_M_keep 90 = .ok (.iadd, 1) := by decide +kernel
theorem d_M_keep_91 : decode c_M_keep 91 = .ok (.aload_n 0, 1) := by decide +kernel
theorem d_M_keep_92 : decode c_M_keep 92 = .ok (.iload_n 1, 1) := by decide +kernel
theorem d_M_keep_93 : decode c_M_keep 93 = .ok (.iconst 0, 1) := by decide +kernel
theorem d_M_keep_94 : decode c_M_keep 94 = .ok (.invokevirtual 56, 3) := by decide +kernel
theorem d_M_keep_97 : decode c_M_keep 97 = .ok (.invokevirtual 69, 3) := by decide +kernel
theorem d_M_keep_100 : decode c_M_keep 100 = .ok (.return_, 1) := by decide +kernel
theorem d_M_done_0 : decode c_M_done 0 = .ok (.aload_n 0, 1) := by decide +kernel
theorem d_M_done_1 : decode c_M_done 1 = .ok (.iconst 0, 1) := by decide +kernel
theorem d_M_done_2 : decode c_M_done 2 = .ok (.putfield 36, 3) := by decide +kernel
theorem d_M_done_5 : decode c_M_done 5 = .ok (.aload_n 0, 1) := by decide +kernel
theorem d_M_done_6 : decode c_M_done 6 = .ok (.iload_n 1, 1) := by decide +kernel
theorem d_M_done_7 : decode c_M_done 7 = .ok (.invokestatic 48, 3) := by decide +kernel
theorem d_M_done_10 : decode c_M_done 10 = .ok (.ifCond .ne 7, 3) := by decide +kernel
theorem d_M_done_13 : decode c_M_done 13 = .ok (.iconst 1, 1) := by decide +kernel
theorem d_M_done_14 : decode c_M_done 14 = .ok (.goto 4, 3) := by decide +kernel
theorem d_M_done_17 : decode c_M_done 17 = .ok (.iconst 0, 1) := by decide +kernel
theorem d_M_done_18 : decode c_M_done 18 = .ok (.iconst 1, 1) := by decide +kernel
theorem d_M_done_19 : decode c_M_done 19 = .ok (.invokevirtual 52, 3) := by decide +kernel
theorem d_M_done_22 : decode c_M_done 22 = .ok (.ifCond .ne 25, 3) := by decide +kernel
theorem d_M_done_25 : decode c_M_done 25 = .ok (.aload_n 0, 1) := by decide +kernel
theorem d_M_done_26 : decode c_M_done 26 = .ok (.aload_n 0, 1) := by decide +kernel
theorem d_M_done_27 : decode c_M_done 27 = .ok (.getfield 33, 3) := by decide +kernel
theorem d_M_done_30 : decode c_M_done 30 = .ok (.iload_n 1, 1) := by decide +kernel
theorem d_M_done_31 : decode c_M_done 31 = .ok (.baload, 1) := by decide +kernel
theorem d_M_done_32 : decode c_M_done 32 = .ok (.ifCond .ne 7, 3) := by decide +kernel
theorem d_M_done_35 : decode c_M_done 35 = .ok (.iconst 1, 1) := by decide +kernel
theorem d_M_done_36 : decode c_M_done 36 = .ok (.goto 4, 3) := by decide +kernel
theorem d_M_done_39 : decode c_M_done 39 = .ok (.iconst 0, 1) := by decide +kernel
theorem d_M_done_40 : decode c_M_done 40 = .ok (.iconst 2, 1) := by decide +kernel
theorem d_M_done_41 : decode c_M_done 41 = .ok (.invokevirtual 52, 3) := by decide +kernel
theorem d_M_done_44 : decode c_M_done 44 = .ok (.ifCond .eq 5, 3) := by decide +kernel
theorem d_M_done_47 : decode c_M_done 47 = .ok (.iconst 0, 1) := by decide +kernel
theorem d_M_done_48 : decode c_M_done 48 = .ok (.ireturn, 1) := by decide +kernel
theorem d_M_done_49 : decode c_M_done 49 = .ok (.aload_n 0, 1) := by decide +kernel
theorem d_M_done_50 : decode c_M_done 50 = .ok (.getfield 33, 3) := by decide +kernel
theorem d_M_done_53 : decode c_M_done 53 = .ok (.iload_n 1, 1) := by decide +kernel
theorem d_M_done_54 : decode c_M_done 54 = .ok (.iconst 0, 1) := by decide +kernel
theorem d_M_done_55 : decode c_M_done 55 = .ok (.bastore, 1) := by decide +kernel
theorem d_M_done_56 : decode c_M_done 56 = .ok (.aload_n 0, 1) := by decide +kernel
theorem d_M_done_57 : decode c_M_done 57 = .ok (.iload_n 1, 1) := by decide +kernel
theorem d_M_done_58 : decode c_M_done 58 = .ok (.invokevirtual 63, 3) := by decide +kernel
theorem d_M_done_61 : decode c_M_done 61 = .ok (.ifCond .eq 15, 3) := by decide +kernel
theorem d_M_done_64 : decode c_M_done 64 = .ok (.aload_n 0, 1) := by decide +kernel
theorem d_M_done_65 : decode c_M_done 65 = .ok (.dup, 1) := by decide +kernel
theorem d_M_done_66 : decode c_M_done 66 = .ok (.getfield 66, 3) := by decide +kernel
theorem d_M_done_69 : decode c_M_done 69 = .ok (.iconst 1, 1) := by decide +kernel
theorem d_M_done_70 : decode c_M_done 70 = .ok (.iadd, 1) := by decide +kernel
theorem d_M_done_71 : decode c_M_done 71 = .ok (.putfield 66, 3) := by decide +kernel
theorem d_M_done_74 : decode c_M_done 74 = .ok (.iconst 0, 1) := by decide +kernel
theorem d_M_done_75 : decode c_M_done 75 = .ok (.ireturn, 1) := by decide +kernel
theorem d_M_done_76 : decode c_M_done 76 = .ok (.iconst 0, 1) := by decide +kernel
theorem d_M_done_77 : decode c_M_done 77 = .ok (.istore_n 2, 1) := by decide +kernel
theorem d_M_done_78 : decode c_M_done 78 = .ok (.iload_n 2, 1) := by decide +kernel
theorem d_M_done_79 : decode c_M_done 79 = .ok (.bipush 32, 2) := by decide +kernel
theorem d_M_done_81 : decode c_M_done 81 = .ok (.if_icmp .ge 39, 3) := by decide +kernel
theorem d_M_done_84 : decode c_M_done 84 = .ok (.aload_n 0, 1) := by decide +kernel
theorem d_M_done_85 : decode c_M_done 85 = .ok (.getfield 26, 3) := by decide +kernel
theorem d_M_done_88 : decode c_M_done 88 = .ok (.aload_n 0, 1) := by decide +kernel
theorem d_M_done_89 : decode c_M_done 89 = .ok (.iload_n 1, 1) := by decide +kernel
theorem d_M_done_90 : decode c_M_done 90 = .ok (.iload_n 2, 1) := by decide +kernel
theorem d_M_done_91 : decode c_M_done 91 = .ok (.invokevirtual 56, 3) := by decide +kernel
theorem d_M_done_94 : decode c_M_done 94 = .ok (.baload, 1) := by decide +kernel
theorem d_M_done_95 : decode c_M_done 95 = .ok (.ifCond .eq 19, 3) := by decide +kernel
theorem d_M_done_98 : decode c_M_done 98 = .ok (.aload_n 0, 1) := by decide +kernel
theorem d_M_done_99 : decode c_M_done 99 = .ok (.iload_n 2, 1) := by decide +kernel
theorem d_M_done_100 : decode c_M_done 100 = .ok (.aload_n 0, 1) := by decide +kernel
theorem d_M_done_101 : decode c_M_done 101 = .ok (.getfield 13, 3) := by decide +kernel
theorem d_M_done_104 : decode c_M_done 104 = .ok (.aload_n 0, 1) := by decide +kernel
theorem d_M_done_105 : decode c_M_done 105 = .ok (.iload_n 1, 1) := by decide +kernel
theorem d_M_done_106 : decode c_M_done 106 = .ok (.iload_n 2, 1) := by decide +kernel
theorem d_M_done_107 : decode c_M_done 107 = .ok (.invokevirtual 56, 3) := by decide +kernel
theorem d_M_done_110 : decode c_M_done 110 = .ok (.laload, 1) := by decide +kernel
theorem d_M_done_111 : decode c_M_done 111 = .ok (.invokevirtual 73, 3) := by decide +kernel
theorem d_M_done_114 : decode c_M_done 114 = .ok (.iinc 2 1, 3) := by decide +kernel
theorem d_M_done_117 : decode c_M_done 117 = .ok (.goto (-39), 3) := by decide +kernel
theorem d_M_done_120 : decode c_M_done 120 = .ok (.aload_n 0, 1) := by decide +kernel
theorem d_M_done_121 : decode c_M_done 121 = .ok (.dup, 1) := by decide +kernel
theorem d_M_done_122 : decode c_M_done 122 = .ok (.getfield 77, 3) := by decide +kernel
theorem d_M_done_125 : decode c_M_done 125 = .ok (.iconst 1, 1) := by decide +kernel
theorem d_M_done_126 : decode c_M_done 126 = .ok (.iadd, 1) := by decide +kernel
theorem d_M_done_127 : decode c_M_done 127 = .ok (.putfield 77, 3) := by decide +kernel
theorem d_M_done_130 : decode c_M_done 130 = .ok (.iconst 1, 1) := by decide +kernel
theorem d_M_done_131 : decode c_M_done 131 = .ok (.ireturn, 1) := by decide +kernel
theorem d_M_change_0 : decode c_M_change 0 = .ok (.aload_n 0, 1) := by decide +kernel
theorem d_M_change_1 : decode c_M_change 1 = .ok (.getfield 9, 3) := by decide +kernel
theorem d_M_change_4 : decode c_M_change 4 = .ok (.iload_n 1, 1) := by decide +kernel
theorem d_M_change_5 : decode c_M_change 5 = .ok (.lload_n 2, 1) := by decide +kernel
theorem d_M_change_6 : decode c_M_change 6 = .ok (.lastore, 1) := by decide +kernel
theorem d_M_change_7 : decode c_M_change 7 = .ok (.aload_n 0, 1) := by decide +kernel
theorem d_M_change_8 : decode c_M_change 8 = .ok (.getfield 16, 3) := by decide +kernel
theorem d_M_change_11 : decode c_M_change 11 = .ok (.iload_n 1, 1) := by decide +kernel
theorem d_M_change_12 : decode c_M_change 12 = .ok (.dup2, 1) := by decide +kernel
theorem d_M_change_13 : decode c_M_change 13 = .ok (.iaload, 1) := by decide +kernel
theorem d_M_change_14 : decode c_M_change 14 = .ok (.iconst 1, 1) := by decide +kernel
theorem d_M_change_15 : decode c_M_change 15 = .ok (.iadd, 1) := by decide +kernel
theorem d_M_change_16 : decode c_M_change 16 = .ok (.iastore, 1) := by decide +kernel
theorem d_M_change_17 : decode c_M_change 17 = .ok (.return_, 1) := by decide +kernel
theorem d_M_leave_0 : decode c_M_leave 0 = .ok (.aload_n 0, 1) := by decide +kernel
theorem d_M_leave_1 : decode c_M_leave 1 = .ok (.iconst 0, 1) := by decide +kernel
theorem d_M_leave_2 : decode c_M_leave 2 = .ok (.putfield 36, 3) := by decide +kernel
theorem d_M_leave_5 : decode c_M_leave 5 = .ok (.aload_n 0, 1) := by decide +kernel
theorem d_M_leave_6 : decode c_M_leave 6 = .ok (.iload_n 1, 1) := by decide +kernel
theorem d_M_leave_7 : decode c_M_leave 7 = .ok (.invokestatic 48, 3) := by decide +kernel
theorem d_M_leave_10 : decode c_M_leave 10 = .ok (.ifCond .ne 7, 3) := by decide +kernel
theorem d_M_leave_13 : decode c_M_leave 13 = .ok (.iconst 1, 1) := by decide +kernel
theorem d_M_leave_14 : decode c_M_leave 14 = .ok (.goto 4, 3) := by decide +kernel
theorem d_M_leave_17 : decode c_M_leave 17 = .ok (.iconst 0, 1) := by decide +kernel
theorem d_M_leave_18 : decode c_M_leave 18 = .ok (.iconst 1, 1) := by decide +kernel
theorem d_M_leave_19 : decode c_M_leave 19 = .ok (.invokevirtual 52, 3) := by decide +kernel
theorem d_M_leave_22 : decode c_M_leave 22 = .ok (.ifCond .ne 25, 3) := by decide +kernel
theorem d_M_leave_25 : decode c_M_leave 25 = .ok (.aload_n 0, 1) := by decide +kernel
theorem d_M_leave_26 : decode c_M_leave 26 = .ok (.aload_n 0, 1) := by decide +kernel
theorem d_M_leave_27 : decode c_M_leave 27 = .ok (.getfield 33, 3) := by decide +kernel
theorem d_M_leave_30 : decode c_M_leave 30 = .ok (.iload_n 1, 1) := by decide +kernel
theorem d_M_leave_31 : decode c_M_leave 31 = .ok (.baload, 1) := by decide +kernel
theorem d_M_leave_32 : decode c_M_leave 32 = .ok (.ifCond .ne 7, 3) := by decide +kernel
theorem d_M_leave_35 : decode c_M_leave 35 = .ok (.iconst 1, 1) := by decide +kernel
theorem d_M_leave_36 : decode c_M_leave 36 = .ok (.goto 4, 3) := by decide +kernel
theorem d_M_leave_39 : decode c_M_leave 39 = .ok (.iconst 0, 1) := by decide +kernel
theorem d_M_leave_40 : decode c_M_leave 40 = .ok (.iconst 2, 1) := by decide +kernel
theorem d_M_leave_41 : decode c_M_leave 41 = .ok (.invokevirtual 52, 3) := by decide +kernel
theorem d_M_leave_44 : decode c_M_leave 44 = .ok (.ifCond .eq 4, 3) := by decide +kernel
theorem d_M_leave_47 : decode c_M_leave 47 = .ok (.return_, 1) := by decide +kernel
theorem d_M_leave_48 : decode c_M_leave 48 = .ok (.aload_n 0, 1) := by decide +kernel
theorem d_M_leave_49 : decode c_M_leave 49 = .ok (.getfield 33, 3) := by decide +kernel
theorem d_M_leave_52 : decode c_M_leave 52 = .ok (.iload_n 1, 1) := by decide +kernel
theorem d_M_leave_53 : decode c_M_leave 53 = .ok (.iconst 0, 1) := by decide +kernel
theorem d_M_leave_54 : decode c_M_leave 54 = .ok (.bastore, 1) := by decide +kernel
theorem d_M_leave_55 : decode c_M_leave 55 = .ok (.return_, 1) := by decide +kernel
theorem d_M_set_0 : decode c_M_set 0 = .ok (.aload_n 0, 1) := by decide +kernel
theorem d_M_set_1 : decode c_M_set 1 = .ok (.iconst 0, 1) := by decide +kernel
theorem d_M_set_2 : decode c_M_set 2 = .ok (.putfield 36, 3) := by decide +kernel
theorem d_M_set_5 : decode c_M_set 5 = .ok (.aload_n 0, 1) := by decide +kernel
theorem d_M_set_6 : decode c_M_set 6 = .ok (.iload_n 1, 1) := by decide +kernel
theorem d_M_set_7 : decode c_M_set 7 = .ok (.invokestatic 60, 3) := by decide +kernel
theorem d_M_set_10 : decode c_M_set 10 = .ok (.ifCond .ne 7, 3) := by decide +kernel
theorem d_M_set_13 : decode c_M_set 13 = .ok (.iconst 1, 1) := by decide +kernel
theorem d_M_set_14 : decode c_M_set 14 = .ok (.goto 4, 3) := by decide +kernel
theorem d_M_set_17 : decode c_M_set 17 = .ok (.iconst 0, 1) := by decide +kernel
theorem d_M_set_18 : decode c_M_set 18 = .ok (.iconst 1, 1) := by decide +kernel
theorem d_M_set_19 : decode c_M_set 19 = .ok (.invokevirtual 52, 3) := by decide +kernel
theorem d_M_set_22 : decode c_M_set 22 = .ok (.ifCond .eq 4, 3) := by decide +kernel
theorem d_M_set_25 : decode c_M_set 25 = .ok (.return_, 1) := by decide +kernel
theorem d_M_set_26 : decode c_M_set 26 = .ok (.aload_n 0, 1) := by decide +kernel
theorem d_M_set_27 : decode c_M_set 27 = .ok (.iload_n 1, 1) := by decide +kernel
theorem d_M_set_28 : decode c_M_set 28 = .ok (.lload_n 2, 1) := by decide +kernel
theorem d_M_set_29 : decode c_M_set 29 = .ok (.invokevirtual 73, 3) := by decide +kernel
theorem d_M_set_32 : decode c_M_set 32 = .ok (.return_, 1) := by decide +kernel
theorem d_M_cell_0 : decode c_M_cell 0 = .ok (.aload_n 0, 1) := by decide +kernel
theorem d_M_cell_1 : decode c_M_cell 1 = .ok (.iconst 0, 1) := by decide +kernel
theorem d_M_cell_2 : decode c_M_cell 2 = .ok (.putfield 36, 3) := by decide +kernel
theorem d_M_cell_5 : decode c_M_cell 5 = .ok (.aload_n 0, 1) := by decide +kernel
theorem d_M_cell_6 : decode c_M_cell 6 = .ok (.iload_n 1, 1) := by decide +kernel
theorem d_M_cell_7 : decode c_M_cell 7 = .ok (.invokestatic 60, 3) := by decide +kernel
theorem d_M_cell_10 : decode c_M_cell 10 = .ok (.ifCond .ne 7, 3) := by decide +kernel
theorem d_M_cell_13 : decode c_M_cell 13 = .ok (.iconst 1, 1) := by decide +kernel
theorem d_M_cell_14 : decode c_M_cell 14 = .ok (.goto 4, 3) := by decide +kernel
theorem d_M_cell_17 : decode c_M_cell 17 = .ok (.iconst 0, 1) := by decide +kernel
theorem d_M_cell_18 : decode c_M_cell 18 = .ok (.iconst 1, 1) := by decide +kernel
theorem d_M_cell_19 : decode c_M_cell 19 = .ok (.invokevirtual 52, 3) := by decide +kernel
theorem d_M_cell_22 : decode c_M_cell 22 = .ok (.ifCond .eq 7, 3) := by decide +kernel
theorem d_M_cell_25 : decode c_M_cell 25 = .ok (.lconst 0, 1) := by decide +kernel
theorem d_M_cell_26 : decode c_M_cell 26 = .ok (.goto 9, 3) := by decide +kernel
theorem d_M_cell_29 : decode c_M_cell 29 = .ok (.aload_n 0, 1) := by decide +kernel
theorem d_M_cell_30 : decode c_M_cell 30 = .ok (.getfield 9, 3) := by decide +kernel
theorem d_M_cell_33 : decode c_M_cell 33 = .ok (.iload_n 1, 1) := by decide +kernel
theorem d_M_cell_34 : decode c_M_cell 34 = .ok (.laload, 1) := by decide +kernel
theorem d_M_cell_35 : decode c_M_cell 35 = .ok (.lreturn, 1) := by decide +kernel
theorem d_M_changed_0 : decode c_M_changed 0 = .ok (.aload_n 0, 1) := by decide +kernel
theorem d_M_changed_1 : decode c_M_changed 1 = .ok (.iconst 0, 1) := by decide +kernel
theorem d_M_changed_2 : decode c_M_changed 2 = .ok (.putfield 36, 3) := by decide +kernel
theorem d_M_changed_5 : decode c_M_changed 5 = .ok (.aload_n 0, 1) := by decide +kernel
theorem d_M_changed_6 : decode c_M_changed 6 = .ok (.iload_n 1, 1) := by decide +kernel
theorem d_M_changed_7 : decode c_M_changed 7 = .ok (.invokestatic 60, 3) := by decide +kernel
theorem d_M_changed_10 : decode c_M_changed 10 = .ok (.ifCond .ne 7, 3) := by decide +kernel
theorem d_M_changed_13 : decode c_M_changed 13 = .ok (.iconst 1, 1) := by decide +kernel
theorem d_M_changed_14 : decode c_M_changed 14 = .ok (.goto 4, 3) := by decide +kernel
theorem d_M_changed_17 : decode c_M_changed 17 = .ok (.iconst 0, 1) := by decide +kernel
theorem d_M_changed_18 : decode c_M_changed 18 = .ok (.iconst 1, 1) := by decide +kernel
theorem d_M_changed_19 : decode c_M_changed 19 = .ok (.invokevirtual 52, 3) := by decide +kernel
theorem d_M_changed_22 : decode c_M_changed 22 = .ok (.ifCond .eq 7, 3) := by decide +kernel
theorem d_M_changed_25 : decode c_M_changed 25 = .ok (.iconst 0, 1) := by decide +kernel
theorem d_M_changed_26 : decode c_M_changed 26 = .ok (.goto 9, 3) := by decide +kernel
theorem d_M_changed_29 : decode c_M_changed 29 = .ok (.aload_n 0, 1) := by decide +kernel
theorem d_M_changed_30 : decode c_M_changed 30 = .ok (.getfield 16, 3) := by decide +kernel
theorem d_M_changed_33 : decode c_M_changed 33 = .ok (.iload_n 1, 1) := by decide +kernel
theorem d_M_changed_34 : decode c_M_changed 34 = .ok (.iaload, 1) := by decide +kernel
theorem d_M_changed_35 : decode c_M_changed 35 = .ok (.ireturn, 1) := by decide +kernel
theorem d_M_count_0 : decode c_M_count 0 = .ok (.aload_n 0, 1) := by decide +kernel
theorem d_M_count_1 : decode c_M_count 1 = .ok (.iconst 0, 1) := by decide +kernel
theorem d_M_count_2 : decode c_M_count 2 = .ok (.putfield 36, 3) := by decide +kernel
theorem d_M_count_5 : decode c_M_count 5 = .ok (.aload_n 0, 1) := by decide +kernel
theorem d_M_count_6 : decode c_M_count 6 = .ok (.iload_n 1, 1) := by decide +kernel
theorem d_M_count_7 : decode c_M_count 7 = .ok (.invokestatic 48, 3) := by decide +kernel
theorem d_M_count_10 : decode c_M_count 10 = .ok (.ifCond .eq 15, 3) := by decide +kernel
theorem d_M_count_13 : decode c_M_count 13 = .ok (.iload_n 2, 1) := by decide +kernel
theorem d_M_count_14 : decode c_M_count 14 = .ok (.i2l, 1) := by decide +kernel
theorem d_M_count_15 : decode c_M_count 15 = .ok (.lconst 0, 1) := by decide +kernel
theorem d_M_count_16 : decode c_M_count 16 = .ok (.ldc2_w 80, 3) := by decide +kernel
theorem d_M_count_19 : decode c_M_count 19 = .ok (.invokestatic 42, 3) := by decide +kernel
theorem d_M_count_22 : decode c_M_count 22 = .ok (.ifCond .ne 7, 3) := by decide +kernel
theorem d_M_count_25 : decode c_M_count 25 = .ok (.iconst 1, 1) := by decide +kernel
theorem d_M_count_26 : decode c_M_count 26 = .ok (.goto 4, 3) := by decide +kernel
theorem d_M_count_29 : decode c_M_count 29 = .ok (.iconst 0, 1) := by decide +kernel
theorem d_M_count_30 : decode c_M_count 30 = .ok (.iconst 1, 1) := by decide +kernel
theorem d_M_count_31 : decode c_M_count 31 = .ok (.invokevirtual 52, 3) := by decide +kernel
theorem d_M_count_34 : decode c_M_count 34 = .ok (.ifCond .ne 25, 3) := by decide +kernel
theorem d_M_count_37 : decode c_M_count 37 = .ok (.aload_n 0, 1) := by decide +kernel
theorem d_M_count_38 : decode c_M_count 38 = .ok (.aload_n 0, 1) := by decide +kernel
theorem d_M_count_39 : decode c_M_count 39 = .ok (.getfield 33, 3) := by decide +kernel
theorem d_M_count_42 : decode c_M_count 42 = .ok (.iload_n 1, 1) := by decide +kernel
theorem d_M_count_43 : decode c_M_count 43 = .ok (.baload, 1) := by decide +kernel
theorem d_M_count_44 : decode c_M_count 44 = .ok (.ifCond .ne 7, 3) := by decide +kernel
theorem d_M_count_47 : decode c_M_count 47 = .ok (.iconst 1, 1) := by decide +kernel
theorem d_M_count_48 : decode c_M_count 48 = .ok (.goto 4, 3) := by decide +kernel
theorem d_M_count_51 : decode c_M_count 51 = .ok (.iconst 0, 1) := by decide +kernel
theorem d_M_count_52 : decode c_M_count 52 = .ok (.iconst 2, 1) := by decide +kernel
theorem d_M_count_53 : decode c_M_count 53 = .ok (.invokevirtual 52, 3) := by decide +kernel
theorem d_M_count_56 : decode c_M_count 56 = .ok (.ifCond .eq 5, 3) := by decide +kernel
theorem d_M_count_59 : decode c_M_count 59 = .ok (.iconst 0, 1) := by decide +kernel
theorem d_M_count_60 : decode c_M_count 60 = .ok (.ireturn, 1) := by decide +kernel
theorem d_M_count_61 : decode c_M_count 61 = .ok (.iconst 0, 1) := by decide +kernel
theorem d_M_count_62 : decode c_M_count 62 = .ok (.istore_n 3, 1) := by decide +kernel
theorem d_M_count_63 : decode c_M_count 63 = .ok (.iconst 0, 1) := by decide +kernel
theorem d_M_count_64 : decode c_M_count 64 = .ok (.istore 4, 2) := by decide +kernel
theorem d_M_count_66 : decode c_M_count 66 = .ok (.iload 4, 2) := by decide +kernel
theorem d_M_count_68 : decode c_M_count 68 = .ok (.bipush 32, 2) := by decide +kernel
theorem d_M_count_70 : decode c_M_count 70 = .ok (.if_icmp .ge 54, 3) := by decide +kernel
theorem d_M_count_73 : decode c_M_count 73 = .ok (.iload_n 2, 1) := by decide +kernel
theorem d_M_count_74 : decode c_M_count 74 = .ok (.ifCond .ne 21, 3) := by decide +kernel
theorem d_M_count_77 : decode c_M_count 77 = .ok (.aload_n 0, 1) := by decide +kernel
theorem d_M_count_78 : decode c_M_count 78 = .ok (.getfield 30, 3) := by decide +kernel
theorem d_M_count_81 : decode c_M_count 81 = .ok (.bipush 32, 2) := by decide +kernel
theorem d_M_count_83 : decode c_M_count 83 = .ok (.iload_n 1, 1) := by decide +kernel
theorem d_M_count_84 : decode c_M_count 84 = .ok (.imul, 1) := by decide +kernel
theorem d_M_count_85 : decode c_M_count 85 = .ok (.iload 4, 2) := by decide +kernel
theorem d_M_count_87 : decode c_M_count 87 = .ok (.iadd, 1) := by decide +kernel
theorem d_M_count_88 : decode c_M_count 88 = .ok (.baload, 1) := by decide +kernel
theorem d_M_count_89 : decode c_M_count 89 = .ok (.ifCond .eq 29, 3) := by decide +kernel
theorem d_M_count_92 : decode c_M_count 92 = .ok (.goto 23, 3) := by decide +kernel
theorem d_M_count_95 : decode c_M_count 95 = .ok (.iload_n 2, 1) := by decide +kernel
theorem d_M_count_96 : decode c_M_count 96 = .ok (.iconst 1, 1) := by decide +kernel
theorem d_M_count_97 : decode c_M_count 97 = .ok (.if_icmp .ne 21, 3) := by decide +kernel
theorem d_M_count_100 : decode c_M_count 100 = .ok (.aload_n 0, 1) := by decide +kernel
theorem d_M_count_101 : decode c_M_count 101 = .ok (.getfield 26, 3) := by decide +kernel
theorem d_M_count_104 : decode c_M_count 104 = .ok (.aload_n 0, 1) := by decide +kernel
theorem d_M_count_105 : decode c_M_count 105 = .ok (.iload_n 1, 1) := by decide +kernel
theorem d_M_count_106 : decode c_M_count 106 = .ok (.iload 4, 2) := by decide +kernel
theorem d_M_count_108 : decode c_M_count 108 = .ok (.invokevirtual 56, 3) := by decide +kernel
theorem d_M_count_111 : decode c_M_count 111 = .ok (.baload, 1) := by decide +kernel
theorem d_M_count_112 : decode c_M_count 112 = .ok (.ifCond .eq 6, 3) := by decide +kernel
theorem d_M_count_115 : decode c_M_count 115 = .ok (.iinc 3 1, 3) := by decide +kernel
theorem d_M_count_118 : decode c_M_count 118 = .ok (.iinc 4 1, 3) := by decide +kernel
theorem d_M_count_121 : decode c_M_count 121 = .ok (.goto (-55), 3) := by decide +kernel
theorem d_M_count_124 : decode c_M_count 124 = .ok (.iload_n 2, 1) := by decide +kernel
theorem d_M_count_125 : decode c_M_count 125 = .ok (.iconst 2, 1) := by decide +kernel
theorem d_M_count_126 : decode c_M_count 126 = .ok (.if_icmp .ge 7, 3) := by decide +kernel
theorem d_M_count_129 : decode c_M_count 129 = .ok (.iload_n 3, 1) := by decide +kernel
theorem d_M_count_130 : decode c_M_count 130 = .ok (.goto 30, 3) := by decide +kernel
theorem d_M_count_133 : decode c_M_count 133 = .ok (.iload_n 2, 1) := by decide +kernel
theorem d_M_count_134 : decode c_M_count 134 = .ok (.iconst 2, 1) := by decide +kernel
theorem d_M_count_135 : decode c_M_count 135 = .ok (.if_icmp .ne 12, 3) := by decide +kernel
theorem d_M_count_138 : decode c_M_count 138 = .ok (.aload_n 0, 1) := by decide +kernel
theorem d_M_count_139 : decode c_M_count 139 = .ok (.getfield 20, 3) := by decide +kernel
theorem d_M_count_142 : decode c_M_count 142 = .ok (.iload_n 1, 1) := by decide +kernel
theorem d_M_count_143 : decode c_M_count 143 = .ok (.iaload, 1) := by decide +kernel
theorem d_M_count_144 : decode c_M_count 144 = .ok (.goto 16, 3) := by decide +kernel
theorem d_M_count_147 : decode c_M_count 147 = .ok (.aload_n 0, 1) := by decide +kernel
theorem d_M_count_148 : decode c_M_count 148 = .ok (.iload_n 1, 1) := by decide +kernel
theorem d_M_count_149 : decode c_M_count 149 = .ok (.invokevirtual 63, 3) := by decide +kernel
theorem d_M_count_152 : decode c_M_count 152 = .ok (.ifCond .eq 7, 3) := by decide +kernel
theorem d_M_count_155 : decode c_M_count 155 = .ok (.iconst 1, 1) := by decide +kernel
theorem d_M_count_156 : decode c_M_count 156 = .ok (.goto 4, 3) := by decide +kernel
theorem d_M_count_159 : decode c_M_count 159 = .ok (.iconst 0, 1) := by decide +kernel
theorem d_M_count_160 : decode c_M_count 160 = .ok (.ireturn, 1) := by decide +kernel
theorem d_M_all_0 : decode c_M_all 0 = .ok (.aload_n 0, 1) := by decide +kernel
theorem d_M_all_1 : decode c_M_all 1 = .ok (.iconst 0, 1) := by decide +kernel
theorem d_M_all_2 : decode c_M_all 2 = .ok (.putfield 36, 3) := by decide +kernel
theorem d_M_all_5 : decode c_M_all 5 = .ok (.aload_n 0, 1) := by decide +kernel
theorem d_M_all_6 : decode c_M_all 6 = .ok (.iload_n 1, 1) := by decide +kernel
theorem d_M_all_7 : decode c_M_all 7 = .ok (.i2l, 1) := by decide +kernel
theorem d_M_all_8 : decode c_M_all 8 = .ok (.lconst 0, 1) := by decide +kernel
theorem d_M_all_9 : decode c_M_all 9 = .ok (.ldc2_w 82, 3) := by decide +kernel
theorem d_M_all_12 : decode c_M_all 12 = .ok (.invokestatic 42, 3) := by decide +kernel
theorem d_M_all_15 : decode c_M_all 15 = .ok (.ifCond .ne 7, 3) := by decide +kernel
theorem d_M_all_18 : decode c_M_all 18 = .ok (.iconst 1, 1) := by decide +kernel
theorem d_M_all_19 : decode c_M_all 19 = .ok (.goto 4, 3) := by decide +kernel
theorem d_M_all_22 : decode c_M_all 22 = .ok (.iconst 0, 1) := by decide +kernel
theorem d_M_all_23 : decode c_M_all 23 = .ok (.iconst 1, 1) := by decide +kernel
theorem d_M_all_24 : decode c_M_all 24 = .ok (.invokevirtual 52, 3) := by decide +kernel
theorem d_M_all_27 : decode c_M_all 27 = .ok (.ifCond .eq 5, 3) := by decide +kernel
theorem d_M_all_30 : decode c_M_all 30 = .ok (.iconst 0, 1) := by decide +kernel
theorem d_M_all_31 : decode c_M_all 31 = .ok (.ireturn, 1) := by decide +kernel
theorem d_M_all_32 : decode c_M_all 32 = .ok (.iconst 0, 1) := by decide +kernel
theorem d_M_all_33 : decode c_M_all 33 = .ok (.istore_n 2, 1) := by decide +kernel
theorem d_M_all_34 : decode c_M_all 34 = .ok (.iconst 0, 1) := by decide +kernel
theorem d_M_all_35 : decode c_M_all 35 = .ok (.istore_n 3, 1) := by decide +kernel
theorem d_M_all_36 : decode c_M_all 36 = .ok (.iload_n 3, 1) := by decide +kernel
theorem d_M_all_37 : decode c_M_all 37 = .ok (.bipush 8, 2) := by decide +kernel
theorem d_M_all_39 : decode c_M_all 39 = .ok (.if_icmp .ge 21, 3) := by decide +kernel
theorem d_M_all_42 : decode c_M_all 42 = .ok (.aload_n 0, 1) := by decide +kernel
theorem d_M_all_43 : decode c_M_all 43 = .ok (.getfield 33, 3) := by decide +kernel
theorem d_M_all_46 : decode c_M_all 46 = .ok (.iload_n 3, 1) := by decide +kernel
theorem d_M_all_47 : decode c_M_all 47 = .ok (.baload, 1) := by decide +kernel
theorem d_M_all_48 : decode c_M_all 48 = .ok (.ifCond .eq 6, 3) := by decide +kernel
theorem d_M_all_51 : decode c_M_all 51 = .ok (.iinc 2 1, 3) := by decide +kernel
theorem d_M_all_54 : decode c_M_all 54 = .ok (.iinc 3 1, 3) := by decide +kernel
theorem d_M_all_57 : decode c_M_all 57 = .ok (.goto (-21), 3) := by decide +kernel
theorem d_M_all_60 : decode c_M_all 60 = .ok (.iload_n 1, 1) := by decide +kernel
theorem d_M_all_61 : decode c_M_all 61 = .ok (.ifCond .ne 7, 3) := by decide +kernel
theorem d_M_all_64 : decode c_M_all 64 = .ok (.iload_n 2, 1) := by decide +kernel
theorem d_M_all_65 : decode c_M_all 65 = .ok (.goto 19, 3) := by decide +kernel
theorem d_M_all_68 : decode c_M_all 68 = .ok (.iload_n 1, 1) := by decide +kernel
theorem d_M_all_69 : decode c_M_all 69 = .ok (.iconst 1, 1) := by decide +kernel
theorem d_M_all_70 : decode c_M_all 70 = .ok (.if_icmp .ne 10, 3) := by decide +kernel
theorem d_M_all_73 : decode c_M_all 73 = .ok (.aload_n 0, 1) := by decide +kernel
theorem d_M_all_74 : decode c_M_all 74 = .ok (.getfield 77, 3) := by decide +kernel
theorem d_M_all_77 : decode c_M_all 77 = .ok (.goto 7, 3) := by decide +kernel
theorem d_M_all_80 : decode c_M_all 80 = .ok (.aload_n 0, 1) := by decide +kernel
theorem d_M_all_81 : decode c_M_all 81 = .ok (.getfield 66, 3) := by decide +kernel
theorem d_M_all_84 : decode c_M_all 84 = .ok (.ireturn, 1) := by decide +kernel
