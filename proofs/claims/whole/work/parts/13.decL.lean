/-! What each instruction is: class CommitDeskLaw. -/
theorem d_L_begin_0 : decode c_L_begin 0 = .ok (.aload_n 0, 1) := by decide +kernel
theorem d_L_begin_1 : decode c_L_begin 1 = .ok (.iload_n 1, 1) := by decide +kernel
theorem d_L_begin_2 : decode c_L_begin 2 = .ok (.invokevirtual 7, 3) := by decide +kernel
theorem d_L_begin_5 : decode c_L_begin 5 = .ok (.goto 9, 3) := by decide +kernel
theorem d_L_begin_8 : decode c_L_begin 8 = .ok (.astore_n 2, 1) := by decide +kernel
theorem d_L_begin_9 : decode c_L_begin 9 = .ok (.iconst 1, 1) := by decide +kernel
theorem d_L_begin_10 : decode c_L_begin 10 = .ok (.ireturn, 1) := by decide +kernel
theorem d_L_begin_11 : decode c_L_begin 11 = .ok (.astore_n 2, 1) := by decide +kernel
theorem d_L_begin_12 : decode c_L_begin 12 = .ok (.iconst 2, 1) := by decide +kernel
theorem d_L_begin_13 : decode c_L_begin 13 = .ok (.ireturn, 1) := by decide +kernel
theorem d_L_begin_14 : decode c_L_begin 14 = .ok (.iconst 0, 1) := by decide +kernel
theorem d_L_begin_15 : decode c_L_begin 15 = .ok (.ireturn, 1) := by decide +kernel
theorem d_L_read_0 : decode c_L_read 0 = .ok (.aload_n 3, 1) := by decide +kernel
theorem d_L_read_1 : decode c_L_read 1 = .ok (.iconst 0, 1) := by decide +kernel
theorem d_L_read_2 : decode c_L_read 2 = .ok (.aload_n 0, 1) := by decide +kernel
theorem d_L_read_3 : decode c_L_read 3 = .ok (.iload_n 1, 1) := by decide +kernel
theorem d_L_read_4 : decode c_L_read 4 = .ok (.iload_n 2, 1) := by decide +kernel
theorem d_L_read_5 : decode c_L_read 5 = .ok (.invokevirtual 17, 3) := by decide +kernel
theorem d_L_read_8 : decode c_L_read 8 = .ok (.lastore, 1) := by decide +kernel
theorem d_L_read_9 : decode c_L_read 9 = .ok (.goto 19, 3) := by decide +kernel
theorem d_L_read_12 : decode c_L_read 12 = .ok (.astore 4, 2) := by decide +kernel
theorem d_L_read_14 : decode c_L_read 14 = .ok (.iconst 1, 1) := by decide +kernel
theorem d_L_read_15 : decode c_L_read 15 = .ok (.ireturn, 1) := by decide +kernel
theorem d_L_read_16 : decode c_L_read 16 = .ok (.astore 4, 2) := by decide +kernel
theorem d_L_read_18 : decode c_L_read 18 = .ok (.iconst 2, 1) := by decide +kernel
theorem d_L_read_19 : decode c_L_read 19 = .ok (.ireturn, 1) := by decide +kernel
theorem d_L_read_20 : decode c_L_read 20 = .ok (.astore 4, 2) := by decide +kernel
theorem d_L_read_22 : decode c_L_read 22 = .ok (.iconst 3, 1) := by decide +kernel
theorem d_L_read_23 : decode c_L_read 23 = .ok (.ireturn, 1) := by decide +kernel
theorem d_L_read_24 : decode c_L_read 24 = .ok (.astore 4, 2) := by decide +kernel
theorem d_L_read_26 : decode c_L_read 26 = .ok (.iconst 4, 1) := by decide +kernel
theorem d_L_read_27 : decode c_L_read 27 = .ok (.ireturn, 1) := by decide +kernel
theorem d_L_read_28 : decode c_L_read 28 = .ok (.iconst 0, 1) := by decide +kernel
theorem d_L_read_29 : decode c_L_read 29 = .ok (.ireturn, 1) := by decide +kernel
theorem d_L_write_0 : decode c_L_write 0 = .ok (.aload_n 0, 1) := by decide +kernel
theorem d_L_write_1 : decode c_L_write 1 = .ok (.iload_n 1, 1) := by decide +kernel
theorem d_L_write_2 : decode c_L_write 2 = .ok (.iload_n 2, 1) := by decide +kernel
theorem d_L_write_3 : decode c_L_write 3 = .ok (.lload_n 3, 1) := by decide +kernel
theorem d_L_write_4 : decode c_L_write 4 = .ok (.invokevirtual 25, 3) := by decide +kernel
theorem d_L_write_7 : decode c_L_write 7 = .ok (.goto 15, 3) := by decide +kernel
theorem d_L_write_10 : decode c_L_write 10 = .ok (.astore 5, 2) := by decide +kernel
theorem d_L_write_12 : decode c_L_write 12 = .ok (.iconst 1, 1) := by decide +kernel
theorem d_L_write_13 : decode c_L_write 13 = .ok (.ireturn, 1) := by decide +kernel
theorem d_L_write_14 : decode c_L_write 14 = .ok (.astore 5, 2) := by decide +kernel
theorem d_L_write_16 : decode c_L_write 16 = .ok (.iconst 2, 1) := by decide +kernel
theorem d_L_write_17 : decode c_L_write 17 = .ok (.ireturn, 1) := by decide +kernel
theorem d_L_write_18 : decode c_L_write 18 = .ok (.astore 5, 2) := by decide +kernel
theorem d_L_write_20 : decode c_L_write 20 = .ok (.iconst 3, 1) := by decide +kernel
theorem d_L_write_21 : decode c_L_write 21 = .ok (.ireturn, 1) := by decide +kernel
theorem d_L_write_22 : decode c_L_write 22 = .ok (.iconst 0, 1) := by decide +kernel
theorem d_L_write_23 : decode c_L_write 23 = .ok (.ireturn, 1) := by decide +kernel
theorem d_L_save_0 : decode c_L_save 0 = .ok (.aload_n 2, 1) := by decide +kernel
theorem d_L_save_1 : decode c_L_save 1 = .ok (.iconst 0, 1) := by decide +kernel
theorem d_L_save_2 : decode c_L_save 2 = .ok (.aload_n 0, 1) := by decide +kernel
theorem d_L_save_3 : decode c_L_save 3 = .ok (.iload_n 1, 1) := by decide +kernel
theorem d_L_save_4 : decode c_L_save 4 = .ok (.invokevirtual 29, 3) := by decide +kernel
theorem d_L_save_7 : decode c_L_save 7 = .ok (.i2l, 1) := by decide +kernel
theorem d_L_save_8 : decode c_L_save 8 = .ok (.lastore, 1) := by decide +kernel
theorem d_L_save_9 : decode c_L_save 9 = .ok (.goto 12, 3) := by decide +kernel
theorem d_L_save_12 : decode c_L_save 12 = .ok (.astore_n 3, 1) := by decide +kernel
theorem d_L_save_13 : decode c_L_save 13 = .ok (.iconst 1, 1) := by decide +kernel
theorem d_L_save_14 : decode c_L_save 14 = .ok (.ireturn, 1) := by decide +kernel
theorem d_L_save_15 : decode c_L_save 15 = .ok (.astore_n 3, 1) := by decide +kernel
theorem d_L_save_16 : decode c_L_save 16 = .ok (.iconst 2, 1) := by decide +kernel
theorem d_L_save_17 : decode c_L_save 17 = .ok (.ireturn, 1) := by decide +kernel
theorem d_L_save_18 : decode c_L_save 18 = .ok (.astore_n 3, 1) := by decide +kernel
theorem d_L_save_19 : decode c_L_save 19 = .ok (.iconst 3, 1) := by decide +kernel
theorem d_L_save_20 : decode c_L_save 20 = .ok (.ireturn, 1) := by decide +kernel
theorem d_L_save_21 : decode c_L_save 21 = .ok (.iconst 0, 1) := by decide +kernel
theorem d_L_save_22 : decode c_L_save 22 = .ok (.ireturn, 1) := by decide +kernel
theorem d_L_back_0 : decode c_L_back 0 = .ok (.aload_n 0, 1) := by decide +kernel
theorem d_L_back_1 : decode c_L_back 1 = .ok (.iload_n 1, 1) := by decide +kernel
theorem d_L_back_2 : decode c_L_back 2 = .ok (.invokevirtual 33, 3) := by decide +kernel
theorem d_L_back_5 : decode c_L_back 5 = .ok (.goto 12, 3) := by decide +kernel
theorem d_L_back_8 : decode c_L_back 8 = .ok (.astore_n 2, 1) := by decide +kernel
theorem d_L_back_9 : decode c_L_back 9 = .ok (.iconst 1, 1) := by decide +kernel
theorem d_L_back_10 : decode c_L_back 10 = .ok (.ireturn, 1) := by decide +kernel
theorem d_L_back_11 : decode c_L_back 11 = .ok (.astore_n 2, 1) := by decide +kernel
theorem d_L_back_12 : decode c_L_back 12 = .ok (.iconst 2, 1) := by decide +kernel
theorem d_L_back_13 : decode c_L_back 13 = .ok (.ireturn, 1) := by decide +kernel
theorem d_L_back_14 : decode c_L_back 14 = .ok (.astore_n 2, 1) := by decide +kernel
theorem d_L_back_15 : decode c_L_back 15 = .ok (.iconst 3, 1) := by decide +kernel
theorem d_L_back_16 : decode c_L_back 16 = .ok (.ireturn, 1) := by decide +kernel
theorem d_L_back_17 : decode c_L_back 17 = .ok (.iconst 0, 1) := by decide +kernel
theorem d_L_back_18 : decode c_L_back 18 = .ok (.ireturn, 1) := by decide +kernel
theorem d_L_keep_0 : decode c_L_keep 0 = .ok (.aload_n 0, 1) := by decide +kernel
theorem d_L_keep_1 : decode c_L_keep 1 = .ok (.iload_n 1, 1) := by decide +kernel
theorem d_L_keep_2 : decode c_L_keep 2 = .ok (.invokevirtual 36, 3) := by decide +kernel
theorem d_L_keep_5 : decode c_L_keep 5 = .ok (.goto 12, 3) := by decide +kernel
theorem d_L_keep_8 : decode c_L_keep 8 = .ok (.astore_n 2, 1) := by decide +kernel
theorem d_L_keep_9 : decode c_L_keep 9 = .ok (.iconst 1, 1) := by decide +kernel
theorem d_L_keep_10 : decode c_L_keep 10 = .ok (.ireturn, 1) := by decide +kernel
theorem d_L_keep_11 : decode c_L_keep 11 = .ok (.astore_n 2, 1) := by decide +kernel
theorem d_L_keep_12 : decode c_L_keep 12 = .ok (.iconst 2, 1) := by decide +kernel
theorem d_L_keep_13 : decode c_L_keep 13 = .ok (.ireturn, 1) := by decide +kernel
theorem d_L_keep_14 : decode c_L_keep 14 = .ok (.astore_n 2, 1) := by decide +kernel
theorem d_L_keep_15 : decode c_L_keep 15 = .ok (.iconst 3, 1) := by decide +kernel
theorem d_L_keep_16 : decode c_L_keep 16 = .ok (.ireturn, 1) := by decide +kernel
theorem d_L_keep_17 : decode c_L_keep 17 = .ok (.iconst 0, 1) := by decide +kernel
theorem d_L_keep_18 : decode c_L_keep 18 = .ok (.ireturn, 1) := by decide +kernel
theorem d_L_done_0 : decode c_L_done 0 = .ok (.aload_n 2, 1) := by decide +kernel
theorem d_L_done_1 : decode c_L_done 1 = .ok (.iconst 0, 1) := by decide +kernel
theorem d_L_done_2 : decode c_L_done 2 = .ok (.aload_n 0, 1) := by decide +kernel
theorem d_L_done_3 : decode c_L_done 3 = .ok (.iload_n 1, 1) := by decide +kernel
theorem d_L_done_4 : decode c_L_done 4 = .ok (.invokevirtual 39, 3) := by decide +kernel
theorem d_L_done_7 : decode c_L_done 7 = .ok (.ifCond .eq 7, 3) := by decide +kernel
theorem d_L_done_10 : decode c_L_done 10 = .ok (.lconst 1, 1) := by decide +kernel
theorem d_L_done_11 : decode c_L_done 11 = .ok (.goto 4, 3) := by decide +kernel
theorem d_L_done_14 : decode c_L_done 14 = .ok (.lconst 0, 1) := by decide +kernel
theorem d_L_done_15 : decode c_L_done 15 = .ok (.lastore, 1) := by decide +kernel
theorem d_L_done_16 : decode c_L_done 16 = .ok (.goto 9, 3) := by decide +kernel
theorem d_L_done_19 : decode c_L_done 19 = .ok (.astore_n 3, 1) := by decide +kernel
theorem d_L_done_20 : decode c_L_done 20 = .ok (.iconst 1, 1) := by decide +kernel
theorem d_L_done_21 : decode c_L_done 21 = .ok (.ireturn, 1) := by decide +kernel
theorem d_L_done_22 : decode c_L_done 22 = .ok (.astore_n 3, 1) := by decide +kernel
theorem d_L_done_23 : decode c_L_done 23 = .ok (.iconst 2, 1) := by decide +kernel
theorem d_L_done_24 : decode c_L_done 24 = .ok (.ireturn, 1) := by decide +kernel
theorem d_L_done_25 : decode c_L_done 25 = .ok (.iconst 0, 1) := by decide +kernel
theorem d_L_done_26 : decode c_L_done 26 = .ok (.ireturn, 1) := by decide +kernel
theorem d_L_leave_0 : decode c_L_leave 0 = .ok (.aload_n 0, 1) := by decide +kernel
theorem d_L_leave_1 : decode c_L_leave 1 = .ok (.iload_n 1, 1) := by decide +kernel
theorem d_L_leave_2 : decode c_L_leave 2 = .ok (.invokevirtual 43, 3) := by decide +kernel
theorem d_L_leave_5 : decode c_L_leave 5 = .ok (.goto 9, 3) := by decide +kernel
theorem d_L_leave_8 : decode c_L_leave 8 = .ok (.astore_n 2, 1) := by decide +kernel
theorem d_L_leave_9 : decode c_L_leave 9 = .ok (.iconst 1, 1) := by decide +kernel
theorem d_L_leave_10 : decode c_L_leave 10 = .ok (.ireturn, 1) := by decide +kernel
theorem d_L_leave_11 : decode c_L_leave 11 = .ok (.astore_n 2, 1) := by decide +kernel
theorem d_L_leave_12 : decode c_L_leave 12 = .ok (.iconst 2, 1) := by decide +kernel
theorem d_L_leave_13 : decode c_L_leave 13 = .ok (.ireturn, 1) := by decide +kernel
theorem d_L_leave_14 : decode c_L_leave 14 = .ok (.iconst 0, 1) := by decide +kernel
theorem d_L_leave_15 : decode c_L_leave 15 = .ok (.ireturn, 1) := by decide +kernel
theorem d_L_set_0 : decode c_L_set 0 = .ok (.aload_n 0, 1) := by decide +kernel
theorem d_L_set_1 : decode c_L_set 1 = .ok (.iload_n 1, 1) := by decide +kernel
theorem d_L_set_2 : decode c_L_set 2 = .ok (.lload_n 2, 1) := by decide +kernel
theorem d_L_set_3 : decode c_L_set 3 = .ok (.invokevirtual 46, 3) := by decide +kernel
theorem d_L_set_6 : decode c_L_set 6 = .ok (.goto 7, 3) := by decide +kernel
theorem d_L_set_9 : decode c_L_set 9 = .ok (.astore 4, 2) := by decide +kernel
theorem d_L_set_11 : decode c_L_set 11 = .ok (.iconst 1, 1) := by decide +kernel
theorem d_L_set_12 : decode c_L_set 12 = .ok (.ireturn, 1) := by decide +kernel
theorem d_L_set_13 : decode c_L_set 13 = .ok (.iconst 0, 1) := by decide +kernel
theorem d_L_set_14 : decode c_L_set 14 = .ok (.ireturn, 1) := by decide +kernel
theorem d_L_cell_0 : decode c_L_cell 0 = .ok (.aload_n 2, 1) := by decide +kernel
theorem d_L_cell_1 : decode c_L_cell 1 = .ok (.iconst 0, 1) := by decide +kernel
theorem d_L_cell_2 : decode c_L_cell 2 = .ok (.aload_n 0, 1) := by decide +kernel
theorem d_L_cell_3 : decode c_L_cell 3 = .ok (.iload_n 1, 1) := by decide +kernel
theorem d_L_cell_4 : decode c_L_cell 4 = .ok (.invokevirtual 50, 3) := by decide +kernel
theorem d_L_cell_7 : decode c_L_cell 7 = .ok (.lastore, 1) := by decide +kernel
theorem d_L_cell_8 : decode c_L_cell 8 = .ok (.goto 6, 3) := by decide +kernel
theorem d_L_cell_11 : decode c_L_cell 11 = .ok (.astore_n 3, 1) := by decide +kernel
theorem d_L_cell_12 : decode c_L_cell 12 = .ok (.iconst 1, 1) := by decide +kernel
theorem d_L_cell_13 : decode c_L_cell 13 = .ok (.ireturn, 1) := by decide +kernel
theorem d_L_cell_14 : decode c_L_cell 14 = .ok (.iconst 0, 1) := by decide +kernel
theorem d_L_cell_15 : decode c_L_cell 15 = .ok (.ireturn, 1) := by decide +kernel
theorem d_L_changed_0 : decode c_L_changed 0 = .ok (.aload_n 2, 1) := by decide +kernel
theorem d_L_changed_1 : decode c_L_changed 1 = .ok (.iconst 0, 1) := by decide +kernel
theorem d_L_changed_2 : decode c_L_changed 2 = .ok (.aload_n 0, 1) := by decide +kernel
theorem d_L_changed_3 : decode c_L_changed 3 = .ok (.iload_n 1, 1) := by decide +kernel
theorem d_L_changed_4 : decode c_L_changed 4 = .ok (.invokevirtual 54, 3) := by decide +kernel
theorem d_L_changed_7 : decode c_L_changed 7 = .ok (.i2l, 1) := by decide +kernel
theorem d_L_changed_8 : decode c_L_changed 8 = .ok (.lastore, 1) := by decide +kernel
theorem d_L_changed_9 : decode c_L_changed 9 = .ok (.goto 6, 3) := by decide +kernel
theorem d_L_changed_12 : decode c_L_changed 12 = .ok (.astore_n 3, 1) := by decide +kernel
theorem d_L_changed_13 : decode c_L_changed 13 = .ok (.iconst 1, 1) := by decide +kernel
theorem d_L_changed_14 : decode c_L_changed 14 = .ok (.ireturn, 1) := by decide +kernel
theorem d_L_changed_15 : decode c_L_changed 15 = .ok (.iconst 0, 1) := by decide +kernel
theorem d_L_changed_16 : decode c_L_changed 16 = .ok (.ireturn, 1) := by decide +kernel
theorem d_L_count_0 : decode c_L_count 0 = .ok (.aload_n 3, 1) := by decide +kernel
theorem d_L_count_1 : decode c_L_count 1 = .ok (.iconst 0, 1) := by decide +kernel
theorem d_L_count_2 : decode c_L_count 2 = .ok (.aload_n 0, 1) := by decide +kernel
theorem d_L_count_3 : decode c_L_count 3 = .ok (.iload_n 1, 1) := by decide +kernel
theorem d_L_count_4 : decode c_L_count 4 = .ok (.iload_n 2, 1) := by decide +kernel
theorem d_L_count_5 : decode c_L_count 5 = .ok (.invokevirtual 57, 3) := by decide +kernel
theorem d_L_count_8 : decode c_L_count 8 = .ok (.i2l, 1) := by decide +kernel
theorem d_L_count_9 : decode c_L_count 9 = .ok (.lastore, 1) := by decide +kernel
theorem d_L_count_10 : decode c_L_count 10 = .ok (.goto 11, 3) := by decide +kernel
theorem d_L_count_13 : decode c_L_count 13 = .ok (.astore 4, 2) := by decide +kernel
theorem d_L_count_15 : decode c_L_count 15 = .ok (.iconst 1, 1) := by decide +kernel
theorem d_L_count_16 : decode c_L_count 16 = .ok (.ireturn, 1) := by decide +kernel
theorem d_L_count_17 : decode c_L_count 17 = .ok (.astore 4, 2) := by decide +kernel
theorem d_L_count_19 : decode c_L_count 19 = .ok (.iconst 2, 1) := by decide +kernel
theorem d_L_count_20 : decode c_L_count 20 = .ok (.ireturn, 1) := by decide +kernel
theorem d_L_count_21 : decode c_L_count 21 = .ok (.iconst 0, 1) := by decide +kernel
theorem d_L_count_22 : decode c_L_count 22 = .ok (.ireturn, 1) := by decide +kernel
theorem d_L_all_0 : decode c_L_all 0 = .ok (.aload_n 2, 1) := by decide +kernel
theorem d_L_all_1 : decode c_L_all 1 = .ok (.iconst 0, 1) := by decide +kernel
theorem d_L_all_2 : decode c_L_all 2 = .ok (.aload_n 0, 1) := by decide +kernel
theorem d_L_all_3 : decode c_L_all 3 = .ok (.iload_n 1, 1) := by decide +kernel
theorem d_L_all_4 : decode c_L_all 4 = .ok (.invokevirtual 61, 3) := by decide +kernel
theorem d_L_all_7 : decode c_L_all 7 = .ok (.i2l, 1) := by decide +kernel
theorem d_L_all_8 : decode c_L_all 8 = .ok (.lastore, 1) := by decide +kernel
theorem d_L_all_9 : decode c_L_all 9 = .ok (.goto 6, 3) := by decide +kernel
theorem d_L_all_12 : decode c_L_all 12 = .ok (.astore_n 3, 1) := by decide +kernel
theorem d_L_all_13 : decode c_L_all 13 = .ok (.iconst 1, 1) := by decide +kernel
theorem d_L_all_14 : decode c_L_all 14 = .ok (.ireturn, 1) := by decide +kernel
theorem d_L_all_15 : decode c_L_all 15 = .ok (.iconst 0, 1) := by decide +kernel
theorem d_L_all_16 : decode c_L_all 16 = .ok (.ireturn, 1) := by decide +kernel
