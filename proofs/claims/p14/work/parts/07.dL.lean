theorem d_L_pages_0 : decode b_L_pages 0 = .ok (.aload_n 1, 1) := by decide +kernel
theorem d_L_pages_1 : decode b_L_pages 1 = .ok (.iconst 0, 1) := by decide +kernel
theorem d_L_pages_2 : decode b_L_pages 2 = .ok (.aload_n 0, 1) := by decide +kernel
theorem d_L_pages_3 : decode b_L_pages 3 = .ok (.invokevirtual 7, 3) := by decide +kernel
theorem d_L_pages_6 : decode b_L_pages 6 = .ok (.i2l, 1) := by decide +kernel
theorem d_L_pages_7 : decode b_L_pages 7 = .ok (.lastore, 1) := by decide +kernel
theorem d_L_pages_8 : decode b_L_pages 8 = .ok (.goto 6, 3) := by decide +kernel
theorem d_L_pages_11 : decode b_L_pages 11 = .ok (.astore_n 2, 1) := by decide +kernel
theorem d_L_pages_12 : decode b_L_pages 12 = .ok (.iconst 1, 1) := by decide +kernel
theorem d_L_pages_13 : decode b_L_pages 13 = .ok (.ireturn, 1) := by decide +kernel
theorem d_L_pages_14 : decode b_L_pages 14 = .ok (.iconst 0, 1) := by decide +kernel
theorem d_L_pages_15 : decode b_L_pages 15 = .ok (.ireturn, 1) := by decide +kernel
theorem d_L_add_0 : decode b_L_add 0 = .ok (.aload_n 1, 1) := by decide +kernel
theorem d_L_add_1 : decode b_L_add 1 = .ok (.iconst 0, 1) := by decide +kernel
theorem d_L_add_2 : decode b_L_add 2 = .ok (.aload_n 0, 1) := by decide +kernel
theorem d_L_add_3 : decode b_L_add 3 = .ok (.invokevirtual 15, 3) := by decide +kernel
theorem d_L_add_6 : decode b_L_add 6 = .ok (.i2l, 1) := by decide +kernel
theorem d_L_add_7 : decode b_L_add 7 = .ok (.lastore, 1) := by decide +kernel
theorem d_L_add_8 : decode b_L_add 8 = .ok (.goto 6, 3) := by decide +kernel
theorem d_L_add_11 : decode b_L_add 11 = .ok (.astore_n 2, 1) := by decide +kernel
theorem d_L_add_12 : decode b_L_add 12 = .ok (.iconst 1, 1) := by decide +kernel
theorem d_L_add_13 : decode b_L_add 13 = .ok (.ireturn, 1) := by decide +kernel
theorem d_L_add_14 : decode b_L_add 14 = .ok (.iconst 0, 1) := by decide +kernel
theorem d_L_add_15 : decode b_L_add 15 = .ok (.ireturn, 1) := by decide +kernel
theorem d_L_get_0 : decode b_L_get 0 = .ok (.aload_n 3, 1) := by decide +kernel
theorem d_L_get_1 : decode b_L_get 1 = .ok (.iconst 0, 1) := by decide +kernel
theorem d_L_get_2 : decode b_L_get 2 = .ok (.aload_n 0, 1) := by decide +kernel
theorem d_L_get_3 : decode b_L_get 3 = .ok (.iload_n 1, 1) := by decide +kernel
theorem d_L_get_4 : decode b_L_get 4 = .ok (.iload_n 2, 1) := by decide +kernel
theorem d_L_get_5 : decode b_L_get 5 = .ok (.invokevirtual 18, 3) := by decide +kernel
theorem d_L_get_8 : decode b_L_get 8 = .ok (.i2l, 1) := by decide +kernel
theorem d_L_get_9 : decode b_L_get 9 = .ok (.lastore, 1) := by decide +kernel
theorem d_L_get_10 : decode b_L_get 10 = .ok (.goto 11, 3) := by decide +kernel
theorem d_L_get_13 : decode b_L_get 13 = .ok (.astore 4, 2) := by decide +kernel
theorem d_L_get_15 : decode b_L_get 15 = .ok (.iconst 1, 1) := by decide +kernel
theorem d_L_get_16 : decode b_L_get 16 = .ok (.ireturn, 1) := by decide +kernel
theorem d_L_get_17 : decode b_L_get 17 = .ok (.astore 4, 2) := by decide +kernel
theorem d_L_get_19 : decode b_L_get 19 = .ok (.iconst 2, 1) := by decide +kernel
theorem d_L_get_20 : decode b_L_get 20 = .ok (.ireturn, 1) := by decide +kernel
theorem d_L_get_21 : decode b_L_get 21 = .ok (.iconst 0, 1) := by decide +kernel
theorem d_L_get_22 : decode b_L_get 22 = .ok (.ireturn, 1) := by decide +kernel
theorem d_L_put_0 : decode b_L_put 0 = .ok (.aload 4, 2) := by decide +kernel
theorem d_L_put_2 : decode b_L_put 2 = .ok (.iconst 0, 1) := by decide +kernel
theorem d_L_put_3 : decode b_L_put 3 = .ok (.aload_n 0, 1) := by decide +kernel
theorem d_L_put_4 : decode b_L_put 4 = .ok (.iload_n 1, 1) := by decide +kernel
theorem d_L_put_5 : decode b_L_put 5 = .ok (.iload_n 2, 1) := by decide +kernel
theorem d_L_put_6 : decode b_L_put 6 = .ok (.iload_n 3, 1) := by decide +kernel
theorem d_L_put_7 : decode b_L_put 7 = .ok (.invokevirtual 24, 3) := by decide +kernel
theorem d_L_put_10 : decode b_L_put 10 = .ok (.i2l, 1) := by decide +kernel
theorem d_L_put_11 : decode b_L_put 11 = .ok (.lastore, 1) := by decide +kernel
theorem d_L_put_12 : decode b_L_put 12 = .ok (.goto 11, 3) := by decide +kernel
theorem d_L_put_15 : decode b_L_put 15 = .ok (.astore 5, 2) := by decide +kernel
theorem d_L_put_17 : decode b_L_put 17 = .ok (.iconst 1, 1) := by decide +kernel
theorem d_L_put_18 : decode b_L_put 18 = .ok (.ireturn, 1) := by decide +kernel
theorem d_L_put_19 : decode b_L_put 19 = .ok (.astore 5, 2) := by decide +kernel
theorem d_L_put_21 : decode b_L_put 21 = .ok (.iconst 2, 1) := by decide +kernel
theorem d_L_put_22 : decode b_L_put 22 = .ok (.ireturn, 1) := by decide +kernel
theorem d_L_put_23 : decode b_L_put 23 = .ok (.iconst 0, 1) := by decide +kernel
theorem d_L_put_24 : decode b_L_put 24 = .ok (.ireturn, 1) := by decide +kernel
theorem d_L_move_0 : decode b_L_move 0 = .ok (.aload_n 0, 1) := by decide +kernel
theorem d_L_move_1 : decode b_L_move 1 = .ok (.iload_n 1, 1) := by decide +kernel
theorem d_L_move_2 : decode b_L_move 2 = .ok (.iload_n 2, 1) := by decide +kernel
theorem d_L_move_3 : decode b_L_move 3 = .ok (.iload_n 3, 1) := by decide +kernel
theorem d_L_move_4 : decode b_L_move 4 = .ok (.iload 4, 2) := by decide +kernel
theorem d_L_move_6 : decode b_L_move 6 = .ok (.iload 5, 2) := by decide +kernel
theorem d_L_move_8 : decode b_L_move 8 = .ok (.invokevirtual 28, 3) := by decide +kernel
theorem d_L_move_11 : decode b_L_move 11 = .ok (.goto 11, 3) := by decide +kernel
theorem d_L_move_14 : decode b_L_move 14 = .ok (.astore 6, 2) := by decide +kernel
theorem d_L_move_16 : decode b_L_move 16 = .ok (.iconst 1, 1) := by decide +kernel
theorem d_L_move_17 : decode b_L_move 17 = .ok (.ireturn, 1) := by decide +kernel
theorem d_L_move_18 : decode b_L_move 18 = .ok (.astore 6, 2) := by decide +kernel
theorem d_L_move_20 : decode b_L_move 20 = .ok (.iconst 2, 1) := by decide +kernel
theorem d_L_move_21 : decode b_L_move 21 = .ok (.ireturn, 1) := by decide +kernel
theorem d_L_move_22 : decode b_L_move 22 = .ok (.iconst 0, 1) := by decide +kernel
theorem d_L_move_23 : decode b_L_move 23 = .ok (.ireturn, 1) := by decide +kernel
theorem d_L_sum_0 : decode b_L_sum 0 = .ok (.aload_n 2, 1) := by decide +kernel
theorem d_L_sum_1 : decode b_L_sum 1 = .ok (.iconst 0, 1) := by decide +kernel
theorem d_L_sum_2 : decode b_L_sum 2 = .ok (.aload_n 0, 1) := by decide +kernel
theorem d_L_sum_3 : decode b_L_sum 3 = .ok (.iload_n 1, 1) := by decide +kernel
theorem d_L_sum_4 : decode b_L_sum 4 = .ok (.invokevirtual 32, 3) := by decide +kernel
theorem d_L_sum_7 : decode b_L_sum 7 = .ok (.lastore, 1) := by decide +kernel
theorem d_L_sum_8 : decode b_L_sum 8 = .ok (.goto 9, 3) := by decide +kernel
theorem d_L_sum_11 : decode b_L_sum 11 = .ok (.astore_n 3, 1) := by decide +kernel
theorem d_L_sum_12 : decode b_L_sum 12 = .ok (.iconst 1, 1) := by decide +kernel
theorem d_L_sum_13 : decode b_L_sum 13 = .ok (.ireturn, 1) := by decide +kernel
theorem d_L_sum_14 : decode b_L_sum 14 = .ok (.astore_n 3, 1) := by decide +kernel
theorem d_L_sum_15 : decode b_L_sum 15 = .ok (.iconst 2, 1) := by decide +kernel
theorem d_L_sum_16 : decode b_L_sum 16 = .ok (.ireturn, 1) := by decide +kernel
theorem d_L_sum_17 : decode b_L_sum 17 = .ok (.iconst 0, 1) := by decide +kernel
theorem d_L_sum_18 : decode b_L_sum 18 = .ok (.ireturn, 1) := by decide +kernel
theorem d_L_begin_0 : decode b_L_begin 0 = .ok (.aload_n 0, 1) := by decide +kernel
theorem d_L_begin_1 : decode b_L_begin 1 = .ok (.invokevirtual 36, 3) := by decide +kernel
theorem d_L_begin_4 : decode b_L_begin 4 = .ok (.goto 6, 3) := by decide +kernel
theorem d_L_begin_7 : decode b_L_begin 7 = .ok (.astore_n 1, 1) := by decide +kernel
theorem d_L_begin_8 : decode b_L_begin 8 = .ok (.iconst 1, 1) := by decide +kernel
theorem d_L_begin_9 : decode b_L_begin 9 = .ok (.ireturn, 1) := by decide +kernel
theorem d_L_begin_10 : decode b_L_begin 10 = .ok (.iconst 0, 1) := by decide +kernel
theorem d_L_begin_11 : decode b_L_begin 11 = .ok (.ireturn, 1) := by decide +kernel
theorem d_L_commit_0 : decode b_L_commit 0 = .ok (.aload_n 0, 1) := by decide +kernel
theorem d_L_commit_1 : decode b_L_commit 1 = .ok (.invokevirtual 39, 3) := by decide +kernel
theorem d_L_commit_4 : decode b_L_commit 4 = .ok (.goto 9, 3) := by decide +kernel
theorem d_L_commit_7 : decode b_L_commit 7 = .ok (.astore_n 1, 1) := by decide +kernel
theorem d_L_commit_8 : decode b_L_commit 8 = .ok (.iconst 1, 1) := by decide +kernel
theorem d_L_commit_9 : decode b_L_commit 9 = .ok (.ireturn, 1) := by decide +kernel
theorem d_L_commit_10 : decode b_L_commit 10 = .ok (.astore_n 1, 1) := by decide +kernel
theorem d_L_commit_11 : decode b_L_commit 11 = .ok (.iconst 2, 1) := by decide +kernel
theorem d_L_commit_12 : decode b_L_commit 12 = .ok (.ireturn, 1) := by decide +kernel
theorem d_L_commit_13 : decode b_L_commit 13 = .ok (.iconst 0, 1) := by decide +kernel
theorem d_L_commit_14 : decode b_L_commit 14 = .ok (.ireturn, 1) := by decide +kernel
theorem d_L_rollback_0 : decode b_L_rollback 0 = .ok (.aload_n 0, 1) := by decide +kernel
theorem d_L_rollback_1 : decode b_L_rollback 1 = .ok (.invokevirtual 44, 3) := by decide +kernel
theorem d_L_rollback_4 : decode b_L_rollback 4 = .ok (.goto 6, 3) := by decide +kernel
theorem d_L_rollback_7 : decode b_L_rollback 7 = .ok (.astore_n 1, 1) := by decide +kernel
theorem d_L_rollback_8 : decode b_L_rollback 8 = .ok (.iconst 1, 1) := by decide +kernel
theorem d_L_rollback_9 : decode b_L_rollback 9 = .ok (.ireturn, 1) := by decide +kernel
theorem d_L_rollback_10 : decode b_L_rollback 10 = .ok (.iconst 0, 1) := by decide +kernel
theorem d_L_rollback_11 : decode b_L_rollback 11 = .ok (.ireturn, 1) := by decide +kernel
theorem d_L_mark_0 : decode b_L_mark 0 = .ok (.aload_n 1, 1) := by decide +kernel
theorem d_L_mark_1 : decode b_L_mark 1 = .ok (.iconst 0, 1) := by decide +kernel
theorem d_L_mark_2 : decode b_L_mark 2 = .ok (.aload_n 0, 1) := by decide +kernel
theorem d_L_mark_3 : decode b_L_mark 3 = .ok (.invokevirtual 47, 3) := by decide +kernel
theorem d_L_mark_6 : decode b_L_mark 6 = .ok (.i2l, 1) := by decide +kernel
theorem d_L_mark_7 : decode b_L_mark 7 = .ok (.lastore, 1) := by decide +kernel
theorem d_L_mark_8 : decode b_L_mark 8 = .ok (.goto 6, 3) := by decide +kernel
theorem d_L_mark_11 : decode b_L_mark 11 = .ok (.astore_n 2, 1) := by decide +kernel
theorem d_L_mark_12 : decode b_L_mark 12 = .ok (.iconst 1, 1) := by decide +kernel
theorem d_L_mark_13 : decode b_L_mark 13 = .ok (.ireturn, 1) := by decide +kernel
theorem d_L_mark_14 : decode b_L_mark 14 = .ok (.iconst 0, 1) := by decide +kernel
theorem d_L_mark_15 : decode b_L_mark 15 = .ok (.ireturn, 1) := by decide +kernel
theorem d_L_back_0 : decode b_L_back 0 = .ok (.aload_n 0, 1) := by decide +kernel
theorem d_L_back_1 : decode b_L_back 1 = .ok (.iload_n 1, 1) := by decide +kernel
theorem d_L_back_2 : decode b_L_back 2 = .ok (.invokevirtual 50, 3) := by decide +kernel
theorem d_L_back_5 : decode b_L_back 5 = .ok (.goto 9, 3) := by decide +kernel
theorem d_L_back_8 : decode b_L_back 8 = .ok (.astore_n 2, 1) := by decide +kernel
theorem d_L_back_9 : decode b_L_back 9 = .ok (.iconst 1, 1) := by decide +kernel
theorem d_L_back_10 : decode b_L_back 10 = .ok (.ireturn, 1) := by decide +kernel
theorem d_L_back_11 : decode b_L_back 11 = .ok (.astore_n 2, 1) := by decide +kernel
theorem d_L_back_12 : decode b_L_back 12 = .ok (.iconst 2, 1) := by decide +kernel
theorem d_L_back_13 : decode b_L_back 13 = .ok (.ireturn, 1) := by decide +kernel
theorem d_L_back_14 : decode b_L_back 14 = .ok (.iconst 0, 1) := by decide +kernel
theorem d_L_back_15 : decode b_L_back 15 = .ok (.ireturn, 1) := by decide +kernel
theorem d_L_keep_0 : decode b_L_keep 0 = .ok (.aload_n 0, 1) := by decide +kernel
theorem d_L_keep_1 : decode b_L_keep 1 = .ok (.iload_n 1, 1) := by decide +kernel
theorem d_L_keep_2 : decode b_L_keep 2 = .ok (.invokevirtual 54, 3) := by decide +kernel
theorem d_L_keep_5 : decode b_L_keep 5 = .ok (.goto 9, 3) := by decide +kernel
theorem d_L_keep_8 : decode b_L_keep 8 = .ok (.astore_n 2, 1) := by decide +kernel
theorem d_L_keep_9 : decode b_L_keep 9 = .ok (.iconst 1, 1) := by decide +kernel
theorem d_L_keep_10 : decode b_L_keep 10 = .ok (.ireturn, 1) := by decide +kernel
theorem d_L_keep_11 : decode b_L_keep 11 = .ok (.astore_n 2, 1) := by decide +kernel
theorem d_L_keep_12 : decode b_L_keep 12 = .ok (.iconst 2, 1) := by decide +kernel
theorem d_L_keep_13 : decode b_L_keep 13 = .ok (.ireturn, 1) := by decide +kernel
theorem d_L_keep_14 : decode b_L_keep 14 = .ok (.iconst 0, 1) := by decide +kernel
theorem d_L_keep_15 : decode b_L_keep 15 = .ok (.ireturn, 1) := by decide +kernel
theorem d_L_power_0 : decode b_L_power 0 = .ok (.aload_n 0, 1) := by decide +kernel
theorem d_L_power_1 : decode b_L_power 1 = .ok (.iload_n 1, 1) := by decide +kernel
theorem d_L_power_2 : decode b_L_power 2 = .ok (.iload_n 2, 1) := by decide +kernel
theorem d_L_power_3 : decode b_L_power 3 = .ok (.iload_n 3, 1) := by decide +kernel
theorem d_L_power_4 : decode b_L_power 4 = .ok (.invokevirtual 57, 3) := by decide +kernel
theorem d_L_power_7 : decode b_L_power 7 = .ok (.goto 7, 3) := by decide +kernel
theorem d_L_power_10 : decode b_L_power 10 = .ok (.astore 4, 2) := by decide +kernel
theorem d_L_power_12 : decode b_L_power 12 = .ok (.iconst 1, 1) := by decide +kernel
theorem d_L_power_13 : decode b_L_power 13 = .ok (.ireturn, 1) := by decide +kernel
theorem d_L_power_14 : decode b_L_power 14 = .ok (.iconst 0, 1) := by decide +kernel
theorem d_L_power_15 : decode b_L_power 15 = .ok (.ireturn, 1) := by decide +kernel
theorem d_L_reopen_0 : decode b_L_reopen 0 = .ok (.aload_n 1, 1) := by decide +kernel
theorem d_L_reopen_1 : decode b_L_reopen 1 = .ok (.iconst 0, 1) := by decide +kernel
theorem d_L_reopen_2 : decode b_L_reopen 2 = .ok (.aload_n 0, 1) := by decide +kernel
theorem d_L_reopen_3 : decode b_L_reopen 3 = .ok (.invokevirtual 63, 3) := by decide +kernel
theorem d_L_reopen_6 : decode b_L_reopen 6 = .ok (.i2l, 1) := by decide +kernel
theorem d_L_reopen_7 : decode b_L_reopen 7 = .ok (.lastore, 1) := by decide +kernel
theorem d_L_reopen_8 : decode b_L_reopen 8 = .ok (.goto 6, 3) := by decide +kernel
theorem d_L_reopen_11 : decode b_L_reopen 11 = .ok (.astore_n 2, 1) := by decide +kernel
theorem d_L_reopen_12 : decode b_L_reopen 12 = .ok (.iconst 1, 1) := by decide +kernel
theorem d_L_reopen_13 : decode b_L_reopen 13 = .ok (.ireturn, 1) := by decide +kernel
theorem d_L_reopen_14 : decode b_L_reopen 14 = .ok (.iconst 0, 1) := by decide +kernel
theorem d_L_reopen_15 : decode b_L_reopen 15 = .ok (.ireturn, 1) := by decide +kernel
theorem d_L_told_0 : decode b_L_told 0 = .ok (.aload_n 2, 1) := by decide +kernel
theorem d_L_told_1 : decode b_L_told 1 = .ok (.iconst 0, 1) := by decide +kernel
theorem d_L_told_2 : decode b_L_told 2 = .ok (.aload_n 0, 1) := by decide +kernel
theorem d_L_told_3 : decode b_L_told 3 = .ok (.iload_n 1, 1) := by decide +kernel
theorem d_L_told_4 : decode b_L_told 4 = .ok (.invokevirtual 66, 3) := by decide +kernel
theorem d_L_told_7 : decode b_L_told 7 = .ok (.i2l, 1) := by decide +kernel
theorem d_L_told_8 : decode b_L_told 8 = .ok (.lastore, 1) := by decide +kernel
theorem d_L_told_9 : decode b_L_told 9 = .ok (.goto 6, 3) := by decide +kernel
theorem d_L_told_12 : decode b_L_told 12 = .ok (.astore_n 3, 1) := by decide +kernel
theorem d_L_told_13 : decode b_L_told 13 = .ok (.iconst 1, 1) := by decide +kernel
theorem d_L_told_14 : decode b_L_told 14 = .ok (.ireturn, 1) := by decide +kernel
theorem d_L_told_15 : decode b_L_told 15 = .ok (.iconst 0, 1) := by decide +kernel
theorem d_L_told_16 : decode b_L_told 16 = .ok (.ireturn, 1) := by decide +kernel
