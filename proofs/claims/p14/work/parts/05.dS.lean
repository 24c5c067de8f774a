theorem d_S_init_0 : decode b_S_init 0 = .ok (.aload_n 0, 1) := by decide +kernel
theorem d_S_init_1 : decode b_S_init 1 = .ok (.invokespecial 3, 3) := by decide +kernel
theorem d_S_init_4 : decode b_S_init 4 = .ok (.aload_n 0, 1) := by decide +kernel
theorem d_S_init_5 : decode b_S_init 5 = .ok (.new 9, 3) := by decide +kernel
theorem d_S_init_8 : decode b_S_init 8 = .ok (.dup, 1) := by decide +kernel
theorem d_S_init_9 : decode b_S_init 9 = .ok (.ldc 11, 2) := by decide +kernel
theorem d_S_init_11 : decode b_S_init 11 = .ok (.invokespecial 12, 3) := by decide +kernel
theorem d_S_init_14 : decode b_S_init 14 = .ok (.putfield 15, 3) := by decide +kernel
theorem d_S_init_17 : decode b_S_init 17 = .ok (.aload_n 0, 1) := by decide +kernel
theorem d_S_init_18 : decode b_S_init 18 = .ok (.new 9, 3) := by decide +kernel
theorem d_S_init_21 : decode b_S_init 21 = .ok (.dup, 1) := by decide +kernel
theorem d_S_init_22 : decode b_S_init 22 = .ok (.ldc 19, 2) := by decide +kernel
theorem d_S_init_24 : decode b_S_init 24 = .ok (.invokespecial 12, 3) := by decide +kernel
theorem d_S_init_27 : decode b_S_init 27 = .ok (.putfield 20, 3) := by decide +kernel
theorem d_S_init_30 : decode b_S_init 30 = .ok (.aload_n 0, 1) := by decide +kernel
theorem d_S_init_31 : decode b_S_init 31 = .ok (.bipush 6, 2) := by decide +kernel
theorem d_S_init_33 : decode b_S_init 33 = .ok (.anewarray 23, 3) := by decide +kernel
theorem d_S_init_36 : decode b_S_init 36 = .ok (.putfield 25, 3) := by decide +kernel
theorem d_S_init_39 : decode b_S_init 39 = .ok (.aload_n 0, 1) := by decide +kernel
theorem d_S_init_40 : decode b_S_init 40 = .ok (.new 29, 3) := by decide +kernel
theorem d_S_init_43 : decode b_S_init 43 = .ok (.dup, 1) := by decide +kernel
theorem d_S_init_44 : decode b_S_init 44 = .ok (.invokespecial 31, 3) := by decide +kernel
theorem d_S_init_47 : decode b_S_init 47 = .ok (.putfield 32, 3) := by decide +kernel
theorem d_S_init_50 : decode b_S_init 50 = .ok (.aload_n 0, 1) := by decide +kernel
theorem d_S_init_51 : decode b_S_init 51 = .ok (.sipush 260, 3) := by decide +kernel
theorem d_S_init_54 : decode b_S_init 54 = .ok (.newarray .byte, 2) := by decide +kernel
theorem d_S_init_56 : decode b_S_init 56 = .ok (.putfield 36, 3) := by decide +kernel
theorem d_S_init_59 : decode b_S_init 59 = .ok (.aload_n 0, 1) := by decide +kernel
theorem d_S_init_60 : decode b_S_init 60 = .ok (.iconst 1, 1) := by decide +kernel
theorem d_S_init_61 : decode b_S_init 61 = .ok (.putfield 40, 3) := by decide +kernel
theorem d_S_init_64 : decode b_S_init 64 = .ok (.aload_n 0, 1) := by decide +kernel
theorem d_S_init_65 : decode b_S_init 65 = .ok (.iconst 0, 1) := by decide +kernel
theorem d_S_init_66 : decode b_S_init 66 = .ok (.putfield 44, 3) := by decide +kernel
theorem d_S_init_69 : decode b_S_init 69 = .ok (.aload_n 0, 1) := by decide +kernel
theorem d_S_init_70 : decode b_S_init 70 = .ok (.iconst 0, 1) := by decide +kernel
theorem d_S_init_71 : decode b_S_init 71 = .ok (.putfield 47, 3) := by decide +kernel
theorem d_S_init_74 : decode b_S_init 74 = .ok (.aload_n 0, 1) := by decide +kernel
theorem d_S_init_75 : decode b_S_init 75 = .ok (.iconst 0, 1) := by decide +kernel
theorem d_S_init_76 : decode b_S_init 76 = .ok (.putfield 51, 3) := by decide +kernel
theorem d_S_init_79 : decode b_S_init 79 = .ok (.aload_n 0, 1) := by decide +kernel
theorem d_S_init_80 : decode b_S_init 80 = .ok (.iconst 0, 1) := by decide +kernel
theorem d_S_init_81 : decode b_S_init 81 = .ok (.putfield 54, 3) := by decide +kernel
theorem d_S_init_84 : decode b_S_init 84 = .ok (.iconst 0, 1) := by decide +kernel
theorem d_S_init_85 : decode b_S_init 85 = .ok (.istore_n 1, 1) := by decide +kernel
theorem d_S_init_86 : decode b_S_init 86 = .ok (.iload_n 1, 1) := by decide +kernel
theorem d_S_init_87 : decode b_S_init 87 = .ok (.iconst 5, 1) := by decide +kernel
theorem d_S_init_88 : decode b_S_init 88 = .ok (.if_icmp .gt 22, 3) := by decide +kernel
theorem d_S_init_91 : decode b_S_init 91 = .ok (.aload_n 0, 1) := by decide +kernel
theorem d_S_init_92 : decode b_S_init 92 = .ok (.getfield 25, 3) := by decide +kernel
theorem d_S_init_95 : decode b_S_init 95 = .ok (.iload_n 1, 1) := by decide +kernel
theorem d_S_init_96 : decode b_S_init 96 = .ok (.new 23, 3) := by decide +kernel
theorem d_S_init_99 : decode b_S_init 99 = .ok (.dup, 1) := by decide +kernel
theorem d_S_init_100 : decode b_S_init 100 = .ok (.invokespecial 57, 3) := by decide +kernel
theorem d_S_init_103 : decode b_S_init 103 = .ok (.aastore, 1) := by decide +kernel
theorem d_S_init_104 : decode b_S_init 104 = .ok (.iinc 1 1, 3) := by decide +kernel
theorem d_S_init_107 : decode b_S_init 107 = .ok (.goto (-21), 3) := by decide +kernel
theorem d_S_init_110 : decode b_S_init 110 = .ok (.return_, 1) := by decide +kernel
theorem d_S_pages_0 : decode b_S_pages 0 = .ok (.aload_n 0, 1) := by decide +kernel
theorem d_S_pages_1 : decode b_S_pages 1 = .ok (.invokevirtual 58, 3) := by decide +kernel
theorem d_S_pages_4 : decode b_S_pages 4 = .ok (.aload_n 0, 1) := by decide +kernel
theorem d_S_pages_5 : decode b_S_pages 5 = .ok (.getfield 51, 3) := by decide +kernel
theorem d_S_pages_8 : decode b_S_pages 8 = .ok (.ireturn, 1) := by decide +kernel
theorem d_S_add_0 : decode b_S_add 0 = .ok (.aload_n 0, 1) := by decide +kernel
theorem d_S_add_1 : decode b_S_add 1 = .ok (.invokevirtual 61, 3) := by decide +kernel
theorem d_S_add_4 : decode b_S_add 4 = .ok (.aload_n 0, 1) := by decide +kernel
theorem d_S_add_5 : decode b_S_add 5 = .ok (.getfield 51, 3) := by decide +kernel
theorem d_S_add_8 : decode b_S_add 8 = .ok (.sipush 768, 3) := by decide +kernel
theorem d_S_add_11 : decode b_S_add 11 = .ok (.if_icmp .lt 13, 3) := by decide +kernel
theorem d_S_add_14 : decode b_S_add 14 = .ok (.new 64, 3) := by decide +kernel
theorem d_S_add_17 : decode b_S_add 17 = .ok (.dup, 1) := by decide +kernel
theorem d_S_add_18 : decode b_S_add 18 = .ok (.ldc 66, 2) := by decide +kernel
theorem d_S_add_20 : decode b_S_add 20 = .ok (.invokespecial 68, 3) := by decide +kernel
theorem d_S_add_23 : decode b_S_add 23 = .ok (.athrow, 1) := by decide +kernel
theorem d_S_add_24 : decode b_S_add 24 = .ok (.aload_n 0, 1) := by decide +kernel
theorem d_S_add_25 : decode b_S_add 25 = .ok (.getfield 25, 3) := by decide +kernel
theorem d_S_add_28 : decode b_S_add 28 = .ok (.aload_n 0, 1) := by decide +kernel
theorem d_S_add_29 : decode b_S_add 29 = .ok (.getfield 47, 3) := by decide +kernel
theorem d_S_add_32 : decode b_S_add 32 = .ok (.aaload, 1) := by decide +kernel
theorem d_S_add_33 : decode b_S_add 33 = .ok (.aload_n 0, 1) := by decide +kernel
theorem d_S_add_34 : decode b_S_add 34 = .ok (.getfield 51, 3) := by decide +kernel
theorem d_S_add_37 : decode b_S_add 37 = .ok (.invokevirtual 71, 3) := by decide +kernel
theorem d_S_add_40 : decode b_S_add 40 = .ok (.iconst 0, 1) := by decide +kernel
theorem d_S_add_41 : decode b_S_add 41 = .ok (.invokestatic 75, 3) := by decide +kernel
theorem d_S_add_44 : decode b_S_add 44 = .ok (.aload_n 0, 1) := by decide +kernel
theorem d_S_add_45 : decode b_S_add 45 = .ok (.dup, 1) := by decide +kernel
theorem d_S_add_46 : decode b_S_add 46 = .ok (.getfield 51, 3) := by decide +kernel
theorem d_S_add_49 : decode b_S_add 49 = .ok (.iconst 1, 1) := by decide +kernel
theorem d_S_add_50 : decode b_S_add 50 = .ok (.iadd, 1) := by decide +kernel
theorem d_S_add_51 : decode b_S_add 51 = .ok (.putfield 51, 3) := by decide +kernel
theorem d_S_add_54 : decode b_S_add 54 = .ok (.aload_n 0, 1) := by decide +kernel
theorem d_S_add_55 : decode b_S_add 55 = .ok (.getfield 51, 3) := by decide +kernel
theorem d_S_add_58 : decode b_S_add 58 = .ok (.iconst 1, 1) := by decide +kernel
theorem d_S_add_59 : decode b_S_add 59 = .ok (.isub, 1) := by decide +kernel
theorem d_S_add_60 : decode b_S_add 60 = .ok (.ireturn, 1) := by decide +kernel
theorem d_S_get_0 : decode b_S_get 0 = .ok (.aload_n 0, 1) := by decide +kernel
theorem d_S_get_1 : decode b_S_get 1 = .ok (.invokevirtual 58, 3) := by decide +kernel
theorem d_S_get_4 : decode b_S_get 4 = .ok (.aload_n 0, 1) := by decide +kernel
theorem d_S_get_5 : decode b_S_get 5 = .ok (.iload_n 1, 1) := by decide +kernel
theorem d_S_get_6 : decode b_S_get 6 = .ok (.iload_n 2, 1) := by decide +kernel
theorem d_S_get_7 : decode b_S_get 7 = .ok (.invokevirtual 81, 3) := by decide +kernel
theorem d_S_get_10 : decode b_S_get 10 = .ok (.aload_n 0, 1) := by decide +kernel
theorem d_S_get_11 : decode b_S_get 11 = .ok (.iload_n 1, 1) := by decide +kernel
theorem d_S_get_12 : decode b_S_get 12 = .ok (.invokevirtual 85, 3) := by decide +kernel
theorem d_S_get_15 : decode b_S_get 15 = .ok (.iload_n 2, 1) := by decide +kernel
theorem d_S_get_16 : decode b_S_get 16 = .ok (.baload, 1) := by decide +kernel
theorem d_S_get_17 : decode b_S_get 17 = .ok (.sipush 255, 3) := by decide +kernel
theorem d_S_get_20 : decode b_S_get 20 = .ok (.iand, 1) := by decide +kernel
theorem d_S_get_21 : decode b_S_get 21 = .ok (.ireturn, 1) := by decide +kernel
theorem d_S_put_0 : decode b_S_put 0 = .ok (.aload_n 0, 1) := by decide +kernel
theorem d_S_put_1 : decode b_S_put 1 = .ok (.invokevirtual 61, 3) := by decide +kernel
theorem d_S_put_4 : decode b_S_put 4 = .ok (.aload_n 0, 1) := by decide +kernel
theorem d_S_put_5 : decode b_S_put 5 = .ok (.iload_n 1, 1) := by decide +kernel
theorem d_S_put_6 : decode b_S_put 6 = .ok (.iload_n 2, 1) := by decide +kernel
theorem d_S_put_7 : decode b_S_put 7 = .ok (.invokevirtual 81, 3) := by decide +kernel
theorem d_S_put_10 : decode b_S_put 10 = .ok (.aload_n 0, 1) := by decide +kernel
theorem d_S_put_11 : decode b_S_put 11 = .ok (.iload_n 1, 1) := by decide +kernel
theorem d_S_put_12 : decode b_S_put 12 = .ok (.invokevirtual 88, 3) := by decide +kernel
theorem d_S_put_15 : decode b_S_put 15 = .ok (.astore 4, 2) := by decide +kernel
theorem d_S_put_17 : decode b_S_put 17 = .ok (.aload 4, 2) := by decide +kernel
theorem d_S_put_19 : decode b_S_put 19 = .ok (.iload_n 2, 1) := by decide +kernel
theorem d_S_put_20 : decode b_S_put 20 = .ok (.baload, 1) := by decide +kernel
theorem d_S_put_21 : decode b_S_put 21 = .ok (.sipush 255, 3) := by decide +kernel
theorem d_S_put_24 : decode b_S_put 24 = .ok (.iand, 1) := by decide +kernel
theorem d_S_put_25 : decode b_S_put 25 = .ok (.istore 5, 2) := by decide +kernel
theorem d_S_put_27 : decode b_S_put 27 = .ok (.aload 4, 2) := by decide +kernel
theorem d_S_put_29 : decode b_S_put 29 = .ok (.iload_n 2, 1) := by decide +kernel
theorem d_S_put_30 : decode b_S_put 30 = .ok (.iload_n 3, 1) := by decide +kernel
theorem d_S_put_31 : decode b_S_put 31 = .ok (.i2b, 1) := by decide +kernel
theorem d_S_put_32 : decode b_S_put 32 = .ok (.bastore, 1) := by decide +kernel
theorem d_S_put_33 : decode b_S_put 33 = .ok (.iload 5, 2) := by decide +kernel
theorem d_S_put_35 : decode b_S_put 35 = .ok (.ireturn, 1) := by decide +kernel
theorem d_S_move_0 : decode b_S_move 0 = .ok (.aload_n 0, 1) := by decide +kernel
theorem d_S_move_1 : decode b_S_move 1 = .ok (.invokevirtual 61, 3) := by decide +kernel
theorem d_S_move_4 : decode b_S_move 4 = .ok (.aload_n 0, 1) := by decide +kernel
theorem d_S_move_5 : decode b_S_move 5 = .ok (.iload_n 1, 1) := by decide +kernel
theorem d_S_move_6 : decode b_S_move 6 = .ok (.invokevirtual 91, 3) := by decide +kernel
theorem d_S_move_9 : decode b_S_move 9 = .ok (.aload_n 0, 1) := by decide +kernel
theorem d_S_move_10 : decode b_S_move 10 = .ok (.iload_n 3, 1) := by decide +kernel
theorem d_S_move_11 : decode b_S_move 11 = .ok (.invokevirtual 91, 3) := by decide +kernel
theorem d_S_move_14 : decode b_S_move 14 = .ok (.aload_n 0, 1) := by decide +kernel
theorem d_S_move_15 : decode b_S_move 15 = .ok (.iload_n 2, 1) := by decide +kernel
theorem d_S_move_16 : decode b_S_move 16 = .ok (.iload 5, 2) := by decide +kernel
theorem d_S_move_18 : decode b_S_move 18 = .ok (.invokevirtual 94, 3) := by decide +kernel
theorem d_S_move_21 : decode b_S_move 21 = .ok (.aload_n 0, 1) := by decide +kernel
theorem d_S_move_22 : decode b_S_move 22 = .ok (.iload 4, 2) := by decide +kernel
theorem d_S_move_24 : decode b_S_move 24 = .ok (.iload 5, 2) := by decide +kernel
theorem d_S_move_26 : decode b_S_move 26 = .ok (.invokevirtual 94, 3) := by decide +kernel
theorem d_S_move_29 : decode b_S_move 29 = .ok (.aload_n 0, 1) := by decide +kernel
theorem d_S_move_30 : decode b_S_move 30 = .ok (.iload_n 3, 1) := by decide +kernel
theorem d_S_move_31 : decode b_S_move 31 = .ok (.invokevirtual 88, 3) := by decide +kernel
theorem d_S_move_34 : decode b_S_move 34 = .ok (.astore 6, 2) := by decide +kernel
theorem d_S_move_36 : decode b_S_move 36 = .ok (.aload_n 0, 1) := by decide +kernel
theorem d_S_move_37 : decode b_S_move 37 = .ok (.iload_n 1, 1) := by decide +kernel
theorem d_S_move_38 : decode b_S_move 38 = .ok (.invokevirtual 85, 3) := by decide +kernel
theorem d_S_move_41 : decode b_S_move 41 = .ok (.iload_n 2, 1) := by decide +kernel
theorem d_S_move_42 : decode b_S_move 42 = .ok (.aload 6, 2) := by decide +kernel
theorem d_S_move_44 : decode b_S_move 44 = .ok (.iload 4, 2) := by decide +kernel
theorem d_S_move_46 : decode b_S_move 46 = .ok (.iload 5, 2) := by decide +kernel
theorem d_S_move_48 : decode b_S_move 48 = .ok (.invokestatic 97, 3) := by decide +kernel
theorem d_S_move_51 : decode b_S_move 51 = .ok (.return_, 1) := by decide +kernel
theorem d_S_sum_0 : decode b_S_sum 0 = .ok (.aload_n 0, 1) := by decide +kernel
theorem d_S_sum_1 : decode b_S_sum 1 = .ok (.invokevirtual 58, 3) := by decide +kernel
theorem d_S_sum_4 : decode b_S_sum 4 = .ok (.aload_n 0, 1) := by decide +kernel
theorem d_S_sum_5 : decode b_S_sum 5 = .ok (.iload_n 1, 1) := by decide +kernel
theorem d_S_sum_6 : decode b_S_sum 6 = .ok (.invokevirtual 91, 3) := by decide +kernel
theorem d_S_sum_9 : decode b_S_sum 9 = .ok (.aload_n 0, 1) := by decide +kernel
theorem d_S_sum_10 : decode b_S_sum 10 = .ok (.iload_n 1, 1) := by decide +kernel
theorem d_S_sum_11 : decode b_S_sum 11 = .ok (.invokevirtual 85, 3) := by decide +kernel
theorem d_S_sum_14 : decode b_S_sum 14 = .ok (.astore_n 2, 1) := by decide +kernel
theorem d_S_sum_15 : decode b_S_sum 15 = .ok (.ldc2_w 103, 3) := by decide +kernel
theorem d_S_sum_18 : decode b_S_sum 18 = .ok (.lstore_n 3, 1) := by decide +kernel
theorem d_S_sum_19 : decode b_S_sum 19 = .ok (.iconst 0, 1) := by decide +kernel
theorem d_S_sum_20 : decode b_S_sum 20 = .ok (.istore 5, 2) := by decide +kernel
theorem d_S_sum_22 : decode b_S_sum 22 = .ok (.iload 5, 2) := by decide +kernel
theorem d_S_sum_24 : decode b_S_sum 24 = .ok (.sipush 256, 3) := by decide +kernel
theorem d_S_sum_27 : decode b_S_sum 27 = .ok (.if_icmp .ge 25, 3) := by decide +kernel
theorem d_S_sum_30 : decode b_S_sum 30 = .ok (.ldc2_w 105, 3) := by decide +kernel
theorem d_S_sum_33 : decode b_S_sum 33 = .ok (.lload_n 3, 1) := by decide +kernel
theorem d_S_sum_34 : decode b_S_sum 34 = .ok (.lmul, 1) := by decide +kernel
theorem d_S_sum_35 : decode b_S_sum 35 = .ok (.aload_n 2, 1) := by decide +kernel
theorem d_S_sum_36 : decode b_S_sum 36 = .ok (.iload 5, 2) := by decide +kernel
theorem d_S_sum_38 : decode b_S_sum 38 = .ok (.baload, 1) := by decide +kernel
theorem d_S_sum_39 : decode b_S_sum 39 = .ok (.sipush 255, 3) := by decide +kernel
theorem d_S_sum_42 : decode b_S_sum 42 = .ok (.iand, 1) := by decide +kernel
theorem d_S_sum_43 : decode b_S_sum 43 = .ok (.i2l, 1) := by decide +kernel
theorem d_S_sum_44 : decode b_S_sum 44 = .ok (.ladd, 1) := by decide +kernel
theorem d_S_sum_45 : decode b_S_sum 45 = .ok (.lstore_n 3, 1) := by decide +kernel
theorem d_S_sum_46 : decode b_S_sum 46 = .ok (.iinc 5 1, 3) := by decide +kernel
theorem d_S_sum_49 : decode b_S_sum 49 = .ok (.goto (-27), 3) := by decide +kernel
theorem d_S_sum_52 : decode b_S_sum 52 = .ok (.lload_n 3, 1) := by decide +kernel
theorem d_S_sum_53 : decode b_S_sum 53 = .ok (.lreturn, 1) := by decide +kernel
theorem d_S_begin_0 : decode b_S_begin 0 = .ok (.aload_n 0, 1) := by decide +kernel
theorem d_S_begin_1 : decode b_S_begin 1 = .ok (.invokevirtual 58, 3) := by decide +kernel
theorem d_S_begin_4 : decode b_S_begin 4 = .ok (.aload_n 0, 1) := by decide +kernel
theorem d_S_begin_5 : decode b_S_begin 5 = .ok (.getfield 44, 3) := by decide +kernel
theorem d_S_begin_8 : decode b_S_begin 8 = .ok (.ifCond .eq 13, 3) := by decide +kernel
theorem d_S_begin_11 : decode b_S_begin 11 = .ok (.new 64, 3) := by decide +kernel
theorem d_S_begin_14 : decode b_S_begin 14 = .ok (.dup, 1) := by decide +kernel
theorem d_S_begin_15 : decode b_S_begin 15 = .ok (.ldc 107, 2) := by decide +kernel
theorem d_S_begin_17 : decode b_S_begin 17 = .ok (.invokespecial 68, 3) := by decide +kernel
theorem d_S_begin_20 : decode b_S_begin 20 = .ok (.athrow, 1) := by decide +kernel
theorem d_S_begin_21 : decode b_S_begin 21 = .ok (.aload_n 0, 1) := by decide +kernel
theorem d_S_begin_22 : decode b_S_begin 22 = .ok (.iconst 1, 1) := by decide +kernel
theorem d_S_begin_23 : decode b_S_begin 23 = .ok (.putfield 44, 3) := by decide +kernel
theorem d_S_begin_26 : decode b_S_begin 26 = .ok (.return_, 1) := by decide +kernel
theorem d_S_commit_0 : decode b_S_commit 0 = .ok (.aload_n 0, 1) := by decide +kernel
theorem d_S_commit_1 : decode b_S_commit 1 = .ok (.invokevirtual 61, 3) := by decide +kernel
theorem d_S_commit_4 : decode b_S_commit 4 = .ok (.aload_n 0, 1) := by decide +kernel
theorem d_S_commit_5 : decode b_S_commit 5 = .ok (.iconst 1, 1) := by decide +kernel
theorem d_S_commit_6 : decode b_S_commit 6 = .ok (.invokevirtual 109, 3) := by decide +kernel
theorem d_S_commit_9 : decode b_S_commit 9 = .ok (.aload_n 0, 1) := by decide +kernel
theorem d_S_commit_10 : decode b_S_commit 10 = .ok (.invokevirtual 112, 3) := by decide +kernel
theorem d_S_commit_13 : decode b_S_commit 13 = .ok (.ifCond .eq 24, 3) := by decide +kernel
theorem d_S_commit_16 : decode b_S_commit 16 = .ok (.aload_n 0, 1) := by decide +kernel
theorem d_S_commit_17 : decode b_S_commit 17 = .ok (.invokevirtual 116, 3) := by decide +kernel
theorem d_S_commit_20 : decode b_S_commit 20 = .ok (.ifCond .eq 17, 3) := by decide +kernel
theorem d_S_commit_23 : decode b_S_commit 23 = .ok (.aload_n 0, 1) := by decide +kernel
theorem d_S_commit_24 : decode b_S_commit 24 = .ok (.getfield 32, 3) := by decide +kernel
theorem d_S_commit_27 : decode b_S_commit 27 = .ok (.invokevirtual 119, 3) := by decide +kernel
theorem d_S_commit_30 : decode b_S_commit 30 = .ok (.ifCond .ne 7, 3) := by decide +kernel
theorem d_S_commit_33 : decode b_S_commit 33 = .ok (.iconst 1, 1) := by decide +kernel
theorem d_S_commit_34 : decode b_S_commit 34 = .ok (.goto 4, 3) := by decide +kernel
theorem d_S_commit_37 : decode b_S_commit 37 = .ok (.iconst 0, 1) := by decide +kernel
theorem d_S_commit_38 : decode b_S_commit 38 = .ok (.istore_n 1, 1) := by decide +kernel
theorem d_S_commit_39 : decode b_S_commit 39 = .ok (.iload_n 1, 1) := by decide +kernel
theorem d_S_commit_40 : decode b_S_commit 40 = .ok (.ifCond .eq 37, 3) := by decide +kernel
theorem d_S_commit_43 : decode b_S_commit 43 = .ok (.aload_n 0, 1) := by decide +kernel
theorem d_S_commit_44 : decode b_S_commit 44 = .ok (.getfield 20, 3) := by decide +kernel
theorem d_S_commit_47 : decode b_S_commit 47 = .ok (.iconst 0, 1) := by decide +kernel
theorem d_S_commit_48 : decode b_S_commit 48 = .ok (.invokevirtual 122, 3) := by decide +kernel
theorem d_S_commit_51 : decode b_S_commit 51 = .ok (.aload_n 0, 1) := by decide +kernel
theorem d_S_commit_52 : decode b_S_commit 52 = .ok (.dup, 1) := by decide +kernel
theorem d_S_commit_53 : decode b_S_commit 53 = .ok (.getfield 54, 3) := by decide +kernel
theorem d_S_commit_56 : decode b_S_commit 56 = .ok (.iconst 1, 1) := by decide +kernel
theorem d_S_commit_57 : decode b_S_commit 57 = .ok (.iadd, 1) := by decide +kernel
theorem d_S_commit_58 : decode b_S_commit 58 = .ok (.putfield 54, 3) := by decide +kernel
theorem d_S_commit_61 : decode b_S_commit 61 = .ok (.aload_n 0, 1) := by decide +kernel
theorem d_S_commit_62 : decode b_S_commit 62 = .ok (.getfield 32, 3) := by decide +kernel
theorem d_S_commit_65 : decode b_S_commit 65 = .ok (.invokevirtual 125, 3) := by decide +kernel
theorem d_S_commit_68 : decode b_S_commit 68 = .ok (.ifCond .ne 7, 3) := by decide +kernel
theorem d_S_commit_71 : decode b_S_commit 71 = .ok (.iconst 1, 1) := by decide +kernel
theorem d_S_commit_72 : decode b_S_commit 72 = .ok (.goto 4, 3) := by decide +kernel
theorem d_S_commit_75 : decode b_S_commit 75 = .ok (.iconst 0, 1) := by decide +kernel
theorem d_S_commit_76 : decode b_S_commit 76 = .ok (.istore_n 1, 1) := by decide +kernel
theorem d_S_commit_77 : decode b_S_commit 77 = .ok (.aload_n 0, 1) := by decide +kernel
theorem d_S_commit_78 : decode b_S_commit 78 = .ok (.iload_n 1, 1) := by decide +kernel
theorem d_S_commit_79 : decode b_S_commit 79 = .ok (.invokevirtual 128, 3) := by decide +kernel
theorem d_S_commit_82 : decode b_S_commit 82 = .ok (.return_, 1) := by decide +kernel
theorem d_S_rollback_0 : decode b_S_rollback 0 = .ok (.aload_n 0, 1) := by decide +kernel
theorem d_S_rollback_1 : decode b_S_rollback 1 = .ok (.invokevirtual 61, 3) := by decide +kernel
theorem d_S_rollback_4 : decode b_S_rollback 4 = .ok (.aload_n 0, 1) := by decide +kernel
theorem d_S_rollback_5 : decode b_S_rollback 5 = .ok (.invokevirtual 132, 3) := by decide +kernel
theorem d_S_rollback_8 : decode b_S_rollback 8 = .ok (.return_, 1) := by decide +kernel
theorem d_S_mark_0 : decode b_S_mark 0 = .ok (.aload_n 0, 1) := by decide +kernel
theorem d_S_mark_1 : decode b_S_mark 1 = .ok (.invokevirtual 61, 3) := by decide +kernel
theorem d_S_mark_4 : decode b_S_mark 4 = .ok (.aload_n 0, 1) := by decide +kernel
theorem d_S_mark_5 : decode b_S_mark 5 = .ok (.getfield 47, 3) := by decide +kernel
theorem d_S_mark_8 : decode b_S_mark 8 = .ok (.iconst 5, 1) := by decide +kernel
theorem d_S_mark_9 : decode b_S_mark 9 = .ok (.if_icmp .lt 13, 3) := by decide +kernel
theorem d_S_mark_12 : decode b_S_mark 12 = .ok (.new 64, 3) := by decide +kernel
theorem d_S_mark_15 : decode b_S_mark 15 = .ok (.dup, 1) := by decide +kernel
theorem d_S_mark_16 : decode b_S_mark 16 = .ok (.ldc 135, 2) := by decide +kernel
theorem d_S_mark_18 : decode b_S_mark 18 = .ok (.invokespecial 68, 3) := by decide +kernel
theorem d_S_mark_21 : decode b_S_mark 21 = .ok (.athrow, 1) := by decide +kernel
theorem d_S_mark_22 : decode b_S_mark 22 = .ok (.aload_n 0, 1) := by decide +kernel
theorem d_S_mark_23 : decode b_S_mark 23 = .ok (.dup, 1) := by decide +kernel
theorem d_S_mark_24 : decode b_S_mark 24 = .ok (.getfield 47, 3) := by decide +kernel
theorem d_S_mark_27 : decode b_S_mark 27 = .ok (.iconst 1, 1) := by decide +kernel
theorem d_S_mark_28 : decode b_S_mark 28 = .ok (.iadd, 1) := by decide +kernel
theorem d_S_mark_29 : decode b_S_mark 29 = .ok (.putfield 47, 3) := by decide +kernel
theorem d_S_mark_32 : decode b_S_mark 32 = .ok (.aload_n 0, 1) := by decide +kernel
theorem d_S_mark_33 : decode b_S_mark 33 = .ok (.getfield 25, 3) := by decide +kernel
theorem d_S_mark_36 : decode b_S_mark 36 = .ok (.aload_n 0, 1) := by decide +kernel
theorem d_S_mark_37 : decode b_S_mark 37 = .ok (.getfield 47, 3) := by decide +kernel
theorem d_S_mark_40 : decode b_S_mark 40 = .ok (.aaload, 1) := by decide +kernel
theorem d_S_mark_41 : decode b_S_mark 41 = .ok (.aload_n 0, 1) := by decide +kernel
theorem d_S_mark_42 : decode b_S_mark 42 = .ok (.getfield 51, 3) := by decide +kernel
theorem d_S_mark_45 : decode b_S_mark 45 = .ok (.invokevirtual 137, 3) := by decide +kernel
theorem d_S_mark_48 : decode b_S_mark 48 = .ok (.aload_n 0, 1) := by decide +kernel
theorem d_S_mark_49 : decode b_S_mark 49 = .ok (.getfield 47, 3) := by decide +kernel
theorem d_S_mark_52 : decode b_S_mark 52 = .ok (.ireturn, 1) := by decide +kernel
theorem d_S_back_0 : decode b_S_back 0 = .ok (.aload_n 0, 1) := by decide +kernel
theorem d_S_back_1 : decode b_S_back 1 = .ok (.invokevirtual 61, 3) := by decide +kernel
theorem d_S_back_4 : decode b_S_back 4 = .ok (.aload_n 0, 1) := by decide +kernel
theorem d_S_back_5 : decode b_S_back 5 = .ok (.iload_n 1, 1) := by decide +kernel
theorem d_S_back_6 : decode b_S_back 6 = .ok (.invokevirtual 140, 3) := by decide +kernel
theorem d_S_back_9 : decode b_S_back 9 = .ok (.aload_n 0, 1) := by decide +kernel
theorem d_S_back_10 : decode b_S_back 10 = .ok (.iload_n 1, 1) := by decide +kernel
theorem d_S_back_11 : decode b_S_back 11 = .ok (.putfield 47, 3) := by decide +kernel
theorem d_S_back_14 : decode b_S_back 14 = .ok (.aload_n 0, 1) := by decide +kernel
theorem d_S_back_15 : decode b_S_back 15 = .ok (.aload_n 0, 1) := by decide +kernel
theorem d_S_back_16 : decode b_S_back 16 = .ok (.getfield 25, 3) := by decide +kernel
theorem d_S_back_19 : decode b_S_back 19 = .ok (.iload_n 1, 1) := by decide +kernel
theorem d_S_back_20 : decode b_S_back 20 = .ok (.aaload, 1) := by decide +kernel
theorem d_S_back_21 : decode b_S_back 21 = .ok (.invokevirtual 143, 3) := by decide +kernel
theorem d_S_back_24 : decode b_S_back 24 = .ok (.putfield 51, 3) := by decide +kernel
theorem d_S_back_27 : decode b_S_back 27 = .ok (.aload_n 0, 1) := by decide +kernel
theorem d_S_back_28 : decode b_S_back 28 = .ok (.getfield 25, 3) := by decide +kernel
theorem d_S_back_31 : decode b_S_back 31 = .ok (.iload_n 1, 1) := by decide +kernel
theorem d_S_back_32 : decode b_S_back 32 = .ok (.aaload, 1) := by decide +kernel
theorem d_S_back_33 : decode b_S_back 33 = .ok (.aload_n 0, 1) := by decide +kernel
theorem d_S_back_34 : decode b_S_back 34 = .ok (.getfield 51, 3) := by decide +kernel
theorem d_S_back_37 : decode b_S_back 37 = .ok (.invokevirtual 137, 3) := by decide +kernel
theorem d_S_back_40 : decode b_S_back 40 = .ok (.return_, 1) := by decide +kernel
theorem d_S_keep_0 : decode b_S_keep 0 = .ok (.aload_n 0, 1) := by decide +kernel
theorem d_S_keep_1 : decode b_S_keep 1 = .ok (.invokevirtual 61, 3) := by decide +kernel
theorem d_S_keep_4 : decode b_S_keep 4 = .ok (.aload_n 0, 1) := by decide +kernel
theorem d_S_keep_5 : decode b_S_keep 5 = .ok (.iload_n 1, 1) := by decide +kernel
theorem d_S_keep_6 : decode b_S_keep 6 = .ok (.invokevirtual 140, 3) := by decide +kernel
theorem d_S_keep_9 : decode b_S_keep 9 = .ok (.aload_n 0, 1) := by decide +kernel
theorem d_S_keep_10 : decode b_S_keep 10 = .ok (.iload_n 1, 1) := by decide +kernel
theorem d_S_keep_11 : decode b_S_keep 11 = .ok (.invokevirtual 109, 3) := by decide +kernel
theorem d_S_keep_14 : decode b_S_keep 14 = .ok (.return_, 1) := by decide +kernel
theorem d_S_power_0 : decode b_S_power 0 = .ok (.iload_n 1, 1) := by decide +kernel
theorem d_S_power_1 : decode b_S_power 1 = .ok (.ifCond .lt 8, 3) := by decide +kernel
theorem d_S_power_4 : decode b_S_power 4 = .ok (.iload_n 1, 1) := by decide +kernel
theorem d_S_power_5 : decode b_S_power 5 = .ok (.iconst 4, 1) := by decide +kernel
theorem d_S_power_6 : decode b_S_power 6 = .ok (.if_icmp .le 13, 3) := by decide +kernel
theorem d_S_power_9 : decode b_S_power 9 = .ok (.new 147, 3) := by decide +kernel
theorem d_S_power_12 : decode b_S_power 12 = .ok (.dup, 1) := by decide +kernel
theorem d_S_power_13 : decode b_S_power 13 = .ok (.ldc 149, 2) := by decide +kernel
theorem d_S_power_15 : decode b_S_power 15 = .ok (.invokespecial 151, 3) := by decide +kernel
theorem d_S_power_18 : decode b_S_power 18 = .ok (.athrow, 1) := by decide +kernel
theorem d_S_power_19 : decode b_S_power 19 = .ok (.iload_n 2, 1) := by decide +kernel
theorem d_S_power_20 : decode b_S_power 20 = .ok (.ifCond .lt 10, 3) := by decide +kernel
theorem d_S_power_23 : decode b_S_power 23 = .ok (.iload_n 2, 1) := by decide +kernel
theorem d_S_power_24 : decode b_S_power 24 = .ok (.sipush 1000, 3) := by decide +kernel
theorem d_S_power_27 : decode b_S_power 27 = .ok (.if_icmp .le 13, 3) := by decide +kernel
theorem d_S_power_30 : decode b_S_power 30 = .ok (.new 147, 3) := by decide +kernel
theorem d_S_power_33 : decode b_S_power 33 = .ok (.dup, 1) := by decide +kernel
theorem d_S_power_34 : decode b_S_power 34 = .ok (.ldc 152, 2) := by decide +kernel
theorem d_S_power_36 : decode b_S_power 36 = .ok (.invokespecial 151, 3) := by decide +kernel
theorem d_S_power_39 : decode b_S_power 39 = .ok (.athrow, 1) := by decide +kernel
theorem d_S_power_40 : decode b_S_power 40 = .ok (.iload_n 3, 1) := by decide +kernel
theorem d_S_power_41 : decode b_S_power 41 = .ok (.ifCond .lt 10, 3) := by decide +kernel
theorem d_S_power_44 : decode b_S_power 44 = .ok (.iload_n 3, 1) := by decide +kernel
theorem d_S_power_45 : decode b_S_power 45 = .ok (.sipush 300, 3) := by decide +kernel
theorem d_S_power_48 : decode b_S_power 48 = .ok (.if_icmp .le 13, 3) := by decide +kernel
theorem d_S_power_51 : decode b_S_power 51 = .ok (.new 147, 3) := by decide +kernel
theorem d_S_power_54 : decode b_S_power 54 = .ok (.dup, 1) := by decide +kernel
theorem d_S_power_55 : decode b_S_power 55 = .ok (.ldc 154, 2) := by decide +kernel
theorem d_S_power_57 : decode b_S_power 57 = .ok (.invokespecial 151, 3) := by decide +kernel
theorem d_S_power_60 : decode b_S_power 60 = .ok (.athrow, 1) := by decide +kernel
theorem d_S_power_61 : decode b_S_power 61 = .ok (.aload_n 0, 1) := by decide +kernel
theorem d_S_power_62 : decode b_S_power 62 = .ok (.getfield 32, 3) := by decide +kernel
theorem d_S_power_65 : decode b_S_power 65 = .ok (.iload_n 1, 1) := by decide +kernel
theorem d_S_power_66 : decode b_S_power 66 = .ok (.iload_n 2, 1) := by decide +kernel
theorem d_S_power_67 : decode b_S_power 67 = .ok (.iload_n 3, 1) := by decide +kernel
theorem d_S_power_68 : decode b_S_power 68 = .ok (.invokevirtual 156, 3) := by decide +kernel
theorem d_S_power_71 : decode b_S_power 71 = .ok (.return_, 1) := by decide +kernel
theorem d_S_reopen_0 : decode b_S_reopen 0 = .ok (.aload_n 0, 1) := by decide +kernel
theorem d_S_reopen_1 : decode b_S_reopen 1 = .ok (.invokevirtual 160, 3) := by decide +kernel
theorem d_S_reopen_4 : decode b_S_reopen 4 = .ok (.ifCond .eq 17, 3) := by decide +kernel
theorem d_S_reopen_7 : decode b_S_reopen 7 = .ok (.aload_n 0, 1) := by decide +kernel
theorem d_S_reopen_8 : decode b_S_reopen 8 = .ok (.getfield 32, 3) := by decide +kernel
theorem d_S_reopen_11 : decode b_S_reopen 11 = .ok (.invokevirtual 163, 3) := by decide +kernel
theorem d_S_reopen_14 : decode b_S_reopen 14 = .ok (.ifCond .ne 7, 3) := by decide +kernel
theorem d_S_reopen_17 : decode b_S_reopen 17 = .ok (.iconst 1, 1) := by decide +kernel
theorem d_S_reopen_18 : decode b_S_reopen 18 = .ok (.goto 4, 3) := by decide +kernel
theorem d_S_reopen_21 : decode b_S_reopen 21 = .ok (.iconst 0, 1) := by decide +kernel
theorem d_S_reopen_22 : decode b_S_reopen 22 = .ok (.istore_n 1, 1) := by decide +kernel
theorem d_S_reopen_23 : decode b_S_reopen 23 = .ok (.iload_n 1, 1) := by decide +kernel
theorem d_S_reopen_24 : decode b_S_reopen 24 = .ok (.ifCond .eq 11, 3) := by decide +kernel
theorem d_S_reopen_27 : decode b_S_reopen 27 = .ok (.aload_n 0, 1) := by decide +kernel
theorem d_S_reopen_28 : decode b_S_reopen 28 = .ok (.getfield 20, 3) := by decide +kernel
theorem d_S_reopen_31 : decode b_S_reopen 31 = .ok (.iconst 0, 1) := by decide +kernel
theorem d_S_reopen_32 : decode b_S_reopen 32 = .ok (.invokevirtual 122, 3) := by decide +kernel
theorem d_S_reopen_35 : decode b_S_reopen 35 = .ok (.aload_n 0, 1) := by decide +kernel
theorem d_S_reopen_36 : decode b_S_reopen 36 = .ok (.iload_n 1, 1) := by decide +kernel
theorem d_S_reopen_37 : decode b_S_reopen 37 = .ok (.invokevirtual 128, 3) := by decide +kernel
theorem d_S_reopen_40 : decode b_S_reopen 40 = .ok (.aload_n 0, 1) := by decide +kernel
theorem d_S_reopen_41 : decode b_S_reopen 41 = .ok (.getfield 51, 3) := by decide +kernel
theorem d_S_reopen_44 : decode b_S_reopen 44 = .ok (.ireturn, 1) := by decide +kernel
theorem d_S_told_0 : decode b_S_told 0 = .ok (.iload_n 1, 1) := by decide +kernel
theorem d_S_told_1 : decode b_S_told 1 = .ok (.tableswitch 67 0 3 #[31, 44, 57, 62], 31) := by decide +kernel
theorem d_S_told_32 : decode b_S_told 32 = .ok (.aload_n 0, 1) := by decide +kernel
theorem d_S_told_33 : decode b_S_told 33 = .ok (.getfield 40, 3) := by decide +kernel
theorem d_S_told_36 : decode b_S_told 36 = .ok (.ifCond .eq 7, 3) := by decide +kernel
theorem d_S_told_39 : decode b_S_told 39 = .ok (.iconst 1, 1) := by decide +kernel
theorem d_S_told_40 : decode b_S_told 40 = .ok (.goto 4, 3) := by decide +kernel
theorem d_S_told_43 : decode b_S_told 43 = .ok (.iconst 0, 1) := by decide +kernel
theorem d_S_told_44 : decode b_S_told 44 = .ok (.ireturn, 1) := by decide +kernel
theorem d_S_told_45 : decode b_S_told 45 = .ok (.aload_n 0, 1) := by decide +kernel
theorem d_S_told_46 : decode b_S_told 46 = .ok (.getfield 44, 3) := by decide +kernel
theorem d_S_told_49 : decode b_S_told 49 = .ok (.ifCond .eq 7, 3) := by decide +kernel
theorem d_S_told_52 : decode b_S_told 52 = .ok (.iconst 1, 1) := by decide +kernel
theorem d_S_told_53 : decode b_S_told 53 = .ok (.goto 4, 3) := by decide +kernel
theorem d_S_told_56 : decode b_S_told 56 = .ok (.iconst 0, 1) := by decide +kernel
theorem d_S_told_57 : decode b_S_told 57 = .ok (.ireturn, 1) := by decide +kernel
theorem d_S_told_58 : decode b_S_told 58 = .ok (.aload_n 0, 1) := by decide +kernel
theorem d_S_told_59 : decode b_S_told 59 = .ok (.getfield 47, 3) := by decide +kernel
theorem d_S_told_62 : decode b_S_told 62 = .ok (.ireturn, 1) := by decide +kernel
theorem d_S_told_63 : decode b_S_told 63 = .ok (.aload_n 0, 1) := by decide +kernel
theorem d_S_told_64 : decode b_S_told 64 = .ok (.getfield 54, 3) := by decide +kernel
theorem d_S_told_67 : decode b_S_told 67 = .ok (.ireturn, 1) := by decide +kernel
theorem d_S_told_68 : decode b_S_told 68 = .ok (.new 147, 3) := by decide +kernel
theorem d_S_told_71 : decode b_S_told 71 = .ok (.dup, 1) := by decide +kernel
theorem d_S_told_72 : decode b_S_told 72 = .ok (.ldc 166, 2) := by decide +kernel
theorem d_S_told_74 : decode b_S_told 74 = .ok (.invokespecial 151, 3) := by decide +kernel
theorem d_S_told_77 : decode b_S_told 77 = .ok (.athrow, 1) := by decide +kernel
theorem d_S_requireOn_0 : decode b_S_requireOn 0 = .ok (.aload_n 0, 1) := by decide +kernel
theorem d_S_requireOn_1 : decode b_S_requireOn 1 = .ok (.getfield 40, 3) := by decide +kernel
theorem d_S_requireOn_4 : decode b_S_requireOn 4 = .ok (.ifCond .ne 13, 3) := by decide +kernel
theorem d_S_requireOn_7 : decode b_S_requireOn 7 = .ok (.new 64, 3) := by decide +kernel
theorem d_S_requireOn_10 : decode b_S_requireOn 10 = .ok (.dup, 1) := by decide +kernel
theorem d_S_requireOn_11 : decode b_S_requireOn 11 = .ok (.ldc 168, 2) := by decide +kernel
theorem d_S_requireOn_13 : decode b_S_requireOn 13 = .ok (.invokespecial 68, 3) := by decide +kernel
theorem d_S_requireOn_16 : decode b_S_requireOn 16 = .ok (.athrow, 1) := by decide +kernel
theorem d_S_requireOn_17 : decode b_S_requireOn 17 = .ok (.return_, 1) := by decide +kernel
theorem d_S_requireOpen_0 : decode b_S_requireOpen 0 = .ok (.aload_n 0, 1) := by decide +kernel
theorem d_S_requireOpen_1 : decode b_S_requireOpen 1 = .ok (.invokevirtual 58, 3) := by decide +kernel
theorem d_S_requireOpen_4 : decode b_S_requireOpen 4 = .ok (.aload_n 0, 1) := by decide +kernel
theorem d_S_requireOpen_5 : decode b_S_requireOpen 5 = .ok (.getfield 44, 3) := by decide +kernel
theorem d_S_requireOpen_8 : decode b_S_requireOpen 8 = .ok (.ifCond .ne 13, 3) := by decide +kernel
theorem d_S_requireOpen_11 : decode b_S_requireOpen 11 = .ok (.new 64, 3) := by decide +kernel
theorem d_S_requireOpen_14 : decode b_S_requireOpen 14 = .ok (.dup, 1) := by decide +kernel
theorem d_S_requireOpen_15 : decode b_S_requireOpen 15 = .ok (.ldc 170, 2) := by decide +kernel
theorem d_S_requireOpen_17 : decode b_S_requireOpen 17 = .ok (.invokespecial 68, 3) := by decide +kernel
theorem d_S_requireOpen_20 : decode b_S_requireOpen 20 = .ok (.athrow, 1) := by decide +kernel
theorem d_S_requireOpen_21 : decode b_S_requireOpen 21 = .ok (.return_, 1) := by decide +kernel
theorem d_S_requirePage_0 : decode b_S_requirePage 0 = .ok (.iload_n 1, 1) := by decide +kernel
theorem d_S_requirePage_1 : decode b_S_requirePage 1 = .ok (.ifCond .lt 11, 3) := by decide +kernel
theorem d_S_requirePage_4 : decode b_S_requirePage 4 = .ok (.iload_n 1, 1) := by decide +kernel
theorem d_S_requirePage_5 : decode b_S_requirePage 5 = .ok (.aload_n 0, 1) := by decide +kernel
theorem d_S_requirePage_6 : decode b_S_requirePage 6 = .ok (.getfield 51, 3) := by decide +kernel
theorem d_S_requirePage_9 : decode b_S_requirePage 9 = .ok (.if_icmp .lt 13, 3) := by decide +kernel
theorem d_S_requirePage_12 : decode b_S_requirePage 12 = .ok (.new 172, 3) := by decide +kernel
theorem d_S_requirePage_15 : decode b_S_requirePage 15 = .ok (.dup, 1) := by decide +kernel
theorem d_S_requirePage_16 : decode b_S_requirePage 16 = .ok (.ldc 174, 2) := by decide +kernel
theorem d_S_requirePage_18 : decode b_S_requirePage 18 = .ok (.invokespecial 176, 3) := by decide +kernel
theorem d_S_requirePage_21 : decode b_S_requirePage 21 = .ok (.athrow, 1) := by decide +kernel
theorem d_S_requirePage_22 : decode b_S_requirePage 22 = .ok (.return_, 1) := by decide +kernel
theorem d_S_requireByte_0 : decode b_S_requireByte 0 = .ok (.aload_n 0, 1) := by decide +kernel
theorem d_S_requireByte_1 : decode b_S_requireByte 1 = .ok (.iload_n 1, 1) := by decide +kernel
theorem d_S_requireByte_2 : decode b_S_requireByte 2 = .ok (.invokevirtual 91, 3) := by decide +kernel
theorem d_S_requireByte_5 : decode b_S_requireByte 5 = .ok (.iload_n 2, 1) := by decide +kernel
theorem d_S_requireByte_6 : decode b_S_requireByte 6 = .ok (.ifCond .lt 10, 3) := by decide +kernel
theorem d_S_requireByte_9 : decode b_S_requireByte 9 = .ok (.iload_n 2, 1) := by decide +kernel
theorem d_S_requireByte_10 : decode b_S_requireByte 10 = .ok (.sipush 256, 3) := by decide +kernel
theorem d_S_requireByte_13 : decode b_S_requireByte 13 = .ok (.if_icmp .lt 13, 3) := by decide +kernel
theorem d_S_requireByte_16 : decode b_S_requireByte 16 = .ok (.new 172, 3) := by decide +kernel
theorem d_S_requireByte_19 : decode b_S_requireByte 19 = .ok (.dup, 1) := by decide +kernel
theorem d_S_requireByte_20 : decode b_S_requireByte 20 = .ok (.ldc 177, 2) := by decide +kernel
theorem d_S_requireByte_22 : decode b_S_requireByte 22 = .ok (.invokespecial 176, 3) := by decide +kernel
theorem d_S_requireByte_25 : decode b_S_requireByte 25 = .ok (.athrow, 1) := by decide +kernel
theorem d_S_requireByte_26 : decode b_S_requireByte 26 = .ok (.return_, 1) := by decide +kernel
theorem d_S_requireSpan_0 : decode b_S_requireSpan 0 = .ok (.iload_n 2, 1) := by decide +kernel
theorem d_S_requireSpan_1 : decode b_S_requireSpan 1 = .ok (.ifCond .lt 16, 3) := by decide +kernel
theorem d_S_requireSpan_4 : decode b_S_requireSpan 4 = .ok (.iload_n 1, 1) := by decide +kernel
theorem d_S_requireSpan_5 : decode b_S_requireSpan 5 = .ok (.ifCond .lt 12, 3) := by decide +kernel
theorem d_S_requireSpan_8 : decode b_S_requireSpan 8 = .ok (.iload_n 1, 1) := by decide +kernel
theorem d_S_requireSpan_9 : decode b_S_requireSpan 9 = .ok (.sipush 256, 3) := by decide +kernel
theorem d_S_requireSpan_12 : decode b_S_requireSpan 12 = .ok (.iload_n 2, 1) := by decide +kernel
theorem d_S_requireSpan_13 : decode b_S_requireSpan 13 = .ok (.isub, 1) := by decide +kernel
theorem d_S_requireSpan_14 : decode b_S_requireSpan 14 = .ok (.if_icmp .le 13, 3) := by decide +kernel
theorem d_S_requireSpan_17 : decode b_S_requireSpan 17 = .ok (.new 172, 3) := by decide +kernel
theorem d_S_requireSpan_20 : decode b_S_requireSpan 20 = .ok (.dup, 1) := by decide +kernel
theorem d_S_requireSpan_21 : decode b_S_requireSpan 21 = .ok (.ldc 179, 2) := by decide +kernel
theorem d_S_requireSpan_23 : decode b_S_requireSpan 23 = .ok (.invokespecial 176, 3) := by decide +kernel
theorem d_S_requireSpan_26 : decode b_S_requireSpan 26 = .ok (.athrow, 1) := by decide +kernel
theorem d_S_requireSpan_27 : decode b_S_requireSpan 27 = .ok (.return_, 1) := by decide +kernel
theorem d_S_requireMark_0 : decode b_S_requireMark 0 = .ok (.iload_n 1, 1) := by decide +kernel
theorem d_S_requireMark_1 : decode b_S_requireMark 1 = .ok (.iconst 1, 1) := by decide +kernel
theorem d_S_requireMark_2 : decode b_S_requireMark 2 = .ok (.if_icmp .lt 11, 3) := by decide +kernel
theorem d_S_requireMark_5 : decode b_S_requireMark 5 = .ok (.iload_n 1, 1) := by decide +kernel
theorem d_S_requireMark_6 : decode b_S_requireMark 6 = .ok (.aload_n 0, 1) := by decide +kernel
theorem d_S_requireMark_7 : decode b_S_requireMark 7 = .ok (.getfield 47, 3) := by decide +kernel
theorem d_S_requireMark_10 : decode b_S_requireMark 10 = .ok (.if_icmp .le 13, 3) := by decide +kernel
theorem d_S_requireMark_13 : decode b_S_requireMark 13 = .ok (.new 172, 3) := by decide +kernel
theorem d_S_requireMark_16 : decode b_S_requireMark 16 = .ok (.dup, 1) := by decide +kernel
theorem d_S_requireMark_17 : decode b_S_requireMark 17 = .ok (.ldc 181, 2) := by decide +kernel
theorem d_S_requireMark_19 : decode b_S_requireMark 19 = .ok (.invokespecial 176, 3) := by decide +kernel
theorem d_S_requireMark_22 : decode b_S_requireMark 22 = .ok (.athrow, 1) := by decide +kernel
theorem d_S_requireMark_23 : decode b_S_requireMark 23 = .ok (.return_, 1) := by decide +kernel
theorem d_S_bytesOf_0 : decode b_S_bytesOf 0 = .ok (.aload_n 0, 1) := by decide +kernel
theorem d_S_bytesOf_1 : decode b_S_bytesOf 1 = .ok (.getfield 47, 3) := by decide +kernel
theorem d_S_bytesOf_4 : decode b_S_bytesOf 4 = .ok (.istore_n 2, 1) := by decide +kernel
theorem d_S_bytesOf_5 : decode b_S_bytesOf 5 = .ok (.iload_n 2, 1) := by decide +kernel
theorem d_S_bytesOf_6 : decode b_S_bytesOf 6 = .ok (.ifCond .lt 33, 3) := by decide +kernel
theorem d_S_bytesOf_9 : decode b_S_bytesOf 9 = .ok (.aload_n 0, 1) := by decide +kernel
theorem d_S_bytesOf_10 : decode b_S_bytesOf 10 = .ok (.getfield 25, 3) := by decide +kernel
theorem d_S_bytesOf_13 : decode b_S_bytesOf 13 = .ok (.iload_n 2, 1) := by decide +kernel
theorem d_S_bytesOf_14 : decode b_S_bytesOf 14 = .ok (.aaload, 1) := by decide +kernel
theorem d_S_bytesOf_15 : decode b_S_bytesOf 15 = .ok (.iload_n 1, 1) := by decide +kernel
theorem d_S_bytesOf_16 : decode b_S_bytesOf 16 = .ok (.invokevirtual 183, 3) := by decide +kernel
theorem d_S_bytesOf_19 : decode b_S_bytesOf 19 = .ok (.ifCond .eq 14, 3) := by decide +kernel
theorem d_S_bytesOf_22 : decode b_S_bytesOf 22 = .ok (.aload_n 0, 1) := by decide +kernel
theorem d_S_bytesOf_23 : decode b_S_bytesOf 23 = .ok (.getfield 25, 3) := by decide +kernel
theorem d_S_bytesOf_26 : decode b_S_bytesOf 26 = .ok (.iload_n 2, 1) := by decide +kernel
theorem d_S_bytesOf_27 : decode b_S_bytesOf 27 = .ok (.aaload, 1) := by decide +kernel
theorem d_S_bytesOf_28 : decode b_S_bytesOf 28 = .ok (.iload_n 1, 1) := by decide +kernel
theorem d_S_bytesOf_29 : decode b_S_bytesOf 29 = .ok (.invokevirtual 187, 3) := by decide +kernel
theorem d_S_bytesOf_32 : decode b_S_bytesOf 32 = .ok (.areturn, 1) := by decide +kernel
theorem d_S_bytesOf_33 : decode b_S_bytesOf 33 = .ok (.iinc 2 (-1), 3) := by decide +kernel
theorem d_S_bytesOf_36 : decode b_S_bytesOf 36 = .ok (.goto (-31), 3) := by decide +kernel
theorem d_S_bytesOf_39 : decode b_S_bytesOf 39 = .ok (.aload_n 0, 1) := by decide +kernel
theorem d_S_bytesOf_40 : decode b_S_bytesOf 40 = .ok (.getfield 15, 3) := by decide +kernel
theorem d_S_bytesOf_43 : decode b_S_bytesOf 43 = .ok (.iload_n 1, 1) := by decide +kernel
theorem d_S_bytesOf_44 : decode b_S_bytesOf 44 = .ok (.invokevirtual 188, 3) := by decide +kernel
theorem d_S_bytesOf_47 : decode b_S_bytesOf 47 = .ok (.areturn, 1) := by decide +kernel
theorem d_S_bytesToChange_0 : decode b_S_bytesToChange 0 = .ok (.aload_n 0, 1) := by decide +kernel
theorem d_S_bytesToChange_1 : decode b_S_bytesToChange 1 = .ok (.getfield 25, 3) := by decide +kernel
theorem d_S_bytesToChange_4 : decode b_S_bytesToChange 4 = .ok (.aload_n 0, 1) := by decide +kernel
theorem d_S_bytesToChange_5 : decode b_S_bytesToChange 5 = .ok (.getfield 47, 3) := by decide +kernel
theorem d_S_bytesToChange_8 : decode b_S_bytesToChange 8 = .ok (.aaload, 1) := by decide +kernel
theorem d_S_bytesToChange_9 : decode b_S_bytesToChange 9 = .ok (.astore_n 2, 1) := by decide +kernel
theorem d_S_bytesToChange_10 : decode b_S_bytesToChange 10 = .ok (.aload_n 2, 1) := by decide +kernel
theorem d_S_bytesToChange_11 : decode b_S_bytesToChange 11 = .ok (.iload_n 1, 1) := by decide +kernel
theorem d_S_bytesToChange_12 : decode b_S_bytesToChange 12 = .ok (.invokevirtual 183, 3) := by decide +kernel
theorem d_S_bytesToChange_15 : decode b_S_bytesToChange 15 = .ok (.ifCond .ne 23, 3) := by decide +kernel
theorem d_S_bytesToChange_18 : decode b_S_bytesToChange 18 = .ok (.aload_n 0, 1) := by decide +kernel
theorem d_S_bytesToChange_19 : decode b_S_bytesToChange 19 = .ok (.iload_n 1, 1) := by decide +kernel
theorem d_S_bytesToChange_20 : decode b_S_bytesToChange 20 = .ok (.invokevirtual 85, 3) := by decide +kernel
theorem d_S_bytesToChange_23 : decode b_S_bytesToChange 23 = .ok (.astore_n 3, 1) := by decide +kernel
theorem d_S_bytesToChange_24 : decode b_S_bytesToChange 24 = .ok (.aload_n 3, 1) := by decide +kernel
theorem d_S_bytesToChange_25 : decode b_S_bytesToChange 25 = .ok (.iconst 0, 1) := by decide +kernel
theorem d_S_bytesToChange_26 : decode b_S_bytesToChange 26 = .ok (.aload_n 2, 1) := by decide +kernel
theorem d_S_bytesToChange_27 : decode b_S_bytesToChange 27 = .ok (.iload_n 1, 1) := by decide +kernel
theorem d_S_bytesToChange_28 : decode b_S_bytesToChange 28 = .ok (.invokevirtual 71, 3) := by decide +kernel
theorem d_S_bytesToChange_31 : decode b_S_bytesToChange 31 = .ok (.iconst 0, 1) := by decide +kernel
theorem d_S_bytesToChange_32 : decode b_S_bytesToChange 32 = .ok (.sipush 256, 3) := by decide +kernel
theorem d_S_bytesToChange_35 : decode b_S_bytesToChange 35 = .ok (.invokestatic 97, 3) := by decide +kernel
theorem d_S_bytesToChange_38 : decode b_S_bytesToChange 38 = .ok (.aload_n 2, 1) := by decide +kernel
theorem d_S_bytesToChange_39 : decode b_S_bytesToChange 39 = .ok (.iload_n 1, 1) := by decide +kernel
theorem d_S_bytesToChange_40 : decode b_S_bytesToChange 40 = .ok (.invokevirtual 187, 3) := by decide +kernel
theorem d_S_bytesToChange_43 : decode b_S_bytesToChange 43 = .ok (.areturn, 1) := by decide +kernel
theorem d_S_foldMarks_0 : decode b_S_foldMarks 0 = .ok (.iload_n 1, 1) := by decide +kernel
theorem d_S_foldMarks_1 : decode b_S_foldMarks 1 = .ok (.istore_n 2, 1) := by decide +kernel
theorem d_S_foldMarks_2 : decode b_S_foldMarks 2 = .ok (.iload_n 2, 1) := by decide +kernel
theorem d_S_foldMarks_3 : decode b_S_foldMarks 3 = .ok (.aload_n 0, 1) := by decide +kernel
theorem d_S_foldMarks_4 : decode b_S_foldMarks 4 = .ok (.getfield 47, 3) := by decide +kernel
theorem d_S_foldMarks_7 : decode b_S_foldMarks 7 = .ok (.if_icmp .gt 26, 3) := by decide +kernel
theorem d_S_foldMarks_10 : decode b_S_foldMarks 10 = .ok (.aload_n 0, 1) := by decide +kernel
theorem d_S_foldMarks_11 : decode b_S_foldMarks 11 = .ok (.getfield 25, 3) := by decide +kernel
theorem d_S_foldMarks_14 : decode b_S_foldMarks 14 = .ok (.iload_n 1, 1) := by decide +kernel
theorem d_S_foldMarks_15 : decode b_S_foldMarks 15 = .ok (.iconst 1, 1) := by decide +kernel
theorem d_S_foldMarks_16 : decode b_S_foldMarks 16 = .ok (.isub, 1) := by decide +kernel
theorem d_S_foldMarks_17 : decode b_S_foldMarks 17 = .ok (.aaload, 1) := by decide +kernel
theorem d_S_foldMarks_18 : decode b_S_foldMarks 18 = .ok (.aload_n 0, 1) := by decide +kernel
theorem d_S_foldMarks_19 : decode b_S_foldMarks 19 = .ok (.getfield 25, 3) := by decide +kernel
theorem d_S_foldMarks_22 : decode b_S_foldMarks 22 = .ok (.iload_n 2, 1) := by decide +kernel
theorem d_S_foldMarks_23 : decode b_S_foldMarks 23 = .ok (.aaload, 1) := by decide +kernel
theorem d_S_foldMarks_24 : decode b_S_foldMarks 24 = .ok (.invokevirtual 191, 3) := by decide +kernel
theorem d_S_foldMarks_27 : decode b_S_foldMarks 27 = .ok (.iinc 2 1, 3) := by decide +kernel
theorem d_S_foldMarks_30 : decode b_S_foldMarks 30 = .ok (.goto (-28), 3) := by decide +kernel
theorem d_S_foldMarks_33 : decode b_S_foldMarks 33 = .ok (.aload_n 0, 1) := by decide +kernel
theorem d_S_foldMarks_34 : decode b_S_foldMarks 34 = .ok (.iload_n 1, 1) := by decide +kernel
theorem d_S_foldMarks_35 : decode b_S_foldMarks 35 = .ok (.iconst 1, 1) := by decide +kernel
theorem d_S_foldMarks_36 : decode b_S_foldMarks 36 = .ok (.isub, 1) := by decide +kernel
theorem d_S_foldMarks_37 : decode b_S_foldMarks 37 = .ok (.putfield 47, 3) := by decide +kernel
theorem d_S_foldMarks_40 : decode b_S_foldMarks 40 = .ok (.return_, 1) := by decide +kernel
theorem d_S_endTransaction_0 : decode b_S_endTransaction 0 = .ok (.aload_n 0, 1) := by decide +kernel
theorem d_S_endTransaction_1 : decode b_S_endTransaction 1 = .ok (.iconst 0, 1) := by decide +kernel
theorem d_S_endTransaction_2 : decode b_S_endTransaction 2 = .ok (.putfield 44, 3) := by decide +kernel
theorem d_S_endTransaction_5 : decode b_S_endTransaction 5 = .ok (.aload_n 0, 1) := by decide +kernel
theorem d_S_endTransaction_6 : decode b_S_endTransaction 6 = .ok (.iconst 0, 1) := by decide +kernel
theorem d_S_endTransaction_7 : decode b_S_endTransaction 7 = .ok (.putfield 47, 3) := by decide +kernel
theorem d_S_endTransaction_10 : decode b_S_endTransaction 10 = .ok (.aload_n 0, 1) := by decide +kernel
theorem d_S_endTransaction_11 : decode b_S_endTransaction 11 = .ok (.aload_n 0, 1) := by decide +kernel
theorem d_S_endTransaction_12 : decode b_S_endTransaction 12 = .ok (.invokevirtual 195, 3) := by decide +kernel
theorem d_S_endTransaction_15 : decode b_S_endTransaction 15 = .ok (.putfield 51, 3) := by decide +kernel
theorem d_S_endTransaction_18 : decode b_S_endTransaction 18 = .ok (.aload_n 0, 1) := by decide +kernel
theorem d_S_endTransaction_19 : decode b_S_endTransaction 19 = .ok (.getfield 25, 3) := by decide +kernel
theorem d_S_endTransaction_22 : decode b_S_endTransaction 22 = .ok (.iconst 0, 1) := by decide +kernel
theorem d_S_endTransaction_23 : decode b_S_endTransaction 23 = .ok (.aaload, 1) := by decide +kernel
theorem d_S_endTransaction_24 : decode b_S_endTransaction 24 = .ok (.aload_n 0, 1) := by decide +kernel
theorem d_S_endTransaction_25 : decode b_S_endTransaction 25 = .ok (.getfield 51, 3) := by decide +kernel
theorem d_S_endTransaction_28 : decode b_S_endTransaction 28 = .ok (.invokevirtual 137, 3) := by decide +kernel
theorem d_S_endTransaction_31 : decode b_S_endTransaction 31 = .ok (.return_, 1) := by decide +kernel
theorem d_S_settle_0 : decode b_S_settle 0 = .ok (.aload_n 0, 1) := by decide +kernel
theorem d_S_settle_1 : decode b_S_settle 1 = .ok (.getfield 32, 3) := by decide +kernel
theorem d_S_settle_4 : decode b_S_settle 4 = .ok (.invokevirtual 198, 3) := by decide +kernel
theorem d_S_settle_7 : decode b_S_settle 7 = .ok (.aload_n 0, 1) := by decide +kernel
theorem d_S_settle_8 : decode b_S_settle 8 = .ok (.invokevirtual 132, 3) := by decide +kernel
theorem d_S_settle_11 : decode b_S_settle 11 = .ok (.aload_n 0, 1) := by decide +kernel
theorem d_S_settle_12 : decode b_S_settle 12 = .ok (.iload_n 1, 1) := by decide +kernel
theorem d_S_settle_13 : decode b_S_settle 13 = .ok (.putfield 40, 3) := by decide +kernel
theorem d_S_settle_16 : decode b_S_settle 16 = .ok (.iload_n 1, 1) := by decide +kernel
theorem d_S_settle_17 : decode b_S_settle 17 = .ok (.ifCond .ne 13, 3) := by decide +kernel
theorem d_S_settle_20 : decode b_S_settle 20 = .ok (.new 201, 3) := by decide +kernel
theorem d_S_settle_23 : decode b_S_settle 23 = .ok (.dup, 1) := by decide +kernel
theorem d_S_settle_24 : decode b_S_settle 24 = .ok (.ldc 203, 2) := by decide +kernel
theorem d_S_settle_26 : decode b_S_settle 26 = .ok (.invokespecial 205, 3) := by decide +kernel
theorem d_S_settle_29 : decode b_S_settle 29 = .ok (.athrow, 1) := by decide +kernel
theorem d_S_settle_30 : decode b_S_settle 30 = .ok (.return_, 1) := by decide +kernel
theorem d_S_pagesInFile_0 : decode b_S_pagesInFile 0 = .ok (.aload_n 0, 1) := by decide +kernel
theorem d_S_pagesInFile_1 : decode b_S_pagesInFile 1 = .ok (.getfield 15, 3) := by decide +kernel
theorem d_S_pagesInFile_4 : decode b_S_pagesInFile 4 = .ok (.invokevirtual 206, 3) := by decide +kernel
theorem d_S_pagesInFile_7 : decode b_S_pagesInFile 7 = .ok (.sipush 256, 3) := by decide +kernel
theorem d_S_pagesInFile_10 : decode b_S_pagesInFile 10 = .ok (.idiv, 1) := by decide +kernel
theorem d_S_pagesInFile_11 : decode b_S_pagesInFile 11 = .ok (.ireturn, 1) := by decide +kernel
theorem d_S_writeJournal_0 : decode b_S_writeJournal 0 = .ok (.aload_n 0, 1) := by decide +kernel
theorem d_S_writeJournal_1 : decode b_S_writeJournal 1 = .ok (.getfield 25, 3) := by decide +kernel
theorem d_S_writeJournal_4 : decode b_S_writeJournal 4 = .ok (.iconst 0, 1) := by decide +kernel
theorem d_S_writeJournal_5 : decode b_S_writeJournal 5 = .ok (.aaload, 1) := by decide +kernel
theorem d_S_writeJournal_6 : decode b_S_writeJournal 6 = .ok (.aload_n 0, 1) := by decide +kernel
theorem d_S_writeJournal_7 : decode b_S_writeJournal 7 = .ok (.getfield 51, 3) := by decide +kernel
theorem d_S_writeJournal_10 : decode b_S_writeJournal 10 = .ok (.invokevirtual 209, 3) := by decide +kernel
theorem d_S_writeJournal_13 : decode b_S_writeJournal 13 = .ok (.ifCond .ne 5, 3) := by decide +kernel
theorem d_S_writeJournal_16 : decode b_S_writeJournal 16 = .ok (.iconst 1, 1) := by decide +kernel
theorem d_S_writeJournal_17 : decode b_S_writeJournal 17 = .ok (.ireturn, 1) := by decide +kernel
theorem d_S_writeJournal_18 : decode b_S_writeJournal 18 = .ok (.aload_n 0, 1) := by decide +kernel
theorem d_S_writeJournal_19 : decode b_S_writeJournal 19 = .ok (.invokevirtual 195, 3) := by decide +kernel
theorem d_S_writeJournal_22 : decode b_S_writeJournal 22 = .ok (.istore_n 1, 1) := by decide +kernel
theorem d_S_writeJournal_23 : decode b_S_writeJournal 23 = .ok (.aload_n 0, 1) := by decide +kernel
theorem d_S_writeJournal_24 : decode b_S_writeJournal 24 = .ok (.iload_n 1, 1) := by decide +kernel
theorem d_S_writeJournal_25 : decode b_S_writeJournal 25 = .ok (.invokevirtual 212, 3) := by decide +kernel
theorem d_S_writeJournal_28 : decode b_S_writeJournal 28 = .ok (.aload_n 0, 1) := by decide +kernel
theorem d_S_writeJournal_29 : decode b_S_writeJournal 29 = .ok (.aload_n 0, 1) := by decide +kernel
theorem d_S_writeJournal_30 : decode b_S_writeJournal 30 = .ok (.getfield 20, 3) := by decide +kernel
theorem d_S_writeJournal_33 : decode b_S_writeJournal 33 = .ok (.aload_n 0, 1) := by decide +kernel
theorem d_S_writeJournal_34 : decode b_S_writeJournal 34 = .ok (.getfield 36, 3) := by decide +kernel
theorem d_S_writeJournal_37 : decode b_S_writeJournal 37 = .ok (.iconst 0, 1) := by decide +kernel
theorem d_S_writeJournal_38 : decode b_S_writeJournal 38 = .ok (.iconst 4, 1) := by decide +kernel
theorem d_S_writeJournal_39 : decode b_S_writeJournal 39 = .ok (.iconst 0, 1) := by decide +kernel
theorem d_S_writeJournal_40 : decode b_S_writeJournal 40 = .ok (.invokevirtual 215, 3) := by decide +kernel
theorem d_S_writeJournal_43 : decode b_S_writeJournal 43 = .ok (.istore_n 2, 1) := by decide +kernel
theorem d_S_writeJournal_44 : decode b_S_writeJournal 44 = .ok (.iconst 0, 1) := by decide +kernel
theorem d_S_writeJournal_45 : decode b_S_writeJournal 45 = .ok (.istore_n 3, 1) := by decide +kernel
theorem d_S_writeJournal_46 : decode b_S_writeJournal 46 = .ok (.iload_n 3, 1) := by decide +kernel
theorem d_S_writeJournal_47 : decode b_S_writeJournal 47 = .ok (.iload_n 1, 1) := by decide +kernel
theorem d_S_writeJournal_48 : decode b_S_writeJournal 48 = .ok (.if_icmp .ge 75, 3) := by decide +kernel
theorem d_S_writeJournal_51 : decode b_S_writeJournal 51 = .ok (.iload_n 2, 1) := by decide +kernel
theorem d_S_writeJournal_52 : decode b_S_writeJournal 52 = .ok (.ifCond .eq 71, 3) := by decide +kernel
theorem d_S_writeJournal_55 : decode b_S_writeJournal 55 = .ok (.aload_n 0, 1) := by decide +kernel
theorem d_S_writeJournal_56 : decode b_S_writeJournal 56 = .ok (.getfield 25, 3) := by decide +kernel
theorem d_S_writeJournal_59 : decode b_S_writeJournal 59 = .ok (.iconst 0, 1) := by decide +kernel
theorem d_S_writeJournal_60 : decode b_S_writeJournal 60 = .ok (.aaload, 1) := by decide +kernel
theorem d_S_writeJournal_61 : decode b_S_writeJournal 61 = .ok (.iload_n 3, 1) := by decide +kernel
theorem d_S_writeJournal_62 : decode b_S_writeJournal 62 = .ok (.invokevirtual 183, 3) := by decide +kernel
theorem d_S_writeJournal_65 : decode b_S_writeJournal 65 = .ok (.ifCond .eq 52, 3) := by decide +kernel
theorem d_S_writeJournal_68 : decode b_S_writeJournal 68 = .ok (.aload_n 0, 1) := by decide +kernel
theorem d_S_writeJournal_69 : decode b_S_writeJournal 69 = .ok (.iload_n 3, 1) := by decide +kernel
theorem d_S_writeJournal_70 : decode b_S_writeJournal 70 = .ok (.invokevirtual 212, 3) := by decide +kernel
theorem d_S_writeJournal_73 : decode b_S_writeJournal 73 = .ok (.aload_n 0, 1) := by decide +kernel
theorem d_S_writeJournal_74 : decode b_S_writeJournal 74 = .ok (.getfield 15, 3) := by decide +kernel
theorem d_S_writeJournal_77 : decode b_S_writeJournal 77 = .ok (.iload_n 3, 1) := by decide +kernel
theorem d_S_writeJournal_78 : decode b_S_writeJournal 78 = .ok (.invokevirtual 188, 3) := by decide +kernel
theorem d_S_writeJournal_81 : decode b_S_writeJournal 81 = .ok (.iconst 0, 1) := by decide +kernel
theorem d_S_writeJournal_82 : decode b_S_writeJournal 82 = .ok (.aload_n 0, 1) := by decide +kernel
theorem d_S_writeJournal_83 : decode b_S_writeJournal 83 = .ok (.getfield 36, 3) := by decide +kernel
theorem d_S_writeJournal_86 : decode b_S_writeJournal 86 = .ok (.iconst 4, 1) := by decide +kernel
theorem d_S_writeJournal_87 : decode b_S_writeJournal 87 = .ok (.sipush 256, 3) := by decide +kernel
theorem d_S_writeJournal_90 : decode b_S_writeJournal 90 = .ok (.invokestatic 97, 3) := by decide +kernel
theorem d_S_writeJournal_93 : decode b_S_writeJournal 93 = .ok (.aload_n 0, 1) := by decide +kernel
theorem d_S_writeJournal_94 : decode b_S_writeJournal 94 = .ok (.aload_n 0, 1) := by decide +kernel
theorem d_S_writeJournal_95 : decode b_S_writeJournal 95 = .ok (.getfield 20, 3) := by decide +kernel
theorem d_S_writeJournal_98 : decode b_S_writeJournal 98 = .ok (.aload_n 0, 1) := by decide +kernel
theorem d_S_writeJournal_99 : decode b_S_writeJournal 99 = .ok (.getfield 36, 3) := by decide +kernel
theorem d_S_writeJournal_102 : decode b_S_writeJournal 102 = .ok (.aload_n 0, 1) := by decide +kernel
theorem d_S_writeJournal_103 : decode b_S_writeJournal 103 = .ok (.getfield 20, 3) := by decide +kernel
theorem d_S_writeJournal_106 : decode b_S_writeJournal 106 = .ok (.invokevirtual 206, 3) := by decide +kernel
theorem d_S_writeJournal_109 : decode b_S_writeJournal 109 = .ok (.sipush 260, 3) := by decide +kernel
theorem d_S_writeJournal_112 : decode b_S_writeJournal 112 = .ok (.iconst 0, 1) := by decide +kernel
theorem d_S_writeJournal_113 : decode b_S_writeJournal 113 = .ok (.invokevirtual 215, 3) := by decide +kernel
theorem d_S_writeJournal_116 : decode b_S_writeJournal 116 = .ok (.istore_n 2, 1) := by decide +kernel
theorem d_S_writeJournal_117 : decode b_S_writeJournal 117 = .ok (.iinc 3 1, 3) := by decide +kernel
theorem d_S_writeJournal_120 : decode b_S_writeJournal 120 = .ok (.goto (-74), 3) := by decide +kernel
theorem d_S_writeJournal_123 : decode b_S_writeJournal 123 = .ok (.iload_n 2, 1) := by decide +kernel
theorem d_S_writeJournal_124 : decode b_S_writeJournal 124 = .ok (.ireturn, 1) := by decide +kernel
theorem d_S_writeFile_0 : decode b_S_writeFile 0 = .ok (.iconst 1, 1) := by decide +kernel
theorem d_S_writeFile_1 : decode b_S_writeFile 1 = .ok (.istore_n 1, 1) := by decide +kernel
theorem d_S_writeFile_2 : decode b_S_writeFile 2 = .ok (.iconst 0, 1) := by decide +kernel
theorem d_S_writeFile_3 : decode b_S_writeFile 3 = .ok (.istore_n 2, 1) := by decide +kernel
theorem d_S_writeFile_4 : decode b_S_writeFile 4 = .ok (.iload_n 2, 1) := by decide +kernel
theorem d_S_writeFile_5 : decode b_S_writeFile 5 = .ok (.aload_n 0, 1) := by decide +kernel
theorem d_S_writeFile_6 : decode b_S_writeFile 6 = .ok (.getfield 51, 3) := by decide +kernel
theorem d_S_writeFile_9 : decode b_S_writeFile 9 = .ok (.if_icmp .ge 54, 3) := by decide +kernel
theorem d_S_writeFile_12 : decode b_S_writeFile 12 = .ok (.iload_n 1, 1) := by decide +kernel
theorem d_S_writeFile_13 : decode b_S_writeFile 13 = .ok (.ifCond .eq 50, 3) := by decide +kernel
theorem d_S_writeFile_16 : decode b_S_writeFile 16 = .ok (.aload_n 0, 1) := by decide +kernel
theorem d_S_writeFile_17 : decode b_S_writeFile 17 = .ok (.getfield 25, 3) := by decide +kernel
theorem d_S_writeFile_20 : decode b_S_writeFile 20 = .ok (.iconst 0, 1) := by decide +kernel
theorem d_S_writeFile_21 : decode b_S_writeFile 21 = .ok (.aaload, 1) := by decide +kernel
theorem d_S_writeFile_22 : decode b_S_writeFile 22 = .ok (.iload_n 2, 1) := by decide +kernel
theorem d_S_writeFile_23 : decode b_S_writeFile 23 = .ok (.invokevirtual 183, 3) := by decide +kernel
theorem d_S_writeFile_26 : decode b_S_writeFile 26 = .ok (.ifCond .eq 31, 3) := by decide +kernel
theorem d_S_writeFile_29 : decode b_S_writeFile 29 = .ok (.aload_n 0, 1) := by decide +kernel
theorem d_S_writeFile_30 : decode b_S_writeFile 30 = .ok (.aload_n 0, 1) := by decide +kernel
theorem d_S_writeFile_31 : decode b_S_writeFile 31 = .ok (.getfield 15, 3) := by decide +kernel
theorem d_S_writeFile_34 : decode b_S_writeFile 34 = .ok (.aload_n 0, 1) := by decide +kernel
theorem d_S_writeFile_35 : decode b_S_writeFile 35 = .ok (.getfield 25, 3) := by decide +kernel
theorem d_S_writeFile_38 : decode b_S_writeFile 38 = .ok (.iconst 0, 1) := by decide +kernel
theorem d_S_writeFile_39 : decode b_S_writeFile 39 = .ok (.aaload, 1) := by decide +kernel
theorem d_S_writeFile_40 : decode b_S_writeFile 40 = .ok (.iload_n 2, 1) := by decide +kernel
theorem d_S_writeFile_41 : decode b_S_writeFile 41 = .ok (.invokevirtual 187, 3) := by decide +kernel
theorem d_S_writeFile_44 : decode b_S_writeFile 44 = .ok (.iload_n 2, 1) := by decide +kernel
theorem d_S_writeFile_45 : decode b_S_writeFile 45 = .ok (.sipush 256, 3) := by decide +kernel
theorem d_S_writeFile_48 : decode b_S_writeFile 48 = .ok (.imul, 1) := by decide +kernel
theorem d_S_writeFile_49 : decode b_S_writeFile 49 = .ok (.sipush 256, 3) := by decide +kernel
theorem d_S_writeFile_52 : decode b_S_writeFile 52 = .ok (.iconst 1, 1) := by decide +kernel
theorem d_S_writeFile_53 : decode b_S_writeFile 53 = .ok (.invokevirtual 215, 3) := by decide +kernel
theorem d_S_writeFile_56 : decode b_S_writeFile 56 = .ok (.istore_n 1, 1) := by decide +kernel
theorem d_S_writeFile_57 : decode b_S_writeFile 57 = .ok (.iinc 2 1, 3) := by decide +kernel
theorem d_S_writeFile_60 : decode b_S_writeFile 60 = .ok (.goto (-56), 3) := by decide +kernel
theorem d_S_writeFile_63 : decode b_S_writeFile 63 = .ok (.iload_n 1, 1) := by decide +kernel
theorem d_S_writeFile_64 : decode b_S_writeFile 64 = .ok (.ireturn, 1) := by decide +kernel
theorem d_S_undo_0 : decode b_S_undo 0 = .ok (.aload_n 0, 1) := by decide +kernel
theorem d_S_undo_1 : decode b_S_undo 1 = .ok (.getfield 20, 3) := by decide +kernel
theorem d_S_undo_4 : decode b_S_undo 4 = .ok (.invokevirtual 206, 3) := by decide +kernel
theorem d_S_undo_7 : decode b_S_undo 7 = .ok (.iconst 4, 1) := by decide +kernel
theorem d_S_undo_8 : decode b_S_undo 8 = .ok (.if_icmp .ge 5, 3) := by decide +kernel
theorem d_S_undo_11 : decode b_S_undo 11 = .ok (.iconst 1, 1) := by decide +kernel
theorem d_S_undo_12 : decode b_S_undo 12 = .ok (.ireturn, 1) := by decide +kernel
theorem d_S_undo_13 : decode b_S_undo 13 = .ok (.aload_n 0, 1) := by decide +kernel
theorem d_S_undo_14 : decode b_S_undo 14 = .ok (.iconst 0, 1) := by decide +kernel
theorem d_S_undo_15 : decode b_S_undo 15 = .ok (.invokevirtual 219, 3) := by decide +kernel
theorem d_S_undo_18 : decode b_S_undo 18 = .ok (.istore_n 1, 1) := by decide +kernel
theorem d_S_undo_19 : decode b_S_undo 19 = .ok (.aload_n 0, 1) := by decide +kernel
theorem d_S_undo_20 : decode b_S_undo 20 = .ok (.getfield 20, 3) := by decide +kernel
theorem d_S_undo_23 : decode b_S_undo 23 = .ok (.invokevirtual 206, 3) := by decide +kernel
theorem d_S_undo_26 : decode b_S_undo 26 = .ok (.iconst 4, 1) := by decide +kernel
theorem d_S_undo_27 : decode b_S_undo 27 = .ok (.isub, 1) := by decide +kernel
theorem d_S_undo_28 : decode b_S_undo 28 = .ok (.sipush 260, 3) := by decide +kernel
theorem d_S_undo_31 : decode b_S_undo 31 = .ok (.idiv, 1) := by decide +kernel
theorem d_S_undo_32 : decode b_S_undo 32 = .ok (.istore_n 2, 1) := by decide +kernel
theorem d_S_undo_33 : decode b_S_undo 33 = .ok (.iconst 1, 1) := by decide +kernel
theorem d_S_undo_34 : decode b_S_undo 34 = .ok (.istore_n 3, 1) := by decide +kernel
theorem d_S_undo_35 : decode b_S_undo 35 = .ok (.iconst 0, 1) := by decide +kernel
theorem d_S_undo_36 : decode b_S_undo 36 = .ok (.istore 4, 2) := by decide +kernel
theorem d_S_undo_38 : decode b_S_undo 38 = .ok (.iload 4, 2) := by decide +kernel
theorem d_S_undo_40 : decode b_S_undo 40 = .ok (.iload_n 2, 1) := by decide +kernel
theorem d_S_undo_41 : decode b_S_undo 41 = .ok (.if_icmp .ge 85, 3) := by decide +kernel
theorem d_S_undo_44 : decode b_S_undo 44 = .ok (.iload_n 3, 1) := by decide +kernel
theorem d_S_undo_45 : decode b_S_undo 45 = .ok (.ifCond .eq 81, 3) := by decide +kernel
theorem d_S_undo_48 : decode b_S_undo 48 = .ok (.iconst 4, 1) := by decide +kernel
theorem d_S_undo_49 : decode b_S_undo 49 = .ok (.iload 4, 2) := by decide +kernel
theorem d_S_undo_51 : decode b_S_undo 51 = .ok (.sipush 260, 3) := by decide +kernel
theorem d_S_undo_54 : decode b_S_undo 54 = .ok (.imul, 1) := by decide +kernel
theorem d_S_undo_55 : decode b_S_undo 55 = .ok (.iadd, 1) := by decide +kernel
theorem d_S_undo_56 : decode b_S_undo 56 = .ok (.istore 5, 2) := by decide +kernel
theorem d_S_undo_58 : decode b_S_undo 58 = .ok (.aload_n 0, 1) := by decide +kernel
theorem d_S_undo_59 : decode b_S_undo 59 = .ok (.iload 5, 2) := by decide +kernel
theorem d_S_undo_61 : decode b_S_undo 61 = .ok (.invokevirtual 219, 3) := by decide +kernel
theorem d_S_undo_64 : decode b_S_undo 64 = .ok (.istore 6, 2) := by decide +kernel
theorem d_S_undo_66 : decode b_S_undo 66 = .ok (.iload 6, 2) := by decide +kernel
theorem d_S_undo_68 : decode b_S_undo 68 = .ok (.ifCond .lt 52, 3) := by decide +kernel
theorem d_S_undo_71 : decode b_S_undo 71 = .ok (.iload 6, 2) := by decide +kernel
theorem d_S_undo_73 : decode b_S_undo 73 = .ok (.sipush 768, 3) := by decide +kernel
theorem d_S_undo_76 : decode b_S_undo 76 = .ok (.if_icmp .ge 44, 3) := by decide +kernel
theorem d_S_undo_79 : decode b_S_undo 79 = .ok (.aload_n 0, 1) := by decide +kernel
theorem d_S_undo_80 : decode b_S_undo 80 = .ok (.getfield 20, 3) := by decide +kernel
theorem d_S_undo_83 : decode b_S_undo 83 = .ok (.iload 5, 2) := by decide +kernel
theorem d_S_undo_85 : decode b_S_undo 85 = .ok (.iconst 4, 1) := by decide +kernel
theorem d_S_undo_86 : decode b_S_undo 86 = .ok (.iadd, 1) := by decide +kernel
theorem d_S_undo_87 : decode b_S_undo 87 = .ok (.aload_n 0, 1) := by decide +kernel
theorem d_S_undo_88 : decode b_S_undo 88 = .ok (.getfield 36, 3) := by decide +kernel
theorem d_S_undo_91 : decode b_S_undo 91 = .ok (.sipush 256, 3) := by decide +kernel
theorem d_S_undo_94 : decode b_S_undo 94 = .ok (.invokevirtual 223, 3) := by decide +kernel
theorem d_S_undo_97 : decode b_S_undo 97 = .ok (.aload_n 0, 1) := by decide +kernel
theorem d_S_undo_98 : decode b_S_undo 98 = .ok (.aload_n 0, 1) := by decide +kernel
theorem d_S_undo_99 : decode b_S_undo 99 = .ok (.getfield 15, 3) := by decide +kernel
theorem d_S_undo_102 : decode b_S_undo 102 = .ok (.aload_n 0, 1) := by decide +kernel
theorem d_S_undo_103 : decode b_S_undo 103 = .ok (.getfield 36, 3) := by decide +kernel
theorem d_S_undo_106 : decode b_S_undo 106 = .ok (.iload 6, 2) := by decide +kernel
theorem d_S_undo_108 : decode b_S_undo 108 = .ok (.sipush 256, 3) := by decide +kernel
theorem d_S_undo_111 : decode b_S_undo 111 = .ok (.imul, 1) := by decide +kernel
theorem d_S_undo_112 : decode b_S_undo 112 = .ok (.sipush 256, 3) := by decide +kernel
theorem d_S_undo_115 : decode b_S_undo 115 = .ok (.iconst 3, 1) := by decide +kernel
theorem d_S_undo_116 : decode b_S_undo 116 = .ok (.invokevirtual 215, 3) := by decide +kernel
theorem d_S_undo_119 : decode b_S_undo 119 = .ok (.istore_n 3, 1) := by decide +kernel
theorem d_S_undo_120 : decode b_S_undo 120 = .ok (.iinc 4 1, 3) := by decide +kernel
theorem d_S_undo_123 : decode b_S_undo 123 = .ok (.goto (-85), 3) := by decide +kernel
theorem d_S_undo_126 : decode b_S_undo 126 = .ok (.iload_n 3, 1) := by decide +kernel
theorem d_S_undo_127 : decode b_S_undo 127 = .ok (.ifCond .eq 15, 3) := by decide +kernel
theorem d_S_undo_130 : decode b_S_undo 130 = .ok (.aload_n 0, 1) := by decide +kernel
theorem d_S_undo_131 : decode b_S_undo 131 = .ok (.getfield 15, 3) := by decide +kernel
theorem d_S_undo_134 : decode b_S_undo 134 = .ok (.iload_n 1, 1) := by decide +kernel
theorem d_S_undo_135 : decode b_S_undo 135 = .ok (.sipush 256, 3) := by decide +kernel
theorem d_S_undo_138 : decode b_S_undo 138 = .ok (.imul, 1) := by decide +kernel
theorem d_S_undo_139 : decode b_S_undo 139 = .ok (.invokevirtual 122, 3) := by decide +kernel
theorem d_S_undo_142 : decode b_S_undo 142 = .ok (.iload_n 3, 1) := by decide +kernel
theorem d_S_undo_143 : decode b_S_undo 143 = .ok (.ireturn, 1) := by decide +kernel
theorem d_S_write_0 : decode b_S_write 0 = .ok (.aload_n 1, 1) := by decide +kernel
theorem d_S_write_1 : decode b_S_write 1 = .ok (.iload_n 3, 1) := by decide +kernel
theorem d_S_write_2 : decode b_S_write 2 = .ok (.aload_n 2, 1) := by decide +kernel
theorem d_S_write_3 : decode b_S_write 3 = .ok (.aload_n 0, 1) := by decide +kernel
theorem d_S_write_4 : decode b_S_write 4 = .ok (.getfield 32, 3) := by decide +kernel
theorem d_S_write_7 : decode b_S_write 7 = .ok (.iload 5, 2) := by decide +kernel
theorem d_S_write_9 : decode b_S_write 9 = .ok (.iload 4, 2) := by decide +kernel
theorem d_S_write_11 : decode b_S_write 11 = .ok (.invokevirtual 227, 3) := by decide +kernel
theorem d_S_write_14 : decode b_S_write 14 = .ok (.invokevirtual 231, 3) := by decide +kernel
theorem d_S_write_17 : decode b_S_write 17 = .ok (.aload_n 0, 1) := by decide +kernel
theorem d_S_write_18 : decode b_S_write 18 = .ok (.getfield 32, 3) := by decide +kernel
theorem d_S_write_21 : decode b_S_write 21 = .ok (.invokevirtual 233, 3) := by decide +kernel
theorem d_S_write_24 : decode b_S_write 24 = .ok (.ifCond .ne 7, 3) := by decide +kernel
theorem d_S_write_27 : decode b_S_write 27 = .ok (.iconst 1, 1) := by decide +kernel
theorem d_S_write_28 : decode b_S_write 28 = .ok (.goto 4, 3) := by decide +kernel
theorem d_S_write_31 : decode b_S_write 31 = .ok (.iconst 0, 1) := by decide +kernel
theorem d_S_write_32 : decode b_S_write 32 = .ok (.ireturn, 1) := by decide +kernel
theorem d_S_setNumber_0 : decode b_S_setNumber 0 = .ok (.iconst 0, 1) := by decide +kernel
theorem d_S_setNumber_1 : decode b_S_setNumber 1 = .ok (.istore_n 2, 1) := by decide +kernel
theorem d_S_setNumber_2 : decode b_S_setNumber 2 = .ok (.iload_n 2, 1) := by decide +kernel
theorem d_S_setNumber_3 : decode b_S_setNumber 3 = .ok (.iconst 4, 1) := by decide +kernel
theorem d_S_setNumber_4 : decode b_S_setNumber 4 = .ok (.if_icmp .ge 22, 3) := by decide +kernel
theorem d_S_setNumber_7 : decode b_S_setNumber 7 = .ok (.aload_n 0, 1) := by decide +kernel
theorem d_S_setNumber_8 : decode b_S_setNumber 8 = .ok (.getfield 36, 3) := by decide +kernel
theorem d_S_setNumber_11 : decode b_S_setNumber 11 = .ok (.iload_n 2, 1) := by decide +kernel
theorem d_S_setNumber_12 : decode b_S_setNumber 12 = .ok (.iload_n 1, 1) := by decide +kernel
theorem d_S_setNumber_13 : decode b_S_setNumber 13 = .ok (.bipush 8, 2) := by decide +kernel
theorem d_S_setNumber_15 : decode b_S_setNumber 15 = .ok (.iload_n 2, 1) := by decide +kernel
theorem d_S_setNumber_16 : decode b_S_setNumber 16 = .ok (.imul, 1) := by decide +kernel
theorem d_S_setNumber_17 : decode b_S_setNumber 17 = .ok (.ishr, 1) := by decide +kernel
theorem d_S_setNumber_18 : decode b_S_setNumber 18 = .ok (.i2b, 1) := by decide +kernel
theorem d_S_setNumber_19 : decode b_S_setNumber 19 = .ok (.bastore, 1) := by decide +kernel
theorem d_S_setNumber_20 : decode b_S_setNumber 20 = .ok (.iinc 2 1, 3) := by decide +kernel
theorem d_S_setNumber_23 : decode b_S_setNumber 23 = .ok (.goto (-21), 3) := by decide +kernel
theorem d_S_setNumber_26 : decode b_S_setNumber 26 = .ok (.return_, 1) := by decide +kernel
theorem d_S_journalNumber_0 : decode b_S_journalNumber 0 = .ok (.aload_n 0, 1) := by decide +kernel
theorem d_S_journalNumber_1 : decode b_S_journalNumber 1 = .ok (.getfield 20, 3) := by decide +kernel
theorem d_S_journalNumber_4 : decode b_S_journalNumber 4 = .ok (.iload_n 1, 1) := by decide +kernel
theorem d_S_journalNumber_5 : decode b_S_journalNumber 5 = .ok (.aload_n 0, 1) := by decide +kernel
theorem d_S_journalNumber_6 : decode b_S_journalNumber 6 = .ok (.getfield 36, 3) := by decide +kernel
theorem d_S_journalNumber_9 : decode b_S_journalNumber 9 = .ok (.iconst 4, 1) := by decide +kernel
theorem d_S_journalNumber_10 : decode b_S_journalNumber 10 = .ok (.invokevirtual 223, 3) := by decide +kernel
theorem d_S_journalNumber_13 : decode b_S_journalNumber 13 = .ok (.iconst 0, 1) := by decide +kernel
theorem d_S_journalNumber_14 : decode b_S_journalNumber 14 = .ok (.istore_n 2, 1) := by decide +kernel
theorem d_S_journalNumber_15 : decode b_S_journalNumber 15 = .ok (.iconst 0, 1) := by decide +kernel
theorem d_S_journalNumber_16 : decode b_S_journalNumber 16 = .ok (.istore_n 3, 1) := by decide +kernel
theorem d_S_journalNumber_17 : decode b_S_journalNumber 17 = .ok (.iload_n 3, 1) := by decide +kernel
theorem d_S_journalNumber_18 : decode b_S_journalNumber 18 = .ok (.iconst 4, 1) := by decide +kernel
theorem d_S_journalNumber_19 : decode b_S_journalNumber 19 = .ok (.if_icmp .ge 27, 3) := by decide +kernel
theorem d_S_journalNumber_22 : decode b_S_journalNumber 22 = .ok (.iload_n 2, 1) := by decide +kernel
theorem d_S_journalNumber_23 : decode b_S_journalNumber 23 = .ok (.aload_n 0, 1) := by decide +kernel
theorem d_S_journalNumber_24 : decode b_S_journalNumber 24 = .ok (.getfield 36, 3) := by decide +kernel
theorem d_S_journalNumber_27 : decode b_S_journalNumber 27 = .ok (.iload_n 3, 1) := by decide +kernel
theorem d_S_journalNumber_28 : decode b_S_journalNumber 28 = .ok (.baload, 1) := by decide +kernel
theorem d_S_journalNumber_29 : decode b_S_journalNumber 29 = .ok (.sipush 255, 3) := by decide +kernel
theorem d_S_journalNumber_32 : decode b_S_journalNumber 32 = .ok (.iand, 1) := by decide +kernel
theorem d_S_journalNumber_33 : decode b_S_journalNumber 33 = .ok (.bipush 8, 2) := by decide +kernel
theorem d_S_journalNumber_35 : decode b_S_journalNumber 35 = .ok (.iload_n 3, 1) := by decide +kernel
theorem d_S_journalNumber_36 : decode b_S_journalNumber 36 = .ok (.imul, 1) := by decide +kernel
theorem d_S_journalNumber_37 : decode b_S_journalNumber 37 = .ok (.ishl, 1) := by decide +kernel
theorem d_S_journalNumber_38 : decode b_S_journalNumber 38 = .ok (.ior, 1) := by decide +kernel
theorem d_S_journalNumber_39 : decode b_S_journalNumber 39 = .ok (.istore_n 2, 1) := by decide +kernel
theorem d_S_journalNumber_40 : decode b_S_journalNumber 40 = .ok (.iinc 3 1, 3) := by decide +kernel
theorem d_S_journalNumber_43 : decode b_S_journalNumber 43 = .ok (.goto (-26), 3) := by decide +kernel
theorem d_S_journalNumber_46 : decode b_S_journalNumber 46 = .ok (.iload_n 2, 1) := by decide +kernel
theorem d_S_journalNumber_47 : decode b_S_journalNumber 47 = .ok (.ireturn, 1) := by decide +kernel
theorem d_B_init_0 : decode b_B_init 0 = .ok (.aload_n 0, 1) := by decide +kernel
theorem d_B_init_1 : decode b_B_init 1 = .ok (.invokespecial 3, 3) := by decide +kernel
theorem d_B_init_4 : decode b_B_init 4 = .ok (.aload_n 0, 1) := by decide +kernel
theorem d_B_init_5 : decode b_B_init 5 = .ok (.sipush 256, 3) := by decide +kernel
theorem d_B_init_8 : decode b_B_init 8 = .ok (.newarray .byte, 2) := by decide +kernel
theorem d_B_init_10 : decode b_B_init 10 = .ok (.putfield 9, 3) := by decide +kernel
theorem d_B_init_13 : decode b_B_init 13 = .ok (.return_, 1) := by decide +kernel
theorem d_K_init_0 : decode b_K_init 0 = .ok (.aload_n 0, 1) := by decide +kernel
theorem d_K_init_1 : decode b_K_init 1 = .ok (.invokespecial 1, 3) := by decide +kernel
theorem d_K_init_4 : decode b_K_init 4 = .ok (.aload_n 0, 1) := by decide +kernel
theorem d_K_init_5 : decode b_K_init 5 = .ok (.iload_n 1, 1) := by decide +kernel
theorem d_K_init_6 : decode b_K_init 6 = .ok (.anewarray 7, 3) := by decide +kernel
theorem d_K_init_9 : decode b_K_init 9 = .ok (.putfield 9, 3) := by decide +kernel
theorem d_K_init_12 : decode b_K_init 12 = .ok (.return_, 1) := by decide +kernel
theorem d_K_bytesOf_0 : decode b_K_bytesOf 0 = .ok (.aload_n 0, 1) := by decide +kernel
theorem d_K_bytesOf_1 : decode b_K_bytesOf 1 = .ok (.getfield 9, 3) := by decide +kernel
theorem d_K_bytesOf_4 : decode b_K_bytesOf 4 = .ok (.iload_n 1, 1) := by decide +kernel
theorem d_K_bytesOf_5 : decode b_K_bytesOf 5 = .ok (.aaload, 1) := by decide +kernel
theorem d_K_bytesOf_6 : decode b_K_bytesOf 6 = .ok (.ifnonnull 16, 3) := by decide +kernel
theorem d_K_bytesOf_9 : decode b_K_bytesOf 9 = .ok (.aload_n 0, 1) := by decide +kernel
theorem d_K_bytesOf_10 : decode b_K_bytesOf 10 = .ok (.getfield 9, 3) := by decide +kernel
theorem d_K_bytesOf_13 : decode b_K_bytesOf 13 = .ok (.iload_n 1, 1) := by decide +kernel
theorem d_K_bytesOf_14 : decode b_K_bytesOf 14 = .ok (.new 7, 3) := by decide +kernel
theorem d_K_bytesOf_17 : decode b_K_bytesOf 17 = .ok (.dup, 1) := by decide +kernel
theorem d_K_bytesOf_18 : decode b_K_bytesOf 18 = .ok (.invokespecial 15, 3) := by decide +kernel
theorem d_K_bytesOf_21 : decode b_K_bytesOf 21 = .ok (.aastore, 1) := by decide +kernel
theorem d_K_bytesOf_22 : decode b_K_bytesOf 22 = .ok (.aload_n 0, 1) := by decide +kernel
theorem d_K_bytesOf_23 : decode b_K_bytesOf 23 = .ok (.getfield 9, 3) := by decide +kernel
theorem d_K_bytesOf_26 : decode b_K_bytesOf 26 = .ok (.iload_n 1, 1) := by decide +kernel
theorem d_K_bytesOf_27 : decode b_K_bytesOf 27 = .ok (.aaload, 1) := by decide +kernel
theorem d_K_bytesOf_28 : decode b_K_bytesOf 28 = .ok (.getfield 16, 3) := by decide +kernel
theorem d_K_bytesOf_31 : decode b_K_bytesOf 31 = .ok (.areturn, 1) := by decide +kernel
theorem d_K_swap_0 : decode b_K_swap 0 = .ok (.aload_n 0, 1) := by decide +kernel
theorem d_K_swap_1 : decode b_K_swap 1 = .ok (.getfield 9, 3) := by decide +kernel
theorem d_K_swap_4 : decode b_K_swap 4 = .ok (.iload_n 1, 1) := by decide +kernel
theorem d_K_swap_5 : decode b_K_swap 5 = .ok (.aaload, 1) := by decide +kernel
theorem d_K_swap_6 : decode b_K_swap 6 = .ok (.astore_n 3, 1) := by decide +kernel
theorem d_K_swap_7 : decode b_K_swap 7 = .ok (.aload_n 0, 1) := by decide +kernel
theorem d_K_swap_8 : decode b_K_swap 8 = .ok (.getfield 9, 3) := by decide +kernel
theorem d_K_swap_11 : decode b_K_swap 11 = .ok (.iload_n 1, 1) := by decide +kernel
theorem d_K_swap_12 : decode b_K_swap 12 = .ok (.aload_n 2, 1) := by decide +kernel
theorem d_K_swap_13 : decode b_K_swap 13 = .ok (.getfield 9, 3) := by decide +kernel
theorem d_K_swap_16 : decode b_K_swap 16 = .ok (.iload_n 1, 1) := by decide +kernel
theorem d_K_swap_17 : decode b_K_swap 17 = .ok (.aaload, 1) := by decide +kernel
theorem d_K_swap_18 : decode b_K_swap 18 = .ok (.aastore, 1) := by decide +kernel
theorem d_K_swap_19 : decode b_K_swap 19 = .ok (.aload_n 2, 1) := by decide +kernel
theorem d_K_swap_20 : decode b_K_swap 20 = .ok (.getfield 9, 3) := by decide +kernel
theorem d_K_swap_23 : decode b_K_swap 23 = .ok (.iload_n 1, 1) := by decide +kernel
theorem d_K_swap_24 : decode b_K_swap 24 = .ok (.aload_n 3, 1) := by decide +kernel
theorem d_K_swap_25 : decode b_K_swap 25 = .ok (.aastore, 1) := by decide +kernel
theorem d_K_swap_26 : decode b_K_swap 26 = .ok (.return_, 1) := by decide +kernel
theorem d_U_init_0 : decode b_U_init 0 = .ok (.aload_n 0, 1) := by decide +kernel
theorem d_U_init_1 : decode b_U_init 1 = .ok (.invokespecial 3, 3) := by decide +kernel
theorem d_U_init_4 : decode b_U_init 4 = .ok (.aload_n 0, 1) := by decide +kernel
theorem d_U_init_5 : decode b_U_init 5 = .ok (.iconst 4, 1) := by decide +kernel
theorem d_U_init_6 : decode b_U_init 6 = .ok (.putfield 9, 3) := by decide +kernel
theorem d_U_init_9 : decode b_U_init 9 = .ok (.aload_n 0, 1) := by decide +kernel
theorem d_U_init_10 : decode b_U_init 10 = .ok (.iconst 0, 1) := by decide +kernel
theorem d_U_init_11 : decode b_U_init 11 = .ok (.putfield 15, 3) := by decide +kernel
theorem d_U_init_14 : decode b_U_init 14 = .ok (.aload_n 0, 1) := by decide +kernel
theorem d_U_init_15 : decode b_U_init 15 = .ok (.iconst 0, 1) := by decide +kernel
theorem d_U_init_16 : decode b_U_init 16 = .ok (.putfield 18, 3) := by decide +kernel
theorem d_U_init_19 : decode b_U_init 19 = .ok (.aload_n 0, 1) := by decide +kernel
theorem d_U_init_20 : decode b_U_init 20 = .ok (.iconst 0, 1) := by decide +kernel
theorem d_U_init_21 : decode b_U_init 21 = .ok (.putfield 21, 3) := by decide +kernel
theorem d_U_init_24 : decode b_U_init 24 = .ok (.return_, 1) := by decide +kernel
theorem d_U_set_0 : decode b_U_set 0 = .ok (.aload_n 0, 1) := by decide +kernel
theorem d_U_set_1 : decode b_U_set 1 = .ok (.iload_n 1, 1) := by decide +kernel
theorem d_U_set_2 : decode b_U_set 2 = .ok (.putfield 9, 3) := by decide +kernel
theorem d_U_set_5 : decode b_U_set 5 = .ok (.aload_n 0, 1) := by decide +kernel
theorem d_U_set_6 : decode b_U_set 6 = .ok (.iload_n 2, 1) := by decide +kernel
theorem d_U_set_7 : decode b_U_set 7 = .ok (.putfield 15, 3) := by decide +kernel
theorem d_U_set_10 : decode b_U_set 10 = .ok (.aload_n 0, 1) := by decide +kernel
theorem d_U_set_11 : decode b_U_set 11 = .ok (.iload_n 3, 1) := by decide +kernel
theorem d_U_set_12 : decode b_U_set 12 = .ok (.putfield 18, 3) := by decide +kernel
theorem d_U_set_15 : decode b_U_set 15 = .ok (.aload_n 0, 1) := by decide +kernel
theorem d_U_set_16 : decode b_U_set 16 = .ok (.iconst 0, 1) := by decide +kernel
theorem d_U_set_17 : decode b_U_set 17 = .ok (.putfield 21, 3) := by decide +kernel
theorem d_U_set_20 : decode b_U_set 20 = .ok (.return_, 1) := by decide +kernel
theorem d_U_forget_0 : decode b_U_forget 0 = .ok (.aload_n 0, 1) := by decide +kernel
theorem d_U_forget_1 : decode b_U_forget 1 = .ok (.iconst 4, 1) := by decide +kernel
theorem d_U_forget_2 : decode b_U_forget 2 = .ok (.iconst 0, 1) := by decide +kernel
theorem d_U_forget_3 : decode b_U_forget 3 = .ok (.iconst 0, 1) := by decide +kernel
theorem d_U_forget_4 : decode b_U_forget 4 = .ok (.invokevirtual 25, 3) := by decide +kernel
theorem d_U_forget_7 : decode b_U_forget 7 = .ok (.return_, 1) := by decide +kernel
theorem d_U_blown_0 : decode b_U_blown 0 = .ok (.aload_n 0, 1) := by decide +kernel
theorem d_U_blown_1 : decode b_U_blown 1 = .ok (.getfield 21, 3) := by decide +kernel
theorem d_U_blown_4 : decode b_U_blown 4 = .ok (.ireturn, 1) := by decide +kernel
theorem d_U_bytesThrough_0 : decode b_U_bytesThrough 0 = .ok (.aload_n 0, 1) := by decide +kernel
theorem d_U_bytesThrough_1 : decode b_U_bytesThrough 1 = .ok (.getfield 9, 3) := by decide +kernel
theorem d_U_bytesThrough_4 : decode b_U_bytesThrough 4 = .ok (.iload_n 1, 1) := by decide +kernel
theorem d_U_bytesThrough_5 : decode b_U_bytesThrough 5 = .ok (.if_icmp .eq 5, 3) := by decide +kernel
theorem d_U_bytesThrough_8 : decode b_U_bytesThrough 8 = .ok (.iload_n 2, 1) := by decide +kernel
theorem d_U_bytesThrough_9 : decode b_U_bytesThrough 9 = .ok (.ireturn, 1) := by decide +kernel
theorem d_U_bytesThrough_10 : decode b_U_bytesThrough 10 = .ok (.aload_n 0, 1) := by decide +kernel
theorem d_U_bytesThrough_11 : decode b_U_bytesThrough 11 = .ok (.getfield 15, 3) := by decide +kernel
theorem d_U_bytesThrough_14 : decode b_U_bytesThrough 14 = .ok (.ifCond .le 15, 3) := by decide +kernel
theorem d_U_bytesThrough_17 : decode b_U_bytesThrough 17 = .ok (.aload_n 0, 1) := by decide +kernel
theorem d_U_bytesThrough_18 : decode b_U_bytesThrough 18 = .ok (.dup, 1) := by decide +kernel
theorem d_U_bytesThrough_19 : decode b_U_bytesThrough 19 = .ok (.getfield 15, 3) := by decide +kernel
theorem d_U_bytesThrough_22 : decode b_U_bytesThrough 22 = .ok (.iconst 1, 1) := by decide +kernel
theorem d_U_bytesThrough_23 : decode b_U_bytesThrough 23 = .ok (.isub, 1) := by decide +kernel
theorem d_U_bytesThrough_24 : decode b_U_bytesThrough 24 = .ok (.putfield 15, 3) := by decide +kernel
theorem d_U_bytesThrough_27 : decode b_U_bytesThrough 27 = .ok (.iload_n 2, 1) := by decide +kernel
theorem d_U_bytesThrough_28 : decode b_U_bytesThrough 28 = .ok (.ireturn, 1) := by decide +kernel
theorem d_U_bytesThrough_29 : decode b_U_bytesThrough 29 = .ok (.aload_n 0, 1) := by decide +kernel
theorem d_U_bytesThrough_30 : decode b_U_bytesThrough 30 = .ok (.iconst 1, 1) := by decide +kernel
theorem d_U_bytesThrough_31 : decode b_U_bytesThrough 31 = .ok (.putfield 21, 3) := by decide +kernel
theorem d_U_bytesThrough_34 : decode b_U_bytesThrough 34 = .ok (.aload_n 0, 1) := by decide +kernel
theorem d_U_bytesThrough_35 : decode b_U_bytesThrough 35 = .ok (.getfield 18, 3) := by decide +kernel
theorem d_U_bytesThrough_38 : decode b_U_bytesThrough 38 = .ok (.iload_n 2, 1) := by decide +kernel
theorem d_U_bytesThrough_39 : decode b_U_bytesThrough 39 = .ok (.invokestatic 29, 3) := by decide +kernel
theorem d_U_bytesThrough_42 : decode b_U_bytesThrough 42 = .ok (.ireturn, 1) := by decide +kernel
theorem d_U_blowsBeforeEmptying_0 : decode b_U_blowsBeforeEmptying 0 = .ok (.aload_n 0, 1) := by decide +kernel
theorem d_U_blowsBeforeEmptying_1 : decode b_U_blowsBeforeEmptying 1 = .ok (.getfield 9, 3) := by decide +kernel
theorem d_U_blowsBeforeEmptying_4 : decode b_U_blowsBeforeEmptying 4 = .ok (.ifCond .eq 26, 3) := by decide +kernel
theorem d_U_blowsBeforeEmptying_7 : decode b_U_blowsBeforeEmptying 7 = .ok (.aload_n 0, 1) := by decide +kernel
theorem d_U_blowsBeforeEmptying_8 : decode b_U_blowsBeforeEmptying 8 = .ok (.getfield 9, 3) := by decide +kernel
theorem d_U_blowsBeforeEmptying_11 : decode b_U_blowsBeforeEmptying 11 = .ok (.iconst 1, 1) := by decide +kernel
theorem d_U_blowsBeforeEmptying_12 : decode b_U_blowsBeforeEmptying 12 = .ok (.if_icmp .eq 18, 3) := by decide +kernel
theorem d_U_blowsBeforeEmptying_15 : decode b_U_blowsBeforeEmptying 15 = .ok (.aload_n 0, 1) := by decide +kernel
theorem d_U_blowsBeforeEmptying_16 : decode b_U_blowsBeforeEmptying 16 = .ok (.getfield 9, 3) := by decide +kernel
theorem d_U_blowsBeforeEmptying_19 : decode b_U_blowsBeforeEmptying 19 = .ok (.iconst 2, 1) := by decide +kernel
theorem d_U_blowsBeforeEmptying_20 : decode b_U_blowsBeforeEmptying 20 = .ok (.if_icmp .ne 14, 3) := by decide +kernel
theorem d_U_blowsBeforeEmptying_23 : decode b_U_blowsBeforeEmptying 23 = .ok (.aload_n 0, 1) := by decide +kernel
theorem d_U_blowsBeforeEmptying_24 : decode b_U_blowsBeforeEmptying 24 = .ok (.getfield 15, 3) := by decide +kernel
theorem d_U_blowsBeforeEmptying_27 : decode b_U_blowsBeforeEmptying 27 = .ok (.ifCond .ne 7, 3) := by decide +kernel
theorem d_U_blowsBeforeEmptying_30 : decode b_U_blowsBeforeEmptying 30 = .ok (.iconst 1, 1) := by decide +kernel
theorem d_U_blowsBeforeEmptying_31 : decode b_U_blowsBeforeEmptying 31 = .ok (.goto 4, 3) := by decide +kernel
theorem d_U_blowsBeforeEmptying_34 : decode b_U_blowsBeforeEmptying 34 = .ok (.iconst 0, 1) := by decide +kernel
theorem d_U_blowsBeforeEmptying_35 : decode b_U_blowsBeforeEmptying 35 = .ok (.ireturn, 1) := by decide +kernel
theorem d_U_blowsBehindEmptying_0 : decode b_U_blowsBehindEmptying 0 = .ok (.aload_n 0, 1) := by decide +kernel
theorem d_U_blowsBehindEmptying_1 : decode b_U_blowsBehindEmptying 1 = .ok (.getfield 9, 3) := by decide +kernel
theorem d_U_blowsBehindEmptying_4 : decode b_U_blowsBehindEmptying 4 = .ok (.iconst 2, 1) := by decide +kernel
theorem d_U_blowsBehindEmptying_5 : decode b_U_blowsBehindEmptying 5 = .ok (.if_icmp .ne 7, 3) := by decide +kernel
theorem d_U_blowsBehindEmptying_8 : decode b_U_blowsBehindEmptying 8 = .ok (.iconst 1, 1) := by decide +kernel
theorem d_U_blowsBehindEmptying_9 : decode b_U_blowsBehindEmptying 9 = .ok (.goto 4, 3) := by decide +kernel
theorem d_U_blowsBehindEmptying_12 : decode b_U_blowsBehindEmptying 12 = .ok (.iconst 0, 1) := by decide +kernel
theorem d_U_blowsBehindEmptying_13 : decode b_U_blowsBehindEmptying 13 = .ok (.ireturn, 1) := by decide +kernel
theorem d_U_blowsInReopen_0 : decode b_U_blowsInReopen 0 = .ok (.aload_n 0, 1) := by decide +kernel
theorem d_U_blowsInReopen_1 : decode b_U_blowsInReopen 1 = .ok (.getfield 9, 3) := by decide +kernel
theorem d_U_blowsInReopen_4 : decode b_U_blowsInReopen 4 = .ok (.iconst 3, 1) := by decide +kernel
theorem d_U_blowsInReopen_5 : decode b_U_blowsInReopen 5 = .ok (.if_icmp .ne 7, 3) := by decide +kernel
theorem d_U_blowsInReopen_8 : decode b_U_blowsInReopen 8 = .ok (.iconst 1, 1) := by decide +kernel
theorem d_U_blowsInReopen_9 : decode b_U_blowsInReopen 9 = .ok (.goto 4, 3) := by decide +kernel
theorem d_U_blowsInReopen_12 : decode b_U_blowsInReopen 12 = .ok (.iconst 0, 1) := by decide +kernel
theorem d_U_blowsInReopen_13 : decode b_U_blowsInReopen 13 = .ok (.ireturn, 1) := by decide +kernel
theorem d_Y_init_0 : decode b_Y_init 0 = .ok (.aload_n 0, 1) := by decide +kernel
theorem d_Y_init_1 : decode b_Y_init 1 = .ok (.invokespecial 3, 3) := by decide +kernel
theorem d_Y_init_4 : decode b_Y_init 4 = .ok (.aload_n 0, 1) := by decide +kernel
theorem d_Y_init_5 : decode b_Y_init 5 = .ok (.iconst 0, 1) := by decide +kernel
theorem d_Y_init_6 : decode b_Y_init 6 = .ok (.putfield 9, 3) := by decide +kernel
theorem d_Y_init_9 : decode b_Y_init 9 = .ok (.aload_n 0, 1) := by decide +kernel
theorem d_Y_init_10 : decode b_Y_init 10 = .ok (.new 15, 3) := by decide +kernel
theorem d_Y_init_13 : decode b_Y_init 13 = .ok (.dup, 1) := by decide +kernel
theorem d_Y_init_14 : decode b_Y_init 14 = .ok (.iload_n 1, 1) := by decide +kernel
theorem d_Y_init_15 : decode b_Y_init 15 = .ok (.sipush 256, 3) := by decide +kernel
theorem d_Y_init_18 : decode b_Y_init 18 = .ok (.iadd, 1) := by decide +kernel
theorem d_Y_init_19 : decode b_Y_init 19 = .ok (.iconst 1, 1) := by decide +kernel
theorem d_Y_init_20 : decode b_Y_init 20 = .ok (.isub, 1) := by decide +kernel
theorem d_Y_init_21 : decode b_Y_init 21 = .ok (.sipush 256, 3) := by decide +kernel
theorem d_Y_init_24 : decode b_Y_init 24 = .ok (.idiv, 1) := by decide +kernel
theorem d_Y_init_25 : decode b_Y_init 25 = .ok (.invokespecial 17, 3) := by decide +kernel
theorem d_Y_init_28 : decode b_Y_init 28 = .ok (.putfield 20, 3) := by decide +kernel
theorem d_Y_init_31 : decode b_Y_init 31 = .ok (.return_, 1) := by decide +kernel
theorem d_Y_length_0 : decode b_Y_length 0 = .ok (.aload_n 0, 1) := by decide +kernel
theorem d_Y_length_1 : decode b_Y_length 1 = .ok (.getfield 9, 3) := by decide +kernel
theorem d_Y_length_4 : decode b_Y_length 4 = .ok (.ireturn, 1) := by decide +kernel
theorem d_Y_block_0 : decode b_Y_block 0 = .ok (.aload_n 0, 1) := by decide +kernel
theorem d_Y_block_1 : decode b_Y_block 1 = .ok (.getfield 20, 3) := by decide +kernel
theorem d_Y_block_4 : decode b_Y_block 4 = .ok (.iload_n 1, 1) := by decide +kernel
theorem d_Y_block_5 : decode b_Y_block 5 = .ok (.invokevirtual 24, 3) := by decide +kernel
theorem d_Y_block_8 : decode b_Y_block 8 = .ok (.areturn, 1) := by decide +kernel
theorem d_Y_write_0 : decode b_Y_write 0 = .ok (.iconst 0, 1) := by decide +kernel
theorem d_Y_write_1 : decode b_Y_write 1 = .ok (.istore 4, 2) := by decide +kernel
theorem d_Y_write_3 : decode b_Y_write 3 = .ok (.iload 4, 2) := by decide +kernel
theorem d_Y_write_5 : decode b_Y_write 5 = .ok (.iload_n 3, 1) := by decide +kernel
theorem d_Y_write_6 : decode b_Y_write 6 = .ok (.if_icmp .ge 37, 3) := by decide +kernel
theorem d_Y_write_9 : decode b_Y_write 9 = .ok (.aload_n 0, 1) := by decide +kernel
theorem d_Y_write_10 : decode b_Y_write 10 = .ok (.getfield 20, 3) := by decide +kernel
theorem d_Y_write_13 : decode b_Y_write 13 = .ok (.iload_n 1, 1) := by decide +kernel
theorem d_Y_write_14 : decode b_Y_write 14 = .ok (.iload 4, 2) := by decide +kernel
theorem d_Y_write_16 : decode b_Y_write 16 = .ok (.iadd, 1) := by decide +kernel
theorem d_Y_write_17 : decode b_Y_write 17 = .ok (.sipush 256, 3) := by decide +kernel
theorem d_Y_write_20 : decode b_Y_write 20 = .ok (.idiv, 1) := by decide +kernel
theorem d_Y_write_21 : decode b_Y_write 21 = .ok (.invokevirtual 24, 3) := by decide +kernel
theorem d_Y_write_24 : decode b_Y_write 24 = .ok (.iload_n 1, 1) := by decide +kernel
theorem d_Y_write_25 : decode b_Y_write 25 = .ok (.iload 4, 2) := by decide +kernel
theorem d_Y_write_27 : decode b_Y_write 27 = .ok (.iadd, 1) := by decide +kernel
theorem d_Y_write_28 : decode b_Y_write 28 = .ok (.sipush 256, 3) := by decide +kernel
theorem d_Y_write_31 : decode b_Y_write 31 = .ok (.irem, 1) := by decide +kernel
theorem d_Y_write_32 : decode b_Y_write 32 = .ok (.aload_n 2, 1) := by decide +kernel
theorem d_Y_write_33 : decode b_Y_write 33 = .ok (.iload 4, 2) := by decide +kernel
theorem d_Y_write_35 : decode b_Y_write 35 = .ok (.baload, 1) := by decide +kernel
theorem d_Y_write_36 : decode b_Y_write 36 = .ok (.bastore, 1) := by decide +kernel
theorem d_Y_write_37 : decode b_Y_write 37 = .ok (.iinc 4 1, 3) := by decide +kernel
theorem d_Y_write_40 : decode b_Y_write 40 = .ok (.goto (-37), 3) := by decide +kernel
theorem d_Y_write_43 : decode b_Y_write 43 = .ok (.aload_n 0, 1) := by decide +kernel
theorem d_Y_write_44 : decode b_Y_write 44 = .ok (.aload_n 0, 1) := by decide +kernel
theorem d_Y_write_45 : decode b_Y_write 45 = .ok (.getfield 9, 3) := by decide +kernel
theorem d_Y_write_48 : decode b_Y_write 48 = .ok (.iload_n 1, 1) := by decide +kernel
theorem d_Y_write_49 : decode b_Y_write 49 = .ok (.iload_n 3, 1) := by decide +kernel
theorem d_Y_write_50 : decode b_Y_write 50 = .ok (.iadd, 1) := by decide +kernel
theorem d_Y_write_51 : decode b_Y_write 51 = .ok (.invokestatic 28, 3) := by decide +kernel
theorem d_Y_write_54 : decode b_Y_write 54 = .ok (.putfield 9, 3) := by decide +kernel
theorem d_Y_write_57 : decode b_Y_write 57 = .ok (.return_, 1) := by decide +kernel
theorem d_Y_read_0 : decode b_Y_read 0 = .ok (.iconst 0, 1) := by decide +kernel
theorem d_Y_read_1 : decode b_Y_read 1 = .ok (.istore 4, 2) := by decide +kernel
theorem d_Y_read_3 : decode b_Y_read 3 = .ok (.iload 4, 2) := by decide +kernel
theorem d_Y_read_5 : decode b_Y_read 5 = .ok (.iload_n 3, 1) := by decide +kernel
theorem d_Y_read_6 : decode b_Y_read 6 = .ok (.if_icmp .ge 37, 3) := by decide +kernel
theorem d_Y_read_9 : decode b_Y_read 9 = .ok (.aload_n 2, 1) := by decide +kernel
theorem d_Y_read_10 : decode b_Y_read 10 = .ok (.iload 4, 2) := by decide +kernel
theorem d_Y_read_12 : decode b_Y_read 12 = .ok (.aload_n 0, 1) := by decide +kernel
theorem d_Y_read_13 : decode b_Y_read 13 = .ok (.getfield 20, 3) := by decide +kernel
theorem d_Y_read_16 : decode b_Y_read 16 = .ok (.iload_n 1, 1) := by decide +kernel
theorem d_Y_read_17 : decode b_Y_read 17 = .ok (.iload 4, 2) := by decide +kernel
theorem d_Y_read_19 : decode b_Y_read 19 = .ok (.iadd, 1) := by decide +kernel
theorem d_Y_read_20 : decode b_Y_read 20 = .ok (.sipush 256, 3) := by decide +kernel
theorem d_Y_read_23 : decode b_Y_read 23 = .ok (.idiv, 1) := by decide +kernel
theorem d_Y_read_24 : decode b_Y_read 24 = .ok (.invokevirtual 24, 3) := by decide +kernel
theorem d_Y_read_27 : decode b_Y_read 27 = .ok (.iload_n 1, 1) := by decide +kernel
theorem d_Y_read_28 : decode b_Y_read 28 = .ok (.iload 4, 2) := by decide +kernel
theorem d_Y_read_30 : decode b_Y_read 30 = .ok (.iadd, 1) := by decide +kernel
theorem d_Y_read_31 : decode b_Y_read 31 = .ok (.sipush 256, 3) := by decide +kernel
theorem d_Y_read_34 : decode b_Y_read 34 = .ok (.irem, 1) := by decide +kernel
theorem d_Y_read_35 : decode b_Y_read 35 = .ok (.baload, 1) := by decide +kernel
theorem d_Y_read_36 : decode b_Y_read 36 = .ok (.bastore, 1) := by decide +kernel
theorem d_Y_read_37 : decode b_Y_read 37 = .ok (.iinc 4 1, 3) := by decide +kernel
theorem d_Y_read_40 : decode b_Y_read 40 = .ok (.goto (-37), 3) := by decide +kernel
theorem d_Y_read_43 : decode b_Y_read 43 = .ok (.return_, 1) := by decide +kernel
theorem d_Y_cutTo_0 : decode b_Y_cutTo 0 = .ok (.aload_n 0, 1) := by decide +kernel
theorem d_Y_cutTo_1 : decode b_Y_cutTo 1 = .ok (.aload_n 0, 1) := by decide +kernel
theorem d_Y_cutTo_2 : decode b_Y_cutTo 2 = .ok (.getfield 9, 3) := by decide +kernel
theorem d_Y_cutTo_5 : decode b_Y_cutTo 5 = .ok (.iload_n 1, 1) := by decide +kernel
theorem d_Y_cutTo_6 : decode b_Y_cutTo 6 = .ok (.invokestatic 34, 3) := by decide +kernel
theorem d_Y_cutTo_9 : decode b_Y_cutTo 9 = .ok (.putfield 9, 3) := by decide +kernel
theorem d_Y_cutTo_12 : decode b_Y_cutTo 12 = .ok (.return_, 1) := by decide +kernel
theorem d_Z_init_0 : decode b_Z_init 0 = .ok (.aload_n 0, 1) := by decide +kernel
theorem d_Z_init_1 : decode b_Z_init 1 = .ok (.invokespecial 3, 3) := by decide +kernel
theorem d_Z_init_4 : decode b_Z_init 4 = .ok (.aload_n 0, 1) := by decide +kernel
theorem d_Z_init_5 : decode b_Z_init 5 = .ok (.new 9, 3) := by decide +kernel
theorem d_Z_init_8 : decode b_Z_init 8 = .ok (.dup, 1) := by decide +kernel
theorem d_Z_init_9 : decode b_Z_init 9 = .ok (.sipush 768, 3) := by decide +kernel
theorem d_Z_init_12 : decode b_Z_init 12 = .ok (.invokespecial 11, 3) := by decide +kernel
theorem d_Z_init_15 : decode b_Z_init 15 = .ok (.putfield 14, 3) := by decide +kernel
theorem d_Z_init_18 : decode b_Z_init 18 = .ok (.aload_n 0, 1) := by decide +kernel
theorem d_Z_init_19 : decode b_Z_init 19 = .ok (.sipush 768, 3) := by decide +kernel
theorem d_Z_init_22 : decode b_Z_init 22 = .ok (.newarray .boolean, 2) := by decide +kernel
theorem d_Z_init_24 : decode b_Z_init 24 = .ok (.putfield 20, 3) := by decide +kernel
theorem d_Z_init_27 : decode b_Z_init 27 = .ok (.aload_n 0, 1) := by decide +kernel
theorem d_Z_init_28 : decode b_Z_init 28 = .ok (.iconst 0, 1) := by decide +kernel
theorem d_Z_init_29 : decode b_Z_init 29 = .ok (.putfield 24, 3) := by decide +kernel
theorem d_Z_init_32 : decode b_Z_init 32 = .ok (.return_, 1) := by decide +kernel
theorem d_Z_lay_0 : decode b_Z_lay 0 = .ok (.iconst 0, 1) := by decide +kernel
theorem d_Z_lay_1 : decode b_Z_lay 1 = .ok (.istore_n 2, 1) := by decide +kernel
theorem d_Z_lay_2 : decode b_Z_lay 2 = .ok (.iload_n 2, 1) := by decide +kernel
theorem d_Z_lay_3 : decode b_Z_lay 3 = .ok (.sipush 768, 3) := by decide +kernel
theorem d_Z_lay_6 : decode b_Z_lay 6 = .ok (.if_icmp .ge 16, 3) := by decide +kernel
theorem d_Z_lay_9 : decode b_Z_lay 9 = .ok (.aload_n 0, 1) := by decide +kernel
theorem d_Z_lay_10 : decode b_Z_lay 10 = .ok (.getfield 20, 3) := by decide +kernel
theorem d_Z_lay_13 : decode b_Z_lay 13 = .ok (.iload_n 2, 1) := by decide +kernel
theorem d_Z_lay_14 : decode b_Z_lay 14 = .ok (.iconst 0, 1) := by decide +kernel
theorem d_Z_lay_15 : decode b_Z_lay 15 = .ok (.bastore, 1) := by decide +kernel
theorem d_Z_lay_16 : decode b_Z_lay 16 = .ok (.iinc 2 1, 3) := by decide +kernel
theorem d_Z_lay_19 : decode b_Z_lay 19 = .ok (.goto (-17), 3) := by decide +kernel
theorem d_Z_lay_22 : decode b_Z_lay 22 = .ok (.aload_n 0, 1) := by decide +kernel
theorem d_Z_lay_23 : decode b_Z_lay 23 = .ok (.iload_n 1, 1) := by decide +kernel
theorem d_Z_lay_24 : decode b_Z_lay 24 = .ok (.putfield 24, 3) := by decide +kernel
theorem d_Z_lay_27 : decode b_Z_lay 27 = .ok (.return_, 1) := by decide +kernel
theorem d_Z_pagesBelow_0 : decode b_Z_pagesBelow 0 = .ok (.aload_n 0, 1) := by decide +kernel
theorem d_Z_pagesBelow_1 : decode b_Z_pagesBelow 1 = .ok (.getfield 24, 3) := by decide +kernel
theorem d_Z_pagesBelow_4 : decode b_Z_pagesBelow 4 = .ok (.ireturn, 1) := by decide +kernel
theorem d_Z_holds_0 : decode b_Z_holds 0 = .ok (.aload_n 0, 1) := by decide +kernel
theorem d_Z_holds_1 : decode b_Z_holds 1 = .ok (.getfield 20, 3) := by decide +kernel
theorem d_Z_holds_4 : decode b_Z_holds 4 = .ok (.iload_n 1, 1) := by decide +kernel
theorem d_Z_holds_5 : decode b_Z_holds 5 = .ok (.baload, 1) := by decide +kernel
theorem d_Z_holds_6 : decode b_Z_holds 6 = .ok (.ireturn, 1) := by decide +kernel
theorem d_Z_holdsAny_0 : decode b_Z_holdsAny 0 = .ok (.iconst 0, 1) := by decide +kernel
theorem d_Z_holdsAny_1 : decode b_Z_holdsAny 1 = .ok (.istore_n 2, 1) := by decide +kernel
theorem d_Z_holdsAny_2 : decode b_Z_holdsAny 2 = .ok (.iload_n 2, 1) := by decide +kernel
theorem d_Z_holdsAny_3 : decode b_Z_holdsAny 3 = .ok (.iload_n 1, 1) := by decide +kernel
theorem d_Z_holdsAny_4 : decode b_Z_holdsAny 4 = .ok (.if_icmp .ge 20, 3) := by decide +kernel
theorem d_Z_holdsAny_7 : decode b_Z_holdsAny 7 = .ok (.aload_n 0, 1) := by decide +kernel
theorem d_Z_holdsAny_8 : decode b_Z_holdsAny 8 = .ok (.getfield 20, 3) := by decide +kernel
theorem d_Z_holdsAny_11 : decode b_Z_holdsAny 11 = .ok (.iload_n 2, 1) := by decide +kernel
theorem d_Z_holdsAny_12 : decode b_Z_holdsAny 12 = .ok (.baload, 1) := by decide +kernel
theorem d_Z_holdsAny_13 : decode b_Z_holdsAny 13 = .ok (.ifCond .eq 5, 3) := by decide +kernel
theorem d_Z_holdsAny_16 : decode b_Z_holdsAny 16 = .ok (.iconst 1, 1) := by decide +kernel
theorem d_Z_holdsAny_17 : decode b_Z_holdsAny 17 = .ok (.ireturn, 1) := by decide +kernel
theorem d_Z_holdsAny_18 : decode b_Z_holdsAny 18 = .ok (.iinc 2 1, 3) := by decide +kernel
theorem d_Z_holdsAny_21 : decode b_Z_holdsAny 21 = .ok (.goto (-19), 3) := by decide +kernel
theorem d_Z_holdsAny_24 : decode b_Z_holdsAny 24 = .ok (.iconst 0, 1) := by decide +kernel
theorem d_Z_holdsAny_25 : decode b_Z_holdsAny 25 = .ok (.ireturn, 1) := by decide +kernel
theorem d_Z_bytesOf_0 : decode b_Z_bytesOf 0 = .ok (.aload_n 0, 1) := by decide +kernel
theorem d_Z_bytesOf_1 : decode b_Z_bytesOf 1 = .ok (.getfield 14, 3) := by decide +kernel
theorem d_Z_bytesOf_4 : decode b_Z_bytesOf 4 = .ok (.iload_n 1, 1) := by decide +kernel
theorem d_Z_bytesOf_5 : decode b_Z_bytesOf 5 = .ok (.invokevirtual 28, 3) := by decide +kernel
theorem d_Z_bytesOf_8 : decode b_Z_bytesOf 8 = .ok (.areturn, 1) := by decide +kernel
theorem d_Z_hold_0 : decode b_Z_hold 0 = .ok (.aload_n 0, 1) := by decide +kernel
theorem d_Z_hold_1 : decode b_Z_hold 1 = .ok (.getfield 20, 3) := by decide +kernel
theorem d_Z_hold_4 : decode b_Z_hold 4 = .ok (.iload_n 1, 1) := by decide +kernel
theorem d_Z_hold_5 : decode b_Z_hold 5 = .ok (.iconst 1, 1) := by decide +kernel
theorem d_Z_hold_6 : decode b_Z_hold 6 = .ok (.bastore, 1) := by decide +kernel
theorem d_Z_hold_7 : decode b_Z_hold 7 = .ok (.aload_n 0, 1) := by decide +kernel
theorem d_Z_hold_8 : decode b_Z_hold 8 = .ok (.getfield 14, 3) := by decide +kernel
theorem d_Z_hold_11 : decode b_Z_hold 11 = .ok (.iload_n 1, 1) := by decide +kernel
theorem d_Z_hold_12 : decode b_Z_hold 12 = .ok (.invokevirtual 28, 3) := by decide +kernel
theorem d_Z_hold_15 : decode b_Z_hold 15 = .ok (.areturn, 1) := by decide +kernel
theorem d_Z_takeOver_0 : decode b_Z_takeOver 0 = .ok (.iconst 0, 1) := by decide +kernel
theorem d_Z_takeOver_1 : decode b_Z_takeOver 1 = .ok (.istore_n 2, 1) := by decide +kernel
theorem d_Z_takeOver_2 : decode b_Z_takeOver 2 = .ok (.iload_n 2, 1) := by decide +kernel
theorem d_Z_takeOver_3 : decode b_Z_takeOver 3 = .ok (.sipush 768, 3) := by decide +kernel
theorem d_Z_takeOver_6 : decode b_Z_takeOver 6 = .ok (.if_icmp .ge 37, 3) := by decide +kernel
theorem d_Z_takeOver_9 : decode b_Z_takeOver 9 = .ok (.aload_n 1, 1) := by decide +kernel
theorem d_Z_takeOver_10 : decode b_Z_takeOver 10 = .ok (.getfield 20, 3) := by decide +kernel
theorem d_Z_takeOver_13 : decode b_Z_takeOver 13 = .ok (.iload_n 2, 1) := by decide +kernel
theorem d_Z_takeOver_14 : decode b_Z_takeOver 14 = .ok (.baload, 1) := by decide +kernel
theorem d_Z_takeOver_15 : decode b_Z_takeOver 15 = .ok (.ifCond .eq 22, 3) := by decide +kernel
theorem d_Z_takeOver_18 : decode b_Z_takeOver 18 = .ok (.aload_n 0, 1) := by decide +kernel
theorem d_Z_takeOver_19 : decode b_Z_takeOver 19 = .ok (.getfield 14, 3) := by decide +kernel
theorem d_Z_takeOver_22 : decode b_Z_takeOver 22 = .ok (.iload_n 2, 1) := by decide +kernel
theorem d_Z_takeOver_23 : decode b_Z_takeOver 23 = .ok (.aload_n 1, 1) := by decide +kernel
theorem d_Z_takeOver_24 : decode b_Z_takeOver 24 = .ok (.getfield 14, 3) := by decide +kernel
theorem d_Z_takeOver_27 : decode b_Z_takeOver 27 = .ok (.invokevirtual 32, 3) := by decide +kernel
theorem d_Z_takeOver_30 : decode b_Z_takeOver 30 = .ok (.aload_n 0, 1) := by decide +kernel
theorem d_Z_takeOver_31 : decode b_Z_takeOver 31 = .ok (.getfield 20, 3) := by decide +kernel
theorem d_Z_takeOver_34 : decode b_Z_takeOver 34 = .ok (.iload_n 2, 1) := by decide +kernel
theorem d_Z_takeOver_35 : decode b_Z_takeOver 35 = .ok (.iconst 1, 1) := by decide +kernel
theorem d_Z_takeOver_36 : decode b_Z_takeOver 36 = .ok (.bastore, 1) := by decide +kernel
theorem d_Z_takeOver_37 : decode b_Z_takeOver 37 = .ok (.iinc 2 1, 3) := by decide +kernel
theorem d_Z_takeOver_40 : decode b_Z_takeOver 40 = .ok (.goto (-38), 3) := by decide +kernel
theorem d_Z_takeOver_43 : decode b_Z_takeOver 43 = .ok (.return_, 1) := by decide +kernel
