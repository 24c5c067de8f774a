theorem d_M_init_0 : decode b_M_init 0 = .ok (.aload_n 0, 1) := by decide +kernel
theorem d_M_init_1 : decode b_M_init 1 = .ok (.invokespecial 1, 3) := by decide +kernel
theorem d_M_init_4 : decode b_M_init 4 = .ok (.aload_n 0, 1) := by decide +kernel
theorem d_M_init_5 : decode b_M_init 5 = .ok (.ldc 7, 2) := by decide +kernel
theorem d_M_init_7 : decode b_M_init 7 = .ok (.newarray .byte, 2) := by decide +kernel
theorem d_M_init_9 : decode b_M_init 9 = .ok (.putfield 8, 3) := by decide +kernel
theorem d_M_init_12 : decode b_M_init 12 = .ok (.aload_n 0, 1) := by decide +kernel
theorem d_M_init_13 : decode b_M_init 13 = .ok (.sipush 4097, 3) := by decide +kernel
theorem d_M_init_16 : decode b_M_init 16 = .ok (.newarray .int, 2) := by decide +kernel
theorem d_M_init_18 : decode b_M_init 18 = .ok (.putfield 14, 3) := by decide +kernel
theorem d_M_init_21 : decode b_M_init 21 = .ok (.aload_n 0, 1) := by decide +kernel
theorem d_M_init_22 : decode b_M_init 22 = .ok (.iconst 1, 1) := by decide +kernel
theorem d_M_init_23 : decode b_M_init 23 = .ok (.putfield 18, 3) := by decide +kernel
theorem d_M_init_26 : decode b_M_init 26 = .ok (.aload_n 0, 1) := by decide +kernel
theorem d_M_init_27 : decode b_M_init 27 = .ok (.iconst 1, 1) := by decide +kernel
theorem d_M_init_28 : decode b_M_init 28 = .ok (.putfield 22, 3) := by decide +kernel
theorem d_M_init_31 : decode b_M_init 31 = .ok (.aload_n 0, 1) := by decide +kernel
theorem d_M_init_32 : decode b_M_init 32 = .ok (.sipush 1024, 3) := by decide +kernel
theorem d_M_init_35 : decode b_M_init 35 = .ok (.newarray .int, 2) := by decide +kernel
theorem d_M_init_37 : decode b_M_init 37 = .ok (.putfield 25, 3) := by decide +kernel
theorem d_M_init_40 : decode b_M_init 40 = .ok (.aload_n 0, 1) := by decide +kernel
theorem d_M_init_41 : decode b_M_init 41 = .ok (.sipush 1024, 3) := by decide +kernel
theorem d_M_init_44 : decode b_M_init 44 = .ok (.newarray .int, 2) := by decide +kernel
theorem d_M_init_46 : decode b_M_init 46 = .ok (.putfield 28, 3) := by decide +kernel
theorem d_M_init_49 : decode b_M_init 49 = .ok (.aload_n 0, 1) := by decide +kernel
theorem d_M_init_50 : decode b_M_init 50 = .ok (.sipush 5120, 3) := by decide +kernel
theorem d_M_init_53 : decode b_M_init 53 = .ok (.newarray .int, 2) := by decide +kernel
theorem d_M_init_55 : decode b_M_init 55 = .ok (.putfield 31, 3) := by decide +kernel
theorem d_M_init_58 : decode b_M_init 58 = .ok (.aload_n 0, 1) := by decide +kernel
theorem d_M_init_59 : decode b_M_init 59 = .ok (.iconst 5, 1) := by decide +kernel
theorem d_M_init_60 : decode b_M_init 60 = .ok (.newarray .int, 2) := by decide +kernel
theorem d_M_init_62 : decode b_M_init 62 = .ok (.putfield 34, 3) := by decide +kernel
theorem d_M_init_65 : decode b_M_init 65 = .ok (.aload_n 0, 1) := by decide +kernel
theorem d_M_init_66 : decode b_M_init 66 = .ok (.iconst 4, 1) := by decide +kernel
theorem d_M_init_67 : decode b_M_init 67 = .ok (.putfield 37, 3) := by decide +kernel
theorem d_M_init_70 : decode b_M_init 70 = .ok (.return_, 1) := by decide +kernel
theorem d_M_thrown_0 : decode b_M_thrown 0 = .ok (.aload_n 0, 1) := by decide +kernel
theorem d_M_thrown_1 : decode b_M_thrown 1 = .ok (.getfield 40, 3) := by decide +kernel
theorem d_M_thrown_4 : decode b_M_thrown 4 = .ok (.ireturn, 1) := by decide +kernel
theorem d_M_fails_0 : decode b_M_fails 0 = .ok (.aload_n 0, 1) := by decide +kernel
theorem d_M_fails_1 : decode b_M_fails 1 = .ok (.iload_n 1, 1) := by decide +kernel
theorem d_M_fails_2 : decode b_M_fails 2 = .ok (.ifCond .eq 7, 3) := by decide +kernel
theorem d_M_fails_5 : decode b_M_fails 5 = .ok (.iconst 1, 1) := by decide +kernel
theorem d_M_fails_6 : decode b_M_fails 6 = .ok (.goto 12, 3) := by decide +kernel
theorem d_M_fails_9 : decode b_M_fails 9 = .ok (.iload_n 2, 1) := by decide +kernel
theorem d_M_fails_10 : decode b_M_fails 10 = .ok (.ifCond .eq 7, 3) := by decide +kernel
theorem d_M_fails_13 : decode b_M_fails 13 = .ok (.iconst 2, 1) := by decide +kernel
theorem d_M_fails_14 : decode b_M_fails 14 = .ok (.goto 4, 3) := by decide +kernel
theorem d_M_fails_17 : decode b_M_fails 17 = .ok (.iconst 0, 1) := by decide +kernel
theorem d_M_fails_18 : decode b_M_fails 18 = .ok (.putfield 40, 3) := by decide +kernel
theorem d_M_fails_21 : decode b_M_fails 21 = .ok (.aload_n 0, 1) := by decide +kernel
theorem d_M_fails_22 : decode b_M_fails 22 = .ok (.getfield 40, 3) := by decide +kernel
theorem d_M_fails_25 : decode b_M_fails 25 = .ok (.ifCond .le 7, 3) := by decide +kernel
theorem d_M_fails_28 : decode b_M_fails 28 = .ok (.iconst 1, 1) := by decide +kernel
theorem d_M_fails_29 : decode b_M_fails 29 = .ok (.goto 4, 3) := by decide +kernel
theorem d_M_fails_32 : decode b_M_fails 32 = .ok (.iconst 0, 1) := by decide +kernel
theorem d_M_fails_33 : decode b_M_fails 33 = .ok (.ireturn, 1) := by decide +kernel
theorem d_M_isPage_0 : decode b_M_isPage 0 = .ok (.iload_n 1, 1) := by decide +kernel
theorem d_M_isPage_1 : decode b_M_isPage 1 = .ok (.ifCond .lt 15, 3) := by decide +kernel
theorem d_M_isPage_4 : decode b_M_isPage 4 = .ok (.iload_n 1, 1) := by decide +kernel
theorem d_M_isPage_5 : decode b_M_isPage 5 = .ok (.aload_n 0, 1) := by decide +kernel
theorem d_M_isPage_6 : decode b_M_isPage 6 = .ok (.getfield 43, 3) := by decide +kernel
theorem d_M_isPage_9 : decode b_M_isPage 9 = .ok (.if_icmp .ge 7, 3) := by decide +kernel
theorem d_M_isPage_12 : decode b_M_isPage 12 = .ok (.iconst 1, 1) := by decide +kernel
theorem d_M_isPage_13 : decode b_M_isPage 13 = .ok (.goto 4, 3) := by decide +kernel
theorem d_M_isPage_16 : decode b_M_isPage 16 = .ok (.iconst 0, 1) := by decide +kernel
theorem d_M_isPage_17 : decode b_M_isPage 17 = .ok (.ireturn, 1) := by decide +kernel
theorem d_M_at_0 : decode b_M_at 0 = .ok (.aload_n 0, 1) := by decide +kernel
theorem d_M_at_1 : decode b_M_at 1 = .ok (.getfield 8, 3) := by decide +kernel
theorem d_M_at_4 : decode b_M_at 4 = .ok (.sipush 256, 3) := by decide +kernel
theorem d_M_at_7 : decode b_M_at 7 = .ok (.aload_n 0, 1) := by decide +kernel
theorem d_M_at_8 : decode b_M_at 8 = .ok (.getfield 25, 3) := by decide +kernel
theorem d_M_at_11 : decode b_M_at 11 = .ok (.iload_n 1, 1) := by decide +kernel
theorem d_M_at_12 : decode b_M_at 12 = .ok (.iaload, 1) := by decide +kernel
theorem d_M_at_13 : decode b_M_at 13 = .ok (.imul, 1) := by decide +kernel
theorem d_M_at_14 : decode b_M_at 14 = .ok (.iload_n 2, 1) := by decide +kernel
theorem d_M_at_15 : decode b_M_at 15 = .ok (.iadd, 1) := by decide +kernel
theorem d_M_at_16 : decode b_M_at 16 = .ok (.baload, 1) := by decide +kernel
theorem d_M_at_17 : decode b_M_at 17 = .ok (.sipush 255, 3) := by decide +kernel
theorem d_M_at_20 : decode b_M_at 20 = .ok (.iand, 1) := by decide +kernel
theorem d_M_at_21 : decode b_M_at 21 = .ok (.ireturn, 1) := by decide +kernel
theorem d_M_pages_0 : decode b_M_pages 0 = .ok (.aload_n 0, 1) := by decide +kernel
theorem d_M_pages_1 : decode b_M_pages 1 = .ok (.aload_n 0, 1) := by decide +kernel
theorem d_M_pages_2 : decode b_M_pages 2 = .ok (.getfield 46, 3) := by decide +kernel
theorem d_M_pages_5 : decode b_M_pages 5 = .ok (.iconst 0, 1) := by decide +kernel
theorem d_M_pages_6 : decode b_M_pages 6 = .ok (.invokevirtual 50, 3) := by decide +kernel
theorem d_M_pages_9 : decode b_M_pages 9 = .ok (.ifCond .eq 5, 3) := by decide +kernel
theorem d_M_pages_12 : decode b_M_pages 12 = .ok (.iconst 0, 1) := by decide +kernel
theorem d_M_pages_13 : decode b_M_pages 13 = .ok (.ireturn, 1) := by decide +kernel
theorem d_M_pages_14 : decode b_M_pages 14 = .ok (.aload_n 0, 1) := by decide +kernel
theorem d_M_pages_15 : decode b_M_pages 15 = .ok (.getfield 43, 3) := by decide +kernel
theorem d_M_pages_18 : decode b_M_pages 18 = .ok (.ireturn, 1) := by decide +kernel
theorem d_M_add_0 : decode b_M_add 0 = .ok (.aload_n 0, 1) := by decide +kernel
theorem d_M_add_1 : decode b_M_add 1 = .ok (.aload_n 0, 1) := by decide +kernel
theorem d_M_add_2 : decode b_M_add 2 = .ok (.getfield 46, 3) := by decide +kernel
theorem d_M_add_5 : decode b_M_add 5 = .ok (.ifCond .ne 20, 3) := by decide +kernel
theorem d_M_add_8 : decode b_M_add 8 = .ok (.aload_n 0, 1) := by decide +kernel
theorem d_M_add_9 : decode b_M_add 9 = .ok (.getfield 54, 3) := by decide +kernel
theorem d_M_add_12 : decode b_M_add 12 = .ok (.ifCond .eq 13, 3) := by decide +kernel
theorem d_M_add_15 : decode b_M_add 15 = .ok (.aload_n 0, 1) := by decide +kernel
theorem d_M_add_16 : decode b_M_add 16 = .ok (.getfield 43, 3) := by decide +kernel
theorem d_M_add_19 : decode b_M_add 19 = .ok (.sipush 768, 3) := by decide +kernel
theorem d_M_add_22 : decode b_M_add 22 = .ok (.if_icmp .ne 7, 3) := by decide +kernel
theorem d_M_add_25 : decode b_M_add 25 = .ok (.iconst 1, 1) := by decide +kernel
theorem d_M_add_26 : decode b_M_add 26 = .ok (.goto 4, 3) := by decide +kernel
theorem d_M_add_29 : decode b_M_add 29 = .ok (.iconst 0, 1) := by decide +kernel
theorem d_M_add_30 : decode b_M_add 30 = .ok (.iconst 0, 1) := by decide +kernel
theorem d_M_add_31 : decode b_M_add 31 = .ok (.invokevirtual 50, 3) := by decide +kernel
theorem d_M_add_34 : decode b_M_add 34 = .ok (.ifCond .eq 5, 3) := by decide +kernel
theorem d_M_add_37 : decode b_M_add 37 = .ok (.iconst 0, 1) := by decide +kernel
theorem d_M_add_38 : decode b_M_add 38 = .ok (.ireturn, 1) := by decide +kernel
theorem d_M_add_39 : decode b_M_add 39 = .ok (.aload_n 0, 1) := by decide +kernel
theorem d_M_add_40 : decode b_M_add 40 = .ok (.getfield 25, 3) := by decide +kernel
theorem d_M_add_43 : decode b_M_add 43 = .ok (.aload_n 0, 1) := by decide +kernel
theorem d_M_add_44 : decode b_M_add 44 = .ok (.getfield 43, 3) := by decide +kernel
theorem d_M_add_47 : decode b_M_add 47 = .ok (.iconst 0, 1) := by decide +kernel
theorem d_M_add_48 : decode b_M_add 48 = .ok (.iastore, 1) := by decide +kernel
theorem d_M_add_49 : decode b_M_add 49 = .ok (.aload_n 0, 1) := by decide +kernel
theorem d_M_add_50 : decode b_M_add 50 = .ok (.dup, 1) := by decide +kernel
theorem d_M_add_51 : decode b_M_add 51 = .ok (.getfield 43, 3) := by decide +kernel
theorem d_M_add_54 : decode b_M_add 54 = .ok (.iconst 1, 1) := by decide +kernel
theorem d_M_add_55 : decode b_M_add 55 = .ok (.iadd, 1) := by decide +kernel
theorem d_M_add_56 : decode b_M_add 56 = .ok (.putfield 43, 3) := by decide +kernel
theorem d_M_add_59 : decode b_M_add 59 = .ok (.aload_n 0, 1) := by decide +kernel
theorem d_M_add_60 : decode b_M_add 60 = .ok (.getfield 43, 3) := by decide +kernel
theorem d_M_add_63 : decode b_M_add 63 = .ok (.iconst 1, 1) := by decide +kernel
theorem d_M_add_64 : decode b_M_add 64 = .ok (.isub, 1) := by decide +kernel
theorem d_M_add_65 : decode b_M_add 65 = .ok (.ireturn, 1) := by decide +kernel
theorem d_M_get_0 : decode b_M_get 0 = .ok (.aload_n 0, 1) := by decide +kernel
theorem d_M_get_1 : decode b_M_get 1 = .ok (.aload_n 0, 1) := by decide +kernel
theorem d_M_get_2 : decode b_M_get 2 = .ok (.getfield 46, 3) := by decide +kernel
theorem d_M_get_5 : decode b_M_get 5 = .ok (.aload_n 0, 1) := by decide +kernel
theorem d_M_get_6 : decode b_M_get 6 = .ok (.iload_n 1, 1) := by decide +kernel
theorem d_M_get_7 : decode b_M_get 7 = .ok (.invokevirtual 57, 3) := by decide +kernel
theorem d_M_get_10 : decode b_M_get 10 = .ok (.ifCond .eq 14, 3) := by decide +kernel
theorem d_M_get_13 : decode b_M_get 13 = .ok (.iload_n 2, 1) := by decide +kernel
theorem d_M_get_14 : decode b_M_get 14 = .ok (.ifCond .lt 10, 3) := by decide +kernel
theorem d_M_get_17 : decode b_M_get 17 = .ok (.iload_n 2, 1) := by decide +kernel
theorem d_M_get_18 : decode b_M_get 18 = .ok (.sipush 256, 3) := by decide +kernel
theorem d_M_get_21 : decode b_M_get 21 = .ok (.if_icmp .lt 7, 3) := by decide +kernel
theorem d_M_get_24 : decode b_M_get 24 = .ok (.iconst 1, 1) := by decide +kernel
theorem d_M_get_25 : decode b_M_get 25 = .ok (.goto 4, 3) := by decide +kernel
theorem d_M_get_28 : decode b_M_get 28 = .ok (.iconst 0, 1) := by decide +kernel
theorem d_M_get_29 : decode b_M_get 29 = .ok (.invokevirtual 50, 3) := by decide +kernel
theorem d_M_get_32 : decode b_M_get 32 = .ok (.ifCond .eq 5, 3) := by decide +kernel
theorem d_M_get_35 : decode b_M_get 35 = .ok (.iconst 0, 1) := by decide +kernel
theorem d_M_get_36 : decode b_M_get 36 = .ok (.ireturn, 1) := by decide +kernel
theorem d_M_get_37 : decode b_M_get 37 = .ok (.aload_n 0, 1) := by decide +kernel
theorem d_M_get_38 : decode b_M_get 38 = .ok (.iload_n 1, 1) := by decide +kernel
theorem d_M_get_39 : decode b_M_get 39 = .ok (.iload_n 2, 1) := by decide +kernel
theorem d_M_get_40 : decode b_M_get 40 = .ok (.invokevirtual 61, 3) := by decide +kernel
theorem d_M_get_43 : decode b_M_get 43 = .ok (.ireturn, 1) := by decide +kernel
theorem d_M_own_0 : decode b_M_own 0 = .ok (.aload_n 0, 1) := by decide +kernel
theorem d_M_own_1 : decode b_M_own 1 = .ok (.getfield 25, 3) := by decide +kernel
theorem d_M_own_4 : decode b_M_own 4 = .ok (.iload_n 1, 1) := by decide +kernel
theorem d_M_own_5 : decode b_M_own 5 = .ok (.iaload, 1) := by decide +kernel
theorem d_M_own_6 : decode b_M_own 6 = .ok (.istore_n 2, 1) := by decide +kernel
theorem d_M_own_7 : decode b_M_own 7 = .ok (.iload_n 2, 1) := by decide +kernel
theorem d_M_own_8 : decode b_M_own 8 = .ok (.ifCond .le 17, 3) := by decide +kernel
theorem d_M_own_11 : decode b_M_own 11 = .ok (.aload_n 0, 1) := by decide +kernel
theorem d_M_own_12 : decode b_M_own 12 = .ok (.getfield 14, 3) := by decide +kernel
theorem d_M_own_15 : decode b_M_own 15 = .ok (.iload_n 2, 1) := by decide +kernel
theorem d_M_own_16 : decode b_M_own 16 = .ok (.iaload, 1) := by decide +kernel
theorem d_M_own_17 : decode b_M_own 17 = .ok (.aload_n 0, 1) := by decide +kernel
theorem d_M_own_18 : decode b_M_own 18 = .ok (.getfield 22, 3) := by decide +kernel
theorem d_M_own_21 : decode b_M_own 21 = .ok (.if_icmp .ne 4, 3) := by decide +kernel
theorem d_M_own_24 : decode b_M_own 24 = .ok (.return_, 1) := by decide +kernel
theorem d_M_own_25 : decode b_M_own 25 = .ok (.iconst 0, 1) := by decide +kernel
theorem d_M_own_26 : decode b_M_own 26 = .ok (.istore_n 3, 1) := by decide +kernel
theorem d_M_own_27 : decode b_M_own 27 = .ok (.iload_n 3, 1) := by decide +kernel
theorem d_M_own_28 : decode b_M_own 28 = .ok (.sipush 256, 3) := by decide +kernel
theorem d_M_own_31 : decode b_M_own 31 = .ok (.if_icmp .ge 36, 3) := by decide +kernel
theorem d_M_own_34 : decode b_M_own 34 = .ok (.aload_n 0, 1) := by decide +kernel
theorem d_M_own_35 : decode b_M_own 35 = .ok (.getfield 8, 3) := by decide +kernel
theorem d_M_own_38 : decode b_M_own 38 = .ok (.sipush 256, 3) := by decide +kernel
theorem d_M_own_41 : decode b_M_own 41 = .ok (.aload_n 0, 1) := by decide +kernel
theorem d_M_own_42 : decode b_M_own 42 = .ok (.getfield 18, 3) := by decide +kernel
theorem d_M_own_45 : decode b_M_own 45 = .ok (.imul, 1) := by decide +kernel
theorem d_M_own_46 : decode b_M_own 46 = .ok (.iload_n 3, 1) := by decide +kernel
theorem d_M_own_47 : decode b_M_own 47 = .ok (.iadd, 1) := by decide +kernel
theorem d_M_own_48 : decode b_M_own 48 = .ok (.aload_n 0, 1) := by decide +kernel
theorem d_M_own_49 : decode b_M_own 49 = .ok (.getfield 8, 3) := by decide +kernel
theorem d_M_own_52 : decode b_M_own 52 = .ok (.sipush 256, 3) := by decide +kernel
theorem d_M_own_55 : decode b_M_own 55 = .ok (.iload_n 2, 1) := by decide +kernel
theorem d_M_own_56 : decode b_M_own 56 = .ok (.imul, 1) := by decide +kernel
theorem d_M_own_57 : decode b_M_own 57 = .ok (.iload_n 3, 1) := by decide +kernel
theorem d_M_own_58 : decode b_M_own 58 = .ok (.iadd, 1) := by decide +kernel
theorem d_M_own_59 : decode b_M_own 59 = .ok (.baload, 1) := by decide +kernel
theorem d_M_own_60 : decode b_M_own 60 = .ok (.bastore, 1) := by decide +kernel
theorem d_M_own_61 : decode b_M_own 61 = .ok (.iinc 3 1, 3) := by decide +kernel
theorem d_M_own_64 : decode b_M_own 64 = .ok (.goto (-37), 3) := by decide +kernel
theorem d_M_own_67 : decode b_M_own 67 = .ok (.aload_n 0, 1) := by decide +kernel
theorem d_M_own_68 : decode b_M_own 68 = .ok (.getfield 14, 3) := by decide +kernel
theorem d_M_own_71 : decode b_M_own 71 = .ok (.aload_n 0, 1) := by decide +kernel
theorem d_M_own_72 : decode b_M_own 72 = .ok (.getfield 18, 3) := by decide +kernel
theorem d_M_own_75 : decode b_M_own 75 = .ok (.aload_n 0, 1) := by decide +kernel
theorem d_M_own_76 : decode b_M_own 76 = .ok (.getfield 22, 3) := by decide +kernel
theorem d_M_own_79 : decode b_M_own 79 = .ok (.iastore, 1) := by decide +kernel
theorem d_M_own_80 : decode b_M_own 80 = .ok (.aload_n 0, 1) := by decide +kernel
theorem d_M_own_81 : decode b_M_own 81 = .ok (.getfield 25, 3) := by decide +kernel
theorem d_M_own_84 : decode b_M_own 84 = .ok (.iload_n 1, 1) := by decide +kernel
theorem d_M_own_85 : decode b_M_own 85 = .ok (.aload_n 0, 1) := by decide +kernel
theorem d_M_own_86 : decode b_M_own 86 = .ok (.getfield 18, 3) := by decide +kernel
theorem d_M_own_89 : decode b_M_own 89 = .ok (.iastore, 1) := by decide +kernel
theorem d_M_own_90 : decode b_M_own 90 = .ok (.aload_n 0, 1) := by decide +kernel
theorem d_M_own_91 : decode b_M_own 91 = .ok (.dup, 1) := by decide +kernel
theorem d_M_own_92 : decode b_M_own 92 = .ok (.getfield 18, 3) := by decide +kernel
theorem d_M_own_95 : decode b_M_own 95 = .ok (.iconst 1, 1) := by decide +kernel
theorem d_M_own_96 : decode b_M_own 96 = .ok (.iadd, 1) := by decide +kernel
theorem d_M_own_97 : decode b_M_own 97 = .ok (.putfield 18, 3) := by decide +kernel
theorem d_M_own_100 : decode b_M_own 100 = .ok (.return_, 1) := by decide +kernel
theorem d_M_put_0 : decode b_M_put 0 = .ok (.aload_n 0, 1) := by decide +kernel
theorem d_M_put_1 : decode b_M_put 1 = .ok (.aload_n 0, 1) := by decide +kernel
theorem d_M_put_2 : decode b_M_put 2 = .ok (.getfield 46, 3) := by decide +kernel
theorem d_M_put_5 : decode b_M_put 5 = .ok (.ifCond .ne 10, 3) := by decide +kernel
theorem d_M_put_8 : decode b_M_put 8 = .ok (.aload_n 0, 1) := by decide +kernel
theorem d_M_put_9 : decode b_M_put 9 = .ok (.getfield 54, 3) := by decide +kernel
theorem d_M_put_12 : decode b_M_put 12 = .ok (.ifCond .ne 7, 3) := by decide +kernel
theorem d_M_put_15 : decode b_M_put 15 = .ok (.iconst 1, 1) := by decide +kernel
theorem d_M_put_16 : decode b_M_put 16 = .ok (.goto 4, 3) := by decide +kernel
theorem d_M_put_19 : decode b_M_put 19 = .ok (.iconst 0, 1) := by decide +kernel
theorem d_M_put_20 : decode b_M_put 20 = .ok (.aload_n 0, 1) := by decide +kernel
theorem d_M_put_21 : decode b_M_put 21 = .ok (.iload_n 1, 1) := by decide +kernel
theorem d_M_put_22 : decode b_M_put 22 = .ok (.invokevirtual 57, 3) := by decide +kernel
theorem d_M_put_25 : decode b_M_put 25 = .ok (.ifCond .eq 14, 3) := by decide +kernel
theorem d_M_put_28 : decode b_M_put 28 = .ok (.iload_n 2, 1) := by decide +kernel
theorem d_M_put_29 : decode b_M_put 29 = .ok (.ifCond .lt 10, 3) := by decide +kernel
theorem d_M_put_32 : decode b_M_put 32 = .ok (.iload_n 2, 1) := by decide +kernel
theorem d_M_put_33 : decode b_M_put 33 = .ok (.sipush 256, 3) := by decide +kernel
theorem d_M_put_36 : decode b_M_put 36 = .ok (.if_icmp .lt 7, 3) := by decide +kernel
theorem d_M_put_39 : decode b_M_put 39 = .ok (.iconst 1, 1) := by decide +kernel
theorem d_M_put_40 : decode b_M_put 40 = .ok (.goto 4, 3) := by decide +kernel
theorem d_M_put_43 : decode b_M_put 43 = .ok (.iconst 0, 1) := by decide +kernel
theorem d_M_put_44 : decode b_M_put 44 = .ok (.invokevirtual 50, 3) := by decide +kernel
theorem d_M_put_47 : decode b_M_put 47 = .ok (.ifCond .eq 5, 3) := by decide +kernel
theorem d_M_put_50 : decode b_M_put 50 = .ok (.iconst 0, 1) := by decide +kernel
theorem d_M_put_51 : decode b_M_put 51 = .ok (.ireturn, 1) := by decide +kernel
theorem d_M_put_52 : decode b_M_put 52 = .ok (.aload_n 0, 1) := by decide +kernel
theorem d_M_put_53 : decode b_M_put 53 = .ok (.iload_n 1, 1) := by decide +kernel
theorem d_M_put_54 : decode b_M_put 54 = .ok (.iload_n 2, 1) := by decide +kernel
theorem d_M_put_55 : decode b_M_put 55 = .ok (.invokevirtual 61, 3) := by decide +kernel
theorem d_M_put_58 : decode b_M_put 58 = .ok (.istore 4, 2) := by decide +kernel
theorem d_M_put_60 : decode b_M_put 60 = .ok (.aload_n 0, 1) := by decide +kernel
theorem d_M_put_61 : decode b_M_put 61 = .ok (.iload_n 1, 1) := by decide +kernel
theorem d_M_put_62 : decode b_M_put 62 = .ok (.invokevirtual 65, 3) := by decide +kernel
theorem d_M_put_65 : decode b_M_put 65 = .ok (.aload_n 0, 1) := by decide +kernel
theorem d_M_put_66 : decode b_M_put 66 = .ok (.getfield 8, 3) := by decide +kernel
theorem d_M_put_69 : decode b_M_put 69 = .ok (.sipush 256, 3) := by decide +kernel
theorem d_M_put_72 : decode b_M_put 72 = .ok (.aload_n 0, 1) := by decide +kernel
theorem d_M_put_73 : decode b_M_put 73 = .ok (.getfield 25, 3) := by decide +kernel
theorem d_M_put_76 : decode b_M_put 76 = .ok (.iload_n 1, 1) := by decide +kernel
theorem d_M_put_77 : decode b_M_put 77 = .ok (.iaload, 1) := by decide +kernel
theorem d_M_put_78 : decode b_M_put 78 = .ok (.imul, 1) := by decide +kernel
theorem d_M_put_79 : decode b_M_put 79 = .ok (.iload_n 2, 1) := by decide +kernel
theorem d_M_put_80 : decode b_M_put 80 = .ok (.iadd, 1) := by decide +kernel
theorem d_M_put_81 : decode b_M_put 81 = .ok (.iload_n 3, 1) := by decide +kernel
theorem d_M_put_82 : decode b_M_put 82 = .ok (.i2b, 1) := by decide +kernel
theorem d_M_put_83 : decode b_M_put 83 = .ok (.bastore, 1) := by decide +kernel
theorem d_M_put_84 : decode b_M_put 84 = .ok (.iload 4, 2) := by decide +kernel
theorem d_M_put_86 : decode b_M_put 86 = .ok (.ireturn, 1) := by decide +kernel
theorem d_M_isPart_0 : decode b_M_isPart 0 = .ok (.iload_n 0, 1) := by decide +kernel
theorem d_M_isPart_1 : decode b_M_isPart 1 = .ok (.ifCond .lt 27, 3) := by decide +kernel
theorem d_M_isPart_4 : decode b_M_isPart 4 = .ok (.iload_n 1, 1) := by decide +kernel
theorem d_M_isPart_5 : decode b_M_isPart 5 = .ok (.ifCond .lt 23, 3) := by decide +kernel
theorem d_M_isPart_8 : decode b_M_isPart 8 = .ok (.iload_n 0, 1) := by decide +kernel
theorem d_M_isPart_9 : decode b_M_isPart 9 = .ok (.sipush 256, 3) := by decide +kernel
theorem d_M_isPart_12 : decode b_M_isPart 12 = .ok (.if_icmp .gt 16, 3) := by decide +kernel
theorem d_M_isPart_15 : decode b_M_isPart 15 = .ok (.iload_n 1, 1) := by decide +kernel
theorem d_M_isPart_16 : decode b_M_isPart 16 = .ok (.sipush 256, 3) := by decide +kernel
theorem d_M_isPart_19 : decode b_M_isPart 19 = .ok (.iload_n 0, 1) := by decide +kernel
theorem d_M_isPart_20 : decode b_M_isPart 20 = .ok (.isub, 1) := by decide +kernel
theorem d_M_isPart_21 : decode b_M_isPart 21 = .ok (.if_icmp .gt 7, 3) := by decide +kernel
theorem d_M_isPart_24 : decode b_M_isPart 24 = .ok (.iconst 1, 1) := by decide +kernel
theorem d_M_isPart_25 : decode b_M_isPart 25 = .ok (.goto 4, 3) := by decide +kernel
theorem d_M_isPart_28 : decode b_M_isPart 28 = .ok (.iconst 0, 1) := by decide +kernel
theorem d_M_isPart_29 : decode b_M_isPart 29 = .ok (.ireturn, 1) := by decide +kernel
theorem d_M_move_0 : decode b_M_move 0 = .ok (.aload_n 0, 1) := by decide +kernel
theorem d_M_move_1 : decode b_M_move 1 = .ok (.aload_n 0, 1) := by decide +kernel
theorem d_M_move_2 : decode b_M_move 2 = .ok (.getfield 46, 3) := by decide +kernel
theorem d_M_move_5 : decode b_M_move 5 = .ok (.ifCond .ne 10, 3) := by decide +kernel
theorem d_M_move_8 : decode b_M_move 8 = .ok (.aload_n 0, 1) := by decide +kernel
theorem d_M_move_9 : decode b_M_move 9 = .ok (.getfield 54, 3) := by decide +kernel
theorem d_M_move_12 : decode b_M_move 12 = .ok (.ifCond .ne 7, 3) := by decide +kernel
theorem d_M_move_15 : decode b_M_move 15 = .ok (.iconst 1, 1) := by decide +kernel
theorem d_M_move_16 : decode b_M_move 16 = .ok (.goto 4, 3) := by decide +kernel
theorem d_M_move_19 : decode b_M_move 19 = .ok (.iconst 0, 1) := by decide +kernel
theorem d_M_move_20 : decode b_M_move 20 = .ok (.aload_n 0, 1) := by decide +kernel
theorem d_M_move_21 : decode b_M_move 21 = .ok (.iload_n 1, 1) := by decide +kernel
theorem d_M_move_22 : decode b_M_move 22 = .ok (.invokevirtual 57, 3) := by decide +kernel
theorem d_M_move_25 : decode b_M_move 25 = .ok (.ifCond .eq 30, 3) := by decide +kernel
theorem d_M_move_28 : decode b_M_move 28 = .ok (.aload_n 0, 1) := by decide +kernel
theorem d_M_move_29 : decode b_M_move 29 = .ok (.iload_n 3, 1) := by decide +kernel
theorem d_M_move_30 : decode b_M_move 30 = .ok (.invokevirtual 57, 3) := by decide +kernel
theorem d_M_move_33 : decode b_M_move 33 = .ok (.ifCond .eq 22, 3) := by decide +kernel
theorem d_M_move_36 : decode b_M_move 36 = .ok (.iload_n 2, 1) := by decide +kernel
theorem d_M_move_37 : decode b_M_move 37 = .ok (.iload 5, 2) := by decide +kernel
theorem d_M_move_39 : decode b_M_move 39 = .ok (.invokestatic 69, 3) := by decide +kernel
theorem d_M_move_42 : decode b_M_move 42 = .ok (.ifCond .eq 13, 3) := by decide +kernel
theorem d_M_move_45 : decode b_M_move 45 = .ok (.iload 4, 2) := by decide +kernel
theorem d_M_move_47 : decode b_M_move 47 = .ok (.iload 5, 2) := by decide +kernel
theorem d_M_move_49 : decode b_M_move 49 = .ok (.invokestatic 69, 3) := by decide +kernel
theorem d_M_move_52 : decode b_M_move 52 = .ok (.ifCond .ne 7, 3) := by decide +kernel
theorem d_M_move_55 : decode b_M_move 55 = .ok (.iconst 1, 1) := by decide +kernel
theorem d_M_move_56 : decode b_M_move 56 = .ok (.goto 4, 3) := by decide +kernel
theorem d_M_move_59 : decode b_M_move 59 = .ok (.iconst 0, 1) := by decide +kernel
theorem d_M_move_60 : decode b_M_move 60 = .ok (.invokevirtual 50, 3) := by decide +kernel
theorem d_M_move_63 : decode b_M_move 63 = .ok (.ifCond .eq 4, 3) := by decide +kernel
theorem d_M_move_66 : decode b_M_move 66 = .ok (.return_, 1) := by decide +kernel
theorem d_M_move_67 : decode b_M_move 67 = .ok (.aload_n 0, 1) := by decide +kernel
theorem d_M_move_68 : decode b_M_move 68 = .ok (.getfield 25, 3) := by decide +kernel
theorem d_M_move_71 : decode b_M_move 71 = .ok (.iload_n 1, 1) := by decide +kernel
theorem d_M_move_72 : decode b_M_move 72 = .ok (.iaload, 1) := by decide +kernel
theorem d_M_move_73 : decode b_M_move 73 = .ok (.istore 6, 2) := by decide +kernel
theorem d_M_move_75 : decode b_M_move 75 = .ok (.iload 5, 2) := by decide +kernel
theorem d_M_move_77 : decode b_M_move 77 = .ok (.ifCond .le 8, 3) := by decide +kernel
theorem d_M_move_80 : decode b_M_move 80 = .ok (.aload_n 0, 1) := by decide +kernel
theorem d_M_move_81 : decode b_M_move 81 = .ok (.iload_n 3, 1) := by decide +kernel
theorem d_M_move_82 : decode b_M_move 82 = .ok (.invokevirtual 65, 3) := by decide +kernel
theorem d_M_move_85 : decode b_M_move 85 = .ok (.iload 6, 2) := by decide +kernel
theorem d_M_move_87 : decode b_M_move 87 = .ok (.aload_n 0, 1) := by decide +kernel
theorem d_M_move_88 : decode b_M_move 88 = .ok (.getfield 25, 3) := by decide +kernel
theorem d_M_move_91 : decode b_M_move 91 = .ok (.iload_n 3, 1) := by decide +kernel
theorem d_M_move_92 : decode b_M_move 92 = .ok (.iaload, 1) := by decide +kernel
theorem d_M_move_93 : decode b_M_move 93 = .ok (.if_icmp .ne 64, 3) := by decide +kernel
theorem d_M_move_96 : decode b_M_move 96 = .ok (.iload 4, 2) := by decide +kernel
theorem d_M_move_98 : decode b_M_move 98 = .ok (.iload_n 2, 1) := by decide +kernel
theorem d_M_move_99 : decode b_M_move 99 = .ok (.if_icmp .le 58, 3) := by decide +kernel
theorem d_M_move_102 : decode b_M_move 102 = .ok (.iload 5, 2) := by decide +kernel
theorem d_M_move_104 : decode b_M_move 104 = .ok (.iconst 1, 1) := by decide +kernel
theorem d_M_move_105 : decode b_M_move 105 = .ok (.isub, 1) := by decide +kernel
theorem d_M_move_106 : decode b_M_move 106 = .ok (.istore 7, 2) := by decide +kernel
theorem d_M_move_108 : decode b_M_move 108 = .ok (.iload 7, 2) := by decide +kernel
theorem d_M_move_110 : decode b_M_move 110 = .ok (.ifCond .lt 46, 3) := by decide +kernel
theorem d_M_move_113 : decode b_M_move 113 = .ok (.aload_n 0, 1) := by decide +kernel
theorem d_M_move_114 : decode b_M_move 114 = .ok (.getfield 8, 3) := by decide +kernel
theorem d_M_move_117 : decode b_M_move 117 = .ok (.sipush 256, 3) := by decide +kernel
theorem d_M_move_120 : decode b_M_move 120 = .ok (.aload_n 0, 1) := by decide +kernel
theorem d_M_move_121 : decode b_M_move 121 = .ok (.getfield 25, 3) := by decide +kernel
theorem d_M_move_124 : decode b_M_move 124 = .ok (.iload_n 3, 1) := by decide +kernel
theorem d_M_move_125 : decode b_M_move 125 = .ok (.iaload, 1) := by decide +kernel
theorem d_M_move_126 : decode b_M_move 126 = .ok (.imul, 1) := by decide +kernel
theorem d_M_move_127 : decode b_M_move 127 = .ok (.iload 4, 2) := by decide +kernel
theorem d_M_move_129 : decode b_M_move 129 = .ok (.iadd, 1) := by decide +kernel
theorem d_M_move_130 : decode b_M_move 130 = .ok (.iload 7, 2) := by decide +kernel
theorem d_M_move_132 : decode b_M_move 132 = .ok (.iadd, 1) := by decide +kernel
theorem d_M_move_133 : decode b_M_move 133 = .ok (.aload_n 0, 1) := by decide +kernel
theorem d_M_move_134 : decode b_M_move 134 = .ok (.getfield 8, 3) := by decide +kernel
theorem d_M_move_137 : decode b_M_move 137 = .ok (.sipush 256, 3) := by decide +kernel
theorem d_M_move_140 : decode b_M_move 140 = .ok (.iload 6, 2) := by decide +kernel
theorem d_M_move_142 : decode b_M_move 142 = .ok (.imul, 1) := by decide +kernel
theorem d_M_move_143 : decode b_M_move 143 = .ok (.iload_n 2, 1) := by decide +kernel
theorem d_M_move_144 : decode b_M_move 144 = .ok (.iadd, 1) := by decide +kernel
theorem d_M_move_145 : decode b_M_move 145 = .ok (.iload 7, 2) := by decide +kernel
theorem d_M_move_147 : decode b_M_move 147 = .ok (.iadd, 1) := by decide +kernel
theorem d_M_move_148 : decode b_M_move 148 = .ok (.baload, 1) := by decide +kernel
theorem d_M_move_149 : decode b_M_move 149 = .ok (.bastore, 1) := by decide +kernel
theorem d_M_move_150 : decode b_M_move 150 = .ok (.iinc 7 (-1), 3) := by decide +kernel
theorem d_M_move_153 : decode b_M_move 153 = .ok (.goto (-45), 3) := by decide +kernel
theorem d_M_move_156 : decode b_M_move 156 = .ok (.return_, 1) := by decide +kernel
theorem d_M_move_157 : decode b_M_move 157 = .ok (.iconst 0, 1) := by decide +kernel
theorem d_M_move_158 : decode b_M_move 158 = .ok (.istore 7, 2) := by decide +kernel
theorem d_M_move_160 : decode b_M_move 160 = .ok (.iload 7, 2) := by decide +kernel
theorem d_M_move_162 : decode b_M_move 162 = .ok (.iload 5, 2) := by decide +kernel
theorem d_M_move_164 : decode b_M_move 164 = .ok (.if_icmp .ge 46, 3) := by decide +kernel
theorem d_M_move_167 : decode b_M_move 167 = .ok (.aload_n 0, 1) := by decide +kernel
theorem d_M_move_168 : decode b_M_move 168 = .ok (.getfield 8, 3) := by decide +kernel
theorem d_M_move_171 : decode b_M_move 171 = .ok (.sipush 256, 3) := by decide +kernel
theorem d_M_move_174 : decode b_M_move 174 = .ok (.aload_n 0, 1) := by decide +kernel
theorem d_M_move_175 : decode b_M_move 175 = .ok (.getfield 25, 3) := by decide +kernel
theorem d_M_move_178 : decode b_M_move 178 = .ok (.iload_n 3, 1) := by decide +kernel
theorem d_M_move_179 : decode b_M_move 179 = .ok (.iaload, 1) := by decide +kernel
theorem d_M_move_180 : decode b_M_move 180 = .ok (.imul, 1) := by decide +kernel
theorem d_M_move_181 : decode b_M_move 181 = .ok (.iload 4, 2) := by decide +kernel
theorem d_M_move_183 : decode b_M_move 183 = .ok (.iadd, 1) := by decide +kernel
theorem d_M_move_184 : decode b_M_move 184 = .ok (.iload 7, 2) := by decide +kernel
theorem d_M_move_186 : decode b_M_move 186 = .ok (.iadd, 1) := by decide +kernel
theorem d_M_move_187 : decode b_M_move 187 = .ok (.aload_n 0, 1) := by decide +kernel
theorem d_M_move_188 : decode b_M_move 188 = .ok (.getfield 8, 3) := by decide +kernel
theorem d_M_move_191 : decode b_M_move 191 = .ok (.sipush 256, 3) := by decide +kernel
theorem d_M_move_194 : decode b_M_move 194 = .ok (.iload 6, 2) := by decide +kernel
theorem d_M_move_196 : decode b_M_move 196 = .ok (.imul, 1) := by decide +kernel
theorem d_M_move_197 : decode b_M_move 197 = .ok (.iload_n 2, 1) := by decide +kernel
theorem d_M_move_198 : decode b_M_move 198 = .ok (.iadd, 1) := by decide +kernel
theorem d_M_move_199 : decode b_M_move 199 = .ok (.iload 7, 2) := by decide +kernel
theorem d_M_move_201 : decode b_M_move 201 = .ok (.iadd, 1) := by decide +kernel
theorem d_M_move_202 : decode b_M_move 202 = .ok (.baload, 1) := by decide +kernel
theorem d_M_move_203 : decode b_M_move 203 = .ok (.bastore, 1) := by decide +kernel
theorem d_M_move_204 : decode b_M_move 204 = .ok (.iinc 7 1, 3) := by decide +kernel
theorem d_M_move_207 : decode b_M_move 207 = .ok (.goto (-47), 3) := by decide +kernel
theorem d_M_move_210 : decode b_M_move 210 = .ok (.return_, 1) := by decide +kernel
theorem d_M_sum_0 : decode b_M_sum 0 = .ok (.aload_n 0, 1) := by decide +kernel
theorem d_M_sum_1 : decode b_M_sum 1 = .ok (.aload_n 0, 1) := by decide +kernel
theorem d_M_sum_2 : decode b_M_sum 2 = .ok (.getfield 46, 3) := by decide +kernel
theorem d_M_sum_5 : decode b_M_sum 5 = .ok (.aload_n 0, 1) := by decide +kernel
theorem d_M_sum_6 : decode b_M_sum 6 = .ok (.iload_n 1, 1) := by decide +kernel
theorem d_M_sum_7 : decode b_M_sum 7 = .ok (.invokevirtual 57, 3) := by decide +kernel
theorem d_M_sum_10 : decode b_M_sum 10 = .ok (.ifCond .ne 7, 3) := by decide +kernel
theorem d_M_sum_13 : decode b_M_sum 13 = .ok (.iconst 1, 1) := by decide +kernel
theorem d_M_sum_14 : decode b_M_sum 14 = .ok (.goto 4, 3) := by decide +kernel
theorem d_M_sum_17 : decode b_M_sum 17 = .ok (.iconst 0, 1) := by decide +kernel
theorem d_M_sum_18 : decode b_M_sum 18 = .ok (.invokevirtual 50, 3) := by decide +kernel
theorem d_M_sum_21 : decode b_M_sum 21 = .ok (.ifCond .eq 5, 3) := by decide +kernel
theorem d_M_sum_24 : decode b_M_sum 24 = .ok (.lconst 0, 1) := by decide +kernel
theorem d_M_sum_25 : decode b_M_sum 25 = .ok (.lreturn, 1) := by decide +kernel
theorem d_M_sum_26 : decode b_M_sum 26 = .ok (.ldc2_w 73, 3) := by decide +kernel
theorem d_M_sum_29 : decode b_M_sum 29 = .ok (.lstore_n 2, 1) := by decide +kernel
theorem d_M_sum_30 : decode b_M_sum 30 = .ok (.iconst 0, 1) := by decide +kernel
theorem d_M_sum_31 : decode b_M_sum 31 = .ok (.istore 4, 2) := by decide +kernel
theorem d_M_sum_33 : decode b_M_sum 33 = .ok (.iload 4, 2) := by decide +kernel
theorem d_M_sum_35 : decode b_M_sum 35 = .ok (.sipush 256, 3) := by decide +kernel
theorem d_M_sum_38 : decode b_M_sum 38 = .ok (.if_icmp .ge 24, 3) := by decide +kernel
theorem d_M_sum_41 : decode b_M_sum 41 = .ok (.ldc2_w 75, 3) := by decide +kernel
theorem d_M_sum_44 : decode b_M_sum 44 = .ok (.lload_n 2, 1) := by decide +kernel
theorem d_M_sum_45 : decode b_M_sum 45 = .ok (.lmul, 1) := by decide +kernel
theorem d_M_sum_46 : decode b_M_sum 46 = .ok (.aload_n 0, 1) := by decide +kernel
theorem d_M_sum_47 : decode b_M_sum 47 = .ok (.iload_n 1, 1) := by decide +kernel
theorem d_M_sum_48 : decode b_M_sum 48 = .ok (.iload 4, 2) := by decide +kernel
theorem d_M_sum_50 : decode b_M_sum 50 = .ok (.invokevirtual 61, 3) := by decide +kernel
theorem d_M_sum_53 : decode b_M_sum 53 = .ok (.i2l, 1) := by decide +kernel
theorem d_M_sum_54 : decode b_M_sum 54 = .ok (.ladd, 1) := by decide +kernel
theorem d_M_sum_55 : decode b_M_sum 55 = .ok (.lstore_n 2, 1) := by decide +kernel
theorem d_M_sum_56 : decode b_M_sum 56 = .ok (.iinc 4 1, 3) := by decide +kernel
theorem d_M_sum_59 : decode b_M_sum 59 = .ok (.goto (-26), 3) := by decide +kernel
theorem d_M_sum_62 : decode b_M_sum 62 = .ok (.lload_n 2, 1) := by decide +kernel
theorem d_M_sum_63 : decode b_M_sum 63 = .ok (.lreturn, 1) := by decide +kernel
theorem d_M_begin_0 : decode b_M_begin 0 = .ok (.aload_n 0, 1) := by decide +kernel
theorem d_M_begin_1 : decode b_M_begin 1 = .ok (.aload_n 0, 1) := by decide +kernel
theorem d_M_begin_2 : decode b_M_begin 2 = .ok (.getfield 46, 3) := by decide +kernel
theorem d_M_begin_5 : decode b_M_begin 5 = .ok (.ifCond .ne 10, 3) := by decide +kernel
theorem d_M_begin_8 : decode b_M_begin 8 = .ok (.aload_n 0, 1) := by decide +kernel
theorem d_M_begin_9 : decode b_M_begin 9 = .ok (.getfield 54, 3) := by decide +kernel
theorem d_M_begin_12 : decode b_M_begin 12 = .ok (.ifCond .eq 7, 3) := by decide +kernel
theorem d_M_begin_15 : decode b_M_begin 15 = .ok (.iconst 1, 1) := by decide +kernel
theorem d_M_begin_16 : decode b_M_begin 16 = .ok (.goto 4, 3) := by decide +kernel
theorem d_M_begin_19 : decode b_M_begin 19 = .ok (.iconst 0, 1) := by decide +kernel
theorem d_M_begin_20 : decode b_M_begin 20 = .ok (.iconst 0, 1) := by decide +kernel
theorem d_M_begin_21 : decode b_M_begin 21 = .ok (.invokevirtual 50, 3) := by decide +kernel
theorem d_M_begin_24 : decode b_M_begin 24 = .ok (.ifCond .eq 4, 3) := by decide +kernel
theorem d_M_begin_27 : decode b_M_begin 27 = .ok (.return_, 1) := by decide +kernel
theorem d_M_begin_28 : decode b_M_begin 28 = .ok (.aload_n 0, 1) := by decide +kernel
theorem d_M_begin_29 : decode b_M_begin 29 = .ok (.iconst 1, 1) := by decide +kernel
theorem d_M_begin_30 : decode b_M_begin 30 = .ok (.putfield 54, 3) := by decide +kernel
theorem d_M_begin_33 : decode b_M_begin 33 = .ok (.aload_n 0, 1) := by decide +kernel
theorem d_M_begin_34 : decode b_M_begin 34 = .ok (.iconst 0, 1) := by decide +kernel
theorem d_M_begin_35 : decode b_M_begin 35 = .ok (.putfield 77, 3) := by decide +kernel
theorem d_M_begin_38 : decode b_M_begin 38 = .ok (.aload_n 0, 1) := by decide +kernel
theorem d_M_begin_39 : decode b_M_begin 39 = .ok (.dup, 1) := by decide +kernel
theorem d_M_begin_40 : decode b_M_begin 40 = .ok (.getfield 22, 3) := by decide +kernel
theorem d_M_begin_43 : decode b_M_begin 43 = .ok (.iconst 1, 1) := by decide +kernel
theorem d_M_begin_44 : decode b_M_begin 44 = .ok (.iadd, 1) := by decide +kernel
theorem d_M_begin_45 : decode b_M_begin 45 = .ok (.putfield 22, 3) := by decide +kernel
theorem d_M_begin_48 : decode b_M_begin 48 = .ok (.return_, 1) := by decide +kernel
theorem d_M_lasts_0 : decode b_M_lasts 0 = .ok (.iconst 0, 1) := by decide +kernel
theorem d_M_lasts_1 : decode b_M_lasts 1 = .ok (.istore_n 1, 1) := by decide +kernel
theorem d_M_lasts_2 : decode b_M_lasts 2 = .ok (.iload_n 1, 1) := by decide +kernel
theorem d_M_lasts_3 : decode b_M_lasts 3 = .ok (.aload_n 0, 1) := by decide +kernel
theorem d_M_lasts_4 : decode b_M_lasts 4 = .ok (.getfield 43, 3) := by decide +kernel
theorem d_M_lasts_7 : decode b_M_lasts 7 = .ok (.if_icmp .ge 21, 3) := by decide +kernel
theorem d_M_lasts_10 : decode b_M_lasts 10 = .ok (.aload_n 0, 1) := by decide +kernel
theorem d_M_lasts_11 : decode b_M_lasts 11 = .ok (.getfield 28, 3) := by decide +kernel
theorem d_M_lasts_14 : decode b_M_lasts 14 = .ok (.iload_n 1, 1) := by decide +kernel
theorem d_M_lasts_15 : decode b_M_lasts 15 = .ok (.aload_n 0, 1) := by decide +kernel
theorem d_M_lasts_16 : decode b_M_lasts 16 = .ok (.getfield 25, 3) := by decide +kernel
theorem d_M_lasts_19 : decode b_M_lasts 19 = .ok (.iload_n 1, 1) := by decide +kernel
theorem d_M_lasts_20 : decode b_M_lasts 20 = .ok (.iaload, 1) := by decide +kernel
theorem d_M_lasts_21 : decode b_M_lasts 21 = .ok (.iastore, 1) := by decide +kernel
theorem d_M_lasts_22 : decode b_M_lasts 22 = .ok (.iinc 1 1, 3) := by decide +kernel
theorem d_M_lasts_25 : decode b_M_lasts 25 = .ok (.goto (-23), 3) := by decide +kernel
theorem d_M_lasts_28 : decode b_M_lasts 28 = .ok (.aload_n 0, 1) := by decide +kernel
theorem d_M_lasts_29 : decode b_M_lasts 29 = .ok (.aload_n 0, 1) := by decide +kernel
theorem d_M_lasts_30 : decode b_M_lasts 30 = .ok (.getfield 43, 3) := by decide +kernel
theorem d_M_lasts_33 : decode b_M_lasts 33 = .ok (.putfield 80, 3) := by decide +kernel
theorem d_M_lasts_36 : decode b_M_lasts 36 = .ok (.aload_n 0, 1) := by decide +kernel
theorem d_M_lasts_37 : decode b_M_lasts 37 = .ok (.dup, 1) := by decide +kernel
theorem d_M_lasts_38 : decode b_M_lasts 38 = .ok (.getfield 83, 3) := by decide +kernel
theorem d_M_lasts_41 : decode b_M_lasts 41 = .ok (.iconst 1, 1) := by decide +kernel
theorem d_M_lasts_42 : decode b_M_lasts 42 = .ok (.iadd, 1) := by decide +kernel
theorem d_M_lasts_43 : decode b_M_lasts 43 = .ok (.putfield 83, 3) := by decide +kernel
theorem d_M_lasts_46 : decode b_M_lasts 46 = .ok (.return_, 1) := by decide +kernel
theorem d_M_fall_0 : decode b_M_fall 0 = .ok (.iconst 0, 1) := by decide +kernel
theorem d_M_fall_1 : decode b_M_fall 1 = .ok (.istore_n 1, 1) := by decide +kernel
theorem d_M_fall_2 : decode b_M_fall 2 = .ok (.iload_n 1, 1) := by decide +kernel
theorem d_M_fall_3 : decode b_M_fall 3 = .ok (.aload_n 0, 1) := by decide +kernel
theorem d_M_fall_4 : decode b_M_fall 4 = .ok (.getfield 80, 3) := by decide +kernel
theorem d_M_fall_7 : decode b_M_fall 7 = .ok (.if_icmp .ge 21, 3) := by decide +kernel
theorem d_M_fall_10 : decode b_M_fall 10 = .ok (.aload_n 0, 1) := by decide +kernel
theorem d_M_fall_11 : decode b_M_fall 11 = .ok (.getfield 25, 3) := by decide +kernel
theorem d_M_fall_14 : decode b_M_fall 14 = .ok (.iload_n 1, 1) := by decide +kernel
theorem d_M_fall_15 : decode b_M_fall 15 = .ok (.aload_n 0, 1) := by decide +kernel
theorem d_M_fall_16 : decode b_M_fall 16 = .ok (.getfield 28, 3) := by decide +kernel
theorem d_M_fall_19 : decode b_M_fall 19 = .ok (.iload_n 1, 1) := by decide +kernel
theorem d_M_fall_20 : decode b_M_fall 20 = .ok (.iaload, 1) := by decide +kernel
theorem d_M_fall_21 : decode b_M_fall 21 = .ok (.iastore, 1) := by decide +kernel
theorem d_M_fall_22 : decode b_M_fall 22 = .ok (.iinc 1 1, 3) := by decide +kernel
theorem d_M_fall_25 : decode b_M_fall 25 = .ok (.goto (-23), 3) := by decide +kernel
theorem d_M_fall_28 : decode b_M_fall 28 = .ok (.aload_n 0, 1) := by decide +kernel
theorem d_M_fall_29 : decode b_M_fall 29 = .ok (.aload_n 0, 1) := by decide +kernel
theorem d_M_fall_30 : decode b_M_fall 30 = .ok (.getfield 80, 3) := by decide +kernel
theorem d_M_fall_33 : decode b_M_fall 33 = .ok (.putfield 43, 3) := by decide +kernel
theorem d_M_fall_36 : decode b_M_fall 36 = .ok (.aload_n 0, 1) := by decide +kernel
theorem d_M_fall_37 : decode b_M_fall 37 = .ok (.iconst 0, 1) := by decide +kernel
theorem d_M_fall_38 : decode b_M_fall 38 = .ok (.putfield 54, 3) := by decide +kernel
theorem d_M_fall_41 : decode b_M_fall 41 = .ok (.aload_n 0, 1) := by decide +kernel
theorem d_M_fall_42 : decode b_M_fall 42 = .ok (.iconst 0, 1) := by decide +kernel
theorem d_M_fall_43 : decode b_M_fall 43 = .ok (.putfield 77, 3) := by decide +kernel
theorem d_M_fall_46 : decode b_M_fall 46 = .ok (.return_, 1) := by decide +kernel
theorem d_M_commit_0 : decode b_M_commit 0 = .ok (.aload_n 0, 1) := by decide +kernel
theorem d_M_commit_1 : decode b_M_commit 1 = .ok (.aload_n 0, 1) := by decide +kernel
theorem d_M_commit_2 : decode b_M_commit 2 = .ok (.getfield 46, 3) := by decide +kernel
theorem d_M_commit_5 : decode b_M_commit 5 = .ok (.ifCond .ne 10, 3) := by decide +kernel
theorem d_M_commit_8 : decode b_M_commit 8 = .ok (.aload_n 0, 1) := by decide +kernel
theorem d_M_commit_9 : decode b_M_commit 9 = .ok (.getfield 54, 3) := by decide +kernel
theorem d_M_commit_12 : decode b_M_commit 12 = .ok (.ifCond .ne 7, 3) := by decide +kernel
theorem d_M_commit_15 : decode b_M_commit 15 = .ok (.iconst 1, 1) := by decide +kernel
theorem d_M_commit_16 : decode b_M_commit 16 = .ok (.goto 4, 3) := by decide +kernel
theorem d_M_commit_19 : decode b_M_commit 19 = .ok (.iconst 0, 1) := by decide +kernel
theorem d_M_commit_20 : decode b_M_commit 20 = .ok (.iconst 0, 1) := by decide +kernel
theorem d_M_commit_21 : decode b_M_commit 21 = .ok (.invokevirtual 50, 3) := by decide +kernel
theorem d_M_commit_24 : decode b_M_commit 24 = .ok (.ifCond .eq 4, 3) := by decide +kernel
theorem d_M_commit_27 : decode b_M_commit 27 = .ok (.return_, 1) := by decide +kernel
theorem d_M_commit_28 : decode b_M_commit 28 = .ok (.aload_n 0, 1) := by decide +kernel
theorem d_M_commit_29 : decode b_M_commit 29 = .ok (.getfield 37, 3) := by decide +kernel
theorem d_M_commit_32 : decode b_M_commit 32 = .ok (.iconst 3, 1) := by decide +kernel
theorem d_M_commit_33 : decode b_M_commit 33 = .ok (.if_icmp .ge 7, 3) := by decide +kernel
theorem d_M_commit_36 : decode b_M_commit 36 = .ok (.iconst 1, 1) := by decide +kernel
theorem d_M_commit_37 : decode b_M_commit 37 = .ok (.goto 4, 3) := by decide +kernel
theorem d_M_commit_40 : decode b_M_commit 40 = .ok (.iconst 0, 1) := by decide +kernel
theorem d_M_commit_41 : decode b_M_commit 41 = .ok (.istore_n 1, 1) := by decide +kernel
theorem d_M_commit_42 : decode b_M_commit 42 = .ok (.iload_n 1, 1) := by decide +kernel
theorem d_M_commit_43 : decode b_M_commit 43 = .ok (.ifCond .eq 18, 3) := by decide +kernel
theorem d_M_commit_46 : decode b_M_commit 46 = .ok (.aload_n 0, 1) := by decide +kernel
theorem d_M_commit_47 : decode b_M_commit 47 = .ok (.getfield 37, 3) := by decide +kernel
theorem d_M_commit_50 : decode b_M_commit 50 = .ok (.iconst 2, 1) := by decide +kernel
theorem d_M_commit_51 : decode b_M_commit 51 = .ok (.if_icmp .ne 14, 3) := by decide +kernel
theorem d_M_commit_54 : decode b_M_commit 54 = .ok (.aload_n 0, 1) := by decide +kernel
theorem d_M_commit_55 : decode b_M_commit 55 = .ok (.getfield 86, 3) := by decide +kernel
theorem d_M_commit_58 : decode b_M_commit 58 = .ok (.ifCond .le 7, 3) := by decide +kernel
theorem d_M_commit_61 : decode b_M_commit 61 = .ok (.aload_n 0, 1) := by decide +kernel
theorem d_M_commit_62 : decode b_M_commit 62 = .ok (.invokevirtual 89, 3) := by decide +kernel
theorem d_M_commit_65 : decode b_M_commit 65 = .ok (.aload_n 0, 1) := by decide +kernel
theorem d_M_commit_66 : decode b_M_commit 66 = .ok (.iconst 0, 1) := by decide +kernel
theorem d_M_commit_67 : decode b_M_commit 67 = .ok (.putfield 54, 3) := by decide +kernel
theorem d_M_commit_70 : decode b_M_commit 70 = .ok (.aload_n 0, 1) := by decide +kernel
theorem d_M_commit_71 : decode b_M_commit 71 = .ok (.iconst 0, 1) := by decide +kernel
theorem d_M_commit_72 : decode b_M_commit 72 = .ok (.putfield 77, 3) := by decide +kernel
theorem d_M_commit_75 : decode b_M_commit 75 = .ok (.iload_n 1, 1) := by decide +kernel
theorem d_M_commit_76 : decode b_M_commit 76 = .ok (.ifCond .ne 4, 3) := by decide +kernel
theorem d_M_commit_79 : decode b_M_commit 79 = .ok (.return_, 1) := by decide +kernel
theorem d_M_commit_80 : decode b_M_commit 80 = .ok (.aload_n 0, 1) := by decide +kernel
theorem d_M_commit_81 : decode b_M_commit 81 = .ok (.invokevirtual 92, 3) := by decide +kernel
theorem d_M_commit_84 : decode b_M_commit 84 = .ok (.aload_n 0, 1) := by decide +kernel
theorem d_M_commit_85 : decode b_M_commit 85 = .ok (.iconst 4, 1) := by decide +kernel
theorem d_M_commit_86 : decode b_M_commit 86 = .ok (.putfield 37, 3) := by decide +kernel
theorem d_M_commit_89 : decode b_M_commit 89 = .ok (.aload_n 0, 1) := by decide +kernel
theorem d_M_commit_90 : decode b_M_commit 90 = .ok (.iconst 1, 1) := by decide +kernel
theorem d_M_commit_91 : decode b_M_commit 91 = .ok (.putfield 46, 3) := by decide +kernel
theorem d_M_commit_94 : decode b_M_commit 94 = .ok (.aload_n 0, 1) := by decide +kernel
theorem d_M_commit_95 : decode b_M_commit 95 = .ok (.iconst 2, 1) := by decide +kernel
theorem d_M_commit_96 : decode b_M_commit 96 = .ok (.putfield 40, 3) := by decide +kernel
theorem d_M_commit_99 : decode b_M_commit 99 = .ok (.return_, 1) := by decide +kernel
theorem d_M_rollback_0 : decode b_M_rollback 0 = .ok (.aload_n 0, 1) := by decide +kernel
theorem d_M_rollback_1 : decode b_M_rollback 1 = .ok (.aload_n 0, 1) := by decide +kernel
theorem d_M_rollback_2 : decode b_M_rollback 2 = .ok (.getfield 46, 3) := by decide +kernel
theorem d_M_rollback_5 : decode b_M_rollback 5 = .ok (.ifCond .ne 10, 3) := by decide +kernel
theorem d_M_rollback_8 : decode b_M_rollback 8 = .ok (.aload_n 0, 1) := by decide +kernel
theorem d_M_rollback_9 : decode b_M_rollback 9 = .ok (.getfield 54, 3) := by decide +kernel
theorem d_M_rollback_12 : decode b_M_rollback 12 = .ok (.ifCond .ne 7, 3) := by decide +kernel
theorem d_M_rollback_15 : decode b_M_rollback 15 = .ok (.iconst 1, 1) := by decide +kernel
theorem d_M_rollback_16 : decode b_M_rollback 16 = .ok (.goto 4, 3) := by decide +kernel
theorem d_M_rollback_19 : decode b_M_rollback 19 = .ok (.iconst 0, 1) := by decide +kernel
theorem d_M_rollback_20 : decode b_M_rollback 20 = .ok (.iconst 0, 1) := by decide +kernel
theorem d_M_rollback_21 : decode b_M_rollback 21 = .ok (.invokevirtual 50, 3) := by decide +kernel
theorem d_M_rollback_24 : decode b_M_rollback 24 = .ok (.ifCond .eq 4, 3) := by decide +kernel
theorem d_M_rollback_27 : decode b_M_rollback 27 = .ok (.return_, 1) := by decide +kernel
theorem d_M_rollback_28 : decode b_M_rollback 28 = .ok (.aload_n 0, 1) := by decide +kernel
theorem d_M_rollback_29 : decode b_M_rollback 29 = .ok (.invokevirtual 92, 3) := by decide +kernel
theorem d_M_rollback_32 : decode b_M_rollback 32 = .ok (.return_, 1) := by decide +kernel
theorem d_M_mark_0 : decode b_M_mark 0 = .ok (.aload_n 0, 1) := by decide +kernel
theorem d_M_mark_1 : decode b_M_mark 1 = .ok (.aload_n 0, 1) := by decide +kernel
theorem d_M_mark_2 : decode b_M_mark 2 = .ok (.getfield 46, 3) := by decide +kernel
theorem d_M_mark_5 : decode b_M_mark 5 = .ok (.ifCond .ne 18, 3) := by decide +kernel
theorem d_M_mark_8 : decode b_M_mark 8 = .ok (.aload_n 0, 1) := by decide +kernel
theorem d_M_mark_9 : decode b_M_mark 9 = .ok (.getfield 54, 3) := by decide +kernel
theorem d_M_mark_12 : decode b_M_mark 12 = .ok (.ifCond .eq 11, 3) := by decide +kernel
theorem d_M_mark_15 : decode b_M_mark 15 = .ok (.aload_n 0, 1) := by decide +kernel
theorem d_M_mark_16 : decode b_M_mark 16 = .ok (.getfield 77, 3) := by decide +kernel
theorem d_M_mark_19 : decode b_M_mark 19 = .ok (.iconst 5, 1) := by decide +kernel
theorem d_M_mark_20 : decode b_M_mark 20 = .ok (.if_icmp .ne 7, 3) := by decide +kernel
theorem d_M_mark_23 : decode b_M_mark 23 = .ok (.iconst 1, 1) := by decide +kernel
theorem d_M_mark_24 : decode b_M_mark 24 = .ok (.goto 4, 3) := by decide +kernel
theorem d_M_mark_27 : decode b_M_mark 27 = .ok (.iconst 0, 1) := by decide +kernel
theorem d_M_mark_28 : decode b_M_mark 28 = .ok (.iconst 0, 1) := by decide +kernel
theorem d_M_mark_29 : decode b_M_mark 29 = .ok (.invokevirtual 50, 3) := by decide +kernel
theorem d_M_mark_32 : decode b_M_mark 32 = .ok (.ifCond .eq 5, 3) := by decide +kernel
theorem d_M_mark_35 : decode b_M_mark 35 = .ok (.iconst 0, 1) := by decide +kernel
theorem d_M_mark_36 : decode b_M_mark 36 = .ok (.ireturn, 1) := by decide +kernel
theorem d_M_mark_37 : decode b_M_mark 37 = .ok (.iconst 0, 1) := by decide +kernel
theorem d_M_mark_38 : decode b_M_mark 38 = .ok (.istore_n 1, 1) := by decide +kernel
theorem d_M_mark_39 : decode b_M_mark 39 = .ok (.iload_n 1, 1) := by decide +kernel
theorem d_M_mark_40 : decode b_M_mark 40 = .ok (.aload_n 0, 1) := by decide +kernel
theorem d_M_mark_41 : decode b_M_mark 41 = .ok (.getfield 43, 3) := by decide +kernel
theorem d_M_mark_44 : decode b_M_mark 44 = .ok (.if_icmp .ge 30, 3) := by decide +kernel
theorem d_M_mark_47 : decode b_M_mark 47 = .ok (.aload_n 0, 1) := by decide +kernel
theorem d_M_mark_48 : decode b_M_mark 48 = .ok (.getfield 31, 3) := by decide +kernel
theorem d_M_mark_51 : decode b_M_mark 51 = .ok (.sipush 768, 3) := by decide +kernel
theorem d_M_mark_54 : decode b_M_mark 54 = .ok (.aload_n 0, 1) := by decide +kernel
theorem d_M_mark_55 : decode b_M_mark 55 = .ok (.getfield 77, 3) := by decide +kernel
theorem d_M_mark_58 : decode b_M_mark 58 = .ok (.imul, 1) := by decide +kernel
theorem d_M_mark_59 : decode b_M_mark 59 = .ok (.iload_n 1, 1) := by decide +kernel
theorem d_M_mark_60 : decode b_M_mark 60 = .ok (.iadd, 1) := by decide +kernel
theorem d_M_mark_61 : decode b_M_mark 61 = .ok (.aload_n 0, 1) := by decide +kernel
theorem d_M_mark_62 : decode b_M_mark 62 = .ok (.getfield 25, 3) := by decide +kernel
theorem d_M_mark_65 : decode b_M_mark 65 = .ok (.iload_n 1, 1) := by decide +kernel
theorem d_M_mark_66 : decode b_M_mark 66 = .ok (.iaload, 1) := by decide +kernel
theorem d_M_mark_67 : decode b_M_mark 67 = .ok (.iastore, 1) := by decide +kernel
theorem d_M_mark_68 : decode b_M_mark 68 = .ok (.iinc 1 1, 3) := by decide +kernel
theorem d_M_mark_71 : decode b_M_mark 71 = .ok (.goto (-32), 3) := by decide +kernel
theorem d_M_mark_74 : decode b_M_mark 74 = .ok (.aload_n 0, 1) := by decide +kernel
theorem d_M_mark_75 : decode b_M_mark 75 = .ok (.getfield 34, 3) := by decide +kernel
theorem d_M_mark_78 : decode b_M_mark 78 = .ok (.aload_n 0, 1) := by decide +kernel
theorem d_M_mark_79 : decode b_M_mark 79 = .ok (.getfield 77, 3) := by decide +kernel
theorem d_M_mark_82 : decode b_M_mark 82 = .ok (.aload_n 0, 1) := by decide +kernel
theorem d_M_mark_83 : decode b_M_mark 83 = .ok (.getfield 43, 3) := by decide +kernel
theorem d_M_mark_86 : decode b_M_mark 86 = .ok (.iastore, 1) := by decide +kernel
theorem d_M_mark_87 : decode b_M_mark 87 = .ok (.aload_n 0, 1) := by decide +kernel
theorem d_M_mark_88 : decode b_M_mark 88 = .ok (.dup, 1) := by decide +kernel
theorem d_M_mark_89 : decode b_M_mark 89 = .ok (.getfield 77, 3) := by decide +kernel
theorem d_M_mark_92 : decode b_M_mark 92 = .ok (.iconst 1, 1) := by decide +kernel
theorem d_M_mark_93 : decode b_M_mark 93 = .ok (.iadd, 1) := by decide +kernel
theorem d_M_mark_94 : decode b_M_mark 94 = .ok (.putfield 77, 3) := by decide +kernel
theorem d_M_mark_97 : decode b_M_mark 97 = .ok (.aload_n 0, 1) := by decide +kernel
theorem d_M_mark_98 : decode b_M_mark 98 = .ok (.dup, 1) := by decide +kernel
theorem d_M_mark_99 : decode b_M_mark 99 = .ok (.getfield 22, 3) := by decide +kernel
theorem d_M_mark_102 : decode b_M_mark 102 = .ok (.iconst 1, 1) := by decide +kernel
theorem d_M_mark_103 : decode b_M_mark 103 = .ok (.iadd, 1) := by decide +kernel
theorem d_M_mark_104 : decode b_M_mark 104 = .ok (.putfield 22, 3) := by decide +kernel
theorem d_M_mark_107 : decode b_M_mark 107 = .ok (.aload_n 0, 1) := by decide +kernel
theorem d_M_mark_108 : decode b_M_mark 108 = .ok (.getfield 77, 3) := by decide +kernel
theorem d_M_mark_111 : decode b_M_mark 111 = .ok (.ireturn, 1) := by decide +kernel
theorem d_M_back_0 : decode b_M_back 0 = .ok (.aload_n 0, 1) := by decide +kernel
theorem d_M_back_1 : decode b_M_back 1 = .ok (.aload_n 0, 1) := by decide +kernel
theorem d_M_back_2 : decode b_M_back 2 = .ok (.getfield 46, 3) := by decide +kernel
theorem d_M_back_5 : decode b_M_back 5 = .ok (.ifCond .ne 10, 3) := by decide +kernel
theorem d_M_back_8 : decode b_M_back 8 = .ok (.aload_n 0, 1) := by decide +kernel
theorem d_M_back_9 : decode b_M_back 9 = .ok (.getfield 54, 3) := by decide +kernel
theorem d_M_back_12 : decode b_M_back 12 = .ok (.ifCond .ne 7, 3) := by decide +kernel
theorem d_M_back_15 : decode b_M_back 15 = .ok (.iconst 1, 1) := by decide +kernel
theorem d_M_back_16 : decode b_M_back 16 = .ok (.goto 4, 3) := by decide +kernel
theorem d_M_back_19 : decode b_M_back 19 = .ok (.iconst 0, 1) := by decide +kernel
theorem d_M_back_20 : decode b_M_back 20 = .ok (.iload_n 1, 1) := by decide +kernel
theorem d_M_back_21 : decode b_M_back 21 = .ok (.iconst 1, 1) := by decide +kernel
theorem d_M_back_22 : decode b_M_back 22 = .ok (.if_icmp .lt 11, 3) := by decide +kernel
theorem d_M_back_25 : decode b_M_back 25 = .ok (.iload_n 1, 1) := by decide +kernel
theorem d_M_back_26 : decode b_M_back 26 = .ok (.aload_n 0, 1) := by decide +kernel
theorem d_M_back_27 : decode b_M_back 27 = .ok (.getfield 77, 3) := by decide +kernel
theorem d_M_back_30 : decode b_M_back 30 = .ok (.if_icmp .le 7, 3) := by decide +kernel
theorem d_M_back_33 : decode b_M_back 33 = .ok (.iconst 1, 1) := by decide +kernel
theorem d_M_back_34 : decode b_M_back 34 = .ok (.goto 4, 3) := by decide +kernel
theorem d_M_back_37 : decode b_M_back 37 = .ok (.iconst 0, 1) := by decide +kernel
theorem d_M_back_38 : decode b_M_back 38 = .ok (.invokevirtual 50, 3) := by decide +kernel
theorem d_M_back_41 : decode b_M_back 41 = .ok (.ifCond .eq 4, 3) := by decide +kernel
theorem d_M_back_44 : decode b_M_back 44 = .ok (.return_, 1) := by decide +kernel
theorem d_M_back_45 : decode b_M_back 45 = .ok (.aload_n 0, 1) := by decide +kernel
theorem d_M_back_46 : decode b_M_back 46 = .ok (.aload_n 0, 1) := by decide +kernel
theorem d_M_back_47 : decode b_M_back 47 = .ok (.getfield 34, 3) := by decide +kernel
theorem d_M_back_50 : decode b_M_back 50 = .ok (.iload_n 1, 1) := by decide +kernel
theorem d_M_back_51 : decode b_M_back 51 = .ok (.iconst 1, 1) := by decide +kernel
theorem d_M_back_52 : decode b_M_back 52 = .ok (.isub, 1) := by decide +kernel
theorem d_M_back_53 : decode b_M_back 53 = .ok (.iaload, 1) := by decide +kernel
theorem d_M_back_54 : decode b_M_back 54 = .ok (.putfield 43, 3) := by decide +kernel
theorem d_M_back_57 : decode b_M_back 57 = .ok (.iconst 0, 1) := by decide +kernel
theorem d_M_back_58 : decode b_M_back 58 = .ok (.istore_n 2, 1) := by decide +kernel
theorem d_M_back_59 : decode b_M_back 59 = .ok (.iload_n 2, 1) := by decide +kernel
theorem d_M_back_60 : decode b_M_back 60 = .ok (.aload_n 0, 1) := by decide +kernel
theorem d_M_back_61 : decode b_M_back 61 = .ok (.getfield 43, 3) := by decide +kernel
theorem d_M_back_64 : decode b_M_back 64 = .ok (.if_icmp .ge 29, 3) := by decide +kernel
theorem d_M_back_67 : decode b_M_back 67 = .ok (.aload_n 0, 1) := by decide +kernel
theorem d_M_back_68 : decode b_M_back 68 = .ok (.getfield 25, 3) := by decide +kernel
theorem d_M_back_71 : decode b_M_back 71 = .ok (.iload_n 2, 1) := by decide +kernel
theorem d_M_back_72 : decode b_M_back 72 = .ok (.aload_n 0, 1) := by decide +kernel
theorem d_M_back_73 : decode b_M_back 73 = .ok (.getfield 31, 3) := by decide +kernel
theorem d_M_back_76 : decode b_M_back 76 = .ok (.sipush 768, 3) := by decide +kernel
theorem d_M_back_79 : decode b_M_back 79 = .ok (.iload_n 1, 1) := by decide +kernel
theorem d_M_back_80 : decode b_M_back 80 = .ok (.iconst 1, 1) := by decide +kernel
theorem d_M_back_81 : decode b_M_back 81 = .ok (.isub, 1) := by decide +kernel
theorem d_M_back_82 : decode b_M_back 82 = .ok (.imul, 1) := by decide +kernel
theorem d_M_back_83 : decode b_M_back 83 = .ok (.iload_n 2, 1) := by decide +kernel
theorem d_M_back_84 : decode b_M_back 84 = .ok (.iadd, 1) := by decide +kernel
theorem d_M_back_85 : decode b_M_back 85 = .ok (.iaload, 1) := by decide +kernel
theorem d_M_back_86 : decode b_M_back 86 = .ok (.iastore, 1) := by decide +kernel
theorem d_M_back_87 : decode b_M_back 87 = .ok (.iinc 2 1, 3) := by decide +kernel
theorem d_M_back_90 : decode b_M_back 90 = .ok (.goto (-31), 3) := by decide +kernel
theorem d_M_back_93 : decode b_M_back 93 = .ok (.aload_n 0, 1) := by decide +kernel
theorem d_M_back_94 : decode b_M_back 94 = .ok (.iload_n 1, 1) := by decide +kernel
theorem d_M_back_95 : decode b_M_back 95 = .ok (.putfield 77, 3) := by decide +kernel
theorem d_M_back_98 : decode b_M_back 98 = .ok (.aload_n 0, 1) := by decide +kernel
theorem d_M_back_99 : decode b_M_back 99 = .ok (.dup, 1) := by decide +kernel
theorem d_M_back_100 : decode b_M_back 100 = .ok (.getfield 22, 3) := by decide +kernel
theorem d_M_back_103 : decode b_M_back 103 = .ok (.iconst 1, 1) := by decide +kernel
theorem d_M_back_104 : decode b_M_back 104 = .ok (.iadd, 1) := by decide +kernel
theorem d_M_back_105 : decode b_M_back 105 = .ok (.putfield 22, 3) := by decide +kernel
theorem d_M_back_108 : decode b_M_back 108 = .ok (.return_, 1) := by decide +kernel
theorem d_M_keep_0 : decode b_M_keep 0 = .ok (.aload_n 0, 1) := by decide +kernel
theorem d_M_keep_1 : decode b_M_keep 1 = .ok (.aload_n 0, 1) := by decide +kernel
theorem d_M_keep_2 : decode b_M_keep 2 = .ok (.getfield 46, 3) := by decide +kernel
theorem d_M_keep_5 : decode b_M_keep 5 = .ok (.ifCond .ne 10, 3) := by decide +kernel
theorem d_M_keep_8 : decode b_M_keep 8 = .ok (.aload_n 0, 1) := by decide +kernel
theorem d_M_keep_9 : decode b_M_keep 9 = .ok (.getfield 54, 3) := by decide +kernel
theorem d_M_keep_12 : decode b_M_keep 12 = .ok (.ifCond .ne 7, 3) := by decide +kernel
theorem d_M_keep_15 : decode b_M_keep 15 = .ok (.iconst 1, 1) := by decide +kernel
theorem d_M_keep_16 : decode b_M_keep 16 = .ok (.goto 4, 3) := by decide +kernel
theorem d_M_keep_19 : decode b_M_keep 19 = .ok (.iconst 0, 1) := by decide +kernel
theorem d_M_keep_20 : decode b_M_keep 20 = .ok (.iload_n 1, 1) := by decide +kernel
theorem d_M_keep_21 : decode b_M_keep 21 = .ok (.iconst 1, 1) := by decide +kernel
theorem d_M_keep_22 : decode b_M_keep 22 = .ok (.if_icmp .lt 11, 3) := by decide +kernel
theorem d_M_keep_25 : decode b_M_keep 25 = .ok (.iload_n 1, 1) := by decide +kernel
theorem d_M_keep_26 : decode b_M_keep 26 = .ok (.aload_n 0, 1) := by decide +kernel
theorem d_M_keep_27 : decode b_M_keep 27 = .ok (.getfield 77, 3) := by decide +kernel
theorem d_M_keep_30 : decode b_M_keep 30 = .ok (.if_icmp .le 7, 3) := by decide +kernel
theorem d_M_keep_33 : decode b_M_keep 33 = .ok (.iconst 1, 1) := by decide +kernel
theorem d_M_keep_34 : decode b_M_keep 34 = .ok (.goto 4, 3) := by decide +kernel
theorem d_M_keep_37 : decode b_M_keep 37 = .ok (.iconst 0, 1) := by decide +kernel
theorem d_M_keep_38 : decode b_M_keep 38 = .ok (.invokevirtual 50, 3) := by decide +kernel
theorem d_M_keep_41 : decode b_M_keep 41 = .ok (.ifCond .eq 4, 3) := by decide +kernel
theorem d_M_keep_44 : decode b_M_keep 44 = .ok (.return_, 1) := by decide +kernel
theorem d_M_keep_45 : decode b_M_keep 45 = .ok (.aload_n 0, 1) := by decide +kernel
theorem d_M_keep_46 : decode b_M_keep 46 = .ok (.iload_n 1, 1) := by decide +kernel
theorem d_M_keep_47 : decode b_M_keep 47 = .ok (.iconst 1, 1) := by decide +kernel
theorem d_M_keep_48 : decode b_M_keep 48 = .ok (.isub, 1) := by decide +kernel
theorem d_M_keep_49 : decode b_M_keep 49 = .ok (.putfield 77, 3) := by decide +kernel
theorem d_M_keep_52 : decode b_M_keep 52 = .ok (.return_, 1) := by decide +kernel
theorem d_M_power_0 : decode b_M_power 0 = .ok (.aload_n 0, 1) := by decide +kernel
theorem d_M_power_1 : decode b_M_power 1 = .ok (.iload_n 1, 1) := by decide +kernel
theorem d_M_power_2 : decode b_M_power 2 = .ok (.ifCond .lt 30, 3) := by decide +kernel
theorem d_M_power_5 : decode b_M_power 5 = .ok (.iload_n 1, 1) := by decide +kernel
theorem d_M_power_6 : decode b_M_power 6 = .ok (.iconst 4, 1) := by decide +kernel
theorem d_M_power_7 : decode b_M_power 7 = .ok (.if_icmp .gt 25, 3) := by decide +kernel
theorem d_M_power_10 : decode b_M_power 10 = .ok (.iload_n 2, 1) := by decide +kernel
theorem d_M_power_11 : decode b_M_power 11 = .ok (.ifCond .lt 21, 3) := by decide +kernel
theorem d_M_power_14 : decode b_M_power 14 = .ok (.iload_n 2, 1) := by decide +kernel
theorem d_M_power_15 : decode b_M_power 15 = .ok (.sipush 1000, 3) := by decide +kernel
theorem d_M_power_18 : decode b_M_power 18 = .ok (.if_icmp .gt 14, 3) := by decide +kernel
theorem d_M_power_21 : decode b_M_power 21 = .ok (.iload_n 3, 1) := by decide +kernel
theorem d_M_power_22 : decode b_M_power 22 = .ok (.ifCond .lt 10, 3) := by decide +kernel
theorem d_M_power_25 : decode b_M_power 25 = .ok (.iload_n 3, 1) := by decide +kernel
theorem d_M_power_26 : decode b_M_power 26 = .ok (.sipush 300, 3) := by decide +kernel
theorem d_M_power_29 : decode b_M_power 29 = .ok (.if_icmp .le 7, 3) := by decide +kernel
theorem d_M_power_32 : decode b_M_power 32 = .ok (.iconst 1, 1) := by decide +kernel
theorem d_M_power_33 : decode b_M_power 33 = .ok (.goto 4, 3) := by decide +kernel
theorem d_M_power_36 : decode b_M_power 36 = .ok (.iconst 0, 1) := by decide +kernel
theorem d_M_power_37 : decode b_M_power 37 = .ok (.putfield 40, 3) := by decide +kernel
theorem d_M_power_40 : decode b_M_power 40 = .ok (.aload_n 0, 1) := by decide +kernel
theorem d_M_power_41 : decode b_M_power 41 = .ok (.getfield 40, 3) := by decide +kernel
theorem d_M_power_44 : decode b_M_power 44 = .ok (.ifCond .le 4, 3) := by decide +kernel
theorem d_M_power_47 : decode b_M_power 47 = .ok (.return_, 1) := by decide +kernel
theorem d_M_power_48 : decode b_M_power 48 = .ok (.aload_n 0, 1) := by decide +kernel
theorem d_M_power_49 : decode b_M_power 49 = .ok (.iload_n 1, 1) := by decide +kernel
theorem d_M_power_50 : decode b_M_power 50 = .ok (.putfield 37, 3) := by decide +kernel
theorem d_M_power_53 : decode b_M_power 53 = .ok (.aload_n 0, 1) := by decide +kernel
theorem d_M_power_54 : decode b_M_power 54 = .ok (.iload_n 2, 1) := by decide +kernel
theorem d_M_power_55 : decode b_M_power 55 = .ok (.putfield 86, 3) := by decide +kernel
theorem d_M_power_58 : decode b_M_power 58 = .ok (.return_, 1) := by decide +kernel
theorem d_M_reopen_0 : decode b_M_reopen 0 = .ok (.aload_n 0, 1) := by decide +kernel
theorem d_M_reopen_1 : decode b_M_reopen 1 = .ok (.invokevirtual 92, 3) := by decide +kernel
theorem d_M_reopen_4 : decode b_M_reopen 4 = .ok (.aload_n 0, 1) := by decide +kernel
theorem d_M_reopen_5 : decode b_M_reopen 5 = .ok (.aload_n 0, 1) := by decide +kernel
theorem d_M_reopen_6 : decode b_M_reopen 6 = .ok (.getfield 37, 3) := by decide +kernel
theorem d_M_reopen_9 : decode b_M_reopen 9 = .ok (.iconst 3, 1) := by decide +kernel
theorem d_M_reopen_10 : decode b_M_reopen 10 = .ok (.if_icmp .ne 7, 3) := by decide +kernel
theorem d_M_reopen_13 : decode b_M_reopen 13 = .ok (.iconst 1, 1) := by decide +kernel
theorem d_M_reopen_14 : decode b_M_reopen 14 = .ok (.goto 4, 3) := by decide +kernel
theorem d_M_reopen_17 : decode b_M_reopen 17 = .ok (.iconst 0, 1) := by decide +kernel
theorem d_M_reopen_18 : decode b_M_reopen 18 = .ok (.putfield 40, 3) := by decide +kernel
theorem d_M_reopen_21 : decode b_M_reopen 21 = .ok (.aload_n 0, 1) := by decide +kernel
theorem d_M_reopen_22 : decode b_M_reopen 22 = .ok (.aload_n 0, 1) := by decide +kernel
theorem d_M_reopen_23 : decode b_M_reopen 23 = .ok (.getfield 37, 3) := by decide +kernel
theorem d_M_reopen_26 : decode b_M_reopen 26 = .ok (.iconst 3, 1) := by decide +kernel
theorem d_M_reopen_27 : decode b_M_reopen 27 = .ok (.if_icmp .ne 7, 3) := by decide +kernel
theorem d_M_reopen_30 : decode b_M_reopen 30 = .ok (.iconst 1, 1) := by decide +kernel
theorem d_M_reopen_31 : decode b_M_reopen 31 = .ok (.goto 4, 3) := by decide +kernel
theorem d_M_reopen_34 : decode b_M_reopen 34 = .ok (.iconst 0, 1) := by decide +kernel
theorem d_M_reopen_35 : decode b_M_reopen 35 = .ok (.putfield 46, 3) := by decide +kernel
theorem d_M_reopen_38 : decode b_M_reopen 38 = .ok (.aload_n 0, 1) := by decide +kernel
theorem d_M_reopen_39 : decode b_M_reopen 39 = .ok (.iconst 4, 1) := by decide +kernel
theorem d_M_reopen_40 : decode b_M_reopen 40 = .ok (.putfield 37, 3) := by decide +kernel
theorem d_M_reopen_43 : decode b_M_reopen 43 = .ok (.aload_n 0, 1) := by decide +kernel
theorem d_M_reopen_44 : decode b_M_reopen 44 = .ok (.getfield 46, 3) := by decide +kernel
theorem d_M_reopen_47 : decode b_M_reopen 47 = .ok (.ifCond .eq 7, 3) := by decide +kernel
theorem d_M_reopen_50 : decode b_M_reopen 50 = .ok (.iconst 0, 1) := by decide +kernel
theorem d_M_reopen_51 : decode b_M_reopen 51 = .ok (.goto 7, 3) := by decide +kernel
theorem d_M_reopen_54 : decode b_M_reopen 54 = .ok (.aload_n 0, 1) := by decide +kernel
theorem d_M_reopen_55 : decode b_M_reopen 55 = .ok (.getfield 43, 3) := by decide +kernel
theorem d_M_reopen_58 : decode b_M_reopen 58 = .ok (.ireturn, 1) := by decide +kernel
theorem d_M_told_0 : decode b_M_told 0 = .ok (.aload_n 0, 1) := by decide +kernel
theorem d_M_told_1 : decode b_M_told 1 = .ok (.iload_n 1, 1) := by decide +kernel
theorem d_M_told_2 : decode b_M_told 2 = .ok (.ifCond .lt 8, 3) := by decide +kernel
theorem d_M_told_5 : decode b_M_told 5 = .ok (.iload_n 1, 1) := by decide +kernel
theorem d_M_told_6 : decode b_M_told 6 = .ok (.iconst 3, 1) := by decide +kernel
theorem d_M_told_7 : decode b_M_told 7 = .ok (.if_icmp .le 7, 3) := by decide +kernel
theorem d_M_told_10 : decode b_M_told 10 = .ok (.iconst 1, 1) := by decide +kernel
theorem d_M_told_11 : decode b_M_told 11 = .ok (.goto 4, 3) := by decide +kernel
theorem d_M_told_14 : decode b_M_told 14 = .ok (.iconst 0, 1) := by decide +kernel
theorem d_M_told_15 : decode b_M_told 15 = .ok (.putfield 40, 3) := by decide +kernel
theorem d_M_told_18 : decode b_M_told 18 = .ok (.aload_n 0, 1) := by decide +kernel
theorem d_M_told_19 : decode b_M_told 19 = .ok (.getfield 40, 3) := by decide +kernel
theorem d_M_told_22 : decode b_M_told 22 = .ok (.ifCond .le 5, 3) := by decide +kernel
theorem d_M_told_25 : decode b_M_told 25 = .ok (.iconst 0, 1) := by decide +kernel
theorem d_M_told_26 : decode b_M_told 26 = .ok (.ireturn, 1) := by decide +kernel
theorem d_M_told_27 : decode b_M_told 27 = .ok (.iload_n 1, 1) := by decide +kernel
theorem d_M_told_28 : decode b_M_told 28 = .ok (.ifCond .ne 16, 3) := by decide +kernel
theorem d_M_told_31 : decode b_M_told 31 = .ok (.aload_n 0, 1) := by decide +kernel
theorem d_M_told_32 : decode b_M_told 32 = .ok (.getfield 46, 3) := by decide +kernel
theorem d_M_told_35 : decode b_M_told 35 = .ok (.ifCond .eq 7, 3) := by decide +kernel
theorem d_M_told_38 : decode b_M_told 38 = .ok (.iconst 0, 1) := by decide +kernel
theorem d_M_told_39 : decode b_M_told 39 = .ok (.goto 4, 3) := by decide +kernel
theorem d_M_told_42 : decode b_M_told 42 = .ok (.iconst 1, 1) := by decide +kernel
theorem d_M_told_43 : decode b_M_told 43 = .ok (.ireturn, 1) := by decide +kernel
theorem d_M_told_44 : decode b_M_told 44 = .ok (.iload_n 1, 1) := by decide +kernel
theorem d_M_told_45 : decode b_M_told 45 = .ok (.iconst 1, 1) := by decide +kernel
theorem d_M_told_46 : decode b_M_told 46 = .ok (.if_icmp .ne 16, 3) := by decide +kernel
theorem d_M_told_49 : decode b_M_told 49 = .ok (.aload_n 0, 1) := by decide +kernel
theorem d_M_told_50 : decode b_M_told 50 = .ok (.getfield 54, 3) := by decide +kernel
theorem d_M_told_53 : decode b_M_told 53 = .ok (.ifCond .eq 7, 3) := by decide +kernel
theorem d_M_told_56 : decode b_M_told 56 = .ok (.iconst 1, 1) := by decide +kernel
theorem d_M_told_57 : decode b_M_told 57 = .ok (.goto 4, 3) := by decide +kernel
theorem d_M_told_60 : decode b_M_told 60 = .ok (.iconst 0, 1) := by decide +kernel
theorem d_M_told_61 : decode b_M_told 61 = .ok (.ireturn, 1) := by decide +kernel
theorem d_M_told_62 : decode b_M_told 62 = .ok (.iload_n 1, 1) := by decide +kernel
theorem d_M_told_63 : decode b_M_told 63 = .ok (.iconst 2, 1) := by decide +kernel
theorem d_M_told_64 : decode b_M_told 64 = .ok (.if_icmp .ne 10, 3) := by decide +kernel
theorem d_M_told_67 : decode b_M_told 67 = .ok (.aload_n 0, 1) := by decide +kernel
theorem d_M_told_68 : decode b_M_told 68 = .ok (.getfield 77, 3) := by decide +kernel
theorem d_M_told_71 : decode b_M_told 71 = .ok (.goto 7, 3) := by decide +kernel
theorem d_M_told_74 : decode b_M_told 74 = .ok (.aload_n 0, 1) := by decide +kernel
theorem d_M_told_75 : decode b_M_told 75 = .ok (.getfield 83, 3) := by decide +kernel
theorem d_M_told_78 : decode b_M_told 78 = .ok (.ireturn, 1) := by decide +kernel
