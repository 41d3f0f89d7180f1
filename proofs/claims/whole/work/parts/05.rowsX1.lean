theorem dX1_init_0 : decode cX1_init 0 = .ok (.aload_n 0, 1) := by decide +kernel
theorem dX1_init_1 : decode cX1_init 1 = .ok (.invokespecial 1, 3) := by decide +kernel
theorem dX1_init_4 : decode cX1_init 4 = .ok (.aload_n 0, 1) := by decide +kernel
theorem dX1_init_5 : decode cX1_init 5 = .ok (.sipush 300, 3) := by decide +kernel
theorem dX1_init_8 : decode cX1_init 8 = .ok (.newarray .int, 2) := by decide +kernel
theorem dX1_init_10 : decode cX1_init 10 = .ok (.putfield 7, 3) := by decide +kernel
theorem dX1_init_13 : decode cX1_init 13 = .ok (.aload_n 0, 1) := by decide +kernel
theorem dX1_init_14 : decode cX1_init 14 = .ok (.sipush 300, 3) := by decide +kernel
theorem dX1_init_17 : decode cX1_init 17 = .ok (.newarray .int, 2) := by decide +kernel
theorem dX1_init_19 : decode cX1_init 19 = .ok (.putfield 13, 3) := by decide +kernel
theorem dX1_init_22 : decode cX1_init 22 = .ok (.aload_n 0, 1) := by decide +kernel
theorem dX1_init_23 : decode cX1_init 23 = .ok (.sipush 300, 3) := by decide +kernel
theorem dX1_init_26 : decode cX1_init 26 = .ok (.newarray .int, 2) := by decide +kernel
theorem dX1_init_28 : decode cX1_init 28 = .ok (.putfield 16, 3) := by decide +kernel
theorem dX1_init_31 : decode cX1_init 31 = .ok (.aload_n 0, 1) := by decide +kernel
theorem dX1_init_32 : decode cX1_init 32 = .ok (.bipush 6, 2) := by decide +kernel
theorem dX1_init_34 : decode cX1_init 34 = .ok (.newarray .int, 2) := by decide +kernel
theorem dX1_init_36 : decode cX1_init 36 = .ok (.putfield 19, 3) := by decide +kernel
theorem dX1_init_39 : decode cX1_init 39 = .ok (.aload_n 0, 1) := by decide +kernel
theorem dX1_init_40 : decode cX1_init 40 = .ok (.bipush 6, 2) := by decide +kernel
theorem dX1_init_42 : decode cX1_init 42 = .ok (.newarray .int, 2) := by decide +kernel
theorem dX1_init_44 : decode cX1_init 44 = .ok (.putfield 22, 3) := by decide +kernel
theorem dX1_init_47 : decode cX1_init 47 = .ok (.aload_n 0, 1) := by decide +kernel
theorem dX1_init_48 : decode cX1_init 48 = .ok (.sipush 300, 3) := by decide +kernel
theorem dX1_init_51 : decode cX1_init 51 = .ok (.newarray .int, 2) := by decide +kernel
theorem dX1_init_53 : decode cX1_init 53 = .ok (.putfield 25, 3) := by decide +kernel
theorem dX1_init_56 : decode cX1_init 56 = .ok (.return_, 1) := by decide +kernel
theorem dX1_thrown_0 : decode cX1_thrown 0 = .ok (.aload_n 0, 1) := by decide +kernel
theorem dX1_thrown_1 : decode cX1_thrown 1 = .ok (.getfield 28, 3) := by decide +kernel
theorem dX1_thrown_4 : decode cX1_thrown 4 = .ok (.ireturn, 1) := by decide +kernel
theorem dX1_refuse_0 : decode cX1_refuse 0 = .ok (.aload_n 0, 1) := by decide +kernel
theorem dX1_refuse_1 : decode cX1_refuse 1 = .ok (.iload_n 1, 1) := by decide +kernel
theorem dX1_refuse_2 : decode cX1_refuse 2 = .ok (.ifCond .eq 7, 3) := by decide +kernel
theorem dX1_refuse_5 : decode cX1_refuse 5 = .ok (.iconst 1, 1) := by decide +kernel
theorem dX1_refuse_6 : decode cX1_refuse 6 = .ok (.goto 12, 3) := by decide +kernel
theorem dX1_refuse_9 : decode cX1_refuse 9 = .ok (.iload_n 2, 1) := by decide +kernel
theorem dX1_refuse_10 : decode cX1_refuse 10 = .ok (.ifCond .eq 7, 3) := by decide +kernel
theorem dX1_refuse_13 : decode cX1_refuse 13 = .ok (.iconst 2, 1) := by decide +kernel
theorem dX1_refuse_14 : decode cX1_refuse 14 = .ok (.goto 4, 3) := by decide +kernel
theorem dX1_refuse_17 : decode cX1_refuse 17 = .ok (.iconst 0, 1) := by decide +kernel
theorem dX1_refuse_18 : decode cX1_refuse 18 = .ok (.putfield 28, 3) := by decide +kernel
theorem dX1_refuse_21 : decode cX1_refuse 21 = .ok (.aload_n 0, 1) := by decide +kernel
theorem dX1_refuse_22 : decode cX1_refuse 22 = .ok (.getfield 28, 3) := by decide +kernel
theorem dX1_refuse_25 : decode cX1_refuse 25 = .ok (.ifCond .le 7, 3) := by decide +kernel
theorem dX1_refuse_28 : decode cX1_refuse 28 = .ok (.iconst 1, 1) := by decide +kernel
theorem dX1_refuse_29 : decode cX1_refuse 29 = .ok (.goto 4, 3) := by decide +kernel
theorem dX1_refuse_32 : decode cX1_refuse 32 = .ok (.iconst 0, 1) := by decide +kernel
theorem dX1_refuse_33 : decode cX1_refuse 33 = .ok (.ireturn, 1) := by decide +kernel
theorem dX1_in_0 : decode cX1_in 0 = .ok (.iload_n 0, 1) := by decide +kernel
theorem dX1_in_1 : decode cX1_in 1 = .ok (.iload_n 1, 1) := by decide +kernel
theorem dX1_in_2 : decode cX1_in 2 = .ok (.if_icmp .lt 12, 3) := by decide +kernel
theorem dX1_in_5 : decode cX1_in 5 = .ok (.iload_n 0, 1) := by decide +kernel
theorem dX1_in_6 : decode cX1_in 6 = .ok (.iload_n 2, 1) := by decide +kernel
theorem dX1_in_7 : decode cX1_in 7 = .ok (.if_icmp .gt 7, 3) := by decide +kernel
theorem dX1_in_10 : decode cX1_in 10 = .ok (.iconst 1, 1) := by decide +kernel
theorem dX1_in_11 : decode cX1_in 11 = .ok (.goto 4, 3) := by decide +kernel
theorem dX1_in_14 : decode cX1_in 14 = .ok (.iconst 0, 1) := by decide +kernel
theorem dX1_in_15 : decode cX1_in 15 = .ok (.ireturn, 1) := by decide +kernel
theorem dX1_clear_0 : decode cX1_clear 0 = .ok (.aload_n 0, 1) := by decide +kernel
theorem dX1_clear_1 : decode cX1_clear 1 = .ok (.iconst 0, 1) := by decide +kernel
theorem dX1_clear_2 : decode cX1_clear 2 = .ok (.putfield 28, 3) := by decide +kernel
theorem dX1_clear_5 : decode cX1_clear 5 = .ok (.aload_n 0, 1) := by decide +kernel
theorem dX1_clear_6 : decode cX1_clear 6 = .ok (.iconst 0, 1) := by decide +kernel
theorem dX1_clear_7 : decode cX1_clear 7 = .ok (.putfield 32, 3) := by decide +kernel
theorem dX1_clear_10 : decode cX1_clear 10 = .ok (.aload_n 0, 1) := by decide +kernel
theorem dX1_clear_11 : decode cX1_clear 11 = .ok (.iconst 0, 1) := by decide +kernel
theorem dX1_clear_12 : decode cX1_clear 12 = .ok (.putfield 35, 3) := by decide +kernel
theorem dX1_clear_15 : decode cX1_clear 15 = .ok (.aload_n 0, 1) := by decide +kernel
theorem dX1_clear_16 : decode cX1_clear 16 = .ok (.iconst 0, 1) := by decide +kernel
theorem dX1_clear_17 : decode cX1_clear 17 = .ok (.putfield 38, 3) := by decide +kernel
theorem dX1_clear_20 : decode cX1_clear 20 = .ok (.return_, 1) := by decide +kernel
theorem dX1_window_0 : decode cX1_window 0 = .ok (.aload_n 0, 1) := by decide +kernel
theorem dX1_window_1 : decode cX1_window 1 = .ok (.iload_n 1, 1) := by decide +kernel
theorem dX1_window_2 : decode cX1_window 2 = .ok (.iconst 0, 1) := by decide +kernel
theorem dX1_window_3 : decode cX1_window 3 = .ok (.iconst 5, 1) := by decide +kernel
theorem dX1_window_4 : decode cX1_window 4 = .ok (.invokestatic 41, 3) := by decide +kernel
theorem dX1_window_7 : decode cX1_window 7 = .ok (.ifCond .eq 13, 3) := by decide +kernel
theorem dX1_window_10 : decode cX1_window 10 = .ok (.iload_n 2, 1) := by decide +kernel
theorem dX1_window_11 : decode cX1_window 11 = .ok (.iconst 0, 1) := by decide +kernel
theorem dX1_window_12 : decode cX1_window 12 = .ok (.ldc 45, 2) := by decide +kernel
theorem dX1_window_14 : decode cX1_window 14 = .ok (.invokestatic 41, 3) := by decide +kernel
theorem dX1_window_17 : decode cX1_window 17 = .ok (.ifCond .ne 7, 3) := by decide +kernel
theorem dX1_window_20 : decode cX1_window 20 = .ok (.iconst 1, 1) := by decide +kernel
theorem dX1_window_21 : decode cX1_window 21 = .ok (.goto 4, 3) := by decide +kernel
theorem dX1_window_24 : decode cX1_window 24 = .ok (.iconst 0, 1) := by decide +kernel
theorem dX1_window_25 : decode cX1_window 25 = .ok (.aload_n 0, 1) := by decide +kernel
theorem dX1_window_26 : decode cX1_window 26 = .ok (.getfield 38, 3) := by decide +kernel
theorem dX1_window_29 : decode cX1_window 29 = .ok (.bipush 6, 2) := by decide +kernel
theorem dX1_window_31 : decode cX1_window 31 = .ok (.if_icmp .ne 7, 3) := by decide +kernel
theorem dX1_window_34 : decode cX1_window 34 = .ok (.iconst 1, 1) := by decide +kernel
theorem dX1_window_35 : decode cX1_window 35 = .ok (.goto 4, 3) := by decide +kernel
theorem dX1_window_38 : decode cX1_window 38 = .ok (.iconst 0, 1) := by decide +kernel
theorem dX1_window_39 : decode cX1_window 39 = .ok (.invokevirtual 46, 3) := by decide +kernel
theorem dX1_window_42 : decode cX1_window 42 = .ok (.ifCond .eq 5, 3) := by decide +kernel
theorem dX1_window_45 : decode cX1_window 45 = .ok (.iconst 0, 1) := by decide +kernel
theorem dX1_window_46 : decode cX1_window 46 = .ok (.ireturn, 1) := by decide +kernel
theorem dX1_window_47 : decode cX1_window 47 = .ok (.aload_n 0, 1) := by decide +kernel
theorem dX1_window_48 : decode cX1_window 48 = .ok (.getfield 19, 3) := by decide +kernel
theorem dX1_window_51 : decode cX1_window 51 = .ok (.aload_n 0, 1) := by decide +kernel
theorem dX1_window_52 : decode cX1_window 52 = .ok (.getfield 38, 3) := by decide +kernel
theorem dX1_window_55 : decode cX1_window 55 = .ok (.iload_n 1, 1) := by decide +kernel
theorem dX1_window_56 : decode cX1_window 56 = .ok (.iastore, 1) := by decide +kernel
theorem dX1_window_57 : decode cX1_window 57 = .ok (.aload_n 0, 1) := by decide +kernel
theorem dX1_window_58 : decode cX1_window 58 = .ok (.getfield 22, 3) := by decide +kernel
theorem dX1_window_61 : decode cX1_window 61 = .ok (.aload_n 0, 1) := by decide +kernel
theorem dX1_window_62 : decode cX1_window 62 = .ok (.getfield 38, 3) := by decide +kernel
theorem dX1_window_65 : decode cX1_window 65 = .ok (.iload_n 2, 1) := by decide +kernel
theorem dX1_window_66 : decode cX1_window 66 = .ok (.iastore, 1) := by decide +kernel
theorem dX1_window_67 : decode cX1_window 67 = .ok (.aload_n 0, 1) := by decide +kernel
theorem dX1_window_68 : decode cX1_window 68 = .ok (.dup, 1) := by decide +kernel
theorem dX1_window_69 : decode cX1_window 69 = .ok (.getfield 38, 3) := by decide +kernel
theorem dX1_window_72 : decode cX1_window 72 = .ok (.iconst 1, 1) := by decide +kernel
theorem dX1_window_73 : decode cX1_window 73 = .ok (.iadd, 1) := by decide +kernel
theorem dX1_window_74 : decode cX1_window 74 = .ok (.putfield 38, 3) := by decide +kernel
theorem dX1_window_77 : decode cX1_window 77 = .ok (.aload_n 0, 1) := by decide +kernel
theorem dX1_window_78 : decode cX1_window 78 = .ok (.getfield 38, 3) := by decide +kernel
theorem dX1_window_81 : decode cX1_window 81 = .ok (.iconst 1, 1) := by decide +kernel
theorem dX1_window_82 : decode cX1_window 82 = .ok (.isub, 1) := by decide +kernel
theorem dX1_window_83 : decode cX1_window 83 = .ok (.ireturn, 1) := by decide +kernel
theorem dX1_tuple_0 : decode cX1_tuple 0 = .ok (.aload_n 0, 1) := by decide +kernel
theorem dX1_tuple_1 : decode cX1_tuple 1 = .ok (.iload_n 1, 1) := by decide +kernel
theorem dX1_tuple_2 : decode cX1_tuple 2 = .ok (.aload_n 0, 1) := by decide +kernel
theorem dX1_tuple_3 : decode cX1_tuple 3 = .ok (.getfield 35, 3) := by decide +kernel
theorem dX1_tuple_6 : decode cX1_tuple 6 = .ok (.ldc 45, 2) := by decide +kernel
theorem dX1_tuple_8 : decode cX1_tuple 8 = .ok (.invokestatic 41, 3) := by decide +kernel
theorem dX1_tuple_11 : decode cX1_tuple 11 = .ok (.ifCond .eq 13, 3) := by decide +kernel
theorem dX1_tuple_14 : decode cX1_tuple 14 = .ok (.iload_n 2, 1) := by decide +kernel
theorem dX1_tuple_15 : decode cX1_tuple 15 = .ok (.iconst 0, 1) := by decide +kernel
theorem dX1_tuple_16 : decode cX1_tuple 16 = .ok (.bipush 7, 2) := by decide +kernel
theorem dX1_tuple_18 : decode cX1_tuple 18 = .ok (.invokestatic 41, 3) := by decide +kernel
theorem dX1_tuple_21 : decode cX1_tuple 21 = .ok (.ifCond .ne 7, 3) := by decide +kernel
theorem dX1_tuple_24 : decode cX1_tuple 24 = .ok (.iconst 1, 1) := by decide +kernel
theorem dX1_tuple_25 : decode cX1_tuple 25 = .ok (.goto 4, 3) := by decide +kernel
theorem dX1_tuple_28 : decode cX1_tuple 28 = .ok (.iconst 0, 1) := by decide +kernel
theorem dX1_tuple_29 : decode cX1_tuple 29 = .ok (.aload_n 0, 1) := by decide +kernel
theorem dX1_tuple_30 : decode cX1_tuple 30 = .ok (.getfield 32, 3) := by decide +kernel
theorem dX1_tuple_33 : decode cX1_tuple 33 = .ok (.sipush 300, 3) := by decide +kernel
theorem dX1_tuple_36 : decode cX1_tuple 36 = .ok (.if_icmp .ne 7, 3) := by decide +kernel
theorem dX1_tuple_39 : decode cX1_tuple 39 = .ok (.iconst 1, 1) := by decide +kernel
theorem dX1_tuple_40 : decode cX1_tuple 40 = .ok (.goto 4, 3) := by decide +kernel
theorem dX1_tuple_43 : decode cX1_tuple 43 = .ok (.iconst 0, 1) := by decide +kernel
theorem dX1_tuple_44 : decode cX1_tuple 44 = .ok (.invokevirtual 46, 3) := by decide +kernel
theorem dX1_tuple_47 : decode cX1_tuple 47 = .ok (.ifCond .eq 5, 3) := by decide +kernel
theorem dX1_tuple_50 : decode cX1_tuple 50 = .ok (.iconst 0, 1) := by decide +kernel
theorem dX1_tuple_51 : decode cX1_tuple 51 = .ok (.ireturn, 1) := by decide +kernel
theorem dX1_tuple_52 : decode cX1_tuple 52 = .ok (.aload_n 0, 1) := by decide +kernel
theorem dX1_tuple_53 : decode cX1_tuple 53 = .ok (.getfield 7, 3) := by decide +kernel
theorem dX1_tuple_56 : decode cX1_tuple 56 = .ok (.aload_n 0, 1) := by decide +kernel
theorem dX1_tuple_57 : decode cX1_tuple 57 = .ok (.getfield 32, 3) := by decide +kernel
theorem dX1_tuple_60 : decode cX1_tuple 60 = .ok (.iload_n 1, 1) := by decide +kernel
theorem dX1_tuple_61 : decode cX1_tuple 61 = .ok (.iastore, 1) := by decide +kernel
theorem dX1_tuple_62 : decode cX1_tuple 62 = .ok (.aload_n 0, 1) := by decide +kernel
theorem dX1_tuple_63 : decode cX1_tuple 63 = .ok (.getfield 13, 3) := by decide +kernel
theorem dX1_tuple_66 : decode cX1_tuple 66 = .ok (.aload_n 0, 1) := by decide +kernel
theorem dX1_tuple_67 : decode cX1_tuple 67 = .ok (.getfield 32, 3) := by decide +kernel
theorem dX1_tuple_70 : decode cX1_tuple 70 = .ok (.iload_n 2, 1) := by decide +kernel
theorem dX1_tuple_71 : decode cX1_tuple 71 = .ok (.iastore, 1) := by decide +kernel
theorem dX1_tuple_72 : decode cX1_tuple 72 = .ok (.aload_n 0, 1) := by decide +kernel
theorem dX1_tuple_73 : decode cX1_tuple 73 = .ok (.getfield 16, 3) := by decide +kernel
theorem dX1_tuple_76 : decode cX1_tuple 76 = .ok (.aload_n 0, 1) := by decide +kernel
theorem dX1_tuple_77 : decode cX1_tuple 77 = .ok (.getfield 32, 3) := by decide +kernel
theorem dX1_tuple_80 : decode cX1_tuple 80 = .ok (.iload_n 3, 1) := by decide +kernel
theorem dX1_tuple_81 : decode cX1_tuple 81 = .ok (.iastore, 1) := by decide +kernel
theorem dX1_tuple_82 : decode cX1_tuple 82 = .ok (.aload_n 0, 1) := by decide +kernel
theorem dX1_tuple_83 : decode cX1_tuple 83 = .ok (.dup, 1) := by decide +kernel
theorem dX1_tuple_84 : decode cX1_tuple 84 = .ok (.getfield 32, 3) := by decide +kernel
theorem dX1_tuple_87 : decode cX1_tuple 87 = .ok (.iconst 1, 1) := by decide +kernel
theorem dX1_tuple_88 : decode cX1_tuple 88 = .ok (.iadd, 1) := by decide +kernel
theorem dX1_tuple_89 : decode cX1_tuple 89 = .ok (.putfield 32, 3) := by decide +kernel
theorem dX1_tuple_92 : decode cX1_tuple 92 = .ok (.aload_n 0, 1) := by decide +kernel
theorem dX1_tuple_93 : decode cX1_tuple 93 = .ok (.iload_n 1, 1) := by decide +kernel
theorem dX1_tuple_94 : decode cX1_tuple 94 = .ok (.putfield 35, 3) := by decide +kernel
theorem dX1_tuple_97 : decode cX1_tuple 97 = .ok (.aload_n 0, 1) := by decide +kernel
theorem dX1_tuple_98 : decode cX1_tuple 98 = .ok (.getfield 32, 3) := by decide +kernel
theorem dX1_tuple_101 : decode cX1_tuple 101 = .ok (.ireturn, 1) := by decide +kernel
theorem dX1_tick_0 : decode cX1_tick 0 = .ok (.aload_n 0, 1) := by decide +kernel
theorem dX1_tick_1 : decode cX1_tick 1 = .ok (.iload_n 1, 1) := by decide +kernel
theorem dX1_tick_2 : decode cX1_tick 2 = .ok (.aload_n 0, 1) := by decide +kernel
theorem dX1_tick_3 : decode cX1_tick 3 = .ok (.getfield 35, 3) := by decide +kernel
theorem dX1_tick_6 : decode cX1_tick 6 = .ok (.ldc 45, 2) := by decide +kernel
theorem dX1_tick_8 : decode cX1_tick 8 = .ok (.invokestatic 41, 3) := by decide +kernel
theorem dX1_tick_11 : decode cX1_tick 11 = .ok (.ifCond .ne 7, 3) := by decide +kernel
theorem dX1_tick_14 : decode cX1_tick 14 = .ok (.iconst 1, 1) := by decide +kernel
theorem dX1_tick_15 : decode cX1_tick 15 = .ok (.goto 4, 3) := by decide +kernel
theorem dX1_tick_18 : decode cX1_tick 18 = .ok (.iconst 0, 1) := by decide +kernel
theorem dX1_tick_19 : decode cX1_tick 19 = .ok (.iconst 0, 1) := by decide +kernel
theorem dX1_tick_20 : decode cX1_tick 20 = .ok (.invokevirtual 46, 3) := by decide +kernel
theorem dX1_tick_23 : decode cX1_tick 23 = .ok (.ifCond .ne 8, 3) := by decide +kernel
theorem dX1_tick_26 : decode cX1_tick 26 = .ok (.aload_n 0, 1) := by decide +kernel
theorem dX1_tick_27 : decode cX1_tick 27 = .ok (.iload_n 1, 1) := by decide +kernel
theorem dX1_tick_28 : decode cX1_tick 28 = .ok (.putfield 35, 3) := by decide +kernel
theorem dX1_tick_31 : decode cX1_tick 31 = .ok (.return_, 1) := by decide +kernel
theorem dX1_now_0 : decode cX1_now 0 = .ok (.aload_n 0, 1) := by decide +kernel
theorem dX1_now_1 : decode cX1_now 1 = .ok (.iconst 0, 1) := by decide +kernel
theorem dX1_now_2 : decode cX1_now 2 = .ok (.putfield 28, 3) := by decide +kernel
theorem dX1_now_5 : decode cX1_now 5 = .ok (.aload_n 0, 1) := by decide +kernel
theorem dX1_now_6 : decode cX1_now 6 = .ok (.getfield 35, 3) := by decide +kernel
theorem dX1_now_9 : decode cX1_now 9 = .ok (.ireturn, 1) := by decide +kernel
theorem dX1_runs_0 : decode cX1_runs 0 = .ok (.aload_n 0, 1) := by decide +kernel
theorem dX1_runs_1 : decode cX1_runs 1 = .ok (.getfield 7, 3) := by decide +kernel
theorem dX1_runs_4 : decode cX1_runs 4 = .ok (.aload_n 0, 1) := by decide +kernel
theorem dX1_runs_5 : decode cX1_runs 5 = .ok (.getfield 32, 3) := by decide +kernel
theorem dX1_runs_8 : decode cX1_runs 8 = .ok (.iconst 1, 1) := by decide +kernel
theorem dX1_runs_9 : decode cX1_runs 9 = .ok (.isub, 1) := by decide +kernel
theorem dX1_runs_10 : decode cX1_runs 10 = .ok (.iaload, 1) := by decide +kernel
theorem dX1_runs_11 : decode cX1_runs 11 = .ok (.aload_n 0, 1) := by decide +kernel
theorem dX1_runs_12 : decode cX1_runs 12 = .ok (.getfield 35, 3) := by decide +kernel
theorem dX1_runs_15 : decode cX1_runs 15 = .ok (.iload_n 2, 1) := by decide +kernel
theorem dX1_runs_16 : decode cX1_runs 16 = .ok (.isub, 1) := by decide +kernel
theorem dX1_runs_17 : decode cX1_runs 17 = .ok (.if_icmp .lt 7, 3) := by decide +kernel
theorem dX1_runs_20 : decode cX1_runs 20 = .ok (.iconst 1, 1) := by decide +kernel
theorem dX1_runs_21 : decode cX1_runs 21 = .ok (.goto 4, 3) := by decide +kernel
theorem dX1_runs_24 : decode cX1_runs 24 = .ok (.iconst 0, 1) := by decide +kernel
theorem dX1_runs_25 : decode cX1_runs 25 = .ok (.istore_n 3, 1) := by decide +kernel
theorem dX1_runs_26 : decode cX1_runs 26 = .ok (.iload_n 1, 1) := by decide +kernel
theorem dX1_runs_27 : decode cX1_runs 27 = .ok (.istore 4, 2) := by decide +kernel
theorem dX1_runs_29 : decode cX1_runs 29 = .ok (.iload 4, 2) := by decide +kernel
theorem dX1_runs_31 : decode cX1_runs 31 = .ok (.iconst 1, 1) := by decide +kernel
theorem dX1_runs_32 : decode cX1_runs 32 = .ok (.iadd, 1) := by decide +kernel
theorem dX1_runs_33 : decode cX1_runs 33 = .ok (.aload_n 0, 1) := by decide +kernel
theorem dX1_runs_34 : decode cX1_runs 34 = .ok (.getfield 32, 3) := by decide +kernel
theorem dX1_runs_37 : decode cX1_runs 37 = .ok (.if_icmp .ge 40, 3) := by decide +kernel
theorem dX1_runs_40 : decode cX1_runs 40 = .ok (.iload_n 3, 1) := by decide +kernel
theorem dX1_runs_41 : decode cX1_runs 41 = .ok (.ifCond .eq 28, 3) := by decide +kernel
theorem dX1_runs_44 : decode cX1_runs 44 = .ok (.aload_n 0, 1) := by decide +kernel
theorem dX1_runs_45 : decode cX1_runs 45 = .ok (.getfield 7, 3) := by decide +kernel
theorem dX1_runs_48 : decode cX1_runs 48 = .ok (.iload 4, 2) := by decide +kernel
theorem dX1_runs_50 : decode cX1_runs 50 = .ok (.iconst 1, 1) := by decide +kernel
theorem dX1_runs_51 : decode cX1_runs 51 = .ok (.iadd, 1) := by decide +kernel
theorem dX1_runs_52 : decode cX1_runs 52 = .ok (.iaload, 1) := by decide +kernel
theorem dX1_runs_53 : decode cX1_runs 53 = .ok (.aload_n 0, 1) := by decide +kernel
theorem dX1_runs_54 : decode cX1_runs 54 = .ok (.getfield 7, 3) := by decide +kernel
theorem dX1_runs_57 : decode cX1_runs 57 = .ok (.iload 4, 2) := by decide +kernel
theorem dX1_runs_59 : decode cX1_runs 59 = .ok (.iaload, 1) := by decide +kernel
theorem dX1_runs_60 : decode cX1_runs 60 = .ok (.isub, 1) := by decide +kernel
theorem dX1_runs_61 : decode cX1_runs 61 = .ok (.iload_n 2, 1) := by decide +kernel
theorem dX1_runs_62 : decode cX1_runs 62 = .ok (.if_icmp .gt 7, 3) := by decide +kernel
theorem dX1_runs_65 : decode cX1_runs 65 = .ok (.iconst 1, 1) := by decide +kernel
theorem dX1_runs_66 : decode cX1_runs 66 = .ok (.goto 4, 3) := by decide +kernel
theorem dX1_runs_69 : decode cX1_runs 69 = .ok (.iconst 0, 1) := by decide +kernel
theorem dX1_runs_70 : decode cX1_runs 70 = .ok (.istore_n 3, 1) := by decide +kernel
theorem dX1_runs_71 : decode cX1_runs 71 = .ok (.iinc 4 1, 3) := by decide +kernel
theorem dX1_runs_74 : decode cX1_runs 74 = .ok (.goto (-45), 3) := by decide +kernel
theorem dX1_runs_77 : decode cX1_runs 77 = .ok (.iload_n 3, 1) := by decide +kernel
theorem dX1_runs_78 : decode cX1_runs 78 = .ok (.ireturn, 1) := by decide +kernel
theorem dX1_behindOfKey_0 : decode cX1_behindOfKey 0 = .ok (.iconst 0, 1) := by decide +kernel
theorem dX1_behindOfKey_1 : decode cX1_behindOfKey 1 = .ok (.istore_n 2, 1) := by decide +kernel
theorem dX1_behindOfKey_2 : decode cX1_behindOfKey 2 = .ok (.iload_n 1, 1) := by decide +kernel
theorem dX1_behindOfKey_3 : decode cX1_behindOfKey 3 = .ok (.iconst 1, 1) := by decide +kernel
theorem dX1_behindOfKey_4 : decode cX1_behindOfKey 4 = .ok (.iadd, 1) := by decide +kernel
theorem dX1_behindOfKey_5 : decode cX1_behindOfKey 5 = .ok (.istore_n 3, 1) := by decide +kernel
theorem dX1_behindOfKey_6 : decode cX1_behindOfKey 6 = .ok (.iload_n 3, 1) := by decide +kernel
theorem dX1_behindOfKey_7 : decode cX1_behindOfKey 7 = .ok (.aload_n 0, 1) := by decide +kernel
theorem dX1_behindOfKey_8 : decode cX1_behindOfKey 8 = .ok (.getfield 32, 3) := by decide +kernel
theorem dX1_behindOfKey_11 : decode cX1_behindOfKey 11 = .ok (.if_icmp .ge 32, 3) := by decide +kernel
theorem dX1_behindOfKey_14 : decode cX1_behindOfKey 14 = .ok (.aload_n 0, 1) := by decide +kernel
theorem dX1_behindOfKey_15 : decode cX1_behindOfKey 15 = .ok (.getfield 13, 3) := by decide +kernel
theorem dX1_behindOfKey_18 : decode cX1_behindOfKey 18 = .ok (.iload_n 3, 1) := by decide +kernel
theorem dX1_behindOfKey_19 : decode cX1_behindOfKey 19 = .ok (.iaload, 1) := by decide +kernel
theorem dX1_behindOfKey_20 : decode cX1_behindOfKey 20 = .ok (.aload_n 0, 1) := by decide +kernel
theorem dX1_behindOfKey_21 : decode cX1_behindOfKey 21 = .ok (.getfield 13, 3) := by decide +kernel
theorem dX1_behindOfKey_24 : decode cX1_behindOfKey 24 = .ok (.iload_n 1, 1) := by decide +kernel
theorem dX1_behindOfKey_25 : decode cX1_behindOfKey 25 = .ok (.iaload, 1) := by decide +kernel
theorem dX1_behindOfKey_26 : decode cX1_behindOfKey 26 = .ok (.if_icmp .ne 9, 3) := by decide +kernel
theorem dX1_behindOfKey_29 : decode cX1_behindOfKey 29 = .ok (.iload_n 2, 1) := by decide +kernel
theorem dX1_behindOfKey_30 : decode cX1_behindOfKey 30 = .ok (.iconst 1, 1) := by decide +kernel
theorem dX1_behindOfKey_31 : decode cX1_behindOfKey 31 = .ok (.iadd, 1) := by decide +kernel
theorem dX1_behindOfKey_32 : decode cX1_behindOfKey 32 = .ok (.goto 4, 3) := by decide +kernel
theorem dX1_behindOfKey_35 : decode cX1_behindOfKey 35 = .ok (.iload_n 2, 1) := by decide +kernel
theorem dX1_behindOfKey_36 : decode cX1_behindOfKey 36 = .ok (.istore_n 2, 1) := by decide +kernel
theorem dX1_behindOfKey_37 : decode cX1_behindOfKey 37 = .ok (.iinc 3 1, 3) := by decide +kernel
theorem dX1_behindOfKey_40 : decode cX1_behindOfKey 40 = .ok (.goto (-34), 3) := by decide +kernel
theorem dX1_behindOfKey_43 : decode cX1_behindOfKey 43 = .ok (.iload_n 2, 1) := by decide +kernel
theorem dX1_behindOfKey_44 : decode cX1_behindOfKey 44 = .ok (.ireturn, 1) := by decide +kernel
theorem dX1_isIn_0 : decode cX1_isIn 0 = .ok (.aload_n 0, 1) := by decide +kernel
theorem dX1_isIn_1 : decode cX1_isIn 1 = .ok (.getfield 22, 3) := by decide +kernel
theorem dX1_isIn_4 : decode cX1_isIn 4 = .ok (.iload_n 1, 1) := by decide +kernel
theorem dX1_isIn_5 : decode cX1_isIn 5 = .ok (.iaload, 1) := by decide +kernel
theorem dX1_isIn_6 : decode cX1_isIn 6 = .ok (.istore_n 3, 1) := by decide +kernel
theorem dX1_isIn_7 : decode cX1_isIn 7 = .ok (.iload_n 3, 1) := by decide +kernel
theorem dX1_isIn_8 : decode cX1_isIn 8 = .ok (.ifCond .ne 7, 3) := by decide +kernel
theorem dX1_isIn_11 : decode cX1_isIn 11 = .ok (.iconst 1, 1) := by decide +kernel
theorem dX1_isIn_12 : decode cX1_isIn 12 = .ok (.goto 4, 3) := by decide +kernel
theorem dX1_isIn_15 : decode cX1_isIn 15 = .ok (.iload_n 3, 1) := by decide +kernel
theorem dX1_isIn_16 : decode cX1_isIn 16 = .ok (.istore 4, 2) := by decide +kernel
theorem dX1_isIn_18 : decode cX1_isIn 18 = .ok (.aload_n 0, 1) := by decide +kernel
theorem dX1_isIn_19 : decode cX1_isIn 19 = .ok (.getfield 19, 3) := by decide +kernel
theorem dX1_isIn_22 : decode cX1_isIn 22 = .ok (.iload_n 1, 1) := by decide +kernel
theorem dX1_isIn_23 : decode cX1_isIn 23 = .ok (.iaload, 1) := by decide +kernel
theorem dX1_isIn_24 : decode cX1_isIn 24 = .ok (.tableswitch 120 0 4 #[36, 57, 73, 88, 113], 36) := by decide +kernel
theorem dX1_isIn_60 : decode cX1_isIn 60 = .ok (.aload_n 0, 1) := by decide +kernel
theorem dX1_isIn_61 : decode cX1_isIn 61 = .ok (.getfield 7, 3) := by decide +kernel
theorem dX1_isIn_64 : decode cX1_isIn 64 = .ok (.iload_n 2, 1) := by decide +kernel
theorem dX1_isIn_65 : decode cX1_isIn 65 = .ok (.iaload, 1) := by decide +kernel
theorem dX1_isIn_66 : decode cX1_isIn 66 = .ok (.aload_n 0, 1) := by decide +kernel
theorem dX1_isIn_67 : decode cX1_isIn 67 = .ok (.getfield 35, 3) := by decide +kernel
theorem dX1_isIn_70 : decode cX1_isIn 70 = .ok (.iload_n 3, 1) := by decide +kernel
theorem dX1_isIn_71 : decode cX1_isIn 71 = .ok (.isub, 1) := by decide +kernel
theorem dX1_isIn_72 : decode cX1_isIn 72 = .ok (.if_icmp .lt 7, 3) := by decide +kernel
theorem dX1_isIn_75 : decode cX1_isIn 75 = .ok (.iconst 1, 1) := by decide +kernel
theorem dX1_isIn_76 : decode cX1_isIn 76 = .ok (.goto 4, 3) := by decide +kernel
theorem dX1_isIn_79 : decode cX1_isIn 79 = .ok (.iconst 0, 1) := by decide +kernel
theorem dX1_isIn_80 : decode cX1_isIn 80 = .ok (.ireturn, 1) := by decide +kernel
theorem dX1_isIn_81 : decode cX1_isIn 81 = .ok (.iload_n 2, 1) := by decide +kernel
theorem dX1_isIn_82 : decode cX1_isIn 82 = .ok (.aload_n 0, 1) := by decide +kernel
theorem dX1_isIn_83 : decode cX1_isIn 83 = .ok (.getfield 32, 3) := by decide +kernel
theorem dX1_isIn_86 : decode cX1_isIn 86 = .ok (.iload_n 3, 1) := by decide +kernel
theorem dX1_isIn_87 : decode cX1_isIn 87 = .ok (.isub, 1) := by decide +kernel
theorem dX1_isIn_88 : decode cX1_isIn 88 = .ok (.if_icmp .lt 7, 3) := by decide +kernel
theorem dX1_isIn_91 : decode cX1_isIn 91 = .ok (.iconst 1, 1) := by decide +kernel
theorem dX1_isIn_92 : decode cX1_isIn 92 = .ok (.goto 4, 3) := by decide +kernel
theorem dX1_isIn_95 : decode cX1_isIn 95 = .ok (.iconst 0, 1) := by decide +kernel
theorem dX1_isIn_96 : decode cX1_isIn 96 = .ok (.ireturn, 1) := by decide +kernel
theorem dX1_isIn_97 : decode cX1_isIn 97 = .ok (.aload_n 0, 1) := by decide +kernel
theorem dX1_isIn_98 : decode cX1_isIn 98 = .ok (.iload_n 2, 1) := by decide +kernel
theorem dX1_isIn_99 : decode cX1_isIn 99 = .ok (.invokevirtual 50, 3) := by decide +kernel
theorem dX1_isIn_102 : decode cX1_isIn 102 = .ok (.iload_n 3, 1) := by decide +kernel
theorem dX1_isIn_103 : decode cX1_isIn 103 = .ok (.if_icmp .ge 7, 3) := by decide +kernel
theorem dX1_isIn_106 : decode cX1_isIn 106 = .ok (.iconst 1, 1) := by decide +kernel
theorem dX1_isIn_107 : decode cX1_isIn 107 = .ok (.goto 4, 3) := by decide +kernel
theorem dX1_isIn_110 : decode cX1_isIn 110 = .ok (.iconst 0, 1) := by decide +kernel
theorem dX1_isIn_111 : decode cX1_isIn 111 = .ok (.ireturn, 1) := by decide +kernel
theorem dX1_isIn_112 : decode cX1_isIn 112 = .ok (.aload_n 0, 1) := by decide +kernel
theorem dX1_isIn_113 : decode cX1_isIn 113 = .ok (.getfield 7, 3) := by decide +kernel
theorem dX1_isIn_116 : decode cX1_isIn 116 = .ok (.iload_n 2, 1) := by decide +kernel
theorem dX1_isIn_117 : decode cX1_isIn 117 = .ok (.iaload, 1) := by decide +kernel
theorem dX1_isIn_118 : decode cX1_isIn 118 = .ok (.iload 4, 2) := by decide +kernel
theorem dX1_isIn_120 : decode cX1_isIn 120 = .ok (.idiv, 1) := by decide +kernel
theorem dX1_isIn_121 : decode cX1_isIn 121 = .ok (.aload_n 0, 1) := by decide +kernel
theorem dX1_isIn_122 : decode cX1_isIn 122 = .ok (.getfield 35, 3) := by decide +kernel
theorem dX1_isIn_125 : decode cX1_isIn 125 = .ok (.iload 4, 2) := by decide +kernel
theorem dX1_isIn_127 : decode cX1_isIn 127 = .ok (.idiv, 1) := by decide +kernel
theorem dX1_isIn_128 : decode cX1_isIn 128 = .ok (.if_icmp .ne 7, 3) := by decide +kernel
theorem dX1_isIn_131 : decode cX1_isIn 131 = .ok (.iconst 1, 1) := by decide +kernel
theorem dX1_isIn_132 : decode cX1_isIn 132 = .ok (.goto 4, 3) := by decide +kernel
theorem dX1_isIn_135 : decode cX1_isIn 135 = .ok (.iconst 0, 1) := by decide +kernel
theorem dX1_isIn_136 : decode cX1_isIn 136 = .ok (.ireturn, 1) := by decide +kernel
theorem dX1_isIn_137 : decode cX1_isIn 137 = .ok (.aload_n 0, 1) := by decide +kernel
theorem dX1_isIn_138 : decode cX1_isIn 138 = .ok (.iload_n 2, 1) := by decide +kernel
theorem dX1_isIn_139 : decode cX1_isIn 139 = .ok (.iload_n 3, 1) := by decide +kernel
theorem dX1_isIn_140 : decode cX1_isIn 140 = .ok (.invokevirtual 54, 3) := by decide +kernel
theorem dX1_isIn_143 : decode cX1_isIn 143 = .ok (.ireturn, 1) := by decide +kernel
theorem dX1_isIn_144 : decode cX1_isIn 144 = .ok (.aload_n 0, 1) := by decide +kernel
theorem dX1_isIn_145 : decode cX1_isIn 145 = .ok (.getfield 7, 3) := by decide +kernel
theorem dX1_isIn_148 : decode cX1_isIn 148 = .ok (.iload_n 2, 1) := by decide +kernel
theorem dX1_isIn_149 : decode cX1_isIn 149 = .ok (.iaload, 1) := by decide +kernel
theorem dX1_isIn_150 : decode cX1_isIn 150 = .ok (.aload_n 0, 1) := by decide +kernel
theorem dX1_isIn_151 : decode cX1_isIn 151 = .ok (.getfield 35, 3) := by decide +kernel
theorem dX1_isIn_154 : decode cX1_isIn 154 = .ok (.iload_n 3, 1) := by decide +kernel
theorem dX1_isIn_155 : decode cX1_isIn 155 = .ok (.isub, 1) := by decide +kernel
theorem dX1_isIn_156 : decode cX1_isIn 156 = .ok (.if_icmp .ge 7, 3) := by decide +kernel
theorem dX1_isIn_159 : decode cX1_isIn 159 = .ok (.iconst 1, 1) := by decide +kernel
theorem dX1_isIn_160 : decode cX1_isIn 160 = .ok (.goto 4, 3) := by decide +kernel
theorem dX1_isIn_163 : decode cX1_isIn 163 = .ok (.iconst 0, 1) := by decide +kernel
theorem dX1_isIn_164 : decode cX1_isIn 164 = .ok (.ireturn, 1) := by decide +kernel
theorem dX1_hold_0 : decode cX1_hold 0 = .ok (.aload_n 0, 1) := by decide +kernel
theorem dX1_hold_1 : decode cX1_hold 1 = .ok (.iconst 0, 1) := by decide +kernel
theorem dX1_hold_2 : decode cX1_hold 2 = .ok (.putfield 58, 3) := by decide +kernel
theorem dX1_hold_5 : decode cX1_hold 5 = .ok (.iconst 0, 1) := by decide +kernel
theorem dX1_hold_6 : decode cX1_hold 6 = .ok (.istore_n 2, 1) := by decide +kernel
theorem dX1_hold_7 : decode cX1_hold 7 = .ok (.iload_n 2, 1) := by decide +kernel
theorem dX1_hold_8 : decode cX1_hold 8 = .ok (.aload_n 0, 1) := by decide +kernel
theorem dX1_hold_9 : decode cX1_hold 9 = .ok (.getfield 32, 3) := by decide +kernel
theorem dX1_hold_12 : decode cX1_hold 12 = .ok (.if_icmp .ge 86, 3) := by decide +kernel
theorem dX1_hold_15 : decode cX1_hold 15 = .ok (.aload_n 0, 1) := by decide +kernel
theorem dX1_hold_16 : decode cX1_hold 16 = .ok (.iload_n 1, 1) := by decide +kernel
theorem dX1_hold_17 : decode cX1_hold 17 = .ok (.iload_n 2, 1) := by decide +kernel
theorem dX1_hold_18 : decode cX1_hold 18 = .ok (.invokevirtual 61, 3) := by decide +kernel
theorem dX1_hold_21 : decode cX1_hold 21 = .ok (.ifCond .eq 71, 3) := by decide +kernel
theorem dX1_hold_24 : decode cX1_hold 24 = .ok (.aload_n 0, 1) := by decide +kernel
theorem dX1_hold_25 : decode cX1_hold 25 = .ok (.getfield 58, 3) := by decide +kernel
theorem dX1_hold_28 : decode cX1_hold 28 = .ok (.istore_n 3, 1) := by decide +kernel
theorem dX1_hold_29 : decode cX1_hold 29 = .ok (.iload_n 3, 1) := by decide +kernel
theorem dX1_hold_30 : decode cX1_hold 30 = .ok (.ifCond .le 40, 3) := by decide +kernel
theorem dX1_hold_33 : decode cX1_hold 33 = .ok (.aload_n 0, 1) := by decide +kernel
theorem dX1_hold_34 : decode cX1_hold 34 = .ok (.getfield 25, 3) := by decide +kernel
theorem dX1_hold_37 : decode cX1_hold 37 = .ok (.iload_n 3, 1) := by decide +kernel
theorem dX1_hold_38 : decode cX1_hold 38 = .ok (.iconst 1, 1) := by decide +kernel
theorem dX1_hold_39 : decode cX1_hold 39 = .ok (.isub, 1) := by decide +kernel
theorem dX1_hold_40 : decode cX1_hold 40 = .ok (.iaload, 1) := by decide +kernel
theorem dX1_hold_41 : decode cX1_hold 41 = .ok (.aload_n 0, 1) := by decide +kernel
theorem dX1_hold_42 : decode cX1_hold 42 = .ok (.getfield 16, 3) := by decide +kernel
theorem dX1_hold_45 : decode cX1_hold 45 = .ok (.iload_n 2, 1) := by decide +kernel
theorem dX1_hold_46 : decode cX1_hold 46 = .ok (.iaload, 1) := by decide +kernel
theorem dX1_hold_47 : decode cX1_hold 47 = .ok (.if_icmp .le 23, 3) := by decide +kernel
theorem dX1_hold_50 : decode cX1_hold 50 = .ok (.aload_n 0, 1) := by decide +kernel
theorem dX1_hold_51 : decode cX1_hold 51 = .ok (.getfield 25, 3) := by decide +kernel
theorem dX1_hold_54 : decode cX1_hold 54 = .ok (.iload_n 3, 1) := by decide +kernel
theorem dX1_hold_55 : decode cX1_hold 55 = .ok (.aload_n 0, 1) := by decide +kernel
theorem dX1_hold_56 : decode cX1_hold 56 = .ok (.getfield 25, 3) := by decide +kernel
theorem dX1_hold_59 : decode cX1_hold 59 = .ok (.iload_n 3, 1) := by decide +kernel
theorem dX1_hold_60 : decode cX1_hold 60 = .ok (.iconst 1, 1) := by decide +kernel
theorem dX1_hold_61 : decode cX1_hold 61 = .ok (.isub, 1) := by decide +kernel
theorem dX1_hold_62 : decode cX1_hold 62 = .ok (.iaload, 1) := by decide +kernel
theorem dX1_hold_63 : decode cX1_hold 63 = .ok (.iastore, 1) := by decide +kernel
theorem dX1_hold_64 : decode cX1_hold 64 = .ok (.iinc 3 (-1), 3) := by decide +kernel
theorem dX1_hold_67 : decode cX1_hold 67 = .ok (.goto (-38), 3) := by decide +kernel
theorem dX1_hold_70 : decode cX1_hold 70 = .ok (.aload_n 0, 1) := by decide +kernel
theorem dX1_hold_71 : decode cX1_hold 71 = .ok (.getfield 25, 3) := by decide +kernel
theorem dX1_hold_74 : decode cX1_hold 74 = .ok (.iload_n 3, 1) := by decide +kernel
theorem dX1_hold_75 : decode cX1_hold 75 = .ok (.aload_n 0, 1) := by decide +kernel
theorem dX1_hold_76 : decode cX1_hold 76 = .ok (.getfield 16, 3) := by decide +kernel
theorem dX1_hold_79 : decode cX1_hold 79 = .ok (.iload_n 2, 1) := by decide +kernel
theorem dX1_hold_80 : decode cX1_hold 80 = .ok (.iaload, 1) := by decide +kernel
theorem dX1_hold_81 : decode cX1_hold 81 = .ok (.iastore, 1) := by decide +kernel
theorem dX1_hold_82 : decode cX1_hold 82 = .ok (.aload_n 0, 1) := by decide +kernel
theorem dX1_hold_83 : decode cX1_hold 83 = .ok (.dup, 1) := by decide +kernel
theorem dX1_hold_84 : decode cX1_hold 84 = .ok (.getfield 58, 3) := by decide +kernel
theorem dX1_hold_87 : decode cX1_hold 87 = .ok (.iconst 1, 1) := by decide +kernel
theorem dX1_hold_88 : decode cX1_hold 88 = .ok (.iadd, 1) := by decide +kernel
theorem dX1_hold_89 : decode cX1_hold 89 = .ok (.putfield 58, 3) := by decide +kernel
theorem dX1_hold_92 : decode cX1_hold 92 = .ok (.iinc 2 1, 3) := by decide +kernel
theorem dX1_hold_95 : decode cX1_hold 95 = .ok (.goto (-88), 3) := by decide +kernel
theorem dX1_hold_98 : decode cX1_hold 98 = .ok (.return_, 1) := by decide +kernel
theorem dX1_most_0 : decode cX1_most 0 = .ok (.iconst (-1), 1) := by decide +kernel
theorem dX1_most_1 : decode cX1_most 1 = .ok (.istore_n 1, 1) := by decide +kernel
theorem dX1_most_2 : decode cX1_most 2 = .ok (.aload_n 0, 1) := by decide +kernel
theorem dX1_most_3 : decode cX1_most 3 = .ok (.iconst 0, 1) := by decide +kernel
theorem dX1_most_4 : decode cX1_most 4 = .ok (.putfield 64, 3) := by decide +kernel
theorem dX1_most_7 : decode cX1_most 7 = .ok (.iconst 0, 1) := by decide +kernel
theorem dX1_most_8 : decode cX1_most 8 = .ok (.istore_n 2, 1) := by decide +kernel
theorem dX1_most_9 : decode cX1_most 9 = .ok (.iconst 0, 1) := by decide +kernel
theorem dX1_most_10 : decode cX1_most 10 = .ok (.istore_n 3, 1) := by decide +kernel
theorem dX1_most_11 : decode cX1_most 11 = .ok (.iload_n 3, 1) := by decide +kernel
theorem dX1_most_12 : decode cX1_most 12 = .ok (.aload_n 0, 1) := by decide +kernel
theorem dX1_most_13 : decode cX1_most 13 = .ok (.getfield 58, 3) := by decide +kernel
theorem dX1_most_16 : decode cX1_most 16 = .ok (.if_icmp .ge 80, 3) := by decide +kernel
theorem dX1_most_19 : decode cX1_most 19 = .ok (.iload_n 3, 1) := by decide +kernel
theorem dX1_most_20 : decode cX1_most 20 = .ok (.ifCond .le 24, 3) := by decide +kernel
theorem dX1_most_23 : decode cX1_most 23 = .ok (.aload_n 0, 1) := by decide +kernel
theorem dX1_most_24 : decode cX1_most 24 = .ok (.getfield 25, 3) := by decide +kernel
theorem dX1_most_27 : decode cX1_most 27 = .ok (.iload_n 3, 1) := by decide +kernel
theorem dX1_most_28 : decode cX1_most 28 = .ok (.iaload, 1) := by decide +kernel
theorem dX1_most_29 : decode cX1_most 29 = .ok (.aload_n 0, 1) := by decide +kernel
theorem dX1_most_30 : decode cX1_most 30 = .ok (.getfield 25, 3) := by decide +kernel
theorem dX1_most_33 : decode cX1_most 33 = .ok (.iload_n 3, 1) := by decide +kernel
theorem dX1_most_34 : decode cX1_most 34 = .ok (.iconst 1, 1) := by decide +kernel
theorem dX1_most_35 : decode cX1_most 35 = .ok (.isub, 1) := by decide +kernel
theorem dX1_most_36 : decode cX1_most 36 = .ok (.iaload, 1) := by decide +kernel
theorem dX1_most_37 : decode cX1_most 37 = .ok (.if_icmp .eq 7, 3) := by decide +kernel
theorem dX1_most_40 : decode cX1_most 40 = .ok (.iload_n 3, 1) := by decide +kernel
theorem dX1_most_41 : decode cX1_most 41 = .ok (.goto 4, 3) := by decide +kernel
theorem dX1_most_44 : decode cX1_most 44 = .ok (.iload_n 2, 1) := by decide +kernel
theorem dX1_most_45 : decode cX1_most 45 = .ok (.istore_n 2, 1) := by decide +kernel
theorem dX1_most_46 : decode cX1_most 46 = .ok (.iload_n 3, 1) := by decide +kernel
theorem dX1_most_47 : decode cX1_most 47 = .ok (.iload_n 2, 1) := by decide +kernel
theorem dX1_most_48 : decode cX1_most 48 = .ok (.isub, 1) := by decide +kernel
theorem dX1_most_49 : decode cX1_most 49 = .ok (.iconst 1, 1) := by decide +kernel
theorem dX1_most_50 : decode cX1_most 50 = .ok (.iadd, 1) := by decide +kernel
theorem dX1_most_51 : decode cX1_most 51 = .ok (.istore 4, 2) := by decide +kernel
theorem dX1_most_53 : decode cX1_most 53 = .ok (.iload 4, 2) := by decide +kernel
theorem dX1_most_55 : decode cX1_most 55 = .ok (.aload_n 0, 1) := by decide +kernel
theorem dX1_most_56 : decode cX1_most 56 = .ok (.getfield 64, 3) := by decide +kernel
theorem dX1_most_59 : decode cX1_most 59 = .ok (.if_icmp .le 7, 3) := by decide +kernel
theorem dX1_most_62 : decode cX1_most 62 = .ok (.iload_n 2, 1) := by decide +kernel
theorem dX1_most_63 : decode cX1_most 63 = .ok (.goto 4, 3) := by decide +kernel
theorem dX1_most_66 : decode cX1_most 66 = .ok (.iload_n 1, 1) := by decide +kernel
theorem dX1_most_67 : decode cX1_most 67 = .ok (.istore_n 1, 1) := by decide +kernel
theorem dX1_most_68 : decode cX1_most 68 = .ok (.aload_n 0, 1) := by decide +kernel
theorem dX1_most_69 : decode cX1_most 69 = .ok (.iload 4, 2) := by decide +kernel
theorem dX1_most_71 : decode cX1_most 71 = .ok (.aload_n 0, 1) := by decide +kernel
theorem dX1_most_72 : decode cX1_most 72 = .ok (.getfield 64, 3) := by decide +kernel
theorem dX1_most_75 : decode cX1_most 75 = .ok (.if_icmp .le 8, 3) := by decide +kernel
theorem dX1_most_78 : decode cX1_most 78 = .ok (.iload 4, 2) := by decide +kernel
theorem dX1_most_80 : decode cX1_most 80 = .ok (.goto 7, 3) := by decide +kernel
theorem dX1_most_83 : decode cX1_most 83 = .ok (.aload_n 0, 1) := by decide +kernel
theorem dX1_most_84 : decode cX1_most 84 = .ok (.getfield 64, 3) := by decide +kernel
theorem dX1_most_87 : decode cX1_most 87 = .ok (.putfield 64, 3) := by decide +kernel
theorem dX1_most_90 : decode cX1_most 90 = .ok (.iinc 3 1, 3) := by decide +kernel
theorem dX1_most_93 : decode cX1_most 93 = .ok (.goto (-82), 3) := by decide +kernel
theorem dX1_most_96 : decode cX1_most 96 = .ok (.iload_n 1, 1) := by decide +kernel
theorem dX1_most_97 : decode cX1_most 97 = .ok (.ireturn, 1) := by decide +kernel
theorem dX1_isWindow_0 : decode cX1_isWindow 0 = .ok (.iload_n 1, 1) := by decide +kernel
theorem dX1_isWindow_1 : decode cX1_isWindow 1 = .ok (.iconst 0, 1) := by decide +kernel
theorem dX1_isWindow_2 : decode cX1_isWindow 2 = .ok (.aload_n 0, 1) := by decide +kernel
theorem dX1_isWindow_3 : decode cX1_isWindow 3 = .ok (.getfield 38, 3) := by decide +kernel
theorem dX1_isWindow_6 : decode cX1_isWindow 6 = .ok (.iconst 1, 1) := by decide +kernel
theorem dX1_isWindow_7 : decode cX1_isWindow 7 = .ok (.isub, 1) := by decide +kernel
theorem dX1_isWindow_8 : decode cX1_isWindow 8 = .ok (.invokestatic 41, 3) := by decide +kernel
theorem dX1_isWindow_11 : decode cX1_isWindow 11 = .ok (.ireturn, 1) := by decide +kernel
theorem dX1_meter_0 : decode cX1_meter 0 = .ok (.aload_n 0, 1) := by decide +kernel
theorem dX1_meter_1 : decode cX1_meter 1 = .ok (.aload_n 0, 1) := by decide +kernel
theorem dX1_meter_2 : decode cX1_meter 2 = .ok (.iload_n 1, 1) := by decide +kernel
theorem dX1_meter_3 : decode cX1_meter 3 = .ok (.invokevirtual 67, 3) := by decide +kernel
theorem dX1_meter_6 : decode cX1_meter 6 = .ok (.ifCond .ne 7, 3) := by decide +kernel
theorem dX1_meter_9 : decode cX1_meter 9 = .ok (.iconst 1, 1) := by decide +kernel
theorem dX1_meter_10 : decode cX1_meter 10 = .ok (.goto 4, 3) := by decide +kernel
theorem dX1_meter_13 : decode cX1_meter 13 = .ok (.iconst 0, 1) := by decide +kernel
theorem dX1_meter_14 : decode cX1_meter 14 = .ok (.aload_n 0, 1) := by decide +kernel
theorem dX1_meter_15 : decode cX1_meter 15 = .ok (.iload_n 1, 1) := by decide +kernel
theorem dX1_meter_16 : decode cX1_meter 16 = .ok (.invokevirtual 67, 3) := by decide +kernel
theorem dX1_meter_19 : decode cX1_meter 19 = .ok (.ifCond .eq 16, 3) := by decide +kernel
theorem dX1_meter_22 : decode cX1_meter 22 = .ok (.iload_n 2, 1) := by decide +kernel
theorem dX1_meter_23 : decode cX1_meter 23 = .ok (.iconst 0, 1) := by decide +kernel
theorem dX1_meter_24 : decode cX1_meter 24 = .ok (.iconst 3, 1) := by decide +kernel
theorem dX1_meter_25 : decode cX1_meter 25 = .ok (.invokestatic 41, 3) := by decide +kernel
theorem dX1_meter_28 : decode cX1_meter 28 = .ok (.ifCond .ne 7, 3) := by decide +kernel
theorem dX1_meter_31 : decode cX1_meter 31 = .ok (.iconst 1, 1) := by decide +kernel
theorem dX1_meter_32 : decode cX1_meter 32 = .ok (.goto 4, 3) := by decide +kernel
theorem dX1_meter_35 : decode cX1_meter 35 = .ok (.iconst 0, 1) := by decide +kernel
theorem dX1_meter_36 : decode cX1_meter 36 = .ok (.invokevirtual 46, 3) := by decide +kernel
theorem dX1_meter_39 : decode cX1_meter 39 = .ok (.ifCond .eq 5, 3) := by decide +kernel
theorem dX1_meter_42 : decode cX1_meter 42 = .ok (.iconst 0, 1) := by decide +kernel
theorem dX1_meter_43 : decode cX1_meter 43 = .ok (.ireturn, 1) := by decide +kernel
theorem dX1_meter_44 : decode cX1_meter 44 = .ok (.aload_n 0, 1) := by decide +kernel
theorem dX1_meter_45 : decode cX1_meter 45 = .ok (.iload_n 1, 1) := by decide +kernel
theorem dX1_meter_46 : decode cX1_meter 46 = .ok (.invokevirtual 71, 3) := by decide +kernel
theorem dX1_meter_49 : decode cX1_meter 49 = .ok (.iconst 0, 1) := by decide +kernel
theorem dX1_meter_50 : decode cX1_meter 50 = .ok (.istore_n 3, 1) := by decide +kernel
theorem dX1_meter_51 : decode cX1_meter 51 = .ok (.iconst 0, 1) := by decide +kernel
theorem dX1_meter_52 : decode cX1_meter 52 = .ok (.istore 4, 2) := by decide +kernel
theorem dX1_meter_54 : decode cX1_meter 54 = .ok (.iconst 0, 1) := by decide +kernel
theorem dX1_meter_55 : decode cX1_meter 55 = .ok (.istore 5, 2) := by decide +kernel
theorem dX1_meter_57 : decode cX1_meter 57 = .ok (.iload 5, 2) := by decide +kernel
theorem dX1_meter_59 : decode cX1_meter 59 = .ok (.aload_n 0, 1) := by decide +kernel
theorem dX1_meter_60 : decode cX1_meter 60 = .ok (.getfield 58, 3) := by decide +kernel
theorem dX1_meter_63 : decode cX1_meter 63 = .ok (.if_icmp .ge 54, 3) := by decide +kernel
theorem dX1_meter_66 : decode cX1_meter 66 = .ok (.iload_n 3, 1) := by decide +kernel
theorem dX1_meter_67 : decode cX1_meter 67 = .ok (.aload_n 0, 1) := by decide +kernel
theorem dX1_meter_68 : decode cX1_meter 68 = .ok (.getfield 25, 3) := by decide +kernel
theorem dX1_meter_71 : decode cX1_meter 71 = .ok (.iload 5, 2) := by decide +kernel
theorem dX1_meter_73 : decode cX1_meter 73 = .ok (.iaload, 1) := by decide +kernel
theorem dX1_meter_74 : decode cX1_meter 74 = .ok (.iadd, 1) := by decide +kernel
theorem dX1_meter_75 : decode cX1_meter 75 = .ok (.istore_n 3, 1) := by decide +kernel
theorem dX1_meter_76 : decode cX1_meter 76 = .ok (.iload 5, 2) := by decide +kernel
theorem dX1_meter_78 : decode cX1_meter 78 = .ok (.ifCond .eq 22, 3) := by decide +kernel
theorem dX1_meter_81 : decode cX1_meter 81 = .ok (.aload_n 0, 1) := by decide +kernel
theorem dX1_meter_82 : decode cX1_meter 82 = .ok (.getfield 25, 3) := by decide +kernel
theorem dX1_meter_85 : decode cX1_meter 85 = .ok (.iload 5, 2) := by decide +kernel
theorem dX1_meter_87 : decode cX1_meter 87 = .ok (.iaload, 1) := by decide +kernel
theorem dX1_meter_88 : decode cX1_meter 88 = .ok (.aload_n 0, 1) := by decide +kernel
theorem dX1_meter_89 : decode cX1_meter 89 = .ok (.getfield 25, 3) := by decide +kernel
theorem dX1_meter_92 : decode cX1_meter 92 = .ok (.iload 5, 2) := by decide +kernel
theorem dX1_meter_94 : decode cX1_meter 94 = .ok (.iconst 1, 1) := by decide +kernel
theorem dX1_meter_95 : decode cX1_meter 95 = .ok (.isub, 1) := by decide +kernel
theorem dX1_meter_96 : decode cX1_meter 96 = .ok (.iaload, 1) := by decide +kernel
theorem dX1_meter_97 : decode cX1_meter 97 = .ok (.if_icmp .eq 10, 3) := by decide +kernel
theorem dX1_meter_100 : decode cX1_meter 100 = .ok (.iload 4, 2) := by decide +kernel
theorem dX1_meter_102 : decode cX1_meter 102 = .ok (.iconst 1, 1) := by decide +kernel
theorem dX1_meter_103 : decode cX1_meter 103 = .ok (.iadd, 1) := by decide +kernel
theorem dX1_meter_104 : decode cX1_meter 104 = .ok (.goto 5, 3) := by decide +kernel
theorem dX1_meter_107 : decode cX1_meter 107 = .ok (.iload 4, 2) := by decide +kernel
theorem dX1_meter_109 : decode cX1_meter 109 = .ok (.istore 4, 2) := by decide +kernel
theorem dX1_meter_111 : decode cX1_meter 111 = .ok (.iinc 5 1, 3) := by decide +kernel
theorem dX1_meter_114 : decode cX1_meter 114 = .ok (.goto (-57), 3) := by decide +kernel
theorem dX1_meter_117 : decode cX1_meter 117 = .ok (.aload_n 0, 1) := by decide +kernel
theorem dX1_meter_118 : decode cX1_meter 118 = .ok (.invokevirtual 75, 3) := by decide +kernel
theorem dX1_meter_121 : decode cX1_meter 121 = .ok (.pop, 1) := by decide +kernel
theorem dX1_meter_122 : decode cX1_meter 122 = .ok (.iload_n 2, 1) := by decide +kernel
theorem dX1_meter_123 : decode cX1_meter 123 = .ok (.ifCond .ne 10, 3) := by decide +kernel
theorem dX1_meter_126 : decode cX1_meter 126 = .ok (.aload_n 0, 1) := by decide +kernel
theorem dX1_meter_127 : decode cX1_meter 127 = .ok (.getfield 58, 3) := by decide +kernel
theorem dX1_meter_130 : decode cX1_meter 130 = .ok (.goto 26, 3) := by decide +kernel
theorem dX1_meter_133 : decode cX1_meter 133 = .ok (.iload_n 2, 1) := by decide +kernel
theorem dX1_meter_134 : decode cX1_meter 134 = .ok (.iconst 1, 1) := by decide +kernel
theorem dX1_meter_135 : decode cX1_meter 135 = .ok (.if_icmp .ne 7, 3) := by decide +kernel
theorem dX1_meter_138 : decode cX1_meter 138 = .ok (.iload_n 3, 1) := by decide +kernel
theorem dX1_meter_139 : decode cX1_meter 139 = .ok (.goto 17, 3) := by decide +kernel
theorem dX1_meter_142 : decode cX1_meter 142 = .ok (.iload_n 2, 1) := by decide +kernel
theorem dX1_meter_143 : decode cX1_meter 143 = .ok (.iconst 2, 1) := by decide +kernel
theorem dX1_meter_144 : decode cX1_meter 144 = .ok (.if_icmp .ne 8, 3) := by decide +kernel
theorem dX1_meter_147 : decode cX1_meter 147 = .ok (.iload 4, 2) := by decide +kernel
theorem dX1_meter_149 : decode cX1_meter 149 = .ok (.goto 7, 3) := by decide +kernel
theorem dX1_meter_152 : decode cX1_meter 152 = .ok (.aload_n 0, 1) := by decide +kernel
theorem dX1_meter_153 : decode cX1_meter 153 = .ok (.getfield 64, 3) := by decide +kernel
theorem dX1_meter_156 : decode cX1_meter 156 = .ok (.ireturn, 1) := by decide +kernel
theorem dX1_kth_0 : decode cX1_kth 0 = .ok (.aload_n 0, 1) := by decide +kernel
theorem dX1_kth_1 : decode cX1_kth 1 = .ok (.iload_n 1, 1) := by decide +kernel
theorem dX1_kth_2 : decode cX1_kth 2 = .ok (.invokevirtual 67, 3) := by decide +kernel
theorem dX1_kth_5 : decode cX1_kth 5 = .ok (.ifCond .eq 8, 3) := by decide +kernel
theorem dX1_kth_8 : decode cX1_kth 8 = .ok (.aload_n 0, 1) := by decide +kernel
theorem dX1_kth_9 : decode cX1_kth 9 = .ok (.iload_n 1, 1) := by decide +kernel
theorem dX1_kth_10 : decode cX1_kth 10 = .ok (.invokevirtual 71, 3) := by decide +kernel
theorem dX1_kth_13 : decode cX1_kth 13 = .ok (.aload_n 0, 1) := by decide +kernel
theorem dX1_kth_14 : decode cX1_kth 14 = .ok (.aload_n 0, 1) := by decide +kernel
theorem dX1_kth_15 : decode cX1_kth 15 = .ok (.iload_n 1, 1) := by decide +kernel
theorem dX1_kth_16 : decode cX1_kth 16 = .ok (.invokevirtual 67, 3) := by decide +kernel
theorem dX1_kth_19 : decode cX1_kth 19 = .ok (.ifCond .ne 7, 3) := by decide +kernel
theorem dX1_kth_22 : decode cX1_kth 22 = .ok (.iconst 1, 1) := by decide +kernel
theorem dX1_kth_23 : decode cX1_kth 23 = .ok (.goto 4, 3) := by decide +kernel
theorem dX1_kth_26 : decode cX1_kth 26 = .ok (.iconst 0, 1) := by decide +kernel
theorem dX1_kth_27 : decode cX1_kth 27 = .ok (.aload_n 0, 1) := by decide +kernel
theorem dX1_kth_28 : decode cX1_kth 28 = .ok (.iload_n 1, 1) := by decide +kernel
theorem dX1_kth_29 : decode cX1_kth 29 = .ok (.invokevirtual 67, 3) := by decide +kernel
theorem dX1_kth_32 : decode cX1_kth 32 = .ok (.ifCond .eq 21, 3) := by decide +kernel
theorem dX1_kth_35 : decode cX1_kth 35 = .ok (.iload_n 2, 1) := by decide +kernel
theorem dX1_kth_36 : decode cX1_kth 36 = .ok (.iconst 0, 1) := by decide +kernel
theorem dX1_kth_37 : decode cX1_kth 37 = .ok (.aload_n 0, 1) := by decide +kernel
theorem dX1_kth_38 : decode cX1_kth 38 = .ok (.getfield 58, 3) := by decide +kernel
theorem dX1_kth_41 : decode cX1_kth 41 = .ok (.iconst 1, 1) := by decide +kernel
theorem dX1_kth_42 : decode cX1_kth 42 = .ok (.isub, 1) := by decide +kernel
theorem dX1_kth_43 : decode cX1_kth 43 = .ok (.invokestatic 41, 3) := by decide +kernel
theorem dX1_kth_46 : decode cX1_kth 46 = .ok (.ifCond .ne 7, 3) := by decide +kernel
theorem dX1_kth_49 : decode cX1_kth 49 = .ok (.iconst 1, 1) := by decide +kernel
theorem dX1_kth_50 : decode cX1_kth 50 = .ok (.goto 4, 3) := by decide +kernel
theorem dX1_kth_53 : decode cX1_kth 53 = .ok (.iconst 0, 1) := by decide +kernel
theorem dX1_kth_54 : decode cX1_kth 54 = .ok (.invokevirtual 46, 3) := by decide +kernel
theorem dX1_kth_57 : decode cX1_kth 57 = .ok (.ifCond .eq 5, 3) := by decide +kernel
theorem dX1_kth_60 : decode cX1_kth 60 = .ok (.iconst 0, 1) := by decide +kernel
theorem dX1_kth_61 : decode cX1_kth 61 = .ok (.ireturn, 1) := by decide +kernel
theorem dX1_kth_62 : decode cX1_kth 62 = .ok (.aload_n 0, 1) := by decide +kernel
theorem dX1_kth_63 : decode cX1_kth 63 = .ok (.getfield 25, 3) := by decide +kernel
theorem dX1_kth_66 : decode cX1_kth 66 = .ok (.iload_n 2, 1) := by decide +kernel
theorem dX1_kth_67 : decode cX1_kth 67 = .ok (.iaload, 1) := by decide +kernel
theorem dX1_kth_68 : decode cX1_kth 68 = .ok (.ireturn, 1) := by decide +kernel
theorem dX1_frequent_0 : decode cX1_frequent 0 = .ok (.aload_n 0, 1) := by decide +kernel
theorem dX1_frequent_1 : decode cX1_frequent 1 = .ok (.iload_n 1, 1) := by decide +kernel
theorem dX1_frequent_2 : decode cX1_frequent 2 = .ok (.invokevirtual 67, 3) := by decide +kernel
theorem dX1_frequent_5 : decode cX1_frequent 5 = .ok (.ifCond .eq 8, 3) := by decide +kernel
theorem dX1_frequent_8 : decode cX1_frequent 8 = .ok (.aload_n 0, 1) := by decide +kernel
theorem dX1_frequent_9 : decode cX1_frequent 9 = .ok (.iload_n 1, 1) := by decide +kernel
theorem dX1_frequent_10 : decode cX1_frequent 10 = .ok (.invokevirtual 71, 3) := by decide +kernel
theorem dX1_frequent_13 : decode cX1_frequent 13 = .ok (.aload_n 0, 1) := by decide +kernel
theorem dX1_frequent_14 : decode cX1_frequent 14 = .ok (.aload_n 0, 1) := by decide +kernel
theorem dX1_frequent_15 : decode cX1_frequent 15 = .ok (.iload_n 1, 1) := by decide +kernel
theorem dX1_frequent_16 : decode cX1_frequent 16 = .ok (.invokevirtual 67, 3) := by decide +kernel
theorem dX1_frequent_19 : decode cX1_frequent 19 = .ok (.ifCond .ne 7, 3) := by decide +kernel
theorem dX1_frequent_22 : decode cX1_frequent 22 = .ok (.iconst 1, 1) := by decide +kernel
theorem dX1_frequent_23 : decode cX1_frequent 23 = .ok (.goto 4, 3) := by decide +kernel
theorem dX1_frequent_26 : decode cX1_frequent 26 = .ok (.iconst 0, 1) := by decide +kernel
theorem dX1_frequent_27 : decode cX1_frequent 27 = .ok (.aload_n 0, 1) := by decide +kernel
theorem dX1_frequent_28 : decode cX1_frequent 28 = .ok (.iload_n 1, 1) := by decide +kernel
theorem dX1_frequent_29 : decode cX1_frequent 29 = .ok (.invokevirtual 67, 3) := by decide +kernel
theorem dX1_frequent_32 : decode cX1_frequent 32 = .ok (.ifCond .eq 14, 3) := by decide +kernel
theorem dX1_frequent_35 : decode cX1_frequent 35 = .ok (.aload_n 0, 1) := by decide +kernel
theorem dX1_frequent_36 : decode cX1_frequent 36 = .ok (.getfield 58, 3) := by decide +kernel
theorem dX1_frequent_39 : decode cX1_frequent 39 = .ok (.ifCond .ne 7, 3) := by decide +kernel
theorem dX1_frequent_42 : decode cX1_frequent 42 = .ok (.iconst 1, 1) := by decide +kernel
theorem dX1_frequent_43 : decode cX1_frequent 43 = .ok (.goto 4, 3) := by decide +kernel
theorem dX1_frequent_46 : decode cX1_frequent 46 = .ok (.iconst 0, 1) := by decide +kernel
theorem dX1_frequent_47 : decode cX1_frequent 47 = .ok (.invokevirtual 46, 3) := by decide +kernel
theorem dX1_frequent_50 : decode cX1_frequent 50 = .ok (.ifCond .eq 5, 3) := by decide +kernel
theorem dX1_frequent_53 : decode cX1_frequent 53 = .ok (.iconst 0, 1) := by decide +kernel
theorem dX1_frequent_54 : decode cX1_frequent 54 = .ok (.ireturn, 1) := by decide +kernel
theorem dX1_frequent_55 : decode cX1_frequent 55 = .ok (.aload_n 0, 1) := by decide +kernel
theorem dX1_frequent_56 : decode cX1_frequent 56 = .ok (.getfield 25, 3) := by decide +kernel
theorem dX1_frequent_59 : decode cX1_frequent 59 = .ok (.aload_n 0, 1) := by decide +kernel
theorem dX1_frequent_60 : decode cX1_frequent 60 = .ok (.invokevirtual 75, 3) := by decide +kernel
theorem dX1_frequent_63 : decode cX1_frequent 63 = .ok (.iaload, 1) := by decide +kernel
theorem dX1_frequent_64 : decode cX1_frequent 64 = .ok (.ireturn, 1) := by decide +kernel
theorem dX1_below_0 : decode cX1_below 0 = .ok (.aload_n 0, 1) := by decide +kernel
theorem dX1_below_1 : decode cX1_below 1 = .ok (.aload_n 0, 1) := by decide +kernel
theorem dX1_below_2 : decode cX1_below 2 = .ok (.iload_n 1, 1) := by decide +kernel
theorem dX1_below_3 : decode cX1_below 3 = .ok (.invokevirtual 67, 3) := by decide +kernel
theorem dX1_below_6 : decode cX1_below 6 = .ok (.ifCond .ne 7, 3) := by decide +kernel
theorem dX1_below_9 : decode cX1_below 9 = .ok (.iconst 1, 1) := by decide +kernel
theorem dX1_below_10 : decode cX1_below 10 = .ok (.goto 4, 3) := by decide +kernel
theorem dX1_below_13 : decode cX1_below 13 = .ok (.iconst 0, 1) := by decide +kernel
theorem dX1_below_14 : decode cX1_below 14 = .ok (.iconst 0, 1) := by decide +kernel
theorem dX1_below_15 : decode cX1_below 15 = .ok (.invokevirtual 46, 3) := by decide +kernel
theorem dX1_below_18 : decode cX1_below 18 = .ok (.ifCond .eq 5, 3) := by decide +kernel
theorem dX1_below_21 : decode cX1_below 21 = .ok (.iconst 0, 1) := by decide +kernel
theorem dX1_below_22 : decode cX1_below 22 = .ok (.ireturn, 1) := by decide +kernel
theorem dX1_below_23 : decode cX1_below 23 = .ok (.aload_n 0, 1) := by decide +kernel
theorem dX1_below_24 : decode cX1_below 24 = .ok (.iload_n 1, 1) := by decide +kernel
theorem dX1_below_25 : decode cX1_below 25 = .ok (.invokevirtual 71, 3) := by decide +kernel
theorem dX1_below_28 : decode cX1_below 28 = .ok (.iconst 0, 1) := by decide +kernel
theorem dX1_below_29 : decode cX1_below 29 = .ok (.istore_n 3, 1) := by decide +kernel
theorem dX1_below_30 : decode cX1_below 30 = .ok (.iconst 0, 1) := by decide +kernel
theorem dX1_below_31 : decode cX1_below 31 = .ok (.istore 4, 2) := by decide +kernel
theorem dX1_below_33 : decode cX1_below 33 = .ok (.iload 4, 2) := by decide +kernel
theorem dX1_below_35 : decode cX1_below 35 = .ok (.aload_n 0, 1) := by decide +kernel
theorem dX1_below_36 : decode cX1_below 36 = .ok (.getfield 58, 3) := by decide +kernel
theorem dX1_below_39 : decode cX1_below 39 = .ok (.if_icmp .ge 28, 3) := by decide +kernel
theorem dX1_below_42 : decode cX1_below 42 = .ok (.aload_n 0, 1) := by decide +kernel
theorem dX1_below_43 : decode cX1_below 43 = .ok (.getfield 25, 3) := by decide +kernel
theorem dX1_below_46 : decode cX1_below 46 = .ok (.iload 4, 2) := by decide +kernel
theorem dX1_below_48 : decode cX1_below 48 = .ok (.iaload, 1) := by decide +kernel
theorem dX1_below_49 : decode cX1_below 49 = .ok (.iload_n 2, 1) := by decide +kernel
theorem dX1_below_50 : decode cX1_below 50 = .ok (.if_icmp .ge 9, 3) := by decide +kernel
theorem dX1_below_53 : decode cX1_below 53 = .ok (.iload_n 3, 1) := by decide +kernel
theorem dX1_below_54 : decode cX1_below 54 = .ok (.iconst 1, 1) := by decide +kernel
theorem dX1_below_55 : decode cX1_below 55 = .ok (.iadd, 1) := by decide +kernel
theorem dX1_below_56 : decode cX1_below 56 = .ok (.goto 4, 3) := by decide +kernel
theorem dX1_below_59 : decode cX1_below 59 = .ok (.iload_n 3, 1) := by decide +kernel
theorem dX1_below_60 : decode cX1_below 60 = .ok (.istore_n 3, 1) := by decide +kernel
theorem dX1_below_61 : decode cX1_below 61 = .ok (.iinc 4 1, 3) := by decide +kernel
theorem dX1_below_64 : decode cX1_below 64 = .ok (.goto (-31), 3) := by decide +kernel
theorem dX1_below_67 : decode cX1_below 67 = .ok (.iload_n 3, 1) := by decide +kernel
theorem dX1_below_68 : decode cX1_below 68 = .ok (.ireturn, 1) := by decide +kernel
theorem dX1_has_0 : decode cX1_has 0 = .ok (.aload_n 0, 1) := by decide +kernel
theorem dX1_has_1 : decode cX1_has 1 = .ok (.aload_n 0, 1) := by decide +kernel
theorem dX1_has_2 : decode cX1_has 2 = .ok (.iload_n 1, 1) := by decide +kernel
theorem dX1_has_3 : decode cX1_has 3 = .ok (.invokevirtual 67, 3) := by decide +kernel
theorem dX1_has_6 : decode cX1_has 6 = .ok (.ifCond .eq 17, 3) := by decide +kernel
theorem dX1_has_9 : decode cX1_has 9 = .ok (.iload_n 2, 1) := by decide +kernel
theorem dX1_has_10 : decode cX1_has 10 = .ok (.iconst 0, 1) := by decide +kernel
theorem dX1_has_11 : decode cX1_has 11 = .ok (.aload_n 0, 1) := by decide +kernel
theorem dX1_has_12 : decode cX1_has 12 = .ok (.getfield 32, 3) := by decide +kernel
theorem dX1_has_15 : decode cX1_has 15 = .ok (.iconst 1, 1) := by decide +kernel
theorem dX1_has_16 : decode cX1_has 16 = .ok (.isub, 1) := by decide +kernel
theorem dX1_has_17 : decode cX1_has 17 = .ok (.invokestatic 41, 3) := by decide +kernel
theorem dX1_has_20 : decode cX1_has 20 = .ok (.ifCond .ne 7, 3) := by decide +kernel
theorem dX1_has_23 : decode cX1_has 23 = .ok (.iconst 1, 1) := by decide +kernel
theorem dX1_has_24 : decode cX1_has 24 = .ok (.goto 4, 3) := by decide +kernel
theorem dX1_has_27 : decode cX1_has 27 = .ok (.iconst 0, 1) := by decide +kernel
theorem dX1_has_28 : decode cX1_has 28 = .ok (.iconst 0, 1) := by decide +kernel
theorem dX1_has_29 : decode cX1_has 29 = .ok (.invokevirtual 46, 3) := by decide +kernel
theorem dX1_has_32 : decode cX1_has 32 = .ok (.ifCond .eq 5, 3) := by decide +kernel
theorem dX1_has_35 : decode cX1_has 35 = .ok (.iconst 0, 1) := by decide +kernel
theorem dX1_has_36 : decode cX1_has 36 = .ok (.ireturn, 1) := by decide +kernel
theorem dX1_has_37 : decode cX1_has 37 = .ok (.aload_n 0, 1) := by decide +kernel
theorem dX1_has_38 : decode cX1_has 38 = .ok (.iload_n 1, 1) := by decide +kernel
theorem dX1_has_39 : decode cX1_has 39 = .ok (.iload_n 2, 1) := by decide +kernel
theorem dX1_has_40 : decode cX1_has 40 = .ok (.invokevirtual 61, 3) := by decide +kernel
theorem dX1_has_43 : decode cX1_has 43 = .ok (.ireturn, 1) := by decide +kernel
