theorem dX0_init_0 : decode cX0_init 0 = .ok (.aload_n 0, 1) := by decide +kernel
theorem dX0_init_1 : decode cX0_init 1 = .ok (.invokespecial 1, 3) := by decide +kernel
theorem dX0_init_4 : decode cX0_init 4 = .ok (.aload_n 0, 1) := by decide +kernel
theorem dX0_init_5 : decode cX0_init 5 = .ok (.sipush 300, 3) := by decide +kernel
theorem dX0_init_8 : decode cX0_init 8 = .ok (.newarray .int, 2) := by decide +kernel
theorem dX0_init_10 : decode cX0_init 10 = .ok (.putfield 9, 3) := by decide +kernel
theorem dX0_init_13 : decode cX0_init 13 = .ok (.aload_n 0, 1) := by decide +kernel
theorem dX0_init_14 : decode cX0_init 14 = .ok (.sipush 300, 3) := by decide +kernel
theorem dX0_init_17 : decode cX0_init 17 = .ok (.newarray .int, 2) := by decide +kernel
theorem dX0_init_19 : decode cX0_init 19 = .ok (.putfield 13, 3) := by decide +kernel
theorem dX0_init_22 : decode cX0_init 22 = .ok (.aload_n 0, 1) := by decide +kernel
theorem dX0_init_23 : decode cX0_init 23 = .ok (.sipush 300, 3) := by decide +kernel
theorem dX0_init_26 : decode cX0_init 26 = .ok (.newarray .int, 2) := by decide +kernel
theorem dX0_init_28 : decode cX0_init 28 = .ok (.putfield 16, 3) := by decide +kernel
theorem dX0_init_31 : decode cX0_init 31 = .ok (.aload_n 0, 1) := by decide +kernel
theorem dX0_init_32 : decode cX0_init 32 = .ok (.sipush 300, 3) := by decide +kernel
theorem dX0_init_35 : decode cX0_init 35 = .ok (.newarray .int, 2) := by decide +kernel
theorem dX0_init_37 : decode cX0_init 37 = .ok (.putfield 19, 3) := by decide +kernel
theorem dX0_init_40 : decode cX0_init 40 = .ok (.aload_n 0, 1) := by decide +kernel
theorem dX0_init_41 : decode cX0_init 41 = .ok (.bipush 6, 2) := by decide +kernel
theorem dX0_init_43 : decode cX0_init 43 = .ok (.newarray .int, 2) := by decide +kernel
theorem dX0_init_45 : decode cX0_init 45 = .ok (.putfield 22, 3) := by decide +kernel
theorem dX0_init_48 : decode cX0_init 48 = .ok (.aload_n 0, 1) := by decide +kernel
theorem dX0_init_49 : decode cX0_init 49 = .ok (.bipush 6, 2) := by decide +kernel
theorem dX0_init_51 : decode cX0_init 51 = .ok (.newarray .int, 2) := by decide +kernel
theorem dX0_init_53 : decode cX0_init 53 = .ok (.putfield 25, 3) := by decide +kernel
theorem dX0_init_56 : decode cX0_init 56 = .ok (.aload_n 0, 1) := by decide +kernel
theorem dX0_init_57 : decode cX0_init 57 = .ok (.sipush 300, 3) := by decide +kernel
theorem dX0_init_60 : decode cX0_init 60 = .ok (.newarray .boolean, 2) := by decide +kernel
theorem dX0_init_62 : decode cX0_init 62 = .ok (.putfield 28, 3) := by decide +kernel
theorem dX0_init_65 : decode cX0_init 65 = .ok (.aload_n 0, 1) := by decide +kernel
theorem dX0_init_66 : decode cX0_init 66 = .ok (.iconst 0, 1) := by decide +kernel
theorem dX0_init_67 : decode cX0_init 67 = .ok (.putfield 32, 3) := by decide +kernel
theorem dX0_init_70 : decode cX0_init 70 = .ok (.aload_n 0, 1) := by decide +kernel
theorem dX0_init_71 : decode cX0_init 71 = .ok (.iconst 0, 1) := by decide +kernel
theorem dX0_init_72 : decode cX0_init 72 = .ok (.putfield 36, 3) := by decide +kernel
theorem dX0_init_75 : decode cX0_init 75 = .ok (.aload_n 0, 1) := by decide +kernel
theorem dX0_init_76 : decode cX0_init 76 = .ok (.iconst 0, 1) := by decide +kernel
theorem dX0_init_77 : decode cX0_init 77 = .ok (.putfield 39, 3) := by decide +kernel
theorem dX0_init_80 : decode cX0_init 80 = .ok (.return_, 1) := by decide +kernel
theorem dX0_clear_0 : decode cX0_clear 0 = .ok (.aload_n 0, 1) := by decide +kernel
theorem dX0_clear_1 : decode cX0_clear 1 = .ok (.iconst 0, 1) := by decide +kernel
theorem dX0_clear_2 : decode cX0_clear 2 = .ok (.putfield 32, 3) := by decide +kernel
theorem dX0_clear_5 : decode cX0_clear 5 = .ok (.aload_n 0, 1) := by decide +kernel
theorem dX0_clear_6 : decode cX0_clear 6 = .ok (.iconst 0, 1) := by decide +kernel
theorem dX0_clear_7 : decode cX0_clear 7 = .ok (.putfield 36, 3) := by decide +kernel
theorem dX0_clear_10 : decode cX0_clear 10 = .ok (.aload_n 0, 1) := by decide +kernel
theorem dX0_clear_11 : decode cX0_clear 11 = .ok (.iconst 0, 1) := by decide +kernel
theorem dX0_clear_12 : decode cX0_clear 12 = .ok (.putfield 39, 3) := by decide +kernel
theorem dX0_clear_15 : decode cX0_clear 15 = .ok (.return_, 1) := by decide +kernel
theorem dX0_window_0 : decode cX0_window 0 = .ok (.iload_n 1, 1) := by decide +kernel
theorem dX0_window_1 : decode cX0_window 1 = .ok (.ifCond .lt 8, 3) := by decide +kernel
theorem dX0_window_4 : decode cX0_window 4 = .ok (.iload_n 1, 1) := by decide +kernel
theorem dX0_window_5 : decode cX0_window 5 = .ok (.iconst 5, 1) := by decide +kernel
theorem dX0_window_6 : decode cX0_window 6 = .ok (.if_icmp .le 13, 3) := by decide +kernel
theorem dX0_window_9 : decode cX0_window 9 = .ok (.new 42, 3) := by decide +kernel
theorem dX0_window_12 : decode cX0_window 12 = .ok (.dup, 1) := by decide +kernel
theorem dX0_window_13 : decode cX0_window 13 = .ok (.ldc 44, 2) := by decide +kernel
theorem dX0_window_15 : decode cX0_window 15 = .ok (.invokespecial 46, 3) := by decide +kernel
theorem dX0_window_18 : decode cX0_window 18 = .ok (.athrow, 1) := by decide +kernel
theorem dX0_window_19 : decode cX0_window 19 = .ok (.iload_n 2, 1) := by decide +kernel
theorem dX0_window_20 : decode cX0_window 20 = .ok (.ifCond .lt 9, 3) := by decide +kernel
theorem dX0_window_23 : decode cX0_window 23 = .ok (.iload_n 2, 1) := by decide +kernel
theorem dX0_window_24 : decode cX0_window 24 = .ok (.ldc 49, 2) := by decide +kernel
theorem dX0_window_26 : decode cX0_window 26 = .ok (.if_icmp .le 13, 3) := by decide +kernel
theorem dX0_window_29 : decode cX0_window 29 = .ok (.new 42, 3) := by decide +kernel
theorem dX0_window_32 : decode cX0_window 32 = .ok (.dup, 1) := by decide +kernel
theorem dX0_window_33 : decode cX0_window 33 = .ok (.ldc 50, 2) := by decide +kernel
theorem dX0_window_35 : decode cX0_window 35 = .ok (.invokespecial 46, 3) := by decide +kernel
theorem dX0_window_38 : decode cX0_window 38 = .ok (.athrow, 1) := by decide +kernel
theorem dX0_window_39 : decode cX0_window 39 = .ok (.aload_n 0, 1) := by decide +kernel
theorem dX0_window_40 : decode cX0_window 40 = .ok (.getfield 36, 3) := by decide +kernel
theorem dX0_window_43 : decode cX0_window 43 = .ok (.bipush 6, 2) := by decide +kernel
theorem dX0_window_45 : decode cX0_window 45 = .ok (.if_icmp .lt 13, 3) := by decide +kernel
theorem dX0_window_48 : decode cX0_window 48 = .ok (.new 52, 3) := by decide +kernel
theorem dX0_window_51 : decode cX0_window 51 = .ok (.dup, 1) := by decide +kernel
theorem dX0_window_52 : decode cX0_window 52 = .ok (.ldc 54, 2) := by decide +kernel
theorem dX0_window_54 : decode cX0_window 54 = .ok (.invokespecial 56, 3) := by decide +kernel
theorem dX0_window_57 : decode cX0_window 57 = .ok (.athrow, 1) := by decide +kernel
theorem dX0_window_58 : decode cX0_window 58 = .ok (.aload_n 0, 1) := by decide +kernel
theorem dX0_window_59 : decode cX0_window 59 = .ok (.getfield 36, 3) := by decide +kernel
theorem dX0_window_62 : decode cX0_window 62 = .ok (.istore_n 3, 1) := by decide +kernel
theorem dX0_window_63 : decode cX0_window 63 = .ok (.aload_n 0, 1) := by decide +kernel
theorem dX0_window_64 : decode cX0_window 64 = .ok (.getfield 22, 3) := by decide +kernel
theorem dX0_window_67 : decode cX0_window 67 = .ok (.iload_n 3, 1) := by decide +kernel
theorem dX0_window_68 : decode cX0_window 68 = .ok (.iload_n 1, 1) := by decide +kernel
theorem dX0_window_69 : decode cX0_window 69 = .ok (.iastore, 1) := by decide +kernel
theorem dX0_window_70 : decode cX0_window 70 = .ok (.aload_n 0, 1) := by decide +kernel
theorem dX0_window_71 : decode cX0_window 71 = .ok (.getfield 25, 3) := by decide +kernel
theorem dX0_window_74 : decode cX0_window 74 = .ok (.iload_n 3, 1) := by decide +kernel
theorem dX0_window_75 : decode cX0_window 75 = .ok (.iload_n 2, 1) := by decide +kernel
theorem dX0_window_76 : decode cX0_window 76 = .ok (.iastore, 1) := by decide +kernel
theorem dX0_window_77 : decode cX0_window 77 = .ok (.aload_n 0, 1) := by decide +kernel
theorem dX0_window_78 : decode cX0_window 78 = .ok (.iload_n 3, 1) := by decide +kernel
theorem dX0_window_79 : decode cX0_window 79 = .ok (.iconst 1, 1) := by decide +kernel
theorem dX0_window_80 : decode cX0_window 80 = .ok (.iadd, 1) := by decide +kernel
theorem dX0_window_81 : decode cX0_window 81 = .ok (.putfield 36, 3) := by decide +kernel
theorem dX0_window_84 : decode cX0_window 84 = .ok (.iload_n 3, 1) := by decide +kernel
theorem dX0_window_85 : decode cX0_window 85 = .ok (.ireturn, 1) := by decide +kernel
theorem dX0_tuple_0 : decode cX0_tuple 0 = .ok (.iload_n 1, 1) := by decide +kernel
theorem dX0_tuple_1 : decode cX0_tuple 1 = .ok (.aload_n 0, 1) := by decide +kernel
theorem dX0_tuple_2 : decode cX0_tuple 2 = .ok (.getfield 39, 3) := by decide +kernel
theorem dX0_tuple_5 : decode cX0_tuple 5 = .ok (.if_icmp .lt 9, 3) := by decide +kernel
theorem dX0_tuple_8 : decode cX0_tuple 8 = .ok (.iload_n 1, 1) := by decide +kernel
theorem dX0_tuple_9 : decode cX0_tuple 9 = .ok (.ldc 49, 2) := by decide +kernel
theorem dX0_tuple_11 : decode cX0_tuple 11 = .ok (.if_icmp .le 13, 3) := by decide +kernel
theorem dX0_tuple_14 : decode cX0_tuple 14 = .ok (.new 42, 3) := by decide +kernel
theorem dX0_tuple_17 : decode cX0_tuple 17 = .ok (.dup, 1) := by decide +kernel
theorem dX0_tuple_18 : decode cX0_tuple 18 = .ok (.ldc 57, 2) := by decide +kernel
theorem dX0_tuple_20 : decode cX0_tuple 20 = .ok (.invokespecial 46, 3) := by decide +kernel
theorem dX0_tuple_23 : decode cX0_tuple 23 = .ok (.athrow, 1) := by decide +kernel
theorem dX0_tuple_24 : decode cX0_tuple 24 = .ok (.iload_n 2, 1) := by decide +kernel
theorem dX0_tuple_25 : decode cX0_tuple 25 = .ok (.ifCond .lt 9, 3) := by decide +kernel
theorem dX0_tuple_28 : decode cX0_tuple 28 = .ok (.iload_n 2, 1) := by decide +kernel
theorem dX0_tuple_29 : decode cX0_tuple 29 = .ok (.bipush 8, 2) := by decide +kernel
theorem dX0_tuple_31 : decode cX0_tuple 31 = .ok (.if_icmp .lt 13, 3) := by decide +kernel
theorem dX0_tuple_34 : decode cX0_tuple 34 = .ok (.new 42, 3) := by decide +kernel
theorem dX0_tuple_37 : decode cX0_tuple 37 = .ok (.dup, 1) := by decide +kernel
theorem dX0_tuple_38 : decode cX0_tuple 38 = .ok (.ldc 59, 2) := by decide +kernel
theorem dX0_tuple_40 : decode cX0_tuple 40 = .ok (.invokespecial 46, 3) := by decide +kernel
theorem dX0_tuple_43 : decode cX0_tuple 43 = .ok (.athrow, 1) := by decide +kernel
theorem dX0_tuple_44 : decode cX0_tuple 44 = .ok (.aload_n 0, 1) := by decide +kernel
theorem dX0_tuple_45 : decode cX0_tuple 45 = .ok (.getfield 32, 3) := by decide +kernel
theorem dX0_tuple_48 : decode cX0_tuple 48 = .ok (.sipush 300, 3) := by decide +kernel
theorem dX0_tuple_51 : decode cX0_tuple 51 = .ok (.if_icmp .lt 13, 3) := by decide +kernel
theorem dX0_tuple_54 : decode cX0_tuple 54 = .ok (.new 52, 3) := by decide +kernel
theorem dX0_tuple_57 : decode cX0_tuple 57 = .ok (.dup, 1) := by decide +kernel
theorem dX0_tuple_58 : decode cX0_tuple 58 = .ok (.ldc 61, 2) := by decide +kernel
theorem dX0_tuple_60 : decode cX0_tuple 60 = .ok (.invokespecial 56, 3) := by decide +kernel
theorem dX0_tuple_63 : decode cX0_tuple 63 = .ok (.athrow, 1) := by decide +kernel
theorem dX0_tuple_64 : decode cX0_tuple 64 = .ok (.aload_n 0, 1) := by decide +kernel
theorem dX0_tuple_65 : decode cX0_tuple 65 = .ok (.getfield 32, 3) := by decide +kernel
theorem dX0_tuple_68 : decode cX0_tuple 68 = .ok (.istore 4, 2) := by decide +kernel
theorem dX0_tuple_70 : decode cX0_tuple 70 = .ok (.aload_n 0, 1) := by decide +kernel
theorem dX0_tuple_71 : decode cX0_tuple 71 = .ok (.getfield 9, 3) := by decide +kernel
theorem dX0_tuple_74 : decode cX0_tuple 74 = .ok (.iload 4, 2) := by decide +kernel
theorem dX0_tuple_76 : decode cX0_tuple 76 = .ok (.iload_n 1, 1) := by decide +kernel
theorem dX0_tuple_77 : decode cX0_tuple 77 = .ok (.iastore, 1) := by decide +kernel
theorem dX0_tuple_78 : decode cX0_tuple 78 = .ok (.aload_n 0, 1) := by decide +kernel
theorem dX0_tuple_79 : decode cX0_tuple 79 = .ok (.getfield 13, 3) := by decide +kernel
theorem dX0_tuple_82 : decode cX0_tuple 82 = .ok (.iload 4, 2) := by decide +kernel
theorem dX0_tuple_84 : decode cX0_tuple 84 = .ok (.iload_n 2, 1) := by decide +kernel
theorem dX0_tuple_85 : decode cX0_tuple 85 = .ok (.iastore, 1) := by decide +kernel
theorem dX0_tuple_86 : decode cX0_tuple 86 = .ok (.aload_n 0, 1) := by decide +kernel
theorem dX0_tuple_87 : decode cX0_tuple 87 = .ok (.getfield 16, 3) := by decide +kernel
theorem dX0_tuple_90 : decode cX0_tuple 90 = .ok (.iload 4, 2) := by decide +kernel
theorem dX0_tuple_92 : decode cX0_tuple 92 = .ok (.iload_n 3, 1) := by decide +kernel
theorem dX0_tuple_93 : decode cX0_tuple 93 = .ok (.iastore, 1) := by decide +kernel
theorem dX0_tuple_94 : decode cX0_tuple 94 = .ok (.aload_n 0, 1) := by decide +kernel
theorem dX0_tuple_95 : decode cX0_tuple 95 = .ok (.iload 4, 2) := by decide +kernel
theorem dX0_tuple_97 : decode cX0_tuple 97 = .ok (.invokevirtual 63, 3) := by decide +kernel
theorem dX0_tuple_100 : decode cX0_tuple 100 = .ok (.aload_n 0, 1) := by decide +kernel
theorem dX0_tuple_101 : decode cX0_tuple 101 = .ok (.iload 4, 2) := by decide +kernel
theorem dX0_tuple_103 : decode cX0_tuple 103 = .ok (.iconst 1, 1) := by decide +kernel
theorem dX0_tuple_104 : decode cX0_tuple 104 = .ok (.iadd, 1) := by decide +kernel
theorem dX0_tuple_105 : decode cX0_tuple 105 = .ok (.putfield 32, 3) := by decide +kernel
theorem dX0_tuple_108 : decode cX0_tuple 108 = .ok (.aload_n 0, 1) := by decide +kernel
theorem dX0_tuple_109 : decode cX0_tuple 109 = .ok (.iload_n 1, 1) := by decide +kernel
theorem dX0_tuple_110 : decode cX0_tuple 110 = .ok (.putfield 39, 3) := by decide +kernel
theorem dX0_tuple_113 : decode cX0_tuple 113 = .ok (.aload_n 0, 1) := by decide +kernel
theorem dX0_tuple_114 : decode cX0_tuple 114 = .ok (.getfield 32, 3) := by decide +kernel
theorem dX0_tuple_117 : decode cX0_tuple 117 = .ok (.ireturn, 1) := by decide +kernel
theorem dX0_tick_0 : decode cX0_tick 0 = .ok (.iload_n 1, 1) := by decide +kernel
theorem dX0_tick_1 : decode cX0_tick 1 = .ok (.aload_n 0, 1) := by decide +kernel
theorem dX0_tick_2 : decode cX0_tick 2 = .ok (.getfield 39, 3) := by decide +kernel
theorem dX0_tick_5 : decode cX0_tick 5 = .ok (.if_icmp .lt 9, 3) := by decide +kernel
theorem dX0_tick_8 : decode cX0_tick 8 = .ok (.iload_n 1, 1) := by decide +kernel
theorem dX0_tick_9 : decode cX0_tick 9 = .ok (.ldc 49, 2) := by decide +kernel
theorem dX0_tick_11 : decode cX0_tick 11 = .ok (.if_icmp .le 13, 3) := by decide +kernel
theorem dX0_tick_14 : decode cX0_tick 14 = .ok (.new 42, 3) := by decide +kernel
theorem dX0_tick_17 : decode cX0_tick 17 = .ok (.dup, 1) := by decide +kernel
theorem dX0_tick_18 : decode cX0_tick 18 = .ok (.ldc 57, 2) := by decide +kernel
theorem dX0_tick_20 : decode cX0_tick 20 = .ok (.invokespecial 46, 3) := by decide +kernel
theorem dX0_tick_23 : decode cX0_tick 23 = .ok (.athrow, 1) := by decide +kernel
theorem dX0_tick_24 : decode cX0_tick 24 = .ok (.aload_n 0, 1) := by decide +kernel
theorem dX0_tick_25 : decode cX0_tick 25 = .ok (.iload_n 1, 1) := by decide +kernel
theorem dX0_tick_26 : decode cX0_tick 26 = .ok (.putfield 39, 3) := by decide +kernel
theorem dX0_tick_29 : decode cX0_tick 29 = .ok (.return_, 1) := by decide +kernel
theorem dX0_meter_0 : decode cX0_meter 0 = .ok (.aload_n 0, 1) := by decide +kernel
theorem dX0_meter_1 : decode cX0_meter 1 = .ok (.iload_n 1, 1) := by decide +kernel
theorem dX0_meter_2 : decode cX0_meter 2 = .ok (.invokevirtual 67, 3) := by decide +kernel
theorem dX0_meter_5 : decode cX0_meter 5 = .ok (.iload_n 2, 1) := by decide +kernel
theorem dX0_meter_6 : decode cX0_meter 6 = .ok (.ifCond .lt 8, 3) := by decide +kernel
theorem dX0_meter_9 : decode cX0_meter 9 = .ok (.iload_n 2, 1) := by decide +kernel
theorem dX0_meter_10 : decode cX0_meter 10 = .ok (.iconst 3, 1) := by decide +kernel
theorem dX0_meter_11 : decode cX0_meter 11 = .ok (.if_icmp .le 13, 3) := by decide +kernel
theorem dX0_meter_14 : decode cX0_meter 14 = .ok (.new 42, 3) := by decide +kernel
theorem dX0_meter_17 : decode cX0_meter 17 = .ok (.dup, 1) := by decide +kernel
theorem dX0_meter_18 : decode cX0_meter 18 = .ok (.ldc 70, 2) := by decide +kernel
theorem dX0_meter_20 : decode cX0_meter 20 = .ok (.invokespecial 46, 3) := by decide +kernel
theorem dX0_meter_23 : decode cX0_meter 23 = .ok (.athrow, 1) := by decide +kernel
theorem dX0_meter_24 : decode cX0_meter 24 = .ok (.aload_n 0, 1) := by decide +kernel
theorem dX0_meter_25 : decode cX0_meter 25 = .ok (.iload_n 1, 1) := by decide +kernel
theorem dX0_meter_26 : decode cX0_meter 26 = .ok (.invokevirtual 72, 3) := by decide +kernel
theorem dX0_meter_29 : decode cX0_meter 29 = .ok (.iload_n 2, 1) := by decide +kernel
theorem dX0_meter_30 : decode cX0_meter 30 = .ok (.tableswitch 41 0 2 #[26, 31, 36], 26) := by decide +kernel
theorem dX0_meter_56 : decode cX0_meter 56 = .ok (.aload_n 0, 1) := by decide +kernel
theorem dX0_meter_57 : decode cX0_meter 57 = .ok (.invokevirtual 75, 3) := by decide +kernel
theorem dX0_meter_60 : decode cX0_meter 60 = .ok (.ireturn, 1) := by decide +kernel
theorem dX0_meter_61 : decode cX0_meter 61 = .ok (.aload_n 0, 1) := by decide +kernel
theorem dX0_meter_62 : decode cX0_meter 62 = .ok (.invokevirtual 79, 3) := by decide +kernel
theorem dX0_meter_65 : decode cX0_meter 65 = .ok (.ireturn, 1) := by decide +kernel
theorem dX0_meter_66 : decode cX0_meter 66 = .ok (.aload_n 0, 1) := by decide +kernel
theorem dX0_meter_67 : decode cX0_meter 67 = .ok (.invokevirtual 82, 3) := by decide +kernel
theorem dX0_meter_70 : decode cX0_meter 70 = .ok (.ireturn, 1) := by decide +kernel
theorem dX0_meter_71 : decode cX0_meter 71 = .ok (.aload_n 0, 1) := by decide +kernel
theorem dX0_meter_72 : decode cX0_meter 72 = .ok (.invokevirtual 85, 3) := by decide +kernel
theorem dX0_meter_75 : decode cX0_meter 75 = .ok (.ireturn, 1) := by decide +kernel
theorem dX0_kth_0 : decode cX0_kth 0 = .ok (.aload_n 0, 1) := by decide +kernel
theorem dX0_kth_1 : decode cX0_kth 1 = .ok (.iload_n 1, 1) := by decide +kernel
theorem dX0_kth_2 : decode cX0_kth 2 = .ok (.invokevirtual 67, 3) := by decide +kernel
theorem dX0_kth_5 : decode cX0_kth 5 = .ok (.aload_n 0, 1) := by decide +kernel
theorem dX0_kth_6 : decode cX0_kth 6 = .ok (.iload_n 1, 1) := by decide +kernel
theorem dX0_kth_7 : decode cX0_kth 7 = .ok (.invokevirtual 72, 3) := by decide +kernel
theorem dX0_kth_10 : decode cX0_kth 10 = .ok (.aload_n 0, 1) := by decide +kernel
theorem dX0_kth_11 : decode cX0_kth 11 = .ok (.iload_n 2, 1) := by decide +kernel
theorem dX0_kth_12 : decode cX0_kth 12 = .ok (.invokevirtual 88, 3) := by decide +kernel
theorem dX0_kth_15 : decode cX0_kth 15 = .ok (.istore_n 3, 1) := by decide +kernel
theorem dX0_kth_16 : decode cX0_kth 16 = .ok (.iload_n 3, 1) := by decide +kernel
theorem dX0_kth_17 : decode cX0_kth 17 = .ok (.iconst (-1), 1) := by decide +kernel
theorem dX0_kth_18 : decode cX0_kth 18 = .ok (.if_icmp .ne 13, 3) := by decide +kernel
theorem dX0_kth_21 : decode cX0_kth 21 = .ok (.new 92, 3) := by decide +kernel
theorem dX0_kth_24 : decode cX0_kth 24 = .ok (.dup, 1) := by decide +kernel
theorem dX0_kth_25 : decode cX0_kth 25 = .ok (.ldc 94, 2) := by decide +kernel
theorem dX0_kth_27 : decode cX0_kth 27 = .ok (.invokespecial 96, 3) := by decide +kernel
theorem dX0_kth_30 : decode cX0_kth 30 = .ok (.athrow, 1) := by decide +kernel
theorem dX0_kth_31 : decode cX0_kth 31 = .ok (.aload_n 0, 1) := by decide +kernel
theorem dX0_kth_32 : decode cX0_kth 32 = .ok (.getfield 16, 3) := by decide +kernel
theorem dX0_kth_35 : decode cX0_kth 35 = .ok (.iload_n 3, 1) := by decide +kernel
theorem dX0_kth_36 : decode cX0_kth 36 = .ok (.iaload, 1) := by decide +kernel
theorem dX0_kth_37 : decode cX0_kth 37 = .ok (.ireturn, 1) := by decide +kernel
theorem dX0_frequent_0 : decode cX0_frequent 0 = .ok (.aload_n 0, 1) := by decide +kernel
theorem dX0_frequent_1 : decode cX0_frequent 1 = .ok (.iload_n 1, 1) := by decide +kernel
theorem dX0_frequent_2 : decode cX0_frequent 2 = .ok (.invokevirtual 67, 3) := by decide +kernel
theorem dX0_frequent_5 : decode cX0_frequent 5 = .ok (.aload_n 0, 1) := by decide +kernel
theorem dX0_frequent_6 : decode cX0_frequent 6 = .ok (.iload_n 1, 1) := by decide +kernel
theorem dX0_frequent_7 : decode cX0_frequent 7 = .ok (.invokevirtual 72, 3) := by decide +kernel
theorem dX0_frequent_10 : decode cX0_frequent 10 = .ok (.aload_n 0, 1) := by decide +kernel
theorem dX0_frequent_11 : decode cX0_frequent 11 = .ok (.invokevirtual 97, 3) := by decide +kernel
theorem dX0_frequent_14 : decode cX0_frequent 14 = .ok (.istore_n 2, 1) := by decide +kernel
theorem dX0_frequent_15 : decode cX0_frequent 15 = .ok (.iload_n 2, 1) := by decide +kernel
theorem dX0_frequent_16 : decode cX0_frequent 16 = .ok (.iconst (-1), 1) := by decide +kernel
theorem dX0_frequent_17 : decode cX0_frequent 17 = .ok (.if_icmp .ne 13, 3) := by decide +kernel
theorem dX0_frequent_20 : decode cX0_frequent 20 = .ok (.new 92, 3) := by decide +kernel
theorem dX0_frequent_23 : decode cX0_frequent 23 = .ok (.dup, 1) := by decide +kernel
theorem dX0_frequent_24 : decode cX0_frequent 24 = .ok (.ldc 100, 2) := by decide +kernel
theorem dX0_frequent_26 : decode cX0_frequent 26 = .ok (.invokespecial 96, 3) := by decide +kernel
theorem dX0_frequent_29 : decode cX0_frequent 29 = .ok (.athrow, 1) := by decide +kernel
theorem dX0_frequent_30 : decode cX0_frequent 30 = .ok (.aload_n 0, 1) := by decide +kernel
theorem dX0_frequent_31 : decode cX0_frequent 31 = .ok (.getfield 16, 3) := by decide +kernel
theorem dX0_frequent_34 : decode cX0_frequent 34 = .ok (.iload_n 2, 1) := by decide +kernel
theorem dX0_frequent_35 : decode cX0_frequent 35 = .ok (.iaload, 1) := by decide +kernel
theorem dX0_frequent_36 : decode cX0_frequent 36 = .ok (.ireturn, 1) := by decide +kernel
theorem dX0_below_0 : decode cX0_below 0 = .ok (.aload_n 0, 1) := by decide +kernel
theorem dX0_below_1 : decode cX0_below 1 = .ok (.iload_n 1, 1) := by decide +kernel
theorem dX0_below_2 : decode cX0_below 2 = .ok (.invokevirtual 67, 3) := by decide +kernel
theorem dX0_below_5 : decode cX0_below 5 = .ok (.aload_n 0, 1) := by decide +kernel
theorem dX0_below_6 : decode cX0_below 6 = .ok (.iload_n 1, 1) := by decide +kernel
theorem dX0_below_7 : decode cX0_below 7 = .ok (.invokevirtual 72, 3) := by decide +kernel
theorem dX0_below_10 : decode cX0_below 10 = .ok (.iconst 0, 1) := by decide +kernel
theorem dX0_below_11 : decode cX0_below 11 = .ok (.istore_n 3, 1) := by decide +kernel
theorem dX0_below_12 : decode cX0_below 12 = .ok (.iconst 0, 1) := by decide +kernel
theorem dX0_below_13 : decode cX0_below 13 = .ok (.istore 4, 2) := by decide +kernel
theorem dX0_below_15 : decode cX0_below 15 = .ok (.iload 4, 2) := by decide +kernel
theorem dX0_below_17 : decode cX0_below 17 = .ok (.aload_n 0, 1) := by decide +kernel
theorem dX0_below_18 : decode cX0_below 18 = .ok (.getfield 32, 3) := by decide +kernel
theorem dX0_below_21 : decode cX0_below 21 = .ok (.if_icmp .ge 33, 3) := by decide +kernel
theorem dX0_below_24 : decode cX0_below 24 = .ok (.aload_n 0, 1) := by decide +kernel
theorem dX0_below_25 : decode cX0_below 25 = .ok (.getfield 28, 3) := by decide +kernel
theorem dX0_below_28 : decode cX0_below 28 = .ok (.iload 4, 2) := by decide +kernel
theorem dX0_below_30 : decode cX0_below 30 = .ok (.baload, 1) := by decide +kernel
theorem dX0_below_31 : decode cX0_below 31 = .ok (.ifCond .eq 17, 3) := by decide +kernel
theorem dX0_below_34 : decode cX0_below 34 = .ok (.aload_n 0, 1) := by decide +kernel
theorem dX0_below_35 : decode cX0_below 35 = .ok (.getfield 16, 3) := by decide +kernel
theorem dX0_below_38 : decode cX0_below 38 = .ok (.iload 4, 2) := by decide +kernel
theorem dX0_below_40 : decode cX0_below 40 = .ok (.iaload, 1) := by decide +kernel
theorem dX0_below_41 : decode cX0_below 41 = .ok (.iload_n 2, 1) := by decide +kernel
theorem dX0_below_42 : decode cX0_below 42 = .ok (.if_icmp .ge 6, 3) := by decide +kernel
theorem dX0_below_45 : decode cX0_below 45 = .ok (.iinc 3 1, 3) := by decide +kernel
theorem dX0_below_48 : decode cX0_below 48 = .ok (.iinc 4 1, 3) := by decide +kernel
theorem dX0_below_51 : decode cX0_below 51 = .ok (.goto (-36), 3) := by decide +kernel
theorem dX0_below_54 : decode cX0_below 54 = .ok (.iload_n 3, 1) := by decide +kernel
theorem dX0_below_55 : decode cX0_below 55 = .ok (.ireturn, 1) := by decide +kernel
theorem dX0_has_0 : decode cX0_has 0 = .ok (.aload_n 0, 1) := by decide +kernel
theorem dX0_has_1 : decode cX0_has 1 = .ok (.iload_n 1, 1) := by decide +kernel
theorem dX0_has_2 : decode cX0_has 2 = .ok (.invokevirtual 67, 3) := by decide +kernel
theorem dX0_has_5 : decode cX0_has 5 = .ok (.iload_n 2, 1) := by decide +kernel
theorem dX0_has_6 : decode cX0_has 6 = .ok (.ifCond .lt 11, 3) := by decide +kernel
theorem dX0_has_9 : decode cX0_has 9 = .ok (.iload_n 2, 1) := by decide +kernel
theorem dX0_has_10 : decode cX0_has 10 = .ok (.aload_n 0, 1) := by decide +kernel
theorem dX0_has_11 : decode cX0_has 11 = .ok (.getfield 32, 3) := by decide +kernel
theorem dX0_has_14 : decode cX0_has 14 = .ok (.if_icmp .lt 13, 3) := by decide +kernel
theorem dX0_has_17 : decode cX0_has 17 = .ok (.new 102, 3) := by decide +kernel
theorem dX0_has_20 : decode cX0_has 20 = .ok (.dup, 1) := by decide +kernel
theorem dX0_has_21 : decode cX0_has 21 = .ok (.ldc 104, 2) := by decide +kernel
theorem dX0_has_23 : decode cX0_has 23 = .ok (.invokespecial 106, 3) := by decide +kernel
theorem dX0_has_26 : decode cX0_has 26 = .ok (.athrow, 1) := by decide +kernel
theorem dX0_has_27 : decode cX0_has 27 = .ok (.aload_n 0, 1) := by decide +kernel
theorem dX0_has_28 : decode cX0_has 28 = .ok (.iload_n 1, 1) := by decide +kernel
theorem dX0_has_29 : decode cX0_has 29 = .ok (.invokevirtual 72, 3) := by decide +kernel
theorem dX0_has_32 : decode cX0_has 32 = .ok (.aload_n 0, 1) := by decide +kernel
theorem dX0_has_33 : decode cX0_has 33 = .ok (.getfield 28, 3) := by decide +kernel
theorem dX0_has_36 : decode cX0_has 36 = .ok (.iload_n 2, 1) := by decide +kernel
theorem dX0_has_37 : decode cX0_has 37 = .ok (.baload, 1) := by decide +kernel
theorem dX0_has_38 : decode cX0_has 38 = .ok (.ireturn, 1) := by decide +kernel
theorem dX0_now_0 : decode cX0_now 0 = .ok (.aload_n 0, 1) := by decide +kernel
theorem dX0_now_1 : decode cX0_now 1 = .ok (.getfield 39, 3) := by decide +kernel
theorem dX0_now_4 : decode cX0_now 4 = .ok (.ireturn, 1) := by decide +kernel
theorem dX0_checkWindow_0 : decode cX0_checkWindow 0 = .ok (.iload_n 1, 1) := by decide +kernel
theorem dX0_checkWindow_1 : decode cX0_checkWindow 1 = .ok (.ifCond .lt 11, 3) := by decide +kernel
theorem dX0_checkWindow_4 : decode cX0_checkWindow 4 = .ok (.iload_n 1, 1) := by decide +kernel
theorem dX0_checkWindow_5 : decode cX0_checkWindow 5 = .ok (.aload_n 0, 1) := by decide +kernel
theorem dX0_checkWindow_6 : decode cX0_checkWindow 6 = .ok (.getfield 36, 3) := by decide +kernel
theorem dX0_checkWindow_9 : decode cX0_checkWindow 9 = .ok (.if_icmp .lt 13, 3) := by decide +kernel
theorem dX0_checkWindow_12 : decode cX0_checkWindow 12 = .ok (.new 102, 3) := by decide +kernel
theorem dX0_checkWindow_15 : decode cX0_checkWindow 15 = .ok (.dup, 1) := by decide +kernel
theorem dX0_checkWindow_16 : decode cX0_checkWindow 16 = .ok (.ldc 107, 2) := by decide +kernel
theorem dX0_checkWindow_18 : decode cX0_checkWindow 18 = .ok (.invokespecial 106, 3) := by decide +kernel
theorem dX0_checkWindow_21 : decode cX0_checkWindow 21 = .ok (.athrow, 1) := by decide +kernel
theorem dX0_checkWindow_22 : decode cX0_checkWindow 22 = .ok (.return_, 1) := by decide +kernel
theorem dX0_placeBySize_0 : decode cX0_placeBySize 0 = .ok (.iconst 0, 1) := by decide +kernel
theorem dX0_placeBySize_1 : decode cX0_placeBySize 1 = .ok (.istore_n 2, 1) := by decide +kernel
theorem dX0_placeBySize_2 : decode cX0_placeBySize 2 = .ok (.iconst 0, 1) := by decide +kernel
theorem dX0_placeBySize_3 : decode cX0_placeBySize 3 = .ok (.istore_n 3, 1) := by decide +kernel
theorem dX0_placeBySize_4 : decode cX0_placeBySize 4 = .ok (.iload_n 3, 1) := by decide +kernel
theorem dX0_placeBySize_5 : decode cX0_placeBySize 5 = .ok (.iload_n 1, 1) := by decide +kernel
theorem dX0_placeBySize_6 : decode cX0_placeBySize 6 = .ok (.if_icmp .ge 27, 3) := by decide +kernel
theorem dX0_placeBySize_9 : decode cX0_placeBySize 9 = .ok (.aload_n 0, 1) := by decide +kernel
theorem dX0_placeBySize_10 : decode cX0_placeBySize 10 = .ok (.getfield 16, 3) := by decide +kernel
theorem dX0_placeBySize_13 : decode cX0_placeBySize 13 = .ok (.iload_n 3, 1) := by decide +kernel
theorem dX0_placeBySize_14 : decode cX0_placeBySize 14 = .ok (.iaload, 1) := by decide +kernel
theorem dX0_placeBySize_15 : decode cX0_placeBySize 15 = .ok (.aload_n 0, 1) := by decide +kernel
theorem dX0_placeBySize_16 : decode cX0_placeBySize 16 = .ok (.getfield 16, 3) := by decide +kernel
theorem dX0_placeBySize_19 : decode cX0_placeBySize 19 = .ok (.iload_n 1, 1) := by decide +kernel
theorem dX0_placeBySize_20 : decode cX0_placeBySize 20 = .ok (.iaload, 1) := by decide +kernel
theorem dX0_placeBySize_21 : decode cX0_placeBySize 21 = .ok (.if_icmp .gt 6, 3) := by decide +kernel
theorem dX0_placeBySize_24 : decode cX0_placeBySize 24 = .ok (.iinc 2 1, 3) := by decide +kernel
theorem dX0_placeBySize_27 : decode cX0_placeBySize 27 = .ok (.iinc 3 1, 3) := by decide +kernel
theorem dX0_placeBySize_30 : decode cX0_placeBySize 30 = .ok (.goto (-26), 3) := by decide +kernel
theorem dX0_placeBySize_33 : decode cX0_placeBySize 33 = .ok (.iload_n 1, 1) := by decide +kernel
theorem dX0_placeBySize_34 : decode cX0_placeBySize 34 = .ok (.istore_n 3, 1) := by decide +kernel
theorem dX0_placeBySize_35 : decode cX0_placeBySize 35 = .ok (.iload_n 3, 1) := by decide +kernel
theorem dX0_placeBySize_36 : decode cX0_placeBySize 36 = .ok (.iload_n 2, 1) := by decide +kernel
theorem dX0_placeBySize_37 : decode cX0_placeBySize 37 = .ok (.if_icmp .le 23, 3) := by decide +kernel
theorem dX0_placeBySize_40 : decode cX0_placeBySize 40 = .ok (.aload_n 0, 1) := by decide +kernel
theorem dX0_placeBySize_41 : decode cX0_placeBySize 41 = .ok (.getfield 19, 3) := by decide +kernel
theorem dX0_placeBySize_44 : decode cX0_placeBySize 44 = .ok (.iload_n 3, 1) := by decide +kernel
theorem dX0_placeBySize_45 : decode cX0_placeBySize 45 = .ok (.aload_n 0, 1) := by decide +kernel
theorem dX0_placeBySize_46 : decode cX0_placeBySize 46 = .ok (.getfield 19, 3) := by decide +kernel
theorem dX0_placeBySize_49 : decode cX0_placeBySize 49 = .ok (.iload_n 3, 1) := by decide +kernel
theorem dX0_placeBySize_50 : decode cX0_placeBySize 50 = .ok (.iconst 1, 1) := by decide +kernel
theorem dX0_placeBySize_51 : decode cX0_placeBySize 51 = .ok (.isub, 1) := by decide +kernel
theorem dX0_placeBySize_52 : decode cX0_placeBySize 52 = .ok (.iaload, 1) := by decide +kernel
theorem dX0_placeBySize_53 : decode cX0_placeBySize 53 = .ok (.iastore, 1) := by decide +kernel
theorem dX0_placeBySize_54 : decode cX0_placeBySize 54 = .ok (.iinc 3 (-1), 3) := by decide +kernel
theorem dX0_placeBySize_57 : decode cX0_placeBySize 57 = .ok (.goto (-22), 3) := by decide +kernel
theorem dX0_placeBySize_60 : decode cX0_placeBySize 60 = .ok (.aload_n 0, 1) := by decide +kernel
theorem dX0_placeBySize_61 : decode cX0_placeBySize 61 = .ok (.getfield 19, 3) := by decide +kernel
theorem dX0_placeBySize_64 : decode cX0_placeBySize 64 = .ok (.iload_n 2, 1) := by decide +kernel
theorem dX0_placeBySize_65 : decode cX0_placeBySize 65 = .ok (.iload_n 1, 1) := by decide +kernel
theorem dX0_placeBySize_66 : decode cX0_placeBySize 66 = .ok (.iastore, 1) := by decide +kernel
theorem dX0_placeBySize_67 : decode cX0_placeBySize 67 = .ok (.return_, 1) := by decide +kernel
theorem dX0_markInside_0 : decode cX0_markInside 0 = .ok (.aload_n 0, 1) := by decide +kernel
theorem dX0_markInside_1 : decode cX0_markInside 1 = .ok (.getfield 25, 3) := by decide +kernel
theorem dX0_markInside_4 : decode cX0_markInside 4 = .ok (.iload_n 1, 1) := by decide +kernel
theorem dX0_markInside_5 : decode cX0_markInside 5 = .ok (.iaload, 1) := by decide +kernel
theorem dX0_markInside_6 : decode cX0_markInside 6 = .ok (.istore_n 2, 1) := by decide +kernel
theorem dX0_markInside_7 : decode cX0_markInside 7 = .ok (.aload_n 0, 1) := by decide +kernel
theorem dX0_markInside_8 : decode cX0_markInside 8 = .ok (.getfield 22, 3) := by decide +kernel
theorem dX0_markInside_11 : decode cX0_markInside 11 = .ok (.iload_n 1, 1) := by decide +kernel
theorem dX0_markInside_12 : decode cX0_markInside 12 = .ok (.iaload, 1) := by decide +kernel
theorem dX0_markInside_13 : decode cX0_markInside 13 = .ok (.tableswitch 75 0 4 #[35, 43, 51, 59, 67], 35) := by decide +kernel
theorem dX0_markInside_48 : decode cX0_markInside 48 = .ok (.aload_n 0, 1) := by decide +kernel
theorem dX0_markInside_49 : decode cX0_markInside 49 = .ok (.iload_n 2, 1) := by decide +kernel
theorem dX0_markInside_50 : decode cX0_markInside 50 = .ok (.invokevirtual 109, 3) := by decide +kernel
theorem dX0_markInside_53 : decode cX0_markInside 53 = .ok (.goto 40, 3) := by decide +kernel
theorem dX0_markInside_56 : decode cX0_markInside 56 = .ok (.aload_n 0, 1) := by decide +kernel
theorem dX0_markInside_57 : decode cX0_markInside 57 = .ok (.iload_n 2, 1) := by decide +kernel
theorem dX0_markInside_58 : decode cX0_markInside 58 = .ok (.invokevirtual 112, 3) := by decide +kernel
theorem dX0_markInside_61 : decode cX0_markInside 61 = .ok (.goto 32, 3) := by decide +kernel
theorem dX0_markInside_64 : decode cX0_markInside 64 = .ok (.aload_n 0, 1) := by decide +kernel
theorem dX0_markInside_65 : decode cX0_markInside 65 = .ok (.iload_n 2, 1) := by decide +kernel
theorem dX0_markInside_66 : decode cX0_markInside 66 = .ok (.invokevirtual 115, 3) := by decide +kernel
theorem dX0_markInside_69 : decode cX0_markInside 69 = .ok (.goto 24, 3) := by decide +kernel
theorem dX0_markInside_72 : decode cX0_markInside 72 = .ok (.aload_n 0, 1) := by decide +kernel
theorem dX0_markInside_73 : decode cX0_markInside 73 = .ok (.iload_n 2, 1) := by decide +kernel
theorem dX0_markInside_74 : decode cX0_markInside 74 = .ok (.invokevirtual 118, 3) := by decide +kernel
theorem dX0_markInside_77 : decode cX0_markInside 77 = .ok (.goto 16, 3) := by decide +kernel
theorem dX0_markInside_80 : decode cX0_markInside 80 = .ok (.aload_n 0, 1) := by decide +kernel
theorem dX0_markInside_81 : decode cX0_markInside 81 = .ok (.iload_n 2, 1) := by decide +kernel
theorem dX0_markInside_82 : decode cX0_markInside 82 = .ok (.invokevirtual 121, 3) := by decide +kernel
theorem dX0_markInside_85 : decode cX0_markInside 85 = .ok (.goto 8, 3) := by decide +kernel
theorem dX0_markInside_88 : decode cX0_markInside 88 = .ok (.aload_n 0, 1) := by decide +kernel
theorem dX0_markInside_89 : decode cX0_markInside 89 = .ok (.iload_n 2, 1) := by decide +kernel
theorem dX0_markInside_90 : decode cX0_markInside 90 = .ok (.invokevirtual 124, 3) := by decide +kernel
theorem dX0_markInside_93 : decode cX0_markInside 93 = .ok (.return_, 1) := by decide +kernel
theorem dX0_markRange_0 : decode cX0_markRange 0 = .ok (.iconst 0, 1) := by decide +kernel
theorem dX0_markRange_1 : decode cX0_markRange 1 = .ok (.istore_n 2, 1) := by decide +kernel
theorem dX0_markRange_2 : decode cX0_markRange 2 = .ok (.iload_n 2, 1) := by decide +kernel
theorem dX0_markRange_3 : decode cX0_markRange 3 = .ok (.aload_n 0, 1) := by decide +kernel
theorem dX0_markRange_4 : decode cX0_markRange 4 = .ok (.getfield 32, 3) := by decide +kernel
theorem dX0_markRange_7 : decode cX0_markRange 7 = .ok (.if_icmp .ge 35, 3) := by decide +kernel
theorem dX0_markRange_10 : decode cX0_markRange 10 = .ok (.aload_n 0, 1) := by decide +kernel
theorem dX0_markRange_11 : decode cX0_markRange 11 = .ok (.getfield 28, 3) := by decide +kernel
theorem dX0_markRange_14 : decode cX0_markRange 14 = .ok (.iload_n 2, 1) := by decide +kernel
theorem dX0_markRange_15 : decode cX0_markRange 15 = .ok (.aload_n 0, 1) := by decide +kernel
theorem dX0_markRange_16 : decode cX0_markRange 16 = .ok (.getfield 9, 3) := by decide +kernel
theorem dX0_markRange_19 : decode cX0_markRange 19 = .ok (.iload_n 2, 1) := by decide +kernel
theorem dX0_markRange_20 : decode cX0_markRange 20 = .ok (.iaload, 1) := by decide +kernel
theorem dX0_markRange_21 : decode cX0_markRange 21 = .ok (.aload_n 0, 1) := by decide +kernel
theorem dX0_markRange_22 : decode cX0_markRange 22 = .ok (.getfield 39, 3) := by decide +kernel
theorem dX0_markRange_25 : decode cX0_markRange 25 = .ok (.iload_n 1, 1) := by decide +kernel
theorem dX0_markRange_26 : decode cX0_markRange 26 = .ok (.isub, 1) := by decide +kernel
theorem dX0_markRange_27 : decode cX0_markRange 27 = .ok (.if_icmp .lt 7, 3) := by decide +kernel
theorem dX0_markRange_30 : decode cX0_markRange 30 = .ok (.iconst 1, 1) := by decide +kernel
theorem dX0_markRange_31 : decode cX0_markRange 31 = .ok (.goto 4, 3) := by decide +kernel
theorem dX0_markRange_34 : decode cX0_markRange 34 = .ok (.iconst 0, 1) := by decide +kernel
theorem dX0_markRange_35 : decode cX0_markRange 35 = .ok (.bastore, 1) := by decide +kernel
theorem dX0_markRange_36 : decode cX0_markRange 36 = .ok (.iinc 2 1, 3) := by decide +kernel
theorem dX0_markRange_39 : decode cX0_markRange 39 = .ok (.goto (-37), 3) := by decide +kernel
theorem dX0_markRange_42 : decode cX0_markRange 42 = .ok (.return_, 1) := by decide +kernel
theorem dX0_markRows_0 : decode cX0_markRows 0 = .ok (.iconst 0, 1) := by decide +kernel
theorem dX0_markRows_1 : decode cX0_markRows 1 = .ok (.istore_n 2, 1) := by decide +kernel
theorem dX0_markRows_2 : decode cX0_markRows 2 = .ok (.iload_n 2, 1) := by decide +kernel
theorem dX0_markRows_3 : decode cX0_markRows 3 = .ok (.aload_n 0, 1) := by decide +kernel
theorem dX0_markRows_4 : decode cX0_markRows 4 = .ok (.getfield 32, 3) := by decide +kernel
theorem dX0_markRows_7 : decode cX0_markRows 7 = .ok (.if_icmp .ge 30, 3) := by decide +kernel
theorem dX0_markRows_10 : decode cX0_markRows 10 = .ok (.aload_n 0, 1) := by decide +kernel
theorem dX0_markRows_11 : decode cX0_markRows 11 = .ok (.getfield 28, 3) := by decide +kernel
theorem dX0_markRows_14 : decode cX0_markRows 14 = .ok (.iload_n 2, 1) := by decide +kernel
theorem dX0_markRows_15 : decode cX0_markRows 15 = .ok (.iload_n 2, 1) := by decide +kernel
theorem dX0_markRows_16 : decode cX0_markRows 16 = .ok (.aload_n 0, 1) := by decide +kernel
theorem dX0_markRows_17 : decode cX0_markRows 17 = .ok (.getfield 32, 3) := by decide +kernel
theorem dX0_markRows_20 : decode cX0_markRows 20 = .ok (.iload_n 1, 1) := by decide +kernel
theorem dX0_markRows_21 : decode cX0_markRows 21 = .ok (.isub, 1) := by decide +kernel
theorem dX0_markRows_22 : decode cX0_markRows 22 = .ok (.if_icmp .lt 7, 3) := by decide +kernel
theorem dX0_markRows_25 : decode cX0_markRows 25 = .ok (.iconst 1, 1) := by decide +kernel
theorem dX0_markRows_26 : decode cX0_markRows 26 = .ok (.goto 4, 3) := by decide +kernel
theorem dX0_markRows_29 : decode cX0_markRows 29 = .ok (.iconst 0, 1) := by decide +kernel
theorem dX0_markRows_30 : decode cX0_markRows 30 = .ok (.bastore, 1) := by decide +kernel
theorem dX0_markRows_31 : decode cX0_markRows 31 = .ok (.iinc 2 1, 3) := by decide +kernel
theorem dX0_markRows_34 : decode cX0_markRows 34 = .ok (.goto (-32), 3) := by decide +kernel
theorem dX0_markRows_37 : decode cX0_markRows 37 = .ok (.return_, 1) := by decide +kernel
theorem dX0_markKeys_0 : decode cX0_markKeys 0 = .ok (.iconst 0, 1) := by decide +kernel
theorem dX0_markKeys_1 : decode cX0_markKeys 1 = .ok (.istore_n 2, 1) := by decide +kernel
theorem dX0_markKeys_2 : decode cX0_markKeys 2 = .ok (.iload_n 2, 1) := by decide +kernel
theorem dX0_markKeys_3 : decode cX0_markKeys 3 = .ok (.bipush 8, 2) := by decide +kernel
theorem dX0_markKeys_5 : decode cX0_markKeys 5 = .ok (.if_icmp .ge 15, 3) := by decide +kernel
theorem dX0_markKeys_8 : decode cX0_markKeys 8 = .ok (.aload_n 0, 1) := by decide +kernel
theorem dX0_markKeys_9 : decode cX0_markKeys 9 = .ok (.iload_n 2, 1) := by decide +kernel
theorem dX0_markKeys_10 : decode cX0_markKeys 10 = .ok (.iload_n 1, 1) := by decide +kernel
theorem dX0_markKeys_11 : decode cX0_markKeys 11 = .ok (.invokevirtual 127, 3) := by decide +kernel
theorem dX0_markKeys_14 : decode cX0_markKeys 14 = .ok (.iinc 2 1, 3) := by decide +kernel
theorem dX0_markKeys_17 : decode cX0_markKeys 17 = .ok (.goto (-15), 3) := by decide +kernel
theorem dX0_markKeys_20 : decode cX0_markKeys 20 = .ok (.return_, 1) := by decide +kernel
theorem dX0_markLastOfKey_0 : decode cX0_markLastOfKey 0 = .ok (.iconst 0, 1) := by decide +kernel
theorem dX0_markLastOfKey_1 : decode cX0_markLastOfKey 1 = .ok (.istore_n 3, 1) := by decide +kernel
theorem dX0_markLastOfKey_2 : decode cX0_markLastOfKey 2 = .ok (.aload_n 0, 1) := by decide +kernel
theorem dX0_markLastOfKey_3 : decode cX0_markLastOfKey 3 = .ok (.getfield 32, 3) := by decide +kernel
theorem dX0_markLastOfKey_6 : decode cX0_markLastOfKey 6 = .ok (.iconst 1, 1) := by decide +kernel
theorem dX0_markLastOfKey_7 : decode cX0_markLastOfKey 7 = .ok (.isub, 1) := by decide +kernel
theorem dX0_markLastOfKey_8 : decode cX0_markLastOfKey 8 = .ok (.istore 4, 2) := by decide +kernel
theorem dX0_markLastOfKey_10 : decode cX0_markLastOfKey 10 = .ok (.iload 4, 2) := by decide +kernel
theorem dX0_markLastOfKey_12 : decode cX0_markLastOfKey 12 = .ok (.ifCond .lt 40, 3) := by decide +kernel
theorem dX0_markLastOfKey_15 : decode cX0_markLastOfKey 15 = .ok (.aload_n 0, 1) := by decide +kernel
theorem dX0_markLastOfKey_16 : decode cX0_markLastOfKey 16 = .ok (.getfield 13, 3) := by decide +kernel
theorem dX0_markLastOfKey_19 : decode cX0_markLastOfKey 19 = .ok (.iload 4, 2) := by decide +kernel
theorem dX0_markLastOfKey_21 : decode cX0_markLastOfKey 21 = .ok (.iaload, 1) := by decide +kernel
theorem dX0_markLastOfKey_22 : decode cX0_markLastOfKey 22 = .ok (.iload_n 1, 1) := by decide +kernel
theorem dX0_markLastOfKey_23 : decode cX0_markLastOfKey 23 = .ok (.if_icmp .ne 23, 3) := by decide +kernel
theorem dX0_markLastOfKey_26 : decode cX0_markLastOfKey 26 = .ok (.aload_n 0, 1) := by decide +kernel
theorem dX0_markLastOfKey_27 : decode cX0_markLastOfKey 27 = .ok (.getfield 28, 3) := by decide +kernel
theorem dX0_markLastOfKey_30 : decode cX0_markLastOfKey 30 = .ok (.iload 4, 2) := by decide +kernel
theorem dX0_markLastOfKey_32 : decode cX0_markLastOfKey 32 = .ok (.iload_n 3, 1) := by decide +kernel
theorem dX0_markLastOfKey_33 : decode cX0_markLastOfKey 33 = .ok (.iload_n 2, 1) := by decide +kernel
theorem dX0_markLastOfKey_34 : decode cX0_markLastOfKey 34 = .ok (.if_icmp .ge 7, 3) := by decide +kernel
theorem dX0_markLastOfKey_37 : decode cX0_markLastOfKey 37 = .ok (.iconst 1, 1) := by decide +kernel
theorem dX0_markLastOfKey_38 : decode cX0_markLastOfKey 38 = .ok (.goto 4, 3) := by decide +kernel
theorem dX0_markLastOfKey_41 : decode cX0_markLastOfKey 41 = .ok (.iconst 0, 1) := by decide +kernel
theorem dX0_markLastOfKey_42 : decode cX0_markLastOfKey 42 = .ok (.bastore, 1) := by decide +kernel
theorem dX0_markLastOfKey_43 : decode cX0_markLastOfKey 43 = .ok (.iinc 3 1, 3) := by decide +kernel
theorem dX0_markLastOfKey_46 : decode cX0_markLastOfKey 46 = .ok (.iinc 4 (-1), 3) := by decide +kernel
theorem dX0_markLastOfKey_49 : decode cX0_markLastOfKey 49 = .ok (.goto (-39), 3) := by decide +kernel
theorem dX0_markLastOfKey_52 : decode cX0_markLastOfKey 52 = .ok (.return_, 1) := by decide +kernel
theorem dX0_markBlock_0 : decode cX0_markBlock 0 = .ok (.iload_n 1, 1) := by decide +kernel
theorem dX0_markBlock_1 : decode cX0_markBlock 1 = .ok (.ifCond .le 7, 3) := by decide +kernel
theorem dX0_markBlock_4 : decode cX0_markBlock 4 = .ok (.iload_n 1, 1) := by decide +kernel
theorem dX0_markBlock_5 : decode cX0_markBlock 5 = .ok (.goto 4, 3) := by decide +kernel
theorem dX0_markBlock_8 : decode cX0_markBlock 8 = .ok (.iconst 1, 1) := by decide +kernel
theorem dX0_markBlock_9 : decode cX0_markBlock 9 = .ok (.istore_n 2, 1) := by decide +kernel
theorem dX0_markBlock_10 : decode cX0_markBlock 10 = .ok (.aload_n 0, 1) := by decide +kernel
theorem dX0_markBlock_11 : decode cX0_markBlock 11 = .ok (.getfield 39, 3) := by decide +kernel
theorem dX0_markBlock_14 : decode cX0_markBlock 14 = .ok (.iload_n 2, 1) := by decide +kernel
theorem dX0_markBlock_15 : decode cX0_markBlock 15 = .ok (.idiv, 1) := by decide +kernel
theorem dX0_markBlock_16 : decode cX0_markBlock 16 = .ok (.istore_n 3, 1) := by decide +kernel
theorem dX0_markBlock_17 : decode cX0_markBlock 17 = .ok (.iconst 0, 1) := by decide +kernel
theorem dX0_markBlock_18 : decode cX0_markBlock 18 = .ok (.istore 4, 2) := by decide +kernel
theorem dX0_markBlock_20 : decode cX0_markBlock 20 = .ok (.iload 4, 2) := by decide +kernel
theorem dX0_markBlock_22 : decode cX0_markBlock 22 = .ok (.aload_n 0, 1) := by decide +kernel
theorem dX0_markBlock_23 : decode cX0_markBlock 23 = .ok (.getfield 32, 3) := by decide +kernel
theorem dX0_markBlock_26 : decode cX0_markBlock 26 = .ok (.if_icmp .ge 34, 3) := by decide +kernel
theorem dX0_markBlock_29 : decode cX0_markBlock 29 = .ok (.aload_n 0, 1) := by decide +kernel
theorem dX0_markBlock_30 : decode cX0_markBlock 30 = .ok (.getfield 28, 3) := by decide +kernel
theorem dX0_markBlock_33 : decode cX0_markBlock 33 = .ok (.iload 4, 2) := by decide +kernel
theorem dX0_markBlock_35 : decode cX0_markBlock 35 = .ok (.aload_n 0, 1) := by decide +kernel
theorem dX0_markBlock_36 : decode cX0_markBlock 36 = .ok (.getfield 9, 3) := by decide +kernel
theorem dX0_markBlock_39 : decode cX0_markBlock 39 = .ok (.iload 4, 2) := by decide +kernel
theorem dX0_markBlock_41 : decode cX0_markBlock 41 = .ok (.iaload, 1) := by decide +kernel
theorem dX0_markBlock_42 : decode cX0_markBlock 42 = .ok (.iload_n 2, 1) := by decide +kernel
theorem dX0_markBlock_43 : decode cX0_markBlock 43 = .ok (.idiv, 1) := by decide +kernel
theorem dX0_markBlock_44 : decode cX0_markBlock 44 = .ok (.iload_n 3, 1) := by decide +kernel
theorem dX0_markBlock_45 : decode cX0_markBlock 45 = .ok (.if_icmp .ne 7, 3) := by decide +kernel
theorem dX0_markBlock_48 : decode cX0_markBlock 48 = .ok (.iconst 1, 1) := by decide +kernel
theorem dX0_markBlock_49 : decode cX0_markBlock 49 = .ok (.goto 4, 3) := by decide +kernel
theorem dX0_markBlock_52 : decode cX0_markBlock 52 = .ok (.iconst 0, 1) := by decide +kernel
theorem dX0_markBlock_53 : decode cX0_markBlock 53 = .ok (.bastore, 1) := by decide +kernel
theorem dX0_markBlock_54 : decode cX0_markBlock 54 = .ok (.iinc 4 1, 3) := by decide +kernel
theorem dX0_markBlock_57 : decode cX0_markBlock 57 = .ok (.goto (-37), 3) := by decide +kernel
theorem dX0_markBlock_60 : decode cX0_markBlock 60 = .ok (.return_, 1) := by decide +kernel
theorem dX0_markRun_0 : decode cX0_markRun 0 = .ok (.aload_n 0, 1) := by decide +kernel
theorem dX0_markRun_1 : decode cX0_markRun 1 = .ok (.getfield 39, 3) := by decide +kernel
theorem dX0_markRun_4 : decode cX0_markRun 4 = .ok (.istore_n 2, 1) := by decide +kernel
theorem dX0_markRun_5 : decode cX0_markRun 5 = .ok (.iconst 1, 1) := by decide +kernel
theorem dX0_markRun_6 : decode cX0_markRun 6 = .ok (.istore_n 3, 1) := by decide +kernel
theorem dX0_markRun_7 : decode cX0_markRun 7 = .ok (.aload_n 0, 1) := by decide +kernel
theorem dX0_markRun_8 : decode cX0_markRun 8 = .ok (.getfield 32, 3) := by decide +kernel
theorem dX0_markRun_11 : decode cX0_markRun 11 = .ok (.iconst 1, 1) := by decide +kernel
theorem dX0_markRun_12 : decode cX0_markRun 12 = .ok (.isub, 1) := by decide +kernel
theorem dX0_markRun_13 : decode cX0_markRun 13 = .ok (.istore 4, 2) := by decide +kernel
theorem dX0_markRun_15 : decode cX0_markRun 15 = .ok (.iload 4, 2) := by decide +kernel
theorem dX0_markRun_17 : decode cX0_markRun 17 = .ok (.ifCond .lt 48, 3) := by decide +kernel
theorem dX0_markRun_20 : decode cX0_markRun 20 = .ok (.iload_n 3, 1) := by decide +kernel
theorem dX0_markRun_21 : decode cX0_markRun 21 = .ok (.ifCond .eq 20, 3) := by decide +kernel
theorem dX0_markRun_24 : decode cX0_markRun 24 = .ok (.aload_n 0, 1) := by decide +kernel
theorem dX0_markRun_25 : decode cX0_markRun 25 = .ok (.getfield 9, 3) := by decide +kernel
theorem dX0_markRun_28 : decode cX0_markRun 28 = .ok (.iload 4, 2) := by decide +kernel
theorem dX0_markRun_30 : decode cX0_markRun 30 = .ok (.iaload, 1) := by decide +kernel
theorem dX0_markRun_31 : decode cX0_markRun 31 = .ok (.iload_n 2, 1) := by decide +kernel
theorem dX0_markRun_32 : decode cX0_markRun 32 = .ok (.iload_n 1, 1) := by decide +kernel
theorem dX0_markRun_33 : decode cX0_markRun 33 = .ok (.isub, 1) := by decide +kernel
theorem dX0_markRun_34 : decode cX0_markRun 34 = .ok (.if_icmp .lt 7, 3) := by decide +kernel
theorem dX0_markRun_37 : decode cX0_markRun 37 = .ok (.iconst 1, 1) := by decide +kernel
theorem dX0_markRun_38 : decode cX0_markRun 38 = .ok (.goto 4, 3) := by decide +kernel
theorem dX0_markRun_41 : decode cX0_markRun 41 = .ok (.iconst 0, 1) := by decide +kernel
theorem dX0_markRun_42 : decode cX0_markRun 42 = .ok (.istore_n 3, 1) := by decide +kernel
theorem dX0_markRun_43 : decode cX0_markRun 43 = .ok (.aload_n 0, 1) := by decide +kernel
theorem dX0_markRun_44 : decode cX0_markRun 44 = .ok (.getfield 28, 3) := by decide +kernel
theorem dX0_markRun_47 : decode cX0_markRun 47 = .ok (.iload 4, 2) := by decide +kernel
theorem dX0_markRun_49 : decode cX0_markRun 49 = .ok (.iload_n 3, 1) := by decide +kernel
theorem dX0_markRun_50 : decode cX0_markRun 50 = .ok (.bastore, 1) := by decide +kernel
theorem dX0_markRun_51 : decode cX0_markRun 51 = .ok (.aload_n 0, 1) := by decide +kernel
theorem dX0_markRun_52 : decode cX0_markRun 52 = .ok (.getfield 9, 3) := by decide +kernel
theorem dX0_markRun_55 : decode cX0_markRun 55 = .ok (.iload 4, 2) := by decide +kernel
theorem dX0_markRun_57 : decode cX0_markRun 57 = .ok (.iaload, 1) := by decide +kernel
theorem dX0_markRun_58 : decode cX0_markRun 58 = .ok (.istore_n 2, 1) := by decide +kernel
theorem dX0_markRun_59 : decode cX0_markRun 59 = .ok (.iinc 4 (-1), 3) := by decide +kernel
theorem dX0_markRun_62 : decode cX0_markRun 62 = .ok (.goto (-47), 3) := by decide +kernel
theorem dX0_markRun_65 : decode cX0_markRun 65 = .ok (.return_, 1) := by decide +kernel
theorem dX0_markOutside_0 : decode cX0_markOutside 0 = .ok (.iconst 0, 1) := by decide +kernel
theorem dX0_markOutside_1 : decode cX0_markOutside 1 = .ok (.istore_n 2, 1) := by decide +kernel
theorem dX0_markOutside_2 : decode cX0_markOutside 2 = .ok (.iload_n 2, 1) := by decide +kernel
theorem dX0_markOutside_3 : decode cX0_markOutside 3 = .ok (.aload_n 0, 1) := by decide +kernel
theorem dX0_markOutside_4 : decode cX0_markOutside 4 = .ok (.getfield 32, 3) := by decide +kernel
theorem dX0_markOutside_7 : decode cX0_markOutside 7 = .ok (.if_icmp .ge 35, 3) := by decide +kernel
theorem dX0_markOutside_10 : decode cX0_markOutside 10 = .ok (.aload_n 0, 1) := by decide +kernel
theorem dX0_markOutside_11 : decode cX0_markOutside 11 = .ok (.getfield 28, 3) := by decide +kernel
theorem dX0_markOutside_14 : decode cX0_markOutside 14 = .ok (.iload_n 2, 1) := by decide +kernel
theorem dX0_markOutside_15 : decode cX0_markOutside 15 = .ok (.aload_n 0, 1) := by decide +kernel
theorem dX0_markOutside_16 : decode cX0_markOutside 16 = .ok (.getfield 9, 3) := by decide +kernel
theorem dX0_markOutside_19 : decode cX0_markOutside 19 = .ok (.iload_n 2, 1) := by decide +kernel
theorem dX0_markOutside_20 : decode cX0_markOutside 20 = .ok (.iaload, 1) := by decide +kernel
theorem dX0_markOutside_21 : decode cX0_markOutside 21 = .ok (.aload_n 0, 1) := by decide +kernel
theorem dX0_markOutside_22 : decode cX0_markOutside 22 = .ok (.getfield 39, 3) := by decide +kernel
theorem dX0_markOutside_25 : decode cX0_markOutside 25 = .ok (.iload_n 1, 1) := by decide +kernel
theorem dX0_markOutside_26 : decode cX0_markOutside 26 = .ok (.isub, 1) := by decide +kernel
theorem dX0_markOutside_27 : decode cX0_markOutside 27 = .ok (.if_icmp .ge 7, 3) := by decide +kernel
theorem dX0_markOutside_30 : decode cX0_markOutside 30 = .ok (.iconst 1, 1) := by decide +kernel
theorem dX0_markOutside_31 : decode cX0_markOutside 31 = .ok (.goto 4, 3) := by decide +kernel
theorem dX0_markOutside_34 : decode cX0_markOutside 34 = .ok (.iconst 0, 1) := by decide +kernel
theorem dX0_markOutside_35 : decode cX0_markOutside 35 = .ok (.bastore, 1) := by decide +kernel
theorem dX0_markOutside_36 : decode cX0_markOutside 36 = .ok (.iinc 2 1, 3) := by decide +kernel
theorem dX0_markOutside_39 : decode cX0_markOutside 39 = .ok (.goto (-37), 3) := by decide +kernel
theorem dX0_markOutside_42 : decode cX0_markOutside 42 = .ok (.return_, 1) := by decide +kernel
theorem dX0_isInside_0 : decode cX0_isInside 0 = .ok (.iload_n 1, 1) := by decide +kernel
theorem dX0_isInside_1 : decode cX0_isInside 1 = .ok (.ifCond .lt 24, 3) := by decide +kernel
theorem dX0_isInside_4 : decode cX0_isInside 4 = .ok (.iload_n 1, 1) := by decide +kernel
theorem dX0_isInside_5 : decode cX0_isInside 5 = .ok (.aload_n 0, 1) := by decide +kernel
theorem dX0_isInside_6 : decode cX0_isInside 6 = .ok (.getfield 32, 3) := by decide +kernel
theorem dX0_isInside_9 : decode cX0_isInside 9 = .ok (.if_icmp .ge 16, 3) := by decide +kernel
theorem dX0_isInside_12 : decode cX0_isInside 12 = .ok (.aload_n 0, 1) := by decide +kernel
theorem dX0_isInside_13 : decode cX0_isInside 13 = .ok (.getfield 28, 3) := by decide +kernel
theorem dX0_isInside_16 : decode cX0_isInside 16 = .ok (.iload_n 1, 1) := by decide +kernel
theorem dX0_isInside_17 : decode cX0_isInside 17 = .ok (.baload, 1) := by decide +kernel
theorem dX0_isInside_18 : decode cX0_isInside 18 = .ok (.ifCond .eq 7, 3) := by decide +kernel
theorem dX0_isInside_21 : decode cX0_isInside 21 = .ok (.iconst 1, 1) := by decide +kernel
theorem dX0_isInside_22 : decode cX0_isInside 22 = .ok (.goto 4, 3) := by decide +kernel
theorem dX0_isInside_25 : decode cX0_isInside 25 = .ok (.iconst 0, 1) := by decide +kernel
theorem dX0_isInside_26 : decode cX0_isInside 26 = .ok (.ireturn, 1) := by decide +kernel
theorem dX0_countInside_0 : decode cX0_countInside 0 = .ok (.iconst 0, 1) := by decide +kernel
theorem dX0_countInside_1 : decode cX0_countInside 1 = .ok (.istore_n 1, 1) := by decide +kernel
theorem dX0_countInside_2 : decode cX0_countInside 2 = .ok (.iconst 0, 1) := by decide +kernel
theorem dX0_countInside_3 : decode cX0_countInside 3 = .ok (.istore_n 2, 1) := by decide +kernel
theorem dX0_countInside_4 : decode cX0_countInside 4 = .ok (.iload_n 2, 1) := by decide +kernel
theorem dX0_countInside_5 : decode cX0_countInside 5 = .ok (.aload_n 0, 1) := by decide +kernel
theorem dX0_countInside_6 : decode cX0_countInside 6 = .ok (.getfield 32, 3) := by decide +kernel
theorem dX0_countInside_9 : decode cX0_countInside 9 = .ok (.if_icmp .ge 21, 3) := by decide +kernel
theorem dX0_countInside_12 : decode cX0_countInside 12 = .ok (.aload_n 0, 1) := by decide +kernel
theorem dX0_countInside_13 : decode cX0_countInside 13 = .ok (.getfield 28, 3) := by decide +kernel
theorem dX0_countInside_16 : decode cX0_countInside 16 = .ok (.iload_n 2, 1) := by decide +kernel
theorem dX0_countInside_17 : decode cX0_countInside 17 = .ok (.baload, 1) := by decide +kernel
theorem dX0_countInside_18 : decode cX0_countInside 18 = .ok (.ifCond .eq 6, 3) := by decide +kernel
theorem dX0_countInside_21 : decode cX0_countInside 21 = .ok (.iinc 1 1, 3) := by decide +kernel
theorem dX0_countInside_24 : decode cX0_countInside 24 = .ok (.iinc 2 1, 3) := by decide +kernel
theorem dX0_countInside_27 : decode cX0_countInside 27 = .ok (.goto (-23), 3) := by decide +kernel
theorem dX0_countInside_30 : decode cX0_countInside 30 = .ok (.iload_n 1, 1) := by decide +kernel
theorem dX0_countInside_31 : decode cX0_countInside 31 = .ok (.ireturn, 1) := by decide +kernel
theorem dX0_sumInside_0 : decode cX0_sumInside 0 = .ok (.iconst 0, 1) := by decide +kernel
theorem dX0_sumInside_1 : decode cX0_sumInside 1 = .ok (.istore_n 1, 1) := by decide +kernel
theorem dX0_sumInside_2 : decode cX0_sumInside 2 = .ok (.iconst 0, 1) := by decide +kernel
theorem dX0_sumInside_3 : decode cX0_sumInside 3 = .ok (.istore_n 2, 1) := by decide +kernel
theorem dX0_sumInside_4 : decode cX0_sumInside 4 = .ok (.iload_n 2, 1) := by decide +kernel
theorem dX0_sumInside_5 : decode cX0_sumInside 5 = .ok (.aload_n 0, 1) := by decide +kernel
theorem dX0_sumInside_6 : decode cX0_sumInside 6 = .ok (.getfield 32, 3) := by decide +kernel
theorem dX0_sumInside_9 : decode cX0_sumInside 9 = .ok (.if_icmp .ge 27, 3) := by decide +kernel
theorem dX0_sumInside_12 : decode cX0_sumInside 12 = .ok (.aload_n 0, 1) := by decide +kernel
theorem dX0_sumInside_13 : decode cX0_sumInside 13 = .ok (.getfield 28, 3) := by decide +kernel
theorem dX0_sumInside_16 : decode cX0_sumInside 16 = .ok (.iload_n 2, 1) := by decide +kernel
theorem dX0_sumInside_17 : decode cX0_sumInside 17 = .ok (.baload, 1) := by decide +kernel
theorem dX0_sumInside_18 : decode cX0_sumInside 18 = .ok (.ifCond .eq 12, 3) := by decide +kernel
theorem dX0_sumInside_21 : decode cX0_sumInside 21 = .ok (.iload_n 1, 1) := by decide +kernel
theorem dX0_sumInside_22 : decode cX0_sumInside 22 = .ok (.aload_n 0, 1) := by decide +kernel
theorem dX0_sumInside_23 : decode cX0_sumInside 23 = .ok (.getfield 16, 3) := by decide +kernel
theorem dX0_sumInside_26 : decode cX0_sumInside 26 = .ok (.iload_n 2, 1) := by decide +kernel
theorem dX0_sumInside_27 : decode cX0_sumInside 27 = .ok (.iaload, 1) := by decide +kernel
theorem dX0_sumInside_28 : decode cX0_sumInside 28 = .ok (.iadd, 1) := by decide +kernel
theorem dX0_sumInside_29 : decode cX0_sumInside 29 = .ok (.istore_n 1, 1) := by decide +kernel
theorem dX0_sumInside_30 : decode cX0_sumInside 30 = .ok (.iinc 2 1, 3) := by decide +kernel
theorem dX0_sumInside_33 : decode cX0_sumInside 33 = .ok (.goto (-29), 3) := by decide +kernel
theorem dX0_sumInside_36 : decode cX0_sumInside 36 = .ok (.iload_n 1, 1) := by decide +kernel
theorem dX0_sumInside_37 : decode cX0_sumInside 37 = .ok (.ireturn, 1) := by decide +kernel
theorem dX0_countUnlike_0 : decode cX0_countUnlike 0 = .ok (.iconst 0, 1) := by decide +kernel
theorem dX0_countUnlike_1 : decode cX0_countUnlike 1 = .ok (.istore_n 1, 1) := by decide +kernel
theorem dX0_countUnlike_2 : decode cX0_countUnlike 2 = .ok (.iconst (-1), 1) := by decide +kernel
theorem dX0_countUnlike_3 : decode cX0_countUnlike 3 = .ok (.istore_n 2, 1) := by decide +kernel
theorem dX0_countUnlike_4 : decode cX0_countUnlike 4 = .ok (.iconst 0, 1) := by decide +kernel
theorem dX0_countUnlike_5 : decode cX0_countUnlike 5 = .ok (.istore_n 3, 1) := by decide +kernel
theorem dX0_countUnlike_6 : decode cX0_countUnlike 6 = .ok (.iload_n 3, 1) := by decide +kernel
theorem dX0_countUnlike_7 : decode cX0_countUnlike 7 = .ok (.aload_n 0, 1) := by decide +kernel
theorem dX0_countUnlike_8 : decode cX0_countUnlike 8 = .ok (.getfield 32, 3) := by decide +kernel
theorem dX0_countUnlike_11 : decode cX0_countUnlike 11 = .ok (.if_icmp .ge 53, 3) := by decide +kernel
theorem dX0_countUnlike_14 : decode cX0_countUnlike 14 = .ok (.aload_n 0, 1) := by decide +kernel
theorem dX0_countUnlike_15 : decode cX0_countUnlike 15 = .ok (.getfield 19, 3) := by decide +kernel
theorem dX0_countUnlike_18 : decode cX0_countUnlike 18 = .ok (.iload_n 3, 1) := by decide +kernel
theorem dX0_countUnlike_19 : decode cX0_countUnlike 19 = .ok (.iaload, 1) := by decide +kernel
theorem dX0_countUnlike_20 : decode cX0_countUnlike 20 = .ok (.istore 4, 2) := by decide +kernel
theorem dX0_countUnlike_22 : decode cX0_countUnlike 22 = .ok (.aload_n 0, 1) := by decide +kernel
theorem dX0_countUnlike_23 : decode cX0_countUnlike 23 = .ok (.iload 4, 2) := by decide +kernel
theorem dX0_countUnlike_25 : decode cX0_countUnlike 25 = .ok (.invokevirtual 131, 3) := by decide +kernel
theorem dX0_countUnlike_28 : decode cX0_countUnlike 28 = .ok (.ifCond .eq 30, 3) := by decide +kernel
theorem dX0_countUnlike_31 : decode cX0_countUnlike 31 = .ok (.iload_n 2, 1) := by decide +kernel
theorem dX0_countUnlike_32 : decode cX0_countUnlike 32 = .ok (.iconst (-1), 1) := by decide +kernel
theorem dX0_countUnlike_33 : decode cX0_countUnlike 33 = .ok (.if_icmp .eq 19, 3) := by decide +kernel
theorem dX0_countUnlike_36 : decode cX0_countUnlike 36 = .ok (.aload_n 0, 1) := by decide +kernel
theorem dX0_countUnlike_37 : decode cX0_countUnlike 37 = .ok (.getfield 16, 3) := by decide +kernel
theorem dX0_countUnlike_40 : decode cX0_countUnlike 40 = .ok (.iload 4, 2) := by decide +kernel
theorem dX0_countUnlike_42 : decode cX0_countUnlike 42 = .ok (.iaload, 1) := by decide +kernel
theorem dX0_countUnlike_43 : decode cX0_countUnlike 43 = .ok (.aload_n 0, 1) := by decide +kernel
theorem dX0_countUnlike_44 : decode cX0_countUnlike 44 = .ok (.getfield 16, 3) := by decide +kernel
theorem dX0_countUnlike_47 : decode cX0_countUnlike 47 = .ok (.iload_n 2, 1) := by decide +kernel
theorem dX0_countUnlike_48 : decode cX0_countUnlike 48 = .ok (.iaload, 1) := by decide +kernel
theorem dX0_countUnlike_49 : decode cX0_countUnlike 49 = .ok (.if_icmp .eq 6, 3) := by decide +kernel
theorem dX0_countUnlike_52 : decode cX0_countUnlike 52 = .ok (.iinc 1 1, 3) := by decide +kernel
theorem dX0_countUnlike_55 : decode cX0_countUnlike 55 = .ok (.iload 4, 2) := by decide +kernel
theorem dX0_countUnlike_57 : decode cX0_countUnlike 57 = .ok (.istore_n 2, 1) := by decide +kernel
theorem dX0_countUnlike_58 : decode cX0_countUnlike 58 = .ok (.iinc 3 1, 3) := by decide +kernel
theorem dX0_countUnlike_61 : decode cX0_countUnlike 61 = .ok (.goto (-55), 3) := by decide +kernel
theorem dX0_countUnlike_64 : decode cX0_countUnlike 64 = .ok (.iload_n 1, 1) := by decide +kernel
theorem dX0_countUnlike_65 : decode cX0_countUnlike 65 = .ok (.ireturn, 1) := by decide +kernel
theorem dX0_countMostFrequent_0 : decode cX0_countMostFrequent 0 = .ok (.aload_n 0, 1) := by decide +kernel
theorem dX0_countMostFrequent_1 : decode cX0_countMostFrequent 1 = .ok (.invokevirtual 97, 3) := by decide +kernel
theorem dX0_countMostFrequent_4 : decode cX0_countMostFrequent 4 = .ok (.istore_n 1, 1) := by decide +kernel
theorem dX0_countMostFrequent_5 : decode cX0_countMostFrequent 5 = .ok (.iload_n 1, 1) := by decide +kernel
theorem dX0_countMostFrequent_6 : decode cX0_countMostFrequent 6 = .ok (.iconst (-1), 1) := by decide +kernel
theorem dX0_countMostFrequent_7 : decode cX0_countMostFrequent 7 = .ok (.if_icmp .ne 5, 3) := by decide +kernel
theorem dX0_countMostFrequent_10 : decode cX0_countMostFrequent 10 = .ok (.iconst 0, 1) := by decide +kernel
theorem dX0_countMostFrequent_11 : decode cX0_countMostFrequent 11 = .ok (.ireturn, 1) := by decide +kernel
theorem dX0_countMostFrequent_12 : decode cX0_countMostFrequent 12 = .ok (.iconst 0, 1) := by decide +kernel
theorem dX0_countMostFrequent_13 : decode cX0_countMostFrequent 13 = .ok (.istore_n 2, 1) := by decide +kernel
theorem dX0_countMostFrequent_14 : decode cX0_countMostFrequent 14 = .ok (.iconst 0, 1) := by decide +kernel
theorem dX0_countMostFrequent_15 : decode cX0_countMostFrequent 15 = .ok (.istore_n 3, 1) := by decide +kernel
theorem dX0_countMostFrequent_16 : decode cX0_countMostFrequent 16 = .ok (.iload_n 3, 1) := by decide +kernel
theorem dX0_countMostFrequent_17 : decode cX0_countMostFrequent 17 = .ok (.aload_n 0, 1) := by decide +kernel
theorem dX0_countMostFrequent_18 : decode cX0_countMostFrequent 18 = .ok (.getfield 32, 3) := by decide +kernel
theorem dX0_countMostFrequent_21 : decode cX0_countMostFrequent 21 = .ok (.if_icmp .ge 36, 3) := by decide +kernel
theorem dX0_countMostFrequent_24 : decode cX0_countMostFrequent 24 = .ok (.aload_n 0, 1) := by decide +kernel
theorem dX0_countMostFrequent_25 : decode cX0_countMostFrequent 25 = .ok (.getfield 28, 3) := by decide +kernel
theorem dX0_countMostFrequent_28 : decode cX0_countMostFrequent 28 = .ok (.iload_n 3, 1) := by decide +kernel
theorem dX0_countMostFrequent_29 : decode cX0_countMostFrequent 29 = .ok (.baload, 1) := by decide +kernel
theorem dX0_countMostFrequent_30 : decode cX0_countMostFrequent 30 = .ok (.ifCond .eq 21, 3) := by decide +kernel
theorem dX0_countMostFrequent_33 : decode cX0_countMostFrequent 33 = .ok (.aload_n 0, 1) := by decide +kernel
theorem dX0_countMostFrequent_34 : decode cX0_countMostFrequent 34 = .ok (.getfield 16, 3) := by decide +kernel
theorem dX0_countMostFrequent_37 : decode cX0_countMostFrequent 37 = .ok (.iload_n 3, 1) := by decide +kernel
theorem dX0_countMostFrequent_38 : decode cX0_countMostFrequent 38 = .ok (.iaload, 1) := by decide +kernel
theorem dX0_countMostFrequent_39 : decode cX0_countMostFrequent 39 = .ok (.aload_n 0, 1) := by decide +kernel
theorem dX0_countMostFrequent_40 : decode cX0_countMostFrequent 40 = .ok (.getfield 16, 3) := by decide +kernel
theorem dX0_countMostFrequent_43 : decode cX0_countMostFrequent 43 = .ok (.iload_n 1, 1) := by decide +kernel
theorem dX0_countMostFrequent_44 : decode cX0_countMostFrequent 44 = .ok (.iaload, 1) := by decide +kernel
theorem dX0_countMostFrequent_45 : decode cX0_countMostFrequent 45 = .ok (.if_icmp .ne 6, 3) := by decide +kernel
theorem dX0_countMostFrequent_48 : decode cX0_countMostFrequent 48 = .ok (.iinc 2 1, 3) := by decide +kernel
theorem dX0_countMostFrequent_51 : decode cX0_countMostFrequent 51 = .ok (.iinc 3 1, 3) := by decide +kernel
theorem dX0_countMostFrequent_54 : decode cX0_countMostFrequent 54 = .ok (.goto (-38), 3) := by decide +kernel
theorem dX0_countMostFrequent_57 : decode cX0_countMostFrequent 57 = .ok (.iload_n 2, 1) := by decide +kernel
theorem dX0_countMostFrequent_58 : decode cX0_countMostFrequent 58 = .ok (.ireturn, 1) := by decide +kernel
theorem dX0_findMostFrequent_0 : decode cX0_findMostFrequent 0 = .ok (.iconst (-1), 1) := by decide +kernel
theorem dX0_findMostFrequent_1 : decode cX0_findMostFrequent 1 = .ok (.istore_n 1, 1) := by decide +kernel
theorem dX0_findMostFrequent_2 : decode cX0_findMostFrequent 2 = .ok (.iconst 0, 1) := by decide +kernel
theorem dX0_findMostFrequent_3 : decode cX0_findMostFrequent 3 = .ok (.istore_n 2, 1) := by decide +kernel
theorem dX0_findMostFrequent_4 : decode cX0_findMostFrequent 4 = .ok (.iconst (-1), 1) := by decide +kernel
theorem dX0_findMostFrequent_5 : decode cX0_findMostFrequent 5 = .ok (.istore_n 3, 1) := by decide +kernel
theorem dX0_findMostFrequent_6 : decode cX0_findMostFrequent 6 = .ok (.iconst 0, 1) := by decide +kernel
theorem dX0_findMostFrequent_7 : decode cX0_findMostFrequent 7 = .ok (.istore 4, 2) := by decide +kernel
theorem dX0_findMostFrequent_9 : decode cX0_findMostFrequent 9 = .ok (.iconst 0, 1) := by decide +kernel
theorem dX0_findMostFrequent_10 : decode cX0_findMostFrequent 10 = .ok (.istore 5, 2) := by decide +kernel
theorem dX0_findMostFrequent_12 : decode cX0_findMostFrequent 12 = .ok (.iload 5, 2) := by decide +kernel
theorem dX0_findMostFrequent_14 : decode cX0_findMostFrequent 14 = .ok (.aload_n 0, 1) := by decide +kernel
theorem dX0_findMostFrequent_15 : decode cX0_findMostFrequent 15 = .ok (.getfield 32, 3) := by decide +kernel
theorem dX0_findMostFrequent_18 : decode cX0_findMostFrequent 18 = .ok (.if_icmp .ge 73, 3) := by decide +kernel
theorem dX0_findMostFrequent_21 : decode cX0_findMostFrequent 21 = .ok (.aload_n 0, 1) := by decide +kernel
theorem dX0_findMostFrequent_22 : decode cX0_findMostFrequent 22 = .ok (.getfield 19, 3) := by decide +kernel
theorem dX0_findMostFrequent_25 : decode cX0_findMostFrequent 25 = .ok (.iload 5, 2) := by decide +kernel
theorem dX0_findMostFrequent_27 : decode cX0_findMostFrequent 27 = .ok (.iaload, 1) := by decide +kernel
theorem dX0_findMostFrequent_28 : decode cX0_findMostFrequent 28 = .ok (.istore 6, 2) := by decide +kernel
theorem dX0_findMostFrequent_30 : decode cX0_findMostFrequent 30 = .ok (.aload_n 0, 1) := by decide +kernel
theorem dX0_findMostFrequent_31 : decode cX0_findMostFrequent 31 = .ok (.iload 6, 2) := by decide +kernel
theorem dX0_findMostFrequent_33 : decode cX0_findMostFrequent 33 = .ok (.invokevirtual 131, 3) := by decide +kernel
theorem dX0_findMostFrequent_36 : decode cX0_findMostFrequent 36 = .ok (.ifCond .eq 49, 3) := by decide +kernel
theorem dX0_findMostFrequent_39 : decode cX0_findMostFrequent 39 = .ok (.iload_n 3, 1) := by decide +kernel
theorem dX0_findMostFrequent_40 : decode cX0_findMostFrequent 40 = .ok (.iconst (-1), 1) := by decide +kernel
theorem dX0_findMostFrequent_41 : decode cX0_findMostFrequent 41 = .ok (.if_icmp .eq 26, 3) := by decide +kernel
theorem dX0_findMostFrequent_44 : decode cX0_findMostFrequent 44 = .ok (.aload_n 0, 1) := by decide +kernel
theorem dX0_findMostFrequent_45 : decode cX0_findMostFrequent 45 = .ok (.getfield 16, 3) := by decide +kernel
theorem dX0_findMostFrequent_48 : decode cX0_findMostFrequent 48 = .ok (.iload 6, 2) := by decide +kernel
theorem dX0_findMostFrequent_50 : decode cX0_findMostFrequent 50 = .ok (.iaload, 1) := by decide +kernel
theorem dX0_findMostFrequent_51 : decode cX0_findMostFrequent 51 = .ok (.aload_n 0, 1) := by decide +kernel
theorem dX0_findMostFrequent_52 : decode cX0_findMostFrequent 52 = .ok (.getfield 16, 3) := by decide +kernel
theorem dX0_findMostFrequent_55 : decode cX0_findMostFrequent 55 = .ok (.iload_n 3, 1) := by decide +kernel
theorem dX0_findMostFrequent_56 : decode cX0_findMostFrequent 56 = .ok (.iaload, 1) := by decide +kernel
theorem dX0_findMostFrequent_57 : decode cX0_findMostFrequent 57 = .ok (.if_icmp .ne 10, 3) := by decide +kernel
theorem dX0_findMostFrequent_60 : decode cX0_findMostFrequent 60 = .ok (.iload 4, 2) := by decide +kernel
theorem dX0_findMostFrequent_62 : decode cX0_findMostFrequent 62 = .ok (.iconst 1, 1) := by decide +kernel
theorem dX0_findMostFrequent_63 : decode cX0_findMostFrequent 63 = .ok (.iadd, 1) := by decide +kernel
theorem dX0_findMostFrequent_64 : decode cX0_findMostFrequent 64 = .ok (.goto 4, 3) := by decide +kernel
theorem dX0_findMostFrequent_67 : decode cX0_findMostFrequent 67 = .ok (.iconst 1, 1) := by decide +kernel
theorem dX0_findMostFrequent_68 : decode cX0_findMostFrequent 68 = .ok (.istore 4, 2) := by decide +kernel
theorem dX0_findMostFrequent_70 : decode cX0_findMostFrequent 70 = .ok (.iload 6, 2) := by decide +kernel
theorem dX0_findMostFrequent_72 : decode cX0_findMostFrequent 72 = .ok (.istore_n 3, 1) := by decide +kernel
theorem dX0_findMostFrequent_73 : decode cX0_findMostFrequent 73 = .ok (.iload 4, 2) := by decide +kernel
theorem dX0_findMostFrequent_75 : decode cX0_findMostFrequent 75 = .ok (.iload_n 2, 1) := by decide +kernel
theorem dX0_findMostFrequent_76 : decode cX0_findMostFrequent 76 = .ok (.if_icmp .le 9, 3) := by decide +kernel
theorem dX0_findMostFrequent_79 : decode cX0_findMostFrequent 79 = .ok (.iload 4, 2) := by decide +kernel
theorem dX0_findMostFrequent_81 : decode cX0_findMostFrequent 81 = .ok (.istore_n 2, 1) := by decide +kernel
theorem dX0_findMostFrequent_82 : decode cX0_findMostFrequent 82 = .ok (.iload 6, 2) := by decide +kernel
theorem dX0_findMostFrequent_84 : decode cX0_findMostFrequent 84 = .ok (.istore_n 1, 1) := by decide +kernel
theorem dX0_findMostFrequent_85 : decode cX0_findMostFrequent 85 = .ok (.iinc 5 1, 3) := by decide +kernel
theorem dX0_findMostFrequent_88 : decode cX0_findMostFrequent 88 = .ok (.goto (-76), 3) := by decide +kernel
theorem dX0_findMostFrequent_91 : decode cX0_findMostFrequent 91 = .ok (.iload_n 1, 1) := by decide +kernel
theorem dX0_findMostFrequent_92 : decode cX0_findMostFrequent 92 = .ok (.ireturn, 1) := by decide +kernel
theorem dX0_findKth_0 : decode cX0_findKth 0 = .ok (.iconst 0, 1) := by decide +kernel
theorem dX0_findKth_1 : decode cX0_findKth 1 = .ok (.istore_n 2, 1) := by decide +kernel
theorem dX0_findKth_2 : decode cX0_findKth 2 = .ok (.iconst 0, 1) := by decide +kernel
theorem dX0_findKth_3 : decode cX0_findKth 3 = .ok (.istore_n 3, 1) := by decide +kernel
theorem dX0_findKth_4 : decode cX0_findKth 4 = .ok (.iload_n 3, 1) := by decide +kernel
theorem dX0_findKth_5 : decode cX0_findKth 5 = .ok (.aload_n 0, 1) := by decide +kernel
theorem dX0_findKth_6 : decode cX0_findKth 6 = .ok (.getfield 32, 3) := by decide +kernel
theorem dX0_findKth_9 : decode cX0_findKth 9 = .ok (.if_icmp .ge 37, 3) := by decide +kernel
theorem dX0_findKth_12 : decode cX0_findKth 12 = .ok (.aload_n 0, 1) := by decide +kernel
theorem dX0_findKth_13 : decode cX0_findKth 13 = .ok (.getfield 19, 3) := by decide +kernel
theorem dX0_findKth_16 : decode cX0_findKth 16 = .ok (.iload_n 3, 1) := by decide +kernel
theorem dX0_findKth_17 : decode cX0_findKth 17 = .ok (.iaload, 1) := by decide +kernel
theorem dX0_findKth_18 : decode cX0_findKth 18 = .ok (.istore 4, 2) := by decide +kernel
theorem dX0_findKth_20 : decode cX0_findKth 20 = .ok (.aload_n 0, 1) := by decide +kernel
theorem dX0_findKth_21 : decode cX0_findKth 21 = .ok (.iload 4, 2) := by decide +kernel
theorem dX0_findKth_23 : decode cX0_findKth 23 = .ok (.invokevirtual 131, 3) := by decide +kernel
theorem dX0_findKth_26 : decode cX0_findKth 26 = .ok (.ifCond .eq 14, 3) := by decide +kernel
theorem dX0_findKth_29 : decode cX0_findKth 29 = .ok (.iload_n 2, 1) := by decide +kernel
theorem dX0_findKth_30 : decode cX0_findKth 30 = .ok (.iload_n 1, 1) := by decide +kernel
theorem dX0_findKth_31 : decode cX0_findKth 31 = .ok (.if_icmp .ne 6, 3) := by decide +kernel
theorem dX0_findKth_34 : decode cX0_findKth 34 = .ok (.iload 4, 2) := by decide +kernel
theorem dX0_findKth_36 : decode cX0_findKth 36 = .ok (.ireturn, 1) := by decide +kernel
theorem dX0_findKth_37 : decode cX0_findKth 37 = .ok (.iinc 2 1, 3) := by decide +kernel
theorem dX0_findKth_40 : decode cX0_findKth 40 = .ok (.iinc 3 1, 3) := by decide +kernel
theorem dX0_findKth_43 : decode cX0_findKth 43 = .ok (.goto (-39), 3) := by decide +kernel
theorem dX0_findKth_46 : decode cX0_findKth 46 = .ok (.iconst (-1), 1) := by decide +kernel
theorem dX0_findKth_47 : decode cX0_findKth 47 = .ok (.ireturn, 1) := by decide +kernel
