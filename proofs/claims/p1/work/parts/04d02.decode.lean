theorem d_NU_condition_64 : decode prog_1_method_13_code 64 = .ok (.aload_n 0, 1) := by decide +kernel
theorem d_NU_condition_65 : decode prog_1_method_13_code 65 = .ok (.getfield 19, 3) := by decide +kernel
theorem d_NU_condition_68 : decode prog_1_method_13_code 68 = .ok (.getfield 137, 3) := by decide +kernel
theorem d_NU_condition_71 : decode prog_1_method_13_code 71 = .ok (.iload_n 1, 1) := by decide +kernel
theorem d_NU_condition_72 : decode prog_1_method_13_code 72 = .ok (.iaload, 1) := by decide +kernel
theorem d_NU_condition_73 : decode prog_1_method_13_code 73 = .ok (.invokestatic 110, 3) := by decide +kernel
theorem d_NU_condition_76 : decode prog_1_method_13_code 76 = .ok (.ireturn, 1) := by decide +kernel
theorem d_NU_condition_77 : decode prog_1_method_13_code 77 = .ok (.iconst (-1), 1) := by decide +kernel
theorem d_NU_condition_78 : decode prog_1_method_13_code 78 = .ok (.ireturn, 1) := by decide +kernel
theorem d_NU_concurrent_0 : decode prog_1_method_14_code 0 = .ok (.iload_n 1, 1) := by decide +kernel
theorem d_NU_concurrent_1 : decode prog_1_method_14_code 1 = .ok (.ifCond .lt 29, 3) := by decide +kernel
theorem d_NU_concurrent_4 : decode prog_1_method_14_code 4 = .ok (.iload_n 1, 1) := by decide +kernel
theorem d_NU_concurrent_5 : decode prog_1_method_14_code 5 = .ok (.aload_n 0, 1) := by decide +kernel
theorem d_NU_concurrent_6 : decode prog_1_method_14_code 6 = .ok (.getfield 19, 3) := by decide +kernel
theorem d_NU_concurrent_9 : decode prog_1_method_14_code 9 = .ok (.getfield 104, 3) := by decide +kernel
theorem d_NU_concurrent_12 : decode prog_1_method_14_code 12 = .ok (.if_icmp .ge 18, 3) := by decide +kernel
theorem d_NU_concurrent_15 : decode prog_1_method_14_code 15 = .ok (.iload_n 2, 1) := by decide +kernel
theorem d_NU_concurrent_16 : decode prog_1_method_14_code 16 = .ok (.ifCond .lt 14, 3) := by decide +kernel
theorem d_NU_concurrent_19 : decode prog_1_method_14_code 19 = .ok (.iload_n 2, 1) := by decide +kernel
theorem d_NU_concurrent_20 : decode prog_1_method_14_code 20 = .ok (.aload_n 0, 1) := by decide +kernel
theorem d_NU_concurrent_21 : decode prog_1_method_14_code 21 = .ok (.getfield 19, 3) := by decide +kernel
theorem d_NU_concurrent_24 : decode prog_1_method_14_code 24 = .ok (.getfield 104, 3) := by decide +kernel
theorem d_NU_concurrent_27 : decode prog_1_method_14_code 27 = .ok (.if_icmp .lt 5, 3) := by decide +kernel
theorem d_NU_concurrent_30 : decode prog_1_method_14_code 30 = .ok (.iconst 0, 1) := by decide +kernel
theorem d_NU_concurrent_31 : decode prog_1_method_14_code 31 = .ok (.ireturn, 1) := by decide +kernel
theorem d_NU_concurrent_32 : decode prog_1_method_14_code 32 = .ok (.aload_n 0, 1) := by decide +kernel
theorem d_NU_concurrent_33 : decode prog_1_method_14_code 33 = .ok (.getfield 19, 3) := by decide +kernel
theorem d_NU_concurrent_36 : decode prog_1_method_14_code 36 = .ok (.getfield 140, 3) := by decide +kernel
theorem d_NU_concurrent_39 : decode prog_1_method_14_code 39 = .ok (.iload_n 1, 1) := by decide +kernel
theorem d_NU_concurrent_40 : decode prog_1_method_14_code 40 = .ok (.laload, 1) := by decide +kernel
theorem d_NU_concurrent_41 : decode prog_1_method_14_code 41 = .ok (.iload_n 2, 1) := by decide +kernel
theorem d_NU_concurrent_42 : decode prog_1_method_14_code 42 = .ok (.invokestatic 144, 3) := by decide +kernel
theorem d_NU_concurrent_45 : decode prog_1_method_14_code 45 = .ok (.ireturn, 1) := by decide +kernel
theorem d_NU_reach_0 : decode prog_1_method_6_code 0 = .ok (.iload_n 1, 1) := by decide +kernel
theorem d_NU_reach_1 : decode prog_1_method_6_code 1 = .ok (.invokestatic 46, 3) := by decide +kernel
theorem d_NU_reach_4 : decode prog_1_method_6_code 4 = .ok (.ifCond .ne 11, 3) := by decide +kernel
theorem d_NU_reach_7 : decode prog_1_method_6_code 7 = .ok (.new 50, 3) := by decide +kernel
theorem d_NU_reach_10 : decode prog_1_method_6_code 10 = .ok (.dup, 1) := by decide +kernel
theorem d_NU_reach_11 : decode prog_1_method_6_code 11 = .ok (.invokespecial 52, 3) := by decide +kernel
theorem d_NU_reach_14 : decode prog_1_method_6_code 14 = .ok (.athrow, 1) := by decide +kernel
theorem d_NU_reach_15 : decode prog_1_method_6_code 15 = .ok (.aload_n 0, 1) := by decide +kernel
theorem d_NU_reach_16 : decode prog_1_method_6_code 16 = .ok (.getfield 19, 3) := by decide +kernel
theorem d_NU_reach_19 : decode prog_1_method_6_code 19 = .ok (.getfield 77, 3) := by decide +kernel
theorem d_NU_reach_22 : decode prog_1_method_6_code 22 = .ok (.ifCond .ne 11, 3) := by decide +kernel
theorem d_NU_reach_25 : decode prog_1_method_6_code 25 = .ok (.new 57, 3) := by decide +kernel
theorem d_NU_reach_28 : decode prog_1_method_6_code 28 = .ok (.dup, 1) := by decide +kernel
theorem d_NU_reach_29 : decode prog_1_method_6_code 29 = .ok (.invokespecial 59, 3) := by decide +kernel
theorem d_NU_reach_32 : decode prog_1_method_6_code 32 = .ok (.athrow, 1) := by decide +kernel
theorem d_NU_reach_33 : decode prog_1_method_6_code 33 = .ok (.aload_n 0, 1) := by decide +kernel
theorem d_NU_reach_34 : decode prog_1_method_6_code 34 = .ok (.getfield 42, 3) := by decide +kernel
theorem d_NU_reach_37 : decode prog_1_method_6_code 37 = .ok (.iload_n 1, 1) := by decide +kernel
theorem d_NU_reach_38 : decode prog_1_method_6_code 38 = .ok (.invokevirtual 81, 3) := by decide +kernel
theorem d_NU_reach_41 : decode prog_1_method_6_code 41 = .ok (.ireturn, 1) := by decide +kernel
theorem d_NU_deadlock_0 : decode prog_1_method_7_code 0 = .ok (.aload_n 0, 1) := by decide +kernel
theorem d_NU_deadlock_1 : decode prog_1_method_7_code 1 = .ok (.getfield 19, 3) := by decide +kernel
theorem d_NU_deadlock_4 : decode prog_1_method_7_code 4 = .ok (.getfield 77, 3) := by decide +kernel
theorem d_NU_deadlock_7 : decode prog_1_method_7_code 7 = .ok (.ifCond .ne 11, 3) := by decide +kernel
theorem d_NU_deadlock_10 : decode prog_1_method_7_code 10 = .ok (.new 57, 3) := by decide +kernel
theorem d_NU_deadlock_13 : decode prog_1_method_7_code 13 = .ok (.dup, 1) := by decide +kernel
theorem d_NU_deadlock_14 : decode prog_1_method_7_code 14 = .ok (.invokespecial 59, 3) := by decide +kernel
theorem d_NU_deadlock_17 : decode prog_1_method_7_code 17 = .ok (.athrow, 1) := by decide +kernel
theorem d_NU_deadlock_18 : decode prog_1_method_7_code 18 = .ok (.aload_n 0, 1) := by decide +kernel
theorem d_NU_deadlock_19 : decode prog_1_method_7_code 19 = .ok (.getfield 42, 3) := by decide +kernel
theorem d_NU_deadlock_22 : decode prog_1_method_7_code 22 = .ok (.invokevirtual 85, 3) := by decide +kernel
theorem d_NU_deadlock_25 : decode prog_1_method_7_code 25 = .ok (.ireturn, 1) := by decide +kernel
theorem d_NU_play_0 : decode prog_1_method_9_code 0 = .ok (.aload_n 0, 1) := by decide +kernel
theorem d_NU_play_1 : decode prog_1_method_9_code 1 = .ok (.getfield 26, 3) := by decide +kernel
theorem d_NU_play_4 : decode prog_1_method_9_code 4 = .ok (.getfield 91, 3) := by decide +kernel
theorem d_NU_play_7 : decode prog_1_method_9_code 7 = .ok (.iconst (-1), 1) := by decide +kernel
theorem d_NU_play_8 : decode prog_1_method_9_code 8 = .ok (.if_icmp .eq 7, 3) := by decide +kernel
theorem d_NU_play_11 : decode prog_1_method_9_code 11 = .ok (.iconst 1, 1) := by decide +kernel
theorem d_NU_play_12 : decode prog_1_method_9_code 12 = .ok (.goto 4, 3) := by decide +kernel
theorem d_NU_play_15 : decode prog_1_method_9_code 15 = .ok (.iconst 0, 1) := by decide +kernel
theorem d_NU_play_16 : decode prog_1_method_9_code 16 = .ok (.istore_n 2, 1) := by decide +kernel
theorem d_NU_play_17 : decode prog_1_method_9_code 17 = .ok (.iload_n 1, 1) := by decide +kernel
theorem d_NU_play_18 : decode prog_1_method_9_code 18 = .ok (.ifCond .lt 18, 3) := by decide +kernel
theorem d_NU_play_21 : decode prog_1_method_9_code 21 = .ok (.iload_n 2, 1) := by decide +kernel
theorem d_NU_play_22 : decode prog_1_method_9_code 22 = .ok (.ifCond .eq 22, 3) := by decide +kernel
theorem d_NU_play_25 : decode prog_1_method_9_code 25 = .ok (.iload_n 1, 1) := by decide +kernel
theorem d_NU_play_26 : decode prog_1_method_9_code 26 = .ok (.aload_n 0, 1) := by decide +kernel
theorem d_NU_play_27 : decode prog_1_method_9_code 27 = .ok (.getfield 26, 3) := by decide +kernel
theorem d_NU_play_30 : decode prog_1_method_9_code 30 = .ok (.getfield 91, 3) := by decide +kernel
theorem d_NU_play_33 : decode prog_1_method_9_code 33 = .ok (.if_icmp .le 11, 3) := by decide +kernel
theorem d_NU_play_36 : decode prog_1_method_9_code 36 = .ok (.new 50, 3) := by decide +kernel
theorem d_NU_play_39 : decode prog_1_method_9_code 39 = .ok (.dup, 1) := by decide +kernel
theorem d_NU_play_40 : decode prog_1_method_9_code 40 = .ok (.invokespecial 52, 3) := by decide +kernel
theorem d_NU_play_43 : decode prog_1_method_9_code 43 = .ok (.athrow, 1) := by decide +kernel
theorem d_NU_play_44 : decode prog_1_method_9_code 44 = .ok (.iload_n 2, 1) := by decide +kernel
theorem d_NU_play_45 : decode prog_1_method_9_code 45 = .ok (.ifCond .ne 11, 3) := by decide +kernel
theorem d_NU_play_48 : decode prog_1_method_9_code 48 = .ok (.new 57, 3) := by decide +kernel
theorem d_NU_play_51 : decode prog_1_method_9_code 51 = .ok (.dup, 1) := by decide +kernel
theorem d_NU_play_52 : decode prog_1_method_9_code 52 = .ok (.invokespecial 59, 3) := by decide +kernel
theorem d_NU_play_55 : decode prog_1_method_9_code 55 = .ok (.athrow, 1) := by decide +kernel
theorem d_NU_play_56 : decode prog_1_method_9_code 56 = .ok (.aload_n 0, 1) := by decide +kernel
theorem d_NU_play_57 : decode prog_1_method_9_code 57 = .ok (.getfield 10, 3) := by decide +kernel
theorem d_NU_play_60 : decode prog_1_method_9_code 60 = .ok (.getfield 67, 3) := by decide +kernel
theorem d_NU_play_63 : decode prog_1_method_9_code 63 = .ok (.istore_n 3, 1) := by decide +kernel
theorem d_NU_play_64 : decode prog_1_method_9_code 64 = .ok (.iconst 0, 1) := by decide +kernel
theorem d_NU_play_65 : decode prog_1_method_9_code 65 = .ok (.istore 4, 2) := by decide +kernel
theorem d_NU_play_67 : decode prog_1_method_9_code 67 = .ok (.iload 4, 2) := by decide +kernel
theorem d_NU_play_69 : decode prog_1_method_9_code 69 = .ok (.iload_n 1, 1) := by decide +kernel
theorem d_NU_play_70 : decode prog_1_method_9_code 70 = .ok (.if_icmp .ge 52, 3) := by decide +kernel
theorem d_NU_play_73 : decode prog_1_method_9_code 73 = .ok (.aload_n 0, 1) := by decide +kernel
theorem d_NU_play_74 : decode prog_1_method_9_code 74 = .ok (.getfield 26, 3) := by decide +kernel
theorem d_NU_play_77 : decode prog_1_method_9_code 77 = .ok (.iload 4, 2) := by decide +kernel
theorem d_NU_play_79 : decode prog_1_method_9_code 79 = .ok (.invokevirtual 88, 3) := by decide +kernel
theorem d_NU_play_82 : decode prog_1_method_9_code 82 = .ok (.istore 5, 2) := by decide +kernel
theorem d_NU_play_84 : decode prog_1_method_9_code 84 = .ok (.aload_n 0, 1) := by decide +kernel
theorem d_NU_play_85 : decode prog_1_method_9_code 85 = .ok (.getfield 10, 3) := by decide +kernel
theorem d_NU_play_88 : decode prog_1_method_9_code 88 = .ok (.iload_n 3, 1) := by decide +kernel
theorem d_NU_play_89 : decode prog_1_method_9_code 89 = .ok (.iload 5, 2) := by decide +kernel
theorem d_NU_play_91 : decode prog_1_method_9_code 91 = .ok (.invokevirtual 94, 3) := by decide +kernel
theorem d_NU_play_94 : decode prog_1_method_9_code 94 = .ok (.ifCond .ne 11, 3) := by decide +kernel
theorem d_NU_play_97 : decode prog_1_method_9_code 97 = .ok (.new 57, 3) := by decide +kernel
theorem d_NU_play_100 : decode prog_1_method_9_code 100 = .ok (.dup, 1) := by decide +kernel
theorem d_NU_play_101 : decode prog_1_method_9_code 101 = .ok (.invokespecial 59, 3) := by decide +kernel
theorem d_NU_play_104 : decode prog_1_method_9_code 104 = .ok (.athrow, 1) := by decide +kernel
theorem d_NU_play_105 : decode prog_1_method_9_code 105 = .ok (.aload_n 0, 1) := by decide +kernel
theorem d_NU_play_106 : decode prog_1_method_9_code 106 = .ok (.getfield 10, 3) := by decide +kernel
theorem d_NU_play_109 : decode prog_1_method_9_code 109 = .ok (.iload_n 3, 1) := by decide +kernel
theorem d_NU_play_110 : decode prog_1_method_9_code 110 = .ok (.iload 5, 2) := by decide +kernel
theorem d_NU_play_112 : decode prog_1_method_9_code 112 = .ok (.invokevirtual 98, 3) := by decide +kernel
theorem d_NU_play_115 : decode prog_1_method_9_code 115 = .ok (.istore_n 3, 1) := by decide +kernel
theorem d_NU_play_116 : decode prog_1_method_9_code 116 = .ok (.iinc 4 1, 3) := by decide +kernel
theorem d_NU_play_119 : decode prog_1_method_9_code 119 = .ok (.goto (-52), 3) := by decide +kernel
theorem d_NU_play_122 : decode prog_1_method_9_code 122 = .ok (.iload_n 3, 1) := by decide +kernel
theorem d_NU_play_123 : decode prog_1_method_9_code 123 = .ok (.ireturn, 1) := by decide +kernel
