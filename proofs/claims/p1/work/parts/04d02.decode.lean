theorem d_NU_condition_64 : decode prog_1_method_13_code 64 = .ok (.aload_n 0, 1) := by decide +kernel
theorem d_NU_condition_65 : decode prog_1_method_13_code 65 = .ok (.getfield 19, 3) := by decide +kernel
theorem d_NU_condition_68 : decode prog_1_method_13_code 68 = .ok (.getfield 137, 3) := by decide +kernel
theorem d_NU_condition_71 : decode prog_1_method_13_code 71 = .ok (.iload_n 1, 1) := by decide +kernel
theorem d_NU_condition_72 : decode prog_1_method_13_code 72 = .ok (.iaload, 1) := by decide +kernel
theorem d_NU_condition_73 : decode prog_1_method_13_code 73 = .ok (.invokestatic 110, 3) := by decide +kernel
theorem d_NU_condition_76 : decode prog_1_method_13_code 76 = .ok (.ireturn, 1) := by decide +kernel
theorem d_NU_condition_77 : decode prog_1_method_13_code 77 = .ok (.iconst (-1), 1) := by decide +kernel
theorem d_NU_condition_78 : decode prog_1_method_13_code 78 = .ok (.ireturn, 1) := by decide +kernel
theorem d_NU_concurrent_0 : decode prog_1_method_14_code 0 = .ok (.iload_n 1, 1) := by decide +kernel
theorem d_NU_concurrent_1 : decode prog_1_method_14_code 1 = .ok (.ifCond .lt 29, 3) := by decide +kernel
theorem d_NU_concurrent_4 : decode prog_1_method_14_code 4 = .ok (.iload_n 1, 1) := by decide +kernel
theorem d_NU_concurrent_5 : decode prog_1_method_14_code 5 = .ok (.aload_n 0, 1) := by decide +kernel
theorem d_NU_concurrent_6 : decode prog_1_method_14_code 6 = .ok (.getfield 19, 3) := by decide +kernel
theorem d_NU_concurrent_9 : decode prog_1_method_14_code 9 = .ok (.getfield 104, 3) := by decide +kernel
theorem d_NU_concurrent_12 : decode prog_1_method_14_code 12 = .ok (.if_icmp .ge 18, 3) := by decide +kernel
theorem d_NU_concurrent_15 : decode prog_1_method_14_code 15 = .ok (.iload_n 2, 1) := by decide +kernel
theorem d_NU_concurrent_16 : decode prog_1_method_14_code 16 = .ok (.ifCond .lt 14, 3) := by decide +kernel
theorem d_NU_concurrent_19 : decode prog_1_method_14_code 19 = .ok (.iload_n 2, 1) := by decide +kernel
theorem d_NU_concurrent_20 : decode prog_1_method_14_code 20 = .ok (.aload_n 0, 1) := by decide +kernel
theorem d_NU_concurrent_21 : decode prog_1_method_14_code 21 = .ok (.getfield 19, 3) := by decide +kernel
theorem d_NU_concurrent_24 : decode prog_1_method_14_code 24 = .ok (.getfield 104, 3) := by decide +kernel
theorem d_NU_concurrent_27 : decode prog_1_method_14_code 27 = .ok (.if_icmp .lt 5, 3) := by decide +kernel
theorem d_NU_concurrent_30 : decode prog_1_method_14_code 30 = .ok (.iconst 0, 1) := by decide +kernel
theorem d_NU_concurrent_31 : decode prog_1_method_14_code 31 = .ok (.ireturn, 1) := by decide +kernel
theorem d_NU_concurrent_32 : decode prog_1_method_14_code 32 = .ok (.aload_n 0, 1) := by decide +kernel
theorem d_NU_concurrent_33 : decode prog_1_method_14_code 33 = .ok (.getfield 19, 3) := by decide +kernel
theorem d_NU_concurrent_36 : decode prog_1_method_14_code 36 = .ok (.getfield 140, 3) := by decide +kernel
theorem d_NU_concurrent_39 : decode prog_1_method_14_code 39 = .ok (.iload_n 1, 1) := by decide +kernel
theorem d_NU_concurrent_40 : decode prog_1_method_14_code 40 = .ok (.laload, 1) := by decide +kernel
theorem d_NU_concurrent_41 : decode prog_1_method_14_code 41 = .ok (.iload_n 2, 1) := by decide +kernel
theorem d_NU_concurrent_42 : decode prog_1_method_14_code 42 = .ok (.invokestatic 144, 3) := by decide +kernel
theorem d_NU_concurrent_45 : decode prog_1_method_14_code 45 = .ok (.ireturn, 1) := by decide +kernel
theorem d_NU_reach_0 : decode prog_1_method_6_code 0 = .ok (.iload_n 1, 1) := by decide +kernel
theorem d_NU_reach_1 : decode prog_1_method_6_code 1 = .ok (.invokestatic 46, 3) := by decide +kernel
theorem d_NU_reach_4 : decode prog_1_method_6_code 4 = .ok (.ifCond .ne 11, 3) := by decide +kernel
theorem d_NU_reach_7 : decode prog_1_method_6_code 7 = .ok (.new 50, 3) := by decide +kernel
theorem d_NU_reach_10 : decode prog_1_method_6_code 10 = .ok (.dup, 1) := by decide +kernel
theorem d_NU_reach_11 : decode prog_1_method_6_code 11 = .ok (.invokespecial 52, 3) := by decide +kernel
theorem d_NU_reach_14 : decode prog_1_method_6_code 14 = .ok (.athrow, 1) := by decide +kernel
theorem d_NU_reach_15 : decode prog_1_method_6_code 15 = .ok (.aload_n 0, 1) := by decide +kernel
theorem d_NU_reach_16 : decode prog_1_method_6_code 16 = .ok (.getfield 19, 3) := by decide +kernel
theorem d_NU_reach_19 : decode prog_1_method_6_code 19 = .ok (.getfield 77, 3) := by decide +kernel
theorem d_NU_reach_22 : decode prog_1_method_6_code 22 = .ok (.ifCond .ne 11, 3) := by decide +kernel
theorem d_NU_reach_25 : decode prog_1_method_6_code 25 = .ok (.new 57, 3) := by decide +kernel
theorem d_NU_reach_28 : decode prog_1_method_6_code 28 = .ok (.dup, 1) := by decide +kernel
theorem d_NU_reach_29 : decode prog_1_method_6_code 29 = .ok (.invokespecial 59, 3) := by decide +kernel
theorem d_NU_reach_32 : decode prog_1_method_6_code 32 = .ok (.athrow, 1) := by decide +kernel
theorem d_NU_reach_33 : decode prog_1_method_6_code 33 = .ok (.aload_n 0, 1) := by decide +kernel
theorem d_NU_reach_34 : decode prog_1_method_6_code 34 = .ok (.getfield 42, 3) := by decide +kernel
theorem d_NU_reach_37 : decode prog_1_method_6_code 37 = .ok (.iload_n 1, 1) := by decide +kernel
theorem d_NU_reach_38 : decode prog_1_method_6_code 38 = .ok (.invokevirtual 81, 3) := by decide +kernel
theorem d_NU_reach_41 : decode prog_1_method_6_code 41 = .ok (.ireturn, 1) := by decide +kernel
theorem d_NU_deadlock_0 : decode prog_1_method_7_code 0 = .ok (.aload_n 0, 1) := by decide +kernel
theorem d_NU_deadlock_1 : decode prog_1_method_7_code 1 = .ok (.getfield 19, 3) := by decide +kernel
theorem d_NU_deadlock_4 : decode prog_1_method_7_code 4 = .ok (.getfield 77, 3) := by decide +kernel
theorem d_NU_deadlock_7 : decode prog_1_method_7_code 7 = .ok (.ifCond .ne 11, 3) := by decide +kernel
theorem d_NU_deadlock_10 : decode prog_1_method_7_code 10 = .ok (.new 57, 3) := by decide +kernel
theorem d_NU_deadlock_13 : decode prog_1_method_7_code 13 = .ok (.dup, 1) := by decide +kernel
theorem d_NU_deadlock_14 : decode prog_1_method_7_code 14 = .ok (.invokespecial 59, 3) := by decide +kernel
theorem d_NU_deadlock_17 : decode prog_1_method_7_code 17 = .ok (.athrow, 1) := by decide +kernel
theorem d_NU_deadlock_18 : decode prog_1_method_7_code 18 = .ok (.aload_n 0, 1) := by decide +kernel
theorem d_NU_deadlock_19 : decode prog_1_method_7_code 19 = .ok (.getfield 42, 3) := by decide +kernel
theorem d_NU_deadlock_22 : decode prog_1_method_7_code 22 = .ok (.invokevirtual 85, 3) := by decide +kernel
theorem d_NU_deadlock_25 : decode prog_1_method_7_code 25 = .ok (.ireturn, 1) := by decide +kernel
theorem d_NU_play_0 : decode prog_1_method_9_code 0 = .ok (.aload_n 0, 1) := by decide +kernel
theorem d_NU_play_1 : decode prog_1_method_9_code 1 = .ok (.getfield 26, 3) := by decide +kernel
theorem d_NU_play_4 : decode prog_1_method_9_code 4 = .ok (.getfield 91, 3) := by decide +kernel
theorem d_NU_play_7 : decode prog_1_method_9_code 7 = .ok (.iconst (-1), 1) := by decide +kernel
theorem d_NU_play_8 : decode prog_1_method_9_code 8 = .ok (.if_icmp .eq 7, 3) := by decide +kernel
theorem d_NU_play_11 : decode prog_1_method_9_code 11 = .ok (.iconst 1, 1) := by decide +kernel
theorem d_NU_play_12 : decode prog_1_method_9_code 12 = .ok (.goto 4, 3) := by decide +kernel
theorem d_NU_play_15 : decode prog_1_method_9_code 15 = .ok (.iconst 0, 1) := by decide +kernel
theorem d_NU_play_16 : decode prog_1_method_9_code 16 = .ok (.istore_n 2, 1) := by decide +kernel
theorem d_NU_play_17 : decode prog_1_method_9_code 17 = .ok (.iload_n 1, 1) := by decide +kernel
theorem d_NU_play_18 : decode prog_1_method_9_code 18 = .ok (.ifCond .lt 18, 3) := by decide +kernel
theorem d_NU_play_21 : decode prog_1_method_9_code 21 = .ok (.iload_n 2, 1) := by decide +kernel
theorem d_NU_play_22 : decode prog_1_method_9_code 22 = .ok (.ifCond .eq 22, 3) := by decide +kernel
theorem d_NU_play_25 : decode prog_1_method_9_code 25 = .ok (.iload_n 1, 1) := by decide +kernel
theorem d_NU_play_26 : decode prog_1_method_9_code 26 = .ok (.aload_n 0, 1) := by decide +kernel
theorem d_NU_play_27 : decode prog_1_method_9_code 27 = .ok (.getfield 26, 3) := by decide +kernel
theorem d_NU_play_30 : decode prog_1_method_9_code 30 = .ok (.getfield 91, 3) := by decide +kernel
theorem d_NU_play_33 : decode prog_1_method_9_code 33 = .ok (.if_icmp .le 11, 3) := by decide +kernel
theorem d_NU_play_36 : decode prog_1_method_9_code 36 = .ok (.new 50, 3) := by decide +kernel
theorem d_NU_play_39 : decode prog_1_method_9_code 39 = .ok (.dup, 1) := by decide +kernel
theorem d_NU_play_40 : decode prog_1_method_9_code 40 = .ok (.invokespecial 52, 3) := by decide +kernel
theorem d_NU_play_43 : decode prog_1_method_9_code 43 = .ok (.athrow, 1) := by decide +kernel
theorem d_NU_play_44 : decode prog_1_method_9_code 44 = .ok (.iload_n 2, 1) := by decide +kernel
theorem d_NU_play_45 : decode prog_1_method_9_code 45 = .ok (.ifCond .ne 11, 3) := by decide +kernel
theorem d_NU_play_48 : decode prog_1_method_9_code 48 = .ok (.new 57, 3) := by decide +kernel
theorem d_NU_play_51 : decode prog_1_method_9_code 51 = .ok (.dup, 1) := by decide +kernel
theorem d_NU_play_52 : decode prog_1_method_9_code 52 = .ok (.invokespecial 59, 3) := by decide +kernel
theorem d_NU_play_55 : decode prog_1_method_9_code 55 = .ok (.athrow, 1) := by decide +kernel
theorem d_NU_play_56 : decode prog_1_method_9_code 56 = .ok (.aload_n 0, 1) := by decide +kernel
theorem d_NU_play_57 : decode prog_1_method_9_code 57 = .ok (.getfield 10, 3) := by decide +kernel
theorem d_NU_play_60 : decode prog_1_method_9_code 60 = .ok (.getfield 67, 3) := by decide +kernel
theorem d_NU_play_63 : decode prog_1_method_9_code 63 = .ok (.istore_n 3, 1) := by decide +kernel
theorem d_NU_play_64 : decode prog_1_method_9_code 64 = .ok (.iconst 0, 1) := by decide +kernel
theorem d_NU_play_65 : decode prog_1_method_9_code 65 = .ok (.istore 4, 2) := by decide +kernel
theorem d_NU_play_67 : decode prog_1_method_9_code 67 = .ok (.iload 4, 2) := by decide +kernel
theorem d_NU_play_69 : decode prog_1_method_9_code 69 = .ok (.iload_n 1, 1) := by decide +kernel
theorem d_NU_play_70 : decode prog_1_method_9_code 70 = .ok (.if_icmp .ge 52, 3) := by decide +kernel
theorem d_NU_play_73 : decode prog_1_method_9_code 73 = .ok (.aload_n 0, 1) := by decide +kernel
theorem d_NU_play_74 : decode prog_1_method_9_code 74 = .ok (.getfield 26, 3) := by decide +kernel
theorem d_NU_play_77 : decode prog_1_method_9_code 77 = .ok (.iload 4, 2) := by decide +kernel
theorem d_NU_play_79 : decode prog_1_method_9_code 79 = .ok (.invokevirtual 88, 3) := by decide +kernel
theorem d_NU_play_82 : decode prog_1_method_9_code 82 = .ok (.istore 5, 2) := by decide +kernel
theorem d_NU_play_84 : decode prog_1_method_9_code 84 = .ok (.aload_n 0, 1) := by decide +kernel
theorem d_NU_play_85 : decode prog_1_method_9_code 85 = .ok (.getfield 10, 3) := by decide +kernel
theorem d_NU_play_88 : decode prog_1_method_9_code 88 = .ok (.iload_n 3, 1) := by decide +kernel
theorem d_NU_play_89 : decode prog_1_method_9_code 89 = .ok (.iload 5, 2) := by decide +kernel
theorem d_NU_play_91 : decode prog_1_method_9_code 91 = .ok (.invokevirtual 94, 3) := by decide +kernel
theorem d_NU_play_94 : decode prog_1_method_9_code 94 = .ok (.ifCond .ne 11, 3) := by decide +kernel
theorem d_NU_play_97 : decode prog_1_method_9_code 97 = .ok (.new 57, 3) := by decide +kernel
theorem d_NU_play_100 : decode prog_1_method_9_code 100 = .ok (.dup, 1) := by decide +kernel
theorem d_NU_play_101 : decode prog_1_method_9_code 101 = .ok (.invokespecial 59, 3) := by decide +kernel
theorem d_NU_play_104 : decode prog_1_method_9_code 104 = .ok (.athrow, 1) := by decide +kernel
theorem d_NU_play_105 : decode prog_1_method_9_code 105 = .ok (.aload_n 0, 1) := by decide +kernel
theorem d_NU_play_106 : decode prog_1_method_9_code 106 = .ok (.getfield 10, 3) := by decide +kernel
theorem d_NU_play_109 : decode prog_1_method_9_code 109 = .ok (.iload_n 3, 1) := by decide +kernel
theorem d_NU_play_110 : decode prog_1_method_9_code 110 = .ok (.iload 5, 2) := by decide +kernel
theorem d_NU_play_112 : decode prog_1_method_9_code 112 = .ok (.invokevirtual 98, 3) := by decide +kernel
theorem d_NU_play_115 : decode prog_1_method_9_code 115 = .ok (.istore_n 3, 1) := by decide +kernel
theorem d_NU_play_116 : decode prog_1_method_9_code 116 = .ok (.iinc 4 1, 3) := by decide +kernel
theorem d_NU_play_119 : decode prog_1_method_9_code 119 = .ok (.goto (-52), 3) := by decide +kernel
theorem d_NU_play_122 : decode prog_1_method_9_code 122 = .ok (.iload_n 3, 1) := by decide +kernel
theorem d_NU_play_123 : decode prog_1_method_9_code 123 = .ok (.ireturn, 1) := by decide +kernel
theorem d_Mo_thrown_0 : decode prog_11_method_2_code 0 = .ok (.aload_n 0, 1) := by decide +kernel
theorem d_Mo_thrown_1 : decode prog_11_method_2_code 1 = .ok (.getfield 67, 3) := by decide +kernel
theorem d_Mo_thrown_4 : decode prog_11_method_2_code 4 = .ok (.ireturn, 1) := by decide +kernel
theorem d_Mo_forget_0 : decode prog_11_method_6_code 0 = .ok (.aload_n 0, 1) := by decide +kernel
theorem d_Mo_forget_1 : decode prog_11_method_6_code 1 = .ok (.iconst 0, 1) := by decide +kernel
theorem d_Mo_forget_2 : decode prog_11_method_6_code 2 = .ok (.putfield 70, 3) := by decide +kernel
theorem d_Mo_forget_5 : decode prog_11_method_6_code 5 = .ok (.aload_n 0, 1) := by decide +kernel
theorem d_Mo_forget_6 : decode prog_11_method_6_code 6 = .ok (.iconst 0, 1) := by decide +kernel
theorem d_Mo_forget_7 : decode prog_11_method_6_code 7 = .ok (.putfield 73, 3) := by decide +kernel
theorem d_Mo_forget_10 : decode prog_11_method_6_code 10 = .ok (.aload_n 0, 1) := by decide +kernel
theorem d_Mo_forget_11 : decode prog_11_method_6_code 11 = .ok (.iconst 0, 1) := by decide +kernel
theorem d_Mo_forget_12 : decode prog_11_method_6_code 12 = .ok (.putfield 76, 3) := by decide +kernel
theorem d_Mo_forget_15 : decode prog_11_method_6_code 15 = .ok (.aload_n 0, 1) := by decide +kernel
theorem d_Mo_forget_16 : decode prog_11_method_6_code 16 = .ok (.iconst (-1), 1) := by decide +kernel
theorem d_Mo_forget_17 : decode prog_11_method_6_code 17 = .ok (.putfield 63, 3) := by decide +kernel
theorem d_Mo_forget_20 : decode prog_11_method_6_code 20 = .ok (.return_, 1) := by decide +kernel
theorem d_Mo_refuse_0 : decode prog_11_method_3_code 0 = .ok (.aload_n 0, 1) := by decide +kernel
theorem d_Mo_refuse_1 : decode prog_11_method_3_code 1 = .ok (.iload_n 1, 1) := by decide +kernel
theorem d_Mo_refuse_2 : decode prog_11_method_3_code 2 = .ok (.putfield 67, 3) := by decide +kernel
theorem d_Mo_refuse_5 : decode prog_11_method_3_code 5 = .ok (.iconst 0, 1) := by decide +kernel
theorem d_Mo_refuse_6 : decode prog_11_method_3_code 6 = .ok (.ireturn, 1) := by decide +kernel
theorem d_Mo_transition_0 : decode prog_11_method_7_code 0 = .ok (.aload_n 0, 1) := by decide +kernel
theorem d_Mo_transition_1 : decode prog_11_method_7_code 1 = .ok (.iload_n 1, 1) := by decide +kernel
theorem d_Mo_transition_2 : decode prog_11_method_7_code 2 = .ok (.iconst 1, 1) := by decide +kernel
theorem d_Mo_transition_3 : decode prog_11_method_7_code 3 = .ok (.sipush 255, 3) := by decide +kernel
theorem d_Mo_transition_6 : decode prog_11_method_7_code 6 = .ok (.invokestatic 80, 3) := by decide +kernel
theorem d_Mo_transition_9 : decode prog_11_method_7_code 9 = .ok (.ifCond .ne 14, 3) := by decide +kernel
theorem d_Mo_transition_12 : decode prog_11_method_7_code 12 = .ok (.iload_n 2, 1) := by decide +kernel
theorem d_Mo_transition_13 : decode prog_11_method_7_code 13 = .ok (.iconst 0, 1) := by decide +kernel
theorem d_Mo_transition_14 : decode prog_11_method_7_code 14 = .ok (.sipush 255, 3) := by decide +kernel
theorem d_Mo_transition_17 : decode prog_11_method_7_code 17 = .ok (.invokestatic 80, 3) := by decide +kernel
theorem d_Mo_transition_20 : decode prog_11_method_7_code 20 = .ok (.ifCond .eq 7, 3) := by decide +kernel
theorem d_Mo_transition_23 : decode prog_11_method_7_code 23 = .ok (.iconst 1, 1) := by decide +kernel
theorem d_Mo_transition_24 : decode prog_11_method_7_code 24 = .ok (.goto 17, 3) := by decide +kernel
theorem d_Mo_transition_27 : decode prog_11_method_7_code 27 = .ok (.aload_n 0, 1) := by decide +kernel
theorem d_Mo_transition_28 : decode prog_11_method_7_code 28 = .ok (.getfield 84, 3) := by decide +kernel
theorem d_Mo_transition_31 : decode prog_11_method_7_code 31 = .ok (.bipush 8, 2) := by decide +kernel
theorem d_Mo_transition_33 : decode prog_11_method_7_code 33 = .ok (.if_icmp .ne 7, 3) := by decide +kernel
theorem d_Mo_transition_36 : decode prog_11_method_7_code 36 = .ok (.iconst 2, 1) := by decide +kernel
theorem d_Mo_transition_37 : decode prog_11_method_7_code 37 = .ok (.goto 4, 3) := by decide +kernel
theorem d_Mo_transition_40 : decode prog_11_method_7_code 40 = .ok (.iconst 0, 1) := by decide +kernel
theorem d_Mo_transition_41 : decode prog_11_method_7_code 41 = .ok (.putfield 67, 3) := by decide +kernel
theorem d_Mo_transition_44 : decode prog_11_method_7_code 44 = .ok (.aload_n 0, 1) := by decide +kernel
theorem d_Mo_transition_45 : decode prog_11_method_7_code 45 = .ok (.getfield 67, 3) := by decide +kernel
theorem d_Mo_transition_48 : decode prog_11_method_7_code 48 = .ok (.ifCond .eq 5, 3) := by decide +kernel
theorem d_Mo_transition_51 : decode prog_11_method_7_code 51 = .ok (.iconst 0, 1) := by decide +kernel
theorem d_Mo_transition_52 : decode prog_11_method_7_code 52 = .ok (.ireturn, 1) := by decide +kernel
theorem d_Mo_transition_53 : decode prog_11_method_7_code 53 = .ok (.aload_n 0, 1) := by decide +kernel
theorem d_Mo_transition_54 : decode prog_11_method_7_code 54 = .ok (.getfield 7, 3) := by decide +kernel
theorem d_Mo_transition_57 : decode prog_11_method_7_code 57 = .ok (.aload_n 0, 1) := by decide +kernel
theorem d_Mo_transition_58 : decode prog_11_method_7_code 58 = .ok (.getfield 84, 3) := by decide +kernel
theorem d_Mo_transition_61 : decode prog_11_method_7_code 61 = .ok (.iload_n 1, 1) := by decide +kernel
theorem d_Mo_transition_62 : decode prog_11_method_7_code 62 = .ok (.iastore, 1) := by decide +kernel
theorem d_Mo_transition_63 : decode prog_11_method_7_code 63 = .ok (.aload_n 0, 1) := by decide +kernel
theorem d_Mo_transition_64 : decode prog_11_method_7_code 64 = .ok (.getfield 13, 3) := by decide +kernel
theorem d_Mo_transition_67 : decode prog_11_method_7_code 67 = .ok (.aload_n 0, 1) := by decide +kernel
theorem d_Mo_transition_68 : decode prog_11_method_7_code 68 = .ok (.getfield 84, 3) := by decide +kernel
theorem d_Mo_transition_71 : decode prog_11_method_7_code 71 = .ok (.iload_n 2, 1) := by decide +kernel
theorem d_Mo_transition_72 : decode prog_11_method_7_code 72 = .ok (.iastore, 1) := by decide +kernel
theorem d_Mo_transition_73 : decode prog_11_method_7_code 73 = .ok (.aload_n 0, 1) := by decide +kernel
theorem d_Mo_transition_74 : decode prog_11_method_7_code 74 = .ok (.dup, 1) := by decide +kernel
theorem d_Mo_transition_75 : decode prog_11_method_7_code 75 = .ok (.getfield 84, 3) := by decide +kernel
theorem d_Mo_transition_78 : decode prog_11_method_7_code 78 = .ok (.iconst 1, 1) := by decide +kernel
theorem d_Mo_transition_79 : decode prog_11_method_7_code 79 = .ok (.iadd, 1) := by decide +kernel
theorem d_Mo_transition_80 : decode prog_11_method_7_code 80 = .ok (.putfield 84, 3) := by decide +kernel
theorem d_Mo_transition_83 : decode prog_11_method_7_code 83 = .ok (.aload_n 0, 1) := by decide +kernel
theorem d_Mo_transition_84 : decode prog_11_method_7_code 84 = .ok (.invokevirtual 87, 3) := by decide +kernel
theorem d_Mo_transition_87 : decode prog_11_method_7_code 87 = .ok (.aload_n 0, 1) := by decide +kernel
theorem d_Mo_transition_88 : decode prog_11_method_7_code 88 = .ok (.getfield 84, 3) := by decide +kernel
theorem d_Mo_transition_91 : decode prog_11_method_7_code 91 = .ok (.iconst 1, 1) := by decide +kernel
theorem d_Mo_transition_92 : decode prog_11_method_7_code 92 = .ok (.isub, 1) := by decide +kernel
theorem d_Mo_transition_93 : decode prog_11_method_7_code 93 = .ok (.ireturn, 1) := by decide +kernel
theorem d_Mo_first_0 : decode prog_11_method_8_code 0 = .ok (.aload_n 0, 1) := by decide +kernel
theorem d_Mo_first_1 : decode prog_11_method_8_code 1 = .ok (.iload_n 1, 1) := by decide +kernel
theorem d_Mo_first_2 : decode prog_11_method_8_code 2 = .ok (.iconst 0, 1) := by decide +kernel
theorem d_Mo_first_3 : decode prog_11_method_8_code 3 = .ok (.sipush 255, 3) := by decide +kernel
theorem d_Mo_first_6 : decode prog_11_method_8_code 6 = .ok (.invokestatic 80, 3) := by decide +kernel
theorem d_Mo_first_9 : decode prog_11_method_8_code 9 = .ok (.ifCond .eq 7, 3) := by decide +kernel
theorem d_Mo_first_12 : decode prog_11_method_8_code 12 = .ok (.iconst 1, 1) := by decide +kernel
theorem d_Mo_first_13 : decode prog_11_method_8_code 13 = .ok (.goto 4, 3) := by decide +kernel
theorem d_Mo_first_16 : decode prog_11_method_8_code 16 = .ok (.iconst 0, 1) := by decide +kernel
theorem d_Mo_first_17 : decode prog_11_method_8_code 17 = .ok (.putfield 67, 3) := by decide +kernel
theorem d_Mo_first_20 : decode prog_11_method_8_code 20 = .ok (.aload_n 0, 1) := by decide +kernel
theorem d_Mo_first_21 : decode prog_11_method_8_code 21 = .ok (.getfield 67, 3) := by decide +kernel
theorem d_Mo_first_24 : decode prog_11_method_8_code 24 = .ok (.ifCond .eq 4, 3) := by decide +kernel
theorem d_Mo_first_27 : decode prog_11_method_8_code 27 = .ok (.return_, 1) := by decide +kernel
theorem d_Mo_first_28 : decode prog_11_method_8_code 28 = .ok (.aload_n 0, 1) := by decide +kernel
theorem d_Mo_first_29 : decode prog_11_method_8_code 29 = .ok (.iload_n 1, 1) := by decide +kernel
theorem d_Mo_first_30 : decode prog_11_method_8_code 30 = .ok (.putfield 90, 3) := by decide +kernel
theorem d_Mo_first_33 : decode prog_11_method_8_code 33 = .ok (.aload_n 0, 1) := by decide +kernel
theorem d_Mo_first_34 : decode prog_11_method_8_code 34 = .ok (.invokevirtual 87, 3) := by decide +kernel
theorem d_Mo_first_37 : decode prog_11_method_8_code 37 = .ok (.return_, 1) := by decide +kernel
theorem d_Mo_clear_0 : decode prog_11_method_9_code 0 = .ok (.aload_n 0, 1) := by decide +kernel
theorem d_Mo_clear_1 : decode prog_11_method_9_code 1 = .ok (.iconst 0, 1) := by decide +kernel
theorem d_Mo_clear_2 : decode prog_11_method_9_code 2 = .ok (.putfield 67, 3) := by decide +kernel
theorem d_Mo_clear_5 : decode prog_11_method_9_code 5 = .ok (.aload_n 0, 1) := by decide +kernel
theorem d_Mo_clear_6 : decode prog_11_method_9_code 6 = .ok (.iconst 0, 1) := by decide +kernel
theorem d_Mo_clear_7 : decode prog_11_method_9_code 7 = .ok (.putfield 84, 3) := by decide +kernel
theorem d_Mo_clear_10 : decode prog_11_method_9_code 10 = .ok (.aload_n 0, 1) := by decide +kernel
theorem d_Mo_clear_11 : decode prog_11_method_9_code 11 = .ok (.iconst 0, 1) := by decide +kernel
theorem d_Mo_clear_12 : decode prog_11_method_9_code 12 = .ok (.putfield 90, 3) := by decide +kernel
theorem d_Mo_clear_15 : decode prog_11_method_9_code 15 = .ok (.aload_n 0, 1) := by decide +kernel
theorem d_Mo_clear_16 : decode prog_11_method_9_code 16 = .ok (.invokevirtual 87, 3) := by decide +kernel
theorem d_Mo_clear_19 : decode prog_11_method_9_code 19 = .ok (.return_, 1) := by decide +kernel
theorem d_Mo_search_0 : decode prog_11_method_24_code 0 = .ok (.aload_n 0, 1) := by decide +kernel
theorem d_Mo_search_1 : decode prog_11_method_24_code 1 = .ok (.iconst 0, 1) := by decide +kernel
theorem d_Mo_search_2 : decode prog_11_method_24_code 2 = .ok (.putfield 122, 3) := by decide +kernel
theorem d_Mo_search_5 : decode prog_11_method_24_code 5 = .ok (.iconst 0, 1) := by decide +kernel
theorem d_Mo_search_6 : decode prog_11_method_24_code 6 = .ok (.istore_n 1, 1) := by decide +kernel
theorem d_Mo_search_7 : decode prog_11_method_24_code 7 = .ok (.iload_n 1, 1) := by decide +kernel
theorem d_Mo_search_8 : decode prog_11_method_24_code 8 = .ok (.aload_n 0, 1) := by decide +kernel
theorem d_Mo_search_9 : decode prog_11_method_24_code 9 = .ok (.getfield 84, 3) := by decide +kernel
theorem d_Mo_search_12 : decode prog_11_method_24_code 12 = .ok (.if_icmp .ge 14, 3) := by decide +kernel
theorem d_Mo_search_15 : decode prog_11_method_24_code 15 = .ok (.aload_n 0, 1) := by decide +kernel
theorem d_Mo_search_16 : decode prog_11_method_24_code 16 = .ok (.iload_n 1, 1) := by decide +kernel
theorem d_Mo_search_17 : decode prog_11_method_24_code 17 = .ok (.invokevirtual 158, 3) := by decide +kernel
theorem d_Mo_search_20 : decode prog_11_method_24_code 20 = .ok (.iinc 1 1, 3) := by decide +kernel
theorem d_Mo_search_23 : decode prog_11_method_24_code 23 = .ok (.goto (-16), 3) := by decide +kernel
theorem d_Mo_search_26 : decode prog_11_method_24_code 26 = .ok (.iconst 0, 1) := by decide +kernel
theorem d_Mo_search_27 : decode prog_11_method_24_code 27 = .ok (.istore_n 1, 1) := by decide +kernel
theorem d_Mo_search_28 : decode prog_11_method_24_code 28 = .ok (.iload_n 1, 1) := by decide +kernel
theorem d_Mo_search_29 : decode prog_11_method_24_code 29 = .ok (.aload_n 0, 1) := by decide +kernel
theorem d_Mo_search_30 : decode prog_11_method_24_code 30 = .ok (.getfield 140, 3) := by decide +kernel
theorem d_Mo_search_33 : decode prog_11_method_24_code 33 = .ok (.if_icmp .ge 28, 3) := by decide +kernel
theorem d_Mo_search_36 : decode prog_11_method_24_code 36 = .ok (.aload_n 0, 1) := by decide +kernel
theorem d_Mo_search_37 : decode prog_11_method_24_code 37 = .ok (.getfield 122, 3) := by decide +kernel
theorem d_Mo_search_40 : decode prog_11_method_24_code 40 = .ok (.ifCond .le 21, 3) := by decide +kernel
theorem d_Mo_search_43 : decode prog_11_method_24_code 43 = .ok (.aload_n 0, 1) := by decide +kernel
theorem d_Mo_search_44 : decode prog_11_method_24_code 44 = .ok (.getfield 51, 3) := by decide +kernel
theorem d_Mo_search_47 : decode prog_11_method_24_code 47 = .ok (.iload_n 1, 1) := by decide +kernel
theorem d_Mo_search_48 : decode prog_11_method_24_code 48 = .ok (.aload_n 0, 1) := by decide +kernel
theorem d_Mo_search_49 : decode prog_11_method_24_code 49 = .ok (.getfield 57, 3) := by decide +kernel
theorem d_Mo_search_52 : decode prog_11_method_24_code 52 = .ok (.iload_n 1, 1) := by decide +kernel
theorem d_Mo_search_53 : decode prog_11_method_24_code 53 = .ok (.iaload, 1) := by decide +kernel
theorem d_Mo_search_54 : decode prog_11_method_24_code 54 = .ok (.iastore, 1) := by decide +kernel
theorem d_Mo_search_55 : decode prog_11_method_24_code 55 = .ok (.iinc 1 1, 3) := by decide +kernel
theorem d_Mo_search_58 : decode prog_11_method_24_code 58 = .ok (.goto (-30), 3) := by decide +kernel
theorem d_Mo_search_61 : decode prog_11_method_24_code 61 = .ok (.return_, 1) := by decide +kernel
theorem d_Mo_unfold_0 : decode prog_11_method_29_code 0 = .ok (.aload_n 0, 1) := by decide +kernel
theorem d_Mo_unfold_1 : decode prog_11_method_29_code 1 = .ok (.iconst 0, 1) := by decide +kernel
theorem d_Mo_unfold_2 : decode prog_11_method_29_code 2 = .ok (.putfield 67, 3) := by decide +kernel
theorem d_Mo_unfold_5 : decode prog_11_method_29_code 5 = .ok (.aload_n 0, 1) := by decide +kernel
theorem d_Mo_unfold_6 : decode prog_11_method_29_code 6 = .ok (.invokevirtual 87, 3) := by decide +kernel
theorem d_Mo_unfold_9 : decode prog_11_method_29_code 9 = .ok (.iconst 0, 1) := by decide +kernel
theorem d_Mo_unfold_10 : decode prog_11_method_29_code 10 = .ok (.istore_n 1, 1) := by decide +kernel
theorem d_Mo_unfold_11 : decode prog_11_method_29_code 11 = .ok (.iload_n 1, 1) := by decide +kernel
theorem d_Mo_unfold_12 : decode prog_11_method_29_code 12 = .ok (.bipush 8, 2) := by decide +kernel
theorem d_Mo_unfold_14 : decode prog_11_method_29_code 14 = .ok (.if_icmp .ge 28, 3) := by decide +kernel
theorem d_Mo_unfold_17 : decode prog_11_method_29_code 17 = .ok (.aload_n 0, 1) := by decide +kernel
theorem d_Mo_unfold_18 : decode prog_11_method_29_code 18 = .ok (.getfield 90, 3) := by decide +kernel
theorem d_Mo_unfold_21 : decode prog_11_method_29_code 21 = .ok (.iload_n 1, 1) := by decide +kernel
theorem d_Mo_unfold_22 : decode prog_11_method_29_code 22 = .ok (.ishr, 1) := by decide +kernel
theorem d_Mo_unfold_23 : decode prog_11_method_29_code 23 = .ok (.iconst 1, 1) := by decide +kernel
theorem d_Mo_unfold_24 : decode prog_11_method_29_code 24 = .ok (.iand, 1) := by decide +kernel
theorem d_Mo_unfold_25 : decode prog_11_method_29_code 25 = .ok (.iconst 1, 1) := by decide +kernel
theorem d_Mo_unfold_26 : decode prog_11_method_29_code 26 = .ok (.if_icmp .ne 10, 3) := by decide +kernel
theorem d_Mo_unfold_29 : decode prog_11_method_29_code 29 = .ok (.aload_n 0, 1) := by decide +kernel
theorem d_Mo_unfold_30 : decode prog_11_method_29_code 30 = .ok (.iload_n 1, 1) := by decide +kernel
theorem d_Mo_unfold_31 : decode prog_11_method_29_code 31 = .ok (.iconst (-1), 1) := by decide +kernel
theorem d_Mo_unfold_32 : decode prog_11_method_29_code 32 = .ok (.iconst 0, 1) := by decide +kernel
theorem d_Mo_unfold_33 : decode prog_11_method_29_code 33 = .ok (.invokevirtual 170, 3) := by decide +kernel
theorem d_Mo_unfold_36 : decode prog_11_method_29_code 36 = .ok (.iinc 1 1, 3) := by decide +kernel
theorem d_Mo_unfold_39 : decode prog_11_method_29_code 39 = .ok (.goto (-28), 3) := by decide +kernel
theorem d_Mo_unfold_42 : decode prog_11_method_29_code 42 = .ok (.aload_n 0, 1) := by decide +kernel
theorem d_Mo_unfold_43 : decode prog_11_method_29_code 43 = .ok (.invokevirtual 174, 3) := by decide +kernel
theorem d_Mo_unfold_46 : decode prog_11_method_29_code 46 = .ok (.aload_n 0, 1) := by decide +kernel
theorem d_Mo_unfold_47 : decode prog_11_method_29_code 47 = .ok (.getfield 122, 3) := by decide +kernel
theorem d_Mo_unfold_50 : decode prog_11_method_29_code 50 = .ok (.sipush 200, 3) := by decide +kernel
theorem d_Mo_unfold_53 : decode prog_11_method_29_code 53 = .ok (.if_icmp .gt 7, 3) := by decide +kernel
theorem d_Mo_unfold_56 : decode prog_11_method_29_code 56 = .ok (.iconst 1, 1) := by decide +kernel
theorem d_Mo_unfold_57 : decode prog_11_method_29_code 57 = .ok (.goto 4, 3) := by decide +kernel
theorem d_Mo_unfold_60 : decode prog_11_method_29_code 60 = .ok (.iconst 0, 1) := by decide +kernel
theorem d_Mo_unfold_61 : decode prog_11_method_29_code 61 = .ok (.istore_n 1, 1) := by decide +kernel
theorem d_Mo_unfold_62 : decode prog_11_method_29_code 62 = .ok (.iload_n 1, 1) := by decide +kernel
theorem d_Mo_unfold_63 : decode prog_11_method_29_code 63 = .ok (.ifCond .eq 116, 3) := by decide +kernel
theorem d_Mo_unfold_66 : decode prog_11_method_29_code 66 = .ok (.aload_n 0, 1) := by decide +kernel
theorem d_Mo_unfold_67 : decode prog_11_method_29_code 67 = .ok (.getfield 122, 3) := by decide +kernel
theorem d_Mo_unfold_70 : decode prog_11_method_29_code 70 = .ok (.ifCond .le 109, 3) := by decide +kernel
theorem d_Mo_unfold_73 : decode prog_11_method_29_code 73 = .ok (.aload_n 0, 1) := by decide +kernel
theorem d_Mo_unfold_74 : decode prog_11_method_29_code 74 = .ok (.invokevirtual 177, 3) := by decide +kernel
theorem d_Mo_unfold_77 : decode prog_11_method_29_code 77 = .ok (.istore_n 2, 1) := by decide +kernel
theorem d_Mo_unfold_78 : decode prog_11_method_29_code 78 = .ok (.iload_n 2, 1) := by decide +kernel
theorem d_Mo_unfold_79 : decode prog_11_method_29_code 79 = .ok (.iconst (-1), 1) := by decide +kernel
theorem d_Mo_unfold_80 : decode prog_11_method_29_code 80 = .ok (.if_icmp .eq 67, 3) := by decide +kernel
theorem d_Mo_unfold_83 : decode prog_11_method_29_code 83 = .ok (.aload_n 0, 1) := by decide +kernel
theorem d_Mo_unfold_84 : decode prog_11_method_29_code 84 = .ok (.iconst 0, 1) := by decide +kernel
theorem d_Mo_unfold_85 : decode prog_11_method_29_code 85 = .ok (.putfield 63, 3) := by decide +kernel
theorem d_Mo_unfold_88 : decode prog_11_method_29_code 88 = .ok (.aload_n 0, 1) := by decide +kernel
theorem d_Mo_unfold_89 : decode prog_11_method_29_code 89 = .ok (.aload_n 0, 1) := by decide +kernel
theorem d_Mo_unfold_90 : decode prog_11_method_29_code 90 = .ok (.getfield 22, 3) := by decide +kernel
theorem d_Mo_unfold_93 : decode prog_11_method_29_code 93 = .ok (.iload_n 2, 1) := by decide +kernel
theorem d_Mo_unfold_94 : decode prog_11_method_29_code 94 = .ok (.iaload, 1) := by decide +kernel
theorem d_Mo_unfold_95 : decode prog_11_method_29_code 95 = .ok (.i2l, 1) := by decide +kernel
theorem d_Mo_unfold_96 : decode prog_11_method_29_code 96 = .ok (.invokevirtual 181, 3) := by decide +kernel
theorem d_Mo_unfold_99 : decode prog_11_method_29_code 99 = .ok (.aload_n 0, 1) := by decide +kernel
theorem d_Mo_unfold_100 : decode prog_11_method_29_code 100 = .ok (.aload_n 0, 1) := by decide +kernel
theorem d_Mo_unfold_101 : decode prog_11_method_29_code 101 = .ok (.aload_n 0, 1) := by decide +kernel
theorem d_Mo_unfold_102 : decode prog_11_method_29_code 102 = .ok (.getfield 140, 3) := by decide +kernel
theorem d_Mo_unfold_105 : decode prog_11_method_29_code 105 = .ok (.invokevirtual 125, 3) := by decide +kernel
theorem d_Mo_unfold_108 : decode prog_11_method_29_code 108 = .ok (.aload_n 0, 1) := by decide +kernel
theorem d_Mo_unfold_109 : decode prog_11_method_29_code 109 = .ok (.getfield 22, 3) := by decide +kernel
theorem d_Mo_unfold_112 : decode prog_11_method_29_code 112 = .ok (.iload_n 2, 1) := by decide +kernel
theorem d_Mo_unfold_113 : decode prog_11_method_29_code 113 = .ok (.iaload, 1) := by decide +kernel
theorem d_Mo_unfold_114 : decode prog_11_method_29_code 114 = .ok (.iconst (-1), 1) := by decide +kernel
theorem d_Mo_unfold_115 : decode prog_11_method_29_code 115 = .ok (.ixor, 1) := by decide +kernel
theorem d_Mo_unfold_116 : decode prog_11_method_29_code 116 = .ok (.iand, 1) := by decide +kernel
theorem d_Mo_unfold_117 : decode prog_11_method_29_code 117 = .ok (.i2l, 1) := by decide +kernel
theorem d_Mo_unfold_118 : decode prog_11_method_29_code 118 = .ok (.invokevirtual 181, 3) := by decide +kernel
theorem d_Mo_unfold_121 : decode prog_11_method_29_code 121 = .ok (.aload_n 0, 1) := by decide +kernel
theorem d_Mo_unfold_122 : decode prog_11_method_29_code 122 = .ok (.getfield 60, 3) := by decide +kernel
theorem d_Mo_unfold_125 : decode prog_11_method_29_code 125 = .ok (.aload_n 0, 1) := by decide +kernel
theorem d_Mo_unfold_126 : decode prog_11_method_29_code 126 = .ok (.getfield 63, 3) := by decide +kernel
theorem d_Mo_unfold_129 : decode prog_11_method_29_code 129 = .ok (.aload_n 0, 1) := by decide +kernel
theorem d_Mo_unfold_130 : decode prog_11_method_29_code 130 = .ok (.getfield 137, 3) := by decide +kernel
theorem d_Mo_unfold_133 : decode prog_11_method_29_code 133 = .ok (.iastore, 1) := by decide +kernel
theorem d_Mo_unfold_134 : decode prog_11_method_29_code 134 = .ok (.aload_n 0, 1) := by decide +kernel
theorem d_Mo_unfold_135 : decode prog_11_method_29_code 135 = .ok (.dup, 1) := by decide +kernel
theorem d_Mo_unfold_136 : decode prog_11_method_29_code 136 = .ok (.getfield 63, 3) := by decide +kernel
theorem d_Mo_unfold_139 : decode prog_11_method_29_code 139 = .ok (.iconst 1, 1) := by decide +kernel
theorem d_Mo_unfold_140 : decode prog_11_method_29_code 140 = .ok (.iadd, 1) := by decide +kernel
theorem d_Mo_unfold_141 : decode prog_11_method_29_code 141 = .ok (.putfield 63, 3) := by decide +kernel
theorem d_Mo_unfold_144 : decode prog_11_method_29_code 144 = .ok (.bipush (-2), 2) := by decide +kernel
theorem d_Mo_unfold_146 : decode prog_11_method_29_code 146 = .ok (.ireturn, 1) := by decide +kernel
theorem d_Mo_unfold_147 : decode prog_11_method_29_code 147 = .ok (.aload_n 0, 1) := by decide +kernel
theorem d_Mo_unfold_148 : decode prog_11_method_29_code 148 = .ok (.invokevirtual 185, 3) := by decide +kernel
theorem d_Mo_unfold_151 : decode prog_11_method_29_code 151 = .ok (.istore_n 1, 1) := by decide +kernel
theorem d_Mo_unfold_152 : decode prog_11_method_29_code 152 = .ok (.aload_n 0, 1) := by decide +kernel
theorem d_Mo_unfold_153 : decode prog_11_method_29_code 153 = .ok (.invokevirtual 174, 3) := by decide +kernel
theorem d_Mo_unfold_156 : decode prog_11_method_29_code 156 = .ok (.iload_n 1, 1) := by decide +kernel
theorem d_Mo_unfold_157 : decode prog_11_method_29_code 157 = .ok (.ifCond .eq 17, 3) := by decide +kernel
theorem d_Mo_unfold_160 : decode prog_11_method_29_code 160 = .ok (.aload_n 0, 1) := by decide +kernel
theorem d_Mo_unfold_161 : decode prog_11_method_29_code 161 = .ok (.getfield 122, 3) := by decide +kernel
theorem d_Mo_unfold_164 : decode prog_11_method_29_code 164 = .ok (.sipush 200, 3) := by decide +kernel
theorem d_Mo_unfold_167 : decode prog_11_method_29_code 167 = .ok (.if_icmp .gt 7, 3) := by decide +kernel
theorem d_Mo_unfold_170 : decode prog_11_method_29_code 170 = .ok (.iconst 1, 1) := by decide +kernel
theorem d_Mo_unfold_171 : decode prog_11_method_29_code 171 = .ok (.goto 4, 3) := by decide +kernel
theorem d_Mo_unfold_174 : decode prog_11_method_29_code 174 = .ok (.iconst 0, 1) := by decide +kernel
theorem d_Mo_unfold_175 : decode prog_11_method_29_code 175 = .ok (.istore_n 1, 1) := by decide +kernel
theorem d_Mo_unfold_176 : decode prog_11_method_29_code 176 = .ok (.goto (-114), 3) := by decide +kernel
theorem d_Mo_unfold_179 : decode prog_11_method_29_code 179 = .ok (.iload_n 1, 1) := by decide +kernel
theorem d_Mo_unfold_180 : decode prog_11_method_29_code 180 = .ok (.ifCond .ne 10, 3) := by decide +kernel
theorem d_Mo_unfold_183 : decode prog_11_method_29_code 183 = .ok (.aload_n 0, 1) := by decide +kernel
theorem d_Mo_unfold_184 : decode prog_11_method_29_code 184 = .ok (.invokevirtual 87, 3) := by decide +kernel
theorem d_Mo_unfold_187 : decode prog_11_method_29_code 187 = .ok (.bipush (-3), 2) := by decide +kernel
theorem d_Mo_unfold_189 : decode prog_11_method_29_code 189 = .ok (.ireturn, 1) := by decide +kernel
theorem d_Mo_unfold_190 : decode prog_11_method_29_code 190 = .ok (.aload_n 0, 1) := by decide +kernel
theorem d_Mo_unfold_191 : decode prog_11_method_29_code 191 = .ok (.iconst 1, 1) := by decide +kernel
theorem d_Mo_unfold_192 : decode prog_11_method_29_code 192 = .ok (.putfield 76, 3) := by decide +kernel
theorem d_Mo_unfold_195 : decode prog_11_method_29_code 195 = .ok (.aload_n 0, 1) := by decide +kernel
theorem d_Mo_unfold_196 : decode prog_11_method_29_code 196 = .ok (.getfield 70, 3) := by decide +kernel
theorem d_Mo_unfold_199 : decode prog_11_method_29_code 199 = .ok (.ireturn, 1) := by decide +kernel
theorem d_Mo_reach_0 : decode prog_11_method_33_code 0 = .ok (.aload_n 0, 1) := by decide +kernel
theorem d_Mo_reach_1 : decode prog_11_method_33_code 1 = .ok (.iload_n 1, 1) := by decide +kernel
theorem d_Mo_reach_2 : decode prog_11_method_33_code 2 = .ok (.iconst 0, 1) := by decide +kernel
theorem d_Mo_reach_3 : decode prog_11_method_33_code 3 = .ok (.sipush 255, 3) := by decide +kernel
theorem d_Mo_reach_6 : decode prog_11_method_33_code 6 = .ok (.invokestatic 80, 3) := by decide +kernel
theorem d_Mo_reach_9 : decode prog_11_method_33_code 9 = .ok (.ifCond .eq 7, 3) := by decide +kernel
theorem d_Mo_reach_12 : decode prog_11_method_33_code 12 = .ok (.iconst 1, 1) := by decide +kernel
theorem d_Mo_reach_13 : decode prog_11_method_33_code 13 = .ok (.goto 15, 3) := by decide +kernel
theorem d_Mo_reach_16 : decode prog_11_method_33_code 16 = .ok (.aload_n 0, 1) := by decide +kernel
theorem d_Mo_reach_17 : decode prog_11_method_33_code 17 = .ok (.getfield 76, 3) := by decide +kernel
theorem d_Mo_reach_20 : decode prog_11_method_33_code 20 = .ok (.ifCond .ne 7, 3) := by decide +kernel
theorem d_Mo_reach_23 : decode prog_11_method_33_code 23 = .ok (.iconst 2, 1) := by decide +kernel
theorem d_Mo_reach_24 : decode prog_11_method_33_code 24 = .ok (.goto 4, 3) := by decide +kernel
theorem d_Mo_reach_27 : decode prog_11_method_33_code 27 = .ok (.iconst 0, 1) := by decide +kernel
theorem d_Mo_reach_28 : decode prog_11_method_33_code 28 = .ok (.putfield 67, 3) := by decide +kernel
theorem d_Mo_reach_31 : decode prog_11_method_33_code 31 = .ok (.aload_n 0, 1) := by decide +kernel
theorem d_Mo_reach_32 : decode prog_11_method_33_code 32 = .ok (.getfield 67, 3) := by decide +kernel
theorem d_Mo_reach_35 : decode prog_11_method_33_code 35 = .ok (.ifCond .eq 7, 3) := by decide +kernel
theorem d_Mo_reach_38 : decode prog_11_method_33_code 38 = .ok (.iconst 0, 1) := by decide +kernel
theorem d_Mo_reach_39 : decode prog_11_method_33_code 39 = .ok (.goto 8, 3) := by decide +kernel
theorem d_Mo_reach_42 : decode prog_11_method_33_code 42 = .ok (.aload_n 0, 1) := by decide +kernel
theorem d_Mo_reach_43 : decode prog_11_method_33_code 43 = .ok (.iload_n 1, 1) := by decide +kernel
