theorem d_Un_run_29 : decode prog_8_method_2_code 29 = .ok (.getfield 39, 3) := by decide +kernel
theorem d_Un_run_32 : decode prog_8_method_2_code 32 = .ok (.ifCond .ne 19, 3) := by decide +kernel
theorem d_Un_run_35 : decode prog_8_method_2_code 35 = .ok (.aload_n 0, 1) := by decide +kernel
theorem d_Un_run_36 : decode prog_8_method_2_code 36 = .ok (.getfield 15, 3) := by decide +kernel
theorem d_Un_run_39 : decode prog_8_method_2_code 39 = .ok (.iconst 1, 1) := by decide +kernel
theorem d_Un_run_40 : decode prog_8_method_2_code 40 = .ok (.putfield 43, 3) := by decide +kernel
theorem d_Un_run_43 : decode prog_8_method_2_code 43 = .ok (.aload_n 0, 1) := by decide +kernel
theorem d_Un_run_44 : decode prog_8_method_2_code 44 = .ok (.getfield 15, 3) := by decide +kernel
theorem d_Un_run_47 : decode prog_8_method_2_code 47 = .ok (.getfield 49, 3) := by decide +kernel
theorem d_Un_run_50 : decode prog_8_method_2_code 50 = .ok (.ireturn, 1) := by decide +kernel
theorem d_Un_run_51 : decode prog_8_method_2_code 51 = .ok (.aload_n 0, 1) := by decide +kernel
theorem d_Un_run_52 : decode prog_8_method_2_code 52 = .ok (.getfield 28, 3) := by decide +kernel
theorem d_Un_run_55 : decode prog_8_method_2_code 55 = .ok (.invokevirtual 52, 3) := by decide +kernel
theorem d_Un_run_58 : decode prog_8_method_2_code 58 = .ok (.istore_n 2, 1) := by decide +kernel
theorem d_Un_run_59 : decode prog_8_method_2_code 59 = .ok (.aload_n 0, 1) := by decide +kernel
theorem d_Un_run_60 : decode prog_8_method_2_code 60 = .ok (.iload_n 2, 1) := by decide +kernel
theorem d_Un_run_61 : decode prog_8_method_2_code 61 = .ok (.invokevirtual 56, 3) := by decide +kernel
theorem d_Un_run_64 : decode prog_8_method_2_code 64 = .ok (.istore_n 3, 1) := by decide +kernel
theorem d_Un_run_65 : decode prog_8_method_2_code 65 = .ok (.iload_n 3, 1) := by decide +kernel
theorem d_Un_run_66 : decode prog_8_method_2_code 66 = .ok (.iconst (-1), 1) := by decide +kernel
theorem d_Un_run_67 : decode prog_8_method_2_code 67 = .ok (.if_icmp .eq 12, 3) := by decide +kernel
theorem d_Un_run_70 : decode prog_8_method_2_code 70 = .ok (.aload_n 0, 1) := by decide +kernel
theorem d_Un_run_71 : decode prog_8_method_2_code 71 = .ok (.iload_n 2, 1) := by decide +kernel
theorem d_Un_run_72 : decode prog_8_method_2_code 72 = .ok (.iload_n 3, 1) := by decide +kernel
theorem d_Un_run_73 : decode prog_8_method_2_code 73 = .ok (.invokevirtual 60, 3) := by decide +kernel
theorem d_Un_run_76 : decode prog_8_method_2_code 76 = .ok (.bipush (-2), 2) := by decide +kernel
theorem d_Un_run_78 : decode prog_8_method_2_code 78 = .ok (.ireturn, 1) := by decide +kernel
theorem d_Un_run_79 : decode prog_8_method_2_code 79 = .ok (.aload_n 0, 1) := by decide +kernel
theorem d_Un_run_80 : decode prog_8_method_2_code 80 = .ok (.iload_n 2, 1) := by decide +kernel
theorem d_Un_run_81 : decode prog_8_method_2_code 81 = .ok (.invokevirtual 64, 3) := by decide +kernel
theorem d_Un_run_84 : decode prog_8_method_2_code 84 = .ok (.ifCond .ne 6, 3) := by decide +kernel
theorem d_Un_run_87 : decode prog_8_method_2_code 87 = .ok (.bipush (-3), 2) := by decide +kernel
theorem d_Un_run_89 : decode prog_8_method_2_code 89 = .ok (.ireturn, 1) := by decide +kernel
theorem d_Un_run_90 : decode prog_8_method_2_code 90 = .ok (.iinc 1 1, 3) := by decide +kernel
theorem d_Un_run_93 : decode prog_8_method_2_code 93 = .ok (.goto (-87), 3) := by decide +kernel
theorem d_Un_tellTransitions_0 : decode prog_8_method_6_code 0 = .ok (.iconst 0, 1) := by decide +kernel
theorem d_Un_tellTransitions_1 : decode prog_8_method_6_code 1 = .ok (.istore_n 2, 1) := by decide +kernel
theorem d_Un_tellTransitions_2 : decode prog_8_method_6_code 2 = .ok (.iload_n 2, 1) := by decide +kernel
theorem d_Un_tellTransitions_3 : decode prog_8_method_6_code 3 = .ok (.aload_n 0, 1) := by decide +kernel
theorem d_Un_tellTransitions_4 : decode prog_8_method_6_code 4 = .ok (.getfield 15, 3) := by decide +kernel
theorem d_Un_tellTransitions_7 : decode prog_8_method_6_code 7 = .ok (.getfield 49, 3) := by decide +kernel
theorem d_Un_tellTransitions_10 : decode prog_8_method_6_code 10 = .ok (.if_icmp .ge 34, 3) := by decide +kernel
theorem d_Un_tellTransitions_13 : decode prog_8_method_6_code 13 = .ok (.iload_n 1, 1) := by decide +kernel
theorem d_Un_tellTransitions_14 : decode prog_8_method_6_code 14 = .ok (.i2l, 1) := by decide +kernel
theorem d_Un_tellTransitions_15 : decode prog_8_method_6_code 15 = .ok (.iload_n 2, 1) := by decide +kernel
theorem d_Un_tellTransitions_16 : decode prog_8_method_6_code 16 = .ok (.invokestatic 103, 3) := by decide +kernel
theorem d_Un_tellTransitions_19 : decode prog_8_method_6_code 19 = .ok (.ifCond .eq 19, 3) := by decide +kernel
theorem d_Un_tellTransitions_22 : decode prog_8_method_6_code 22 = .ok (.aload_n 0, 1) := by decide +kernel
theorem d_Un_tellTransitions_23 : decode prog_8_method_6_code 23 = .ok (.getfield 19, 3) := by decide +kernel
theorem d_Un_tellTransitions_26 : decode prog_8_method_6_code 26 = .ok (.aload_n 0, 1) := by decide +kernel
theorem d_Un_tellTransitions_27 : decode prog_8_method_6_code 27 = .ok (.getfield 15, 3) := by decide +kernel
theorem d_Un_tellTransitions_30 : decode prog_8_method_6_code 30 = .ok (.getfield 124, 3) := by decide +kernel
theorem d_Un_tellTransitions_33 : decode prog_8_method_6_code 33 = .ok (.iload_n 2, 1) := by decide +kernel
theorem d_Un_tellTransitions_34 : decode prog_8_method_6_code 34 = .ok (.iaload, 1) := by decide +kernel
theorem d_Un_tellTransitions_35 : decode prog_8_method_6_code 35 = .ok (.invokevirtual 121, 3) := by decide +kernel
theorem d_Un_tellTransitions_38 : decode prog_8_method_6_code 38 = .ok (.iinc 2 1, 3) := by decide +kernel
theorem d_Un_tellTransitions_41 : decode prog_8_method_6_code 41 = .ok (.goto (-39), 3) := by decide +kernel
theorem d_Un_tellTransitions_44 : decode prog_8_method_6_code 44 = .ok (.return_, 1) := by decide +kernel
theorem d_Un_tellWay_0 : decode prog_8_method_5_code 0 = .ok (.aload_n 0, 1) := by decide +kernel
theorem d_Un_tellWay_1 : decode prog_8_method_5_code 1 = .ok (.getfield 15, 3) := by decide +kernel
theorem d_Un_tellWay_4 : decode prog_8_method_5_code 4 = .ok (.lconst 1, 1) := by decide +kernel
theorem d_Un_tellWay_5 : decode prog_8_method_5_code 5 = .ok (.iload_n 2, 1) := by decide +kernel
theorem d_Un_tellWay_6 : decode prog_8_method_5_code 6 = .ok (.lshl, 1) := by decide +kernel
theorem d_Un_tellWay_7 : decode prog_8_method_5_code 7 = .ok (.invokevirtual 110, 3) := by decide +kernel
theorem d_Un_tellWay_10 : decode prog_8_method_5_code 10 = .ok (.istore_n 3, 1) := by decide +kernel
theorem d_Un_tellWay_11 : decode prog_8_method_5_code 11 = .ok (.aload_n 0, 1) := by decide +kernel
theorem d_Un_tellWay_12 : decode prog_8_method_5_code 12 = .ok (.getfield 15, 3) := by decide +kernel
theorem d_Un_tellWay_15 : decode prog_8_method_5_code 15 = .ok (.aload_n 0, 1) := by decide +kernel
theorem d_Un_tellWay_16 : decode prog_8_method_5_code 16 = .ok (.getfield 28, 3) := by decide +kernel
theorem d_Un_tellWay_19 : decode prog_8_method_5_code 19 = .ok (.getfield 92, 3) := by decide +kernel
theorem d_Un_tellWay_22 : decode prog_8_method_5_code 22 = .ok (.iload_n 1, 1) := by decide +kernel
theorem d_Un_tellWay_23 : decode prog_8_method_5_code 23 = .ok (.laload, 1) := by decide +kernel
theorem d_Un_tellWay_24 : decode prog_8_method_5_code 24 = .ok (.invokevirtual 110, 3) := by decide +kernel
theorem d_Un_tellWay_27 : decode prog_8_method_5_code 27 = .ok (.iload_n 3, 1) := by decide +kernel
theorem d_Un_tellWay_28 : decode prog_8_method_5_code 28 = .ok (.iconst (-1), 1) := by decide +kernel
theorem d_Un_tellWay_29 : decode prog_8_method_5_code 29 = .ok (.ixor, 1) := by decide +kernel
theorem d_Un_tellWay_30 : decode prog_8_method_5_code 30 = .ok (.iand, 1) := by decide +kernel
theorem d_Un_tellWay_31 : decode prog_8_method_5_code 31 = .ok (.istore 4, 2) := by decide +kernel
theorem d_Un_tellWay_33 : decode prog_8_method_5_code 33 = .ok (.aload_n 0, 1) := by decide +kernel
theorem d_Un_tellWay_34 : decode prog_8_method_5_code 34 = .ok (.getfield 19, 3) := by decide +kernel
theorem d_Un_tellWay_37 : decode prog_8_method_5_code 37 = .ok (.invokevirtual 114, 3) := by decide +kernel
theorem d_Un_tellWay_40 : decode prog_8_method_5_code 40 = .ok (.aload_n 0, 1) := by decide +kernel
theorem d_Un_tellWay_41 : decode prog_8_method_5_code 41 = .ok (.iload_n 3, 1) := by decide +kernel
theorem d_Un_tellWay_42 : decode prog_8_method_5_code 42 = .ok (.invokevirtual 117, 3) := by decide +kernel
theorem d_Un_tellWay_45 : decode prog_8_method_5_code 45 = .ok (.aload_n 0, 1) := by decide +kernel
theorem d_Un_tellWay_46 : decode prog_8_method_5_code 46 = .ok (.iload 4, 2) := by decide +kernel
theorem d_Un_tellWay_48 : decode prog_8_method_5_code 48 = .ok (.invokevirtual 117, 3) := by decide +kernel
theorem d_Un_tellWay_51 : decode prog_8_method_5_code 51 = .ok (.aload_n 0, 1) := by decide +kernel
theorem d_Un_tellWay_52 : decode prog_8_method_5_code 52 = .ok (.getfield 19, 3) := by decide +kernel
theorem d_Un_tellWay_55 : decode prog_8_method_5_code 55 = .ok (.aload_n 0, 1) := by decide +kernel
theorem d_Un_tellWay_56 : decode prog_8_method_5_code 56 = .ok (.getfield 28, 3) := by decide +kernel
theorem d_Un_tellWay_59 : decode prog_8_method_5_code 59 = .ok (.getfield 89, 3) := by decide +kernel
theorem d_Un_tellWay_62 : decode prog_8_method_5_code 62 = .ok (.iload_n 1, 1) := by decide +kernel
theorem d_Un_tellWay_63 : decode prog_8_method_5_code 63 = .ok (.iaload, 1) := by decide +kernel
theorem d_Un_tellWay_64 : decode prog_8_method_5_code 64 = .ok (.invokevirtual 121, 3) := by decide +kernel
theorem d_Un_tellWay_67 : decode prog_8_method_5_code 67 = .ok (.return_, 1) := by decide +kernel
theorem d_Wa_init_0 : decode prog_9_method_1_code 0 = .ok (.aload_n 0, 1) := by decide +kernel
theorem d_Wa_init_1 : decode prog_9_method_1_code 1 = .ok (.invokespecial 3, 3) := by decide +kernel
theorem d_Wa_init_4 : decode prog_9_method_1_code 4 = .ok (.aload_n 0, 1) := by decide +kernel
theorem d_Wa_init_5 : decode prog_9_method_1_code 5 = .ok (.bipush 31, 2) := by decide +kernel
theorem d_Wa_init_7 : decode prog_9_method_1_code 7 = .ok (.newarray .int, 2) := by decide +kernel
theorem d_Wa_init_9 : decode prog_9_method_1_code 9 = .ok (.putfield 9, 3) := by decide +kernel
theorem d_Wa_init_12 : decode prog_9_method_1_code 12 = .ok (.aload_n 0, 1) := by decide +kernel
theorem d_Wa_init_13 : decode prog_9_method_1_code 13 = .ok (.iconst (-1), 1) := by decide +kernel
theorem d_Wa_init_14 : decode prog_9_method_1_code 14 = .ok (.putfield 15, 3) := by decide +kernel
theorem d_Wa_init_17 : decode prog_9_method_1_code 17 = .ok (.return_, 1) := by decide +kernel
theorem d_Wa_add_0 : decode prog_9_method_4_code 0 = .ok (.aload_n 0, 1) := by decide +kernel
theorem d_Wa_add_1 : decode prog_9_method_4_code 1 = .ok (.getfield 15, 3) := by decide +kernel
theorem d_Wa_add_4 : decode prog_9_method_4_code 4 = .ok (.ifCond .lt 35, 3) := by decide +kernel
theorem d_Wa_add_7 : decode prog_9_method_4_code 7 = .ok (.aload_n 0, 1) := by decide +kernel
theorem d_Wa_add_8 : decode prog_9_method_4_code 8 = .ok (.getfield 15, 3) := by decide +kernel
theorem d_Wa_add_11 : decode prog_9_method_4_code 11 = .ok (.aload_n 0, 1) := by decide +kernel
theorem d_Wa_add_12 : decode prog_9_method_4_code 12 = .ok (.getfield 9, 3) := by decide +kernel
theorem d_Wa_add_15 : decode prog_9_method_4_code 15 = .ok (.arraylength, 1) := by decide +kernel
theorem d_Wa_add_16 : decode prog_9_method_4_code 16 = .ok (.if_icmp .ge 23, 3) := by decide +kernel
theorem d_Wa_add_19 : decode prog_9_method_4_code 19 = .ok (.aload_n 0, 1) := by decide +kernel
theorem d_Wa_add_20 : decode prog_9_method_4_code 20 = .ok (.getfield 9, 3) := by decide +kernel
theorem d_Wa_add_23 : decode prog_9_method_4_code 23 = .ok (.aload_n 0, 1) := by decide +kernel
theorem d_Wa_add_24 : decode prog_9_method_4_code 24 = .ok (.getfield 15, 3) := by decide +kernel
theorem d_Wa_add_27 : decode prog_9_method_4_code 27 = .ok (.iload_n 1, 1) := by decide +kernel
theorem d_Wa_add_28 : decode prog_9_method_4_code 28 = .ok (.iastore, 1) := by decide +kernel
theorem d_Wa_add_29 : decode prog_9_method_4_code 29 = .ok (.aload_n 0, 1) := by decide +kernel
theorem d_Wa_add_30 : decode prog_9_method_4_code 30 = .ok (.dup, 1) := by decide +kernel
theorem d_Wa_add_31 : decode prog_9_method_4_code 31 = .ok (.getfield 15, 3) := by decide +kernel
theorem d_Wa_add_34 : decode prog_9_method_4_code 34 = .ok (.iconst 1, 1) := by decide +kernel
theorem d_Wa_add_35 : decode prog_9_method_4_code 35 = .ok (.iadd, 1) := by decide +kernel
theorem d_Wa_add_36 : decode prog_9_method_4_code 36 = .ok (.putfield 15, 3) := by decide +kernel
theorem d_Wa_add_39 : decode prog_9_method_4_code 39 = .ok (.return_, 1) := by decide +kernel
theorem d_Wa_begin_0 : decode prog_9_method_3_code 0 = .ok (.aload_n 0, 1) := by decide +kernel
theorem d_Wa_begin_1 : decode prog_9_method_3_code 1 = .ok (.iconst 0, 1) := by decide +kernel
theorem d_Wa_begin_2 : decode prog_9_method_3_code 2 = .ok (.putfield 15, 3) := by decide +kernel
theorem d_Wa_begin_5 : decode prog_9_method_3_code 5 = .ok (.return_, 1) := by decide +kernel
theorem d_Wa_drop_0 : decode prog_9_method_2_code 0 = .ok (.aload_n 0, 1) := by decide +kernel
theorem d_Wa_drop_1 : decode prog_9_method_2_code 1 = .ok (.iconst (-1), 1) := by decide +kernel
theorem d_Wa_drop_2 : decode prog_9_method_2_code 2 = .ok (.putfield 15, 3) := by decide +kernel
theorem d_Wa_drop_5 : decode prog_9_method_2_code 5 = .ok (.return_, 1) := by decide +kernel
theorem d_Wa_step_0 : decode prog_9_method_5_code 0 = .ok (.iload_n 1, 1) := by decide +kernel
theorem d_Wa_step_1 : decode prog_9_method_5_code 1 = .ok (.ifCond .lt 20, 3) := by decide +kernel
theorem d_Wa_step_4 : decode prog_9_method_5_code 4 = .ok (.iload_n 1, 1) := by decide +kernel
theorem d_Wa_step_5 : decode prog_9_method_5_code 5 = .ok (.aload_n 0, 1) := by decide +kernel
theorem d_Wa_step_6 : decode prog_9_method_5_code 6 = .ok (.getfield 15, 3) := by decide +kernel
theorem d_Wa_step_9 : decode prog_9_method_5_code 9 = .ok (.if_icmp .ge 12, 3) := by decide +kernel
theorem d_Wa_step_12 : decode prog_9_method_5_code 12 = .ok (.aload_n 0, 1) := by decide +kernel
theorem d_Wa_step_13 : decode prog_9_method_5_code 13 = .ok (.getfield 9, 3) := by decide +kernel
theorem d_Wa_step_16 : decode prog_9_method_5_code 16 = .ok (.iload_n 1, 1) := by decide +kernel
theorem d_Wa_step_17 : decode prog_9_method_5_code 17 = .ok (.iaload, 1) := by decide +kernel
theorem d_Wa_step_18 : decode prog_9_method_5_code 18 = .ok (.goto 4, 3) := by decide +kernel
theorem d_Wa_step_21 : decode prog_9_method_5_code 21 = .ok (.iconst (-1), 1) := by decide +kernel
theorem d_Wa_step_22 : decode prog_9_method_5_code 22 = .ok (.ireturn, 1) := by decide +kernel
theorem d_La_deadlock_0 : decode method_6_code 0 = .ok (.aload_n 1, 1) := by decide +kernel
theorem d_La_deadlock_1 : decode method_6_code 1 = .ok (.iconst 0, 1) := by decide +kernel
theorem d_La_deadlock_2 : decode method_6_code 2 = .ok (.aload_n 0, 1) := by decide +kernel
theorem d_La_deadlock_3 : decode method_6_code 3 = .ok (.invokevirtual 25, 3) := by decide +kernel
theorem d_La_deadlock_6 : decode method_6_code 6 = .ok (.i2l, 1) := by decide +kernel
theorem d_La_deadlock_7 : decode method_6_code 7 = .ok (.lastore, 1) := by decide +kernel
theorem d_La_deadlock_8 : decode method_6_code 8 = .ok (.goto 6, 3) := by decide +kernel
theorem d_La_deadlock_11 : decode method_6_code 11 = .ok (.astore_n 2, 1) := by decide +kernel
theorem d_La_deadlock_12 : decode method_6_code 12 = .ok (.iconst 1, 1) := by decide +kernel
theorem d_La_deadlock_13 : decode method_6_code 13 = .ok (.ireturn, 1) := by decide +kernel
theorem d_La_deadlock_14 : decode method_6_code 14 = .ok (.iconst 0, 1) := by decide +kernel
theorem d_La_deadlock_15 : decode method_6_code 15 = .ok (.ireturn, 1) := by decide +kernel
theorem d_La_first_0 : decode method_4_code 0 = .ok (.aload_n 0, 1) := by decide +kernel
theorem d_La_first_1 : decode method_4_code 1 = .ok (.iload_n 1, 1) := by decide +kernel
theorem d_La_first_2 : decode method_4_code 2 = .ok (.invokevirtual 17, 3) := by decide +kernel
theorem d_La_first_5 : decode method_4_code 5 = .ok (.goto 6, 3) := by decide +kernel
theorem d_La_first_8 : decode method_4_code 8 = .ok (.astore_n 2, 1) := by decide +kernel
theorem d_La_first_9 : decode method_4_code 9 = .ok (.iconst 1, 1) := by decide +kernel
theorem d_La_first_10 : decode method_4_code 10 = .ok (.ireturn, 1) := by decide +kernel
theorem d_La_first_11 : decode method_4_code 11 = .ok (.iconst 0, 1) := by decide +kernel
theorem d_La_first_12 : decode method_4_code 12 = .ok (.ireturn, 1) := by decide +kernel
theorem d_La_play_0 : decode method_7_code 0 = .ok (.aload_n 2, 1) := by decide +kernel
theorem d_La_play_1 : decode method_7_code 1 = .ok (.iconst 0, 1) := by decide +kernel
theorem d_La_play_2 : decode method_7_code 2 = .ok (.aload_n 0, 1) := by decide +kernel
theorem d_La_play_3 : decode method_7_code 3 = .ok (.iload_n 1, 1) := by decide +kernel
theorem d_La_play_4 : decode method_7_code 4 = .ok (.invokevirtual 29, 3) := by decide +kernel
theorem d_La_play_7 : decode method_7_code 7 = .ok (.i2l, 1) := by decide +kernel
theorem d_La_play_8 : decode method_7_code 8 = .ok (.lastore, 1) := by decide +kernel
theorem d_La_play_9 : decode method_7_code 9 = .ok (.goto 9, 3) := by decide +kernel
theorem d_La_play_12 : decode method_7_code 12 = .ok (.astore_n 3, 1) := by decide +kernel
theorem d_La_play_13 : decode method_7_code 13 = .ok (.iconst 1, 1) := by decide +kernel
theorem d_La_play_14 : decode method_7_code 14 = .ok (.ireturn, 1) := by decide +kernel
theorem d_La_play_15 : decode method_7_code 15 = .ok (.astore_n 3, 1) := by decide +kernel
theorem d_La_play_16 : decode method_7_code 16 = .ok (.iconst 2, 1) := by decide +kernel
theorem d_La_play_17 : decode method_7_code 17 = .ok (.ireturn, 1) := by decide +kernel
theorem d_La_play_18 : decode method_7_code 18 = .ok (.iconst 0, 1) := by decide +kernel
theorem d_La_play_19 : decode method_7_code 19 = .ok (.ireturn, 1) := by decide +kernel
theorem d_La_reach_0 : decode method_5_code 0 = .ok (.aload_n 2, 1) := by decide +kernel
theorem d_La_reach_1 : decode method_5_code 1 = .ok (.iconst 0, 1) := by decide +kernel
theorem d_La_reach_2 : decode method_5_code 2 = .ok (.aload_n 0, 1) := by decide +kernel
theorem d_La_reach_3 : decode method_5_code 3 = .ok (.iload_n 1, 1) := by decide +kernel
theorem d_La_reach_4 : decode method_5_code 4 = .ok (.invokevirtual 21, 3) := by decide +kernel
theorem d_La_reach_7 : decode method_5_code 7 = .ok (.i2l, 1) := by decide +kernel
theorem d_La_reach_8 : decode method_5_code 8 = .ok (.lastore, 1) := by decide +kernel
theorem d_La_reach_9 : decode method_5_code 9 = .ok (.goto 9, 3) := by decide +kernel
theorem d_La_reach_12 : decode method_5_code 12 = .ok (.astore_n 3, 1) := by decide +kernel
theorem d_La_reach_13 : decode method_5_code 13 = .ok (.iconst 1, 1) := by decide +kernel
theorem d_La_reach_14 : decode method_5_code 14 = .ok (.ireturn, 1) := by decide +kernel
theorem d_La_reach_15 : decode method_5_code 15 = .ok (.astore_n 3, 1) := by decide +kernel
theorem d_La_reach_16 : decode method_5_code 16 = .ok (.iconst 2, 1) := by decide +kernel
theorem d_La_reach_17 : decode method_5_code 17 = .ok (.ireturn, 1) := by decide +kernel
theorem d_La_reach_18 : decode method_5_code 18 = .ok (.iconst 0, 1) := by decide +kernel
theorem d_La_reach_19 : decode method_5_code 19 = .ok (.ireturn, 1) := by decide +kernel
theorem d_La_transition_0 : decode method_3_code 0 = .ok (.aload_n 3, 1) := by decide +kernel
theorem d_La_transition_1 : decode method_3_code 1 = .ok (.iconst 0, 1) := by decide +kernel
theorem d_La_transition_2 : decode method_3_code 2 = .ok (.aload_n 0, 1) := by decide +kernel
theorem d_La_transition_3 : decode method_3_code 3 = .ok (.iload_n 1, 1) := by decide +kernel
theorem d_La_transition_4 : decode method_3_code 4 = .ok (.iload_n 2, 1) := by decide +kernel
theorem d_La_transition_5 : decode method_3_code 5 = .ok (.invokevirtual 7, 3) := by decide +kernel
theorem d_La_transition_8 : decode method_3_code 8 = .ok (.i2l, 1) := by decide +kernel
theorem d_La_transition_9 : decode method_3_code 9 = .ok (.lastore, 1) := by decide +kernel
theorem d_La_transition_10 : decode method_3_code 10 = .ok (.goto 11, 3) := by decide +kernel
theorem d_La_transition_13 : decode method_3_code 13 = .ok (.astore 4, 2) := by decide +kernel
theorem d_La_transition_15 : decode method_3_code 15 = .ok (.iconst 1, 1) := by decide +kernel
theorem d_La_transition_16 : decode method_3_code 16 = .ok (.ireturn, 1) := by decide +kernel
theorem d_La_transition_17 : decode method_3_code 17 = .ok (.astore 4, 2) := by decide +kernel
theorem d_La_transition_19 : decode method_3_code 19 = .ok (.iconst 2, 1) := by decide +kernel
theorem d_La_transition_20 : decode method_3_code 20 = .ok (.ireturn, 1) := by decide +kernel
theorem d_La_transition_21 : decode method_3_code 21 = .ok (.iconst 0, 1) := by decide +kernel
theorem d_La_transition_22 : decode method_3_code 22 = .ok (.ireturn, 1) := by decide +kernel
theorem d_Mo_init_0 : decode prog_11_method_1_code 0 = .ok (.aload_n 0, 1) := by decide +kernel
theorem d_Mo_init_1 : decode prog_11_method_1_code 1 = .ok (.invokespecial 1, 3) := by decide +kernel
theorem d_Mo_init_4 : decode prog_11_method_1_code 4 = .ok (.aload_n 0, 1) := by decide +kernel
theorem d_Mo_init_5 : decode prog_11_method_1_code 5 = .ok (.bipush 8, 2) := by decide +kernel
theorem d_Mo_init_7 : decode prog_11_method_1_code 7 = .ok (.newarray .int, 2) := by decide +kernel
theorem d_Mo_init_9 : decode prog_11_method_1_code 9 = .ok (.putfield 7, 3) := by decide +kernel
theorem d_Mo_init_12 : decode prog_11_method_1_code 12 = .ok (.aload_n 0, 1) := by decide +kernel
theorem d_Mo_init_13 : decode prog_11_method_1_code 13 = .ok (.bipush 8, 2) := by decide +kernel
theorem d_Mo_init_15 : decode prog_11_method_1_code 15 = .ok (.newarray .int, 2) := by decide +kernel
theorem d_Mo_init_17 : decode prog_11_method_1_code 17 = .ok (.putfield 13, 3) := by decide +kernel
theorem d_Mo_init_20 : decode prog_11_method_1_code 20 = .ok (.aload_n 0, 1) := by decide +kernel
theorem d_Mo_init_21 : decode prog_11_method_1_code 21 = .ok (.bipush 60, 2) := by decide +kernel
theorem d_Mo_init_23 : decode prog_11_method_1_code 23 = .ok (.newarray .int, 2) := by decide +kernel
theorem d_Mo_init_25 : decode prog_11_method_1_code 25 = .ok (.putfield 16, 3) := by decide +kernel
theorem d_Mo_init_28 : decode prog_11_method_1_code 28 = .ok (.aload_n 0, 1) := by decide +kernel
theorem d_Mo_init_29 : decode prog_11_method_1_code 29 = .ok (.bipush 60, 2) := by decide +kernel
theorem d_Mo_init_31 : decode prog_11_method_1_code 31 = .ok (.newarray .int, 2) := by decide +kernel
theorem d_Mo_init_33 : decode prog_11_method_1_code 33 = .ok (.putfield 19, 3) := by decide +kernel
theorem d_Mo_init_36 : decode prog_11_method_1_code 36 = .ok (.aload_n 0, 1) := by decide +kernel
theorem d_Mo_init_37 : decode prog_11_method_1_code 37 = .ok (.bipush 60, 2) := by decide +kernel
theorem d_Mo_init_39 : decode prog_11_method_1_code 39 = .ok (.newarray .int, 2) := by decide +kernel
theorem d_Mo_init_41 : decode prog_11_method_1_code 41 = .ok (.putfield 22, 3) := by decide +kernel
theorem d_Mo_init_44 : decode prog_11_method_1_code 44 = .ok (.aload_n 0, 1) := by decide +kernel
theorem d_Mo_init_45 : decode prog_11_method_1_code 45 = .ok (.bipush 60, 2) := by decide +kernel
theorem d_Mo_init_47 : decode prog_11_method_1_code 47 = .ok (.newarray .long, 2) := by decide +kernel
theorem d_Mo_init_49 : decode prog_11_method_1_code 49 = .ok (.putfield 25, 3) := by decide +kernel
theorem d_Mo_init_52 : decode prog_11_method_1_code 52 = .ok (.aload_n 0, 1) := by decide +kernel
theorem d_Mo_init_53 : decode prog_11_method_1_code 53 = .ok (.bipush 30, 2) := by decide +kernel
theorem d_Mo_init_55 : decode prog_11_method_1_code 55 = .ok (.newarray .int, 2) := by decide +kernel
theorem d_Mo_init_57 : decode prog_11_method_1_code 57 = .ok (.putfield 29, 3) := by decide +kernel
theorem d_Mo_init_60 : decode prog_11_method_1_code 60 = .ok (.aload_n 0, 1) := by decide +kernel
theorem d_Mo_init_61 : decode prog_11_method_1_code 61 = .ok (.bipush 30, 2) := by decide +kernel
theorem d_Mo_init_63 : decode prog_11_method_1_code 63 = .ok (.newarray .int, 2) := by decide +kernel
theorem d_Mo_init_65 : decode prog_11_method_1_code 65 = .ok (.putfield 32, 3) := by decide +kernel
theorem d_Mo_init_68 : decode prog_11_method_1_code 68 = .ok (.aload_n 0, 1) := by decide +kernel
theorem d_Mo_init_69 : decode prog_11_method_1_code 69 = .ok (.bipush 30, 2) := by decide +kernel
theorem d_Mo_init_71 : decode prog_11_method_1_code 71 = .ok (.newarray .long, 2) := by decide +kernel
theorem d_Mo_init_73 : decode prog_11_method_1_code 73 = .ok (.putfield 35, 3) := by decide +kernel
theorem d_Mo_init_76 : decode prog_11_method_1_code 76 = .ok (.aload_n 0, 1) := by decide +kernel
theorem d_Mo_init_77 : decode prog_11_method_1_code 77 = .ok (.sipush 240, 3) := by decide +kernel
theorem d_Mo_init_80 : decode prog_11_method_1_code 80 = .ok (.newarray .int, 2) := by decide +kernel
theorem d_Mo_init_82 : decode prog_11_method_1_code 82 = .ok (.putfield 38, 3) := by decide +kernel
theorem d_Mo_init_85 : decode prog_11_method_1_code 85 = .ok (.aload_n 0, 1) := by decide +kernel
theorem d_Mo_init_86 : decode prog_11_method_1_code 86 = .ok (.bipush 30, 2) := by decide +kernel
theorem d_Mo_init_88 : decode prog_11_method_1_code 88 = .ok (.newarray .long, 2) := by decide +kernel
theorem d_Mo_init_90 : decode prog_11_method_1_code 90 = .ok (.putfield 41, 3) := by decide +kernel
theorem d_Mo_init_93 : decode prog_11_method_1_code 93 = .ok (.aload_n 0, 1) := by decide +kernel
theorem d_Mo_init_94 : decode prog_11_method_1_code 94 = .ok (.bipush 30, 2) := by decide +kernel
theorem d_Mo_init_96 : decode prog_11_method_1_code 96 = .ok (.newarray .int, 2) := by decide +kernel
theorem d_Mo_init_98 : decode prog_11_method_1_code 98 = .ok (.putfield 44, 3) := by decide +kernel
theorem d_Mo_init_101 : decode prog_11_method_1_code 101 = .ok (.aload_n 0, 1) := by decide +kernel
theorem d_Mo_init_102 : decode prog_11_method_1_code 102 = .ok (.bipush 30, 2) := by decide +kernel
theorem d_Mo_init_104 : decode prog_11_method_1_code 104 = .ok (.newarray .boolean, 2) := by decide +kernel
theorem d_Mo_init_106 : decode prog_11_method_1_code 106 = .ok (.putfield 47, 3) := by decide +kernel
theorem d_Mo_init_109 : decode prog_11_method_1_code 109 = .ok (.aload_n 0, 1) := by decide +kernel
theorem d_Mo_init_110 : decode prog_11_method_1_code 110 = .ok (.bipush 8, 2) := by decide +kernel
theorem d_Mo_init_112 : decode prog_11_method_1_code 112 = .ok (.newarray .int, 2) := by decide +kernel
theorem d_Mo_init_114 : decode prog_11_method_1_code 114 = .ok (.putfield 51, 3) := by decide +kernel
theorem d_Mo_init_117 : decode prog_11_method_1_code 117 = .ok (.aload_n 0, 1) := by decide +kernel
theorem d_Mo_init_118 : decode prog_11_method_1_code 118 = .ok (.bipush 9, 2) := by decide +kernel
theorem d_Mo_init_120 : decode prog_11_method_1_code 120 = .ok (.newarray .long, 2) := by decide +kernel
theorem d_Mo_init_122 : decode prog_11_method_1_code 122 = .ok (.putfield 54, 3) := by decide +kernel
theorem d_Mo_init_125 : decode prog_11_method_1_code 125 = .ok (.aload_n 0, 1) := by decide +kernel
theorem d_Mo_init_126 : decode prog_11_method_1_code 126 = .ok (.bipush 8, 2) := by decide +kernel
theorem d_Mo_init_128 : decode prog_11_method_1_code 128 = .ok (.newarray .int, 2) := by decide +kernel
theorem d_Mo_init_130 : decode prog_11_method_1_code 130 = .ok (.putfield 57, 3) := by decide +kernel
theorem d_Mo_init_133 : decode prog_11_method_1_code 133 = .ok (.aload_n 0, 1) := by decide +kernel
theorem d_Mo_init_134 : decode prog_11_method_1_code 134 = .ok (.bipush 62, 2) := by decide +kernel
theorem d_Mo_init_136 : decode prog_11_method_1_code 136 = .ok (.newarray .int, 2) := by decide +kernel
theorem d_Mo_init_138 : decode prog_11_method_1_code 138 = .ok (.putfield 60, 3) := by decide +kernel
theorem d_Mo_init_141 : decode prog_11_method_1_code 141 = .ok (.aload_n 0, 1) := by decide +kernel
theorem d_Mo_init_142 : decode prog_11_method_1_code 142 = .ok (.iconst (-1), 1) := by decide +kernel
theorem d_Mo_init_143 : decode prog_11_method_1_code 143 = .ok (.putfield 63, 3) := by decide +kernel
theorem d_Mo_init_146 : decode prog_11_method_1_code 146 = .ok (.return_, 1) := by decide +kernel
theorem d_Mo_addWay_0 : decode prog_11_method_27_code 0 = .ok (.iconst 0, 1) := by decide +kernel
theorem d_Mo_addWay_1 : decode prog_11_method_27_code 1 = .ok (.istore_n 3, 1) := by decide +kernel
theorem d_Mo_addWay_2 : decode prog_11_method_27_code 2 = .ok (.iload_n 3, 1) := by decide +kernel
theorem d_Mo_addWay_3 : decode prog_11_method_27_code 3 = .ok (.aload_n 0, 1) := by decide +kernel
theorem d_Mo_addWay_4 : decode prog_11_method_27_code 4 = .ok (.getfield 70, 3) := by decide +kernel
theorem d_Mo_addWay_7 : decode prog_11_method_27_code 7 = .ok (.if_icmp .ge 42, 3) := by decide +kernel
theorem d_Mo_addWay_10 : decode prog_11_method_27_code 10 = .ok (.lload_n 1, 1) := by decide +kernel
theorem d_Mo_addWay_11 : decode prog_11_method_27_code 11 = .ok (.iload_n 3, 1) := by decide +kernel
theorem d_Mo_addWay_12 : decode prog_11_method_27_code 12 = .ok (.invokestatic 93, 3) := by decide +kernel
theorem d_Mo_addWay_15 : decode prog_11_method_27_code 15 = .ok (.ifCond .eq 28, 3) := by decide +kernel
theorem d_Mo_addWay_18 : decode prog_11_method_27_code 18 = .ok (.aload_n 0, 1) := by decide +kernel
theorem d_Mo_addWay_19 : decode prog_11_method_27_code 19 = .ok (.getfield 60, 3) := by decide +kernel
theorem d_Mo_addWay_22 : decode prog_11_method_27_code 22 = .ok (.aload_n 0, 1) := by decide +kernel
theorem d_Mo_addWay_23 : decode prog_11_method_27_code 23 = .ok (.getfield 63, 3) := by decide +kernel
theorem d_Mo_addWay_26 : decode prog_11_method_27_code 26 = .ok (.aload_n 0, 1) := by decide +kernel
theorem d_Mo_addWay_27 : decode prog_11_method_27_code 27 = .ok (.getfield 29, 3) := by decide +kernel
theorem d_Mo_addWay_30 : decode prog_11_method_27_code 30 = .ok (.iload_n 3, 1) := by decide +kernel
theorem d_Mo_addWay_31 : decode prog_11_method_27_code 31 = .ok (.iaload, 1) := by decide +kernel
theorem d_Mo_addWay_32 : decode prog_11_method_27_code 32 = .ok (.iastore, 1) := by decide +kernel
theorem d_Mo_addWay_33 : decode prog_11_method_27_code 33 = .ok (.aload_n 0, 1) := by decide +kernel
theorem d_Mo_addWay_34 : decode prog_11_method_27_code 34 = .ok (.dup, 1) := by decide +kernel
theorem d_Mo_addWay_35 : decode prog_11_method_27_code 35 = .ok (.getfield 63, 3) := by decide +kernel
theorem d_Mo_addWay_38 : decode prog_11_method_27_code 38 = .ok (.iconst 1, 1) := by decide +kernel
theorem d_Mo_addWay_39 : decode prog_11_method_27_code 39 = .ok (.iadd, 1) := by decide +kernel
theorem d_Mo_addWay_40 : decode prog_11_method_27_code 40 = .ok (.putfield 63, 3) := by decide +kernel
theorem d_Mo_addWay_43 : decode prog_11_method_27_code 43 = .ok (.iinc 3 1, 3) := by decide +kernel
theorem d_Mo_addWay_46 : decode prog_11_method_27_code 46 = .ok (.goto (-44), 3) := by decide +kernel
theorem d_Mo_addWay_49 : decode prog_11_method_27_code 49 = .ok (.return_, 1) := by decide +kernel
theorem d_Mo_answer_0 : decode prog_11_method_32_code 0 = .ok (.aload_n 0, 1) := by decide +kernel
theorem d_Mo_answer_1 : decode prog_11_method_32_code 1 = .ok (.iconst (-1), 1) := by decide +kernel
theorem d_Mo_answer_2 : decode prog_11_method_32_code 2 = .ok (.putfield 63, 3) := by decide +kernel
theorem d_Mo_answer_5 : decode prog_11_method_32_code 5 = .ok (.lconst 0, 1) := by decide +kernel
theorem d_Mo_answer_6 : decode prog_11_method_32_code 6 = .ok (.lstore_n 2, 1) := by decide +kernel
theorem d_Mo_answer_7 : decode prog_11_method_32_code 7 = .ok (.iconst 1, 1) := by decide +kernel
theorem d_Mo_answer_8 : decode prog_11_method_32_code 8 = .ok (.istore 4, 2) := by decide +kernel
theorem d_Mo_answer_10 : decode prog_11_method_32_code 10 = .ok (.iload 4, 2) := by decide +kernel
theorem d_Mo_answer_12 : decode prog_11_method_32_code 12 = .ok (.ifCond .eq 160, 3) := by decide +kernel
theorem d_Mo_answer_15 : decode prog_11_method_32_code 15 = .ok (.aload_n 0, 1) := by decide +kernel
theorem d_Mo_answer_16 : decode prog_11_method_32_code 16 = .ok (.lload_n 2, 1) := by decide +kernel
theorem d_Mo_answer_17 : decode prog_11_method_32_code 17 = .ok (.invokevirtual 166, 3) := by decide +kernel
theorem d_Mo_answer_20 : decode prog_11_method_32_code 20 = .ok (.istore 5, 2) := by decide +kernel
theorem d_Mo_answer_22 : decode prog_11_method_32_code 22 = .ok (.iload_n 1, 1) := by decide +kernel
theorem d_Mo_answer_23 : decode prog_11_method_32_code 23 = .ok (.iconst (-1), 1) := by decide +kernel
theorem d_Mo_answer_24 : decode prog_11_method_32_code 24 = .ok (.if_icmp .ne 15, 3) := by decide +kernel
theorem d_Mo_answer_27 : decode prog_11_method_32_code 27 = .ok (.aload_n 0, 1) := by decide +kernel
theorem d_Mo_answer_28 : decode prog_11_method_32_code 28 = .ok (.iload 5, 2) := by decide +kernel
theorem d_Mo_answer_30 : decode prog_11_method_32_code 30 = .ok (.invokevirtual 189, 3) := by decide +kernel
theorem d_Mo_answer_33 : decode prog_11_method_32_code 33 = .ok (.ifCond .eq 27, 3) := by decide +kernel
theorem d_Mo_answer_36 : decode prog_11_method_32_code 36 = .ok (.goto 9, 3) := by decide +kernel
theorem d_Mo_answer_39 : decode prog_11_method_32_code 39 = .ok (.iload 5, 2) := by decide +kernel
theorem d_Mo_answer_41 : decode prog_11_method_32_code 41 = .ok (.iload_n 1, 1) := by decide +kernel
theorem d_Mo_answer_42 : decode prog_11_method_32_code 42 = .ok (.if_icmp .ne 18, 3) := by decide +kernel
theorem d_Mo_answer_45 : decode prog_11_method_32_code 45 = .ok (.aload_n 0, 1) := by decide +kernel
theorem d_Mo_answer_46 : decode prog_11_method_32_code 46 = .ok (.iconst 0, 1) := by decide +kernel
theorem d_Mo_answer_47 : decode prog_11_method_32_code 47 = .ok (.putfield 63, 3) := by decide +kernel
theorem d_Mo_answer_50 : decode prog_11_method_32_code 50 = .ok (.aload_n 0, 1) := by decide +kernel
theorem d_Mo_answer_51 : decode prog_11_method_32_code 51 = .ok (.lload_n 2, 1) := by decide +kernel
theorem d_Mo_answer_52 : decode prog_11_method_32_code 52 = .ok (.invokevirtual 181, 3) := by decide +kernel
theorem d_Mo_answer_55 : decode prog_11_method_32_code 55 = .ok (.aload_n 0, 1) := by decide +kernel
theorem d_Mo_answer_56 : decode prog_11_method_32_code 56 = .ok (.getfield 63, 3) := by decide +kernel
theorem d_Mo_answer_59 : decode prog_11_method_32_code 59 = .ok (.ireturn, 1) := by decide +kernel
theorem d_Mo_answer_60 : decode prog_11_method_32_code 60 = .ok (.aload_n 0, 1) := by decide +kernel
theorem d_Mo_answer_61 : decode prog_11_method_32_code 61 = .ok (.getfield 70, 3) := by decide +kernel
theorem d_Mo_answer_64 : decode prog_11_method_32_code 64 = .ok (.iconst 1, 1) := by decide +kernel
theorem d_Mo_answer_65 : decode prog_11_method_32_code 65 = .ok (.isub, 1) := by decide +kernel
theorem d_Mo_answer_66 : decode prog_11_method_32_code 66 = .ok (.istore 6, 2) := by decide +kernel
theorem d_Mo_answer_68 : decode prog_11_method_32_code 68 = .ok (.lload_n 2, 1) := by decide +kernel
theorem d_Mo_answer_69 : decode prog_11_method_32_code 69 = .ok (.lstore 7, 2) := by decide +kernel
theorem d_Mo_answer_71 : decode prog_11_method_32_code 71 = .ok (.iconst 0, 1) := by decide +kernel
theorem d_Mo_answer_72 : decode prog_11_method_32_code 72 = .ok (.istore 9, 2) := by decide +kernel
theorem d_Mo_answer_74 : decode prog_11_method_32_code 74 = .ok (.iload 6, 2) := by decide +kernel
theorem d_Mo_answer_76 : decode prog_11_method_32_code 76 = .ok (.ifCond .lt 72, 3) := by decide +kernel
theorem d_Mo_answer_79 : decode prog_11_method_32_code 79 = .ok (.iload 9, 2) := by decide +kernel
theorem d_Mo_answer_81 : decode prog_11_method_32_code 81 = .ok (.ifCond .ne 67, 3) := by decide +kernel
theorem d_Mo_answer_84 : decode prog_11_method_32_code 84 = .ok (.lload 7, 2) := by decide +kernel
theorem d_Mo_answer_86 : decode prog_11_method_32_code 86 = .ok (.iload 6, 2) := by decide +kernel
theorem d_Mo_answer_88 : decode prog_11_method_32_code 88 = .ok (.invokestatic 93, 3) := by decide +kernel
theorem d_Mo_answer_91 : decode prog_11_method_32_code 91 = .ok (.istore 10, 2) := by decide +kernel
theorem d_Mo_answer_93 : decode prog_11_method_32_code 93 = .ok (.lload 7, 2) := by decide +kernel
theorem d_Mo_answer_95 : decode prog_11_method_32_code 95 = .ok (.lconst 1, 1) := by decide +kernel
theorem d_Mo_answer_96 : decode prog_11_method_32_code 96 = .ok (.iload 6, 2) := by decide +kernel
theorem d_Mo_answer_98 : decode prog_11_method_32_code 98 = .ok (.lshl, 1) := by decide +kernel
theorem d_Mo_answer_99 : decode prog_11_method_32_code 99 = .ok (.ldc2_w 97, 3) := by decide +kernel
theorem d_Mo_answer_102 : decode prog_11_method_32_code 102 = .ok (.lxor, 1) := by decide +kernel
theorem d_Mo_answer_103 : decode prog_11_method_32_code 103 = .ok (.land, 1) := by decide +kernel
theorem d_Mo_answer_104 : decode prog_11_method_32_code 104 = .ok (.lstore 7, 2) := by decide +kernel
theorem d_Mo_answer_106 : decode prog_11_method_32_code 106 = .ok (.iload 10, 2) := by decide +kernel
theorem d_Mo_answer_108 : decode prog_11_method_32_code 108 = .ok (.ifCond .ne 18, 3) := by decide +kernel
theorem d_Mo_answer_111 : decode prog_11_method_32_code 111 = .ok (.aload_n 0, 1) := by decide +kernel
theorem d_Mo_answer_112 : decode prog_11_method_32_code 112 = .ok (.lload 7, 2) := by decide +kernel
theorem d_Mo_answer_114 : decode prog_11_method_32_code 114 = .ok (.iload 6, 2) := by decide +kernel
theorem d_Mo_answer_116 : decode prog_11_method_32_code 116 = .ok (.invokevirtual 193, 3) := by decide +kernel
theorem d_Mo_answer_119 : decode prog_11_method_32_code 119 = .ok (.ifCond .eq 7, 3) := by decide +kernel
theorem d_Mo_answer_122 : decode prog_11_method_32_code 122 = .ok (.iconst 1, 1) := by decide +kernel
theorem d_Mo_answer_123 : decode prog_11_method_32_code 123 = .ok (.goto 4, 3) := by decide +kernel
theorem d_Mo_answer_126 : decode prog_11_method_32_code 126 = .ok (.iconst 0, 1) := by decide +kernel
theorem d_Mo_answer_127 : decode prog_11_method_32_code 127 = .ok (.istore 9, 2) := by decide +kernel
theorem d_Mo_answer_129 : decode prog_11_method_32_code 129 = .ok (.iload 9, 2) := by decide +kernel
theorem d_Mo_answer_131 : decode prog_11_method_32_code 131 = .ok (.ifCond .eq 8, 3) := by decide +kernel
theorem d_Mo_answer_134 : decode prog_11_method_32_code 134 = .ok (.iload 6, 2) := by decide +kernel
theorem d_Mo_answer_136 : decode prog_11_method_32_code 136 = .ok (.goto 7, 3) := by decide +kernel
theorem d_Mo_answer_139 : decode prog_11_method_32_code 139 = .ok (.iload 6, 2) := by decide +kernel
theorem d_Mo_answer_141 : decode prog_11_method_32_code 141 = .ok (.iconst 1, 1) := by decide +kernel
theorem d_Mo_answer_142 : decode prog_11_method_32_code 142 = .ok (.isub, 1) := by decide +kernel
theorem d_Mo_answer_143 : decode prog_11_method_32_code 143 = .ok (.istore 6, 2) := by decide +kernel
theorem d_Mo_answer_145 : decode prog_11_method_32_code 145 = .ok (.goto (-71), 3) := by decide +kernel
theorem d_Mo_answer_148 : decode prog_11_method_32_code 148 = .ok (.iload 9, 2) := by decide +kernel
theorem d_Mo_answer_150 : decode prog_11_method_32_code 150 = .ok (.istore 4, 2) := by decide +kernel
theorem d_Mo_answer_152 : decode prog_11_method_32_code 152 = .ok (.iload 9, 2) := by decide +kernel
theorem d_Mo_answer_154 : decode prog_11_method_32_code 154 = .ok (.ifCond .eq 13, 3) := by decide +kernel
theorem d_Mo_answer_157 : decode prog_11_method_32_code 157 = .ok (.lload 7, 2) := by decide +kernel
theorem d_Mo_answer_159 : decode prog_11_method_32_code 159 = .ok (.lconst 1, 1) := by decide +kernel
theorem d_Mo_answer_160 : decode prog_11_method_32_code 160 = .ok (.iload 6, 2) := by decide +kernel
theorem d_Mo_answer_162 : decode prog_11_method_32_code 162 = .ok (.lshl, 1) := by decide +kernel
theorem d_Mo_answer_163 : decode prog_11_method_32_code 163 = .ok (.lor, 1) := by decide +kernel
theorem d_Mo_answer_164 : decode prog_11_method_32_code 164 = .ok (.goto 4, 3) := by decide +kernel
theorem d_Mo_answer_167 : decode prog_11_method_32_code 167 = .ok (.lconst 0, 1) := by decide +kernel
theorem d_Mo_answer_168 : decode prog_11_method_32_code 168 = .ok (.lstore_n 2, 1) := by decide +kernel
theorem d_Mo_answer_169 : decode prog_11_method_32_code 169 = .ok (.goto (-159), 3) := by decide +kernel
theorem d_Mo_answer_172 : decode prog_11_method_32_code 172 = .ok (.iconst (-1), 1) := by decide +kernel
theorem d_Mo_answer_173 : decode prog_11_method_32_code 173 = .ok (.ireturn, 1) := by decide +kernel
theorem d_Mo_behindAll_0 : decode prog_11_method_16_code 0 = .ok (.iconst 0, 1) := by decide +kernel
theorem d_Mo_behindAll_1 : decode prog_11_method_16_code 1 = .ok (.istore_n 2, 1) := by decide +kernel
theorem d_Mo_behindAll_2 : decode prog_11_method_16_code 2 = .ok (.iconst 0, 1) := by decide +kernel
theorem d_Mo_behindAll_3 : decode prog_11_method_16_code 3 = .ok (.istore_n 3, 1) := by decide +kernel
theorem d_Mo_behindAll_4 : decode prog_11_method_16_code 4 = .ok (.iload_n 3, 1) := by decide +kernel
theorem d_Mo_behindAll_5 : decode prog_11_method_16_code 5 = .ok (.iload_n 1, 1) := by decide +kernel
theorem d_Mo_behindAll_6 : decode prog_11_method_16_code 6 = .ok (.if_icmp .ge 23, 3) := by decide +kernel
theorem d_Mo_behindAll_9 : decode prog_11_method_16_code 9 = .ok (.iload_n 2, 1) := by decide +kernel
theorem d_Mo_behindAll_10 : decode prog_11_method_16_code 10 = .ok (.aload_n 0, 1) := by decide +kernel
theorem d_Mo_behindAll_11 : decode prog_11_method_16_code 11 = .ok (.getfield 22, 3) := by decide +kernel
theorem d_Mo_behindAll_14 : decode prog_11_method_16_code 14 = .ok (.aload_n 0, 1) := by decide +kernel
theorem d_Mo_behindAll_15 : decode prog_11_method_16_code 15 = .ok (.getfield 51, 3) := by decide +kernel
theorem d_Mo_behindAll_18 : decode prog_11_method_16_code 18 = .ok (.iload_n 3, 1) := by decide +kernel
theorem d_Mo_behindAll_19 : decode prog_11_method_16_code 19 = .ok (.iaload, 1) := by decide +kernel
theorem d_Mo_behindAll_20 : decode prog_11_method_16_code 20 = .ok (.iaload, 1) := by decide +kernel
theorem d_Mo_behindAll_21 : decode prog_11_method_16_code 21 = .ok (.ior, 1) := by decide +kernel
theorem d_Mo_behindAll_22 : decode prog_11_method_16_code 22 = .ok (.istore_n 2, 1) := by decide +kernel
theorem d_Mo_behindAll_23 : decode prog_11_method_16_code 23 = .ok (.iinc 3 1, 3) := by decide +kernel
theorem d_Mo_behindAll_26 : decode prog_11_method_16_code 26 = .ok (.goto (-22), 3) := by decide +kernel
theorem d_Mo_behindAll_29 : decode prog_11_method_16_code 29 = .ok (.iload_n 2, 1) := by decide +kernel
theorem d_Mo_behindAll_30 : decode prog_11_method_16_code 30 = .ok (.ireturn, 1) := by decide +kernel
theorem d_Mo_besideLeast_0 : decode prog_11_method_25_code 0 = .ok (.lconst 1, 1) := by decide +kernel
theorem d_Mo_besideLeast_1 : decode prog_11_method_25_code 1 = .ok (.aload_n 0, 1) := by decide +kernel
theorem d_Mo_besideLeast_2 : decode prog_11_method_25_code 2 = .ok (.getfield 73, 3) := by decide +kernel
theorem d_Mo_besideLeast_5 : decode prog_11_method_25_code 5 = .ok (.lshl, 1) := by decide +kernel
theorem d_Mo_besideLeast_6 : decode prog_11_method_25_code 6 = .ok (.lconst 1, 1) := by decide +kernel
theorem d_Mo_besideLeast_7 : decode prog_11_method_25_code 7 = .ok (.lsub, 1) := by decide +kernel
theorem d_Mo_besideLeast_8 : decode prog_11_method_25_code 8 = .ok (.lstore_n 1, 1) := by decide +kernel
theorem d_Mo_besideLeast_9 : decode prog_11_method_25_code 9 = .ok (.iconst 0, 1) := by decide +kernel
theorem d_Mo_besideLeast_10 : decode prog_11_method_25_code 10 = .ok (.istore_n 3, 1) := by decide +kernel
theorem d_Mo_besideLeast_11 : decode prog_11_method_25_code 11 = .ok (.iload_n 3, 1) := by decide +kernel
theorem d_Mo_besideLeast_12 : decode prog_11_method_25_code 12 = .ok (.aload_n 0, 1) := by decide +kernel
theorem d_Mo_besideLeast_13 : decode prog_11_method_25_code 13 = .ok (.getfield 140, 3) := by decide +kernel
theorem d_Mo_besideLeast_16 : decode prog_11_method_25_code 16 = .ok (.if_icmp .ge 23, 3) := by decide +kernel
theorem d_Mo_besideLeast_19 : decode prog_11_method_25_code 19 = .ok (.lload_n 1, 1) := by decide +kernel
theorem d_Mo_besideLeast_20 : decode prog_11_method_25_code 20 = .ok (.aload_n 0, 1) := by decide +kernel
theorem d_Mo_besideLeast_21 : decode prog_11_method_25_code 21 = .ok (.getfield 25, 3) := by decide +kernel
theorem d_Mo_besideLeast_24 : decode prog_11_method_25_code 24 = .ok (.aload_n 0, 1) := by decide +kernel
theorem d_Mo_besideLeast_25 : decode prog_11_method_25_code 25 = .ok (.getfield 57, 3) := by decide +kernel
theorem d_Mo_besideLeast_28 : decode prog_11_method_25_code 28 = .ok (.iload_n 3, 1) := by decide +kernel
theorem d_Mo_besideLeast_29 : decode prog_11_method_25_code 29 = .ok (.iaload, 1) := by decide +kernel
theorem d_Mo_besideLeast_30 : decode prog_11_method_25_code 30 = .ok (.laload, 1) := by decide +kernel
theorem d_Mo_besideLeast_31 : decode prog_11_method_25_code 31 = .ok (.land, 1) := by decide +kernel
theorem d_Mo_besideLeast_32 : decode prog_11_method_25_code 32 = .ok (.lstore_n 1, 1) := by decide +kernel
theorem d_Mo_besideLeast_33 : decode prog_11_method_25_code 33 = .ok (.iinc 3 1, 3) := by decide +kernel
theorem d_Mo_besideLeast_36 : decode prog_11_method_25_code 36 = .ok (.goto (-25), 3) := by decide +kernel
theorem d_Mo_besideLeast_39 : decode prog_11_method_25_code 39 = .ok (.lload_n 1, 1) := by decide +kernel
theorem d_Mo_besideLeast_40 : decode prog_11_method_25_code 40 = .ok (.lreturn, 1) := by decide +kernel
theorem d_Mo_choices_0 : decode prog_11_method_23_code 0 = .ok (.aload_n 0, 1) := by decide +kernel
theorem d_Mo_choices_1 : decode prog_11_method_23_code 1 = .ok (.getfield 7, 3) := by decide +kernel
theorem d_Mo_choices_4 : decode prog_11_method_23_code 4 = .ok (.iload_n 1, 1) := by decide +kernel
theorem d_Mo_choices_5 : decode prog_11_method_23_code 5 = .ok (.iaload, 1) := by decide +kernel
theorem d_Mo_choices_6 : decode prog_11_method_23_code 6 = .ok (.invokestatic 143, 3) := by decide +kernel
theorem d_Mo_choices_9 : decode prog_11_method_23_code 9 = .ok (.istore_n 2, 1) := by decide +kernel
theorem d_Mo_choices_10 : decode prog_11_method_23_code 10 = .ok (.iconst 0, 1) := by decide +kernel
theorem d_Mo_choices_11 : decode prog_11_method_23_code 11 = .ok (.istore_n 3, 1) := by decide +kernel
theorem d_Mo_choices_12 : decode prog_11_method_23_code 12 = .ok (.aload_n 0, 1) := by decide +kernel
theorem d_Mo_choices_13 : decode prog_11_method_23_code 13 = .ok (.getfield 51, 3) := by decide +kernel
theorem d_Mo_choices_16 : decode prog_11_method_23_code 16 = .ok (.iconst 0, 1) := by decide +kernel
theorem d_Mo_choices_17 : decode prog_11_method_23_code 17 = .ok (.iconst (-1), 1) := by decide +kernel
theorem d_Mo_choices_18 : decode prog_11_method_23_code 18 = .ok (.iastore, 1) := by decide +kernel
theorem d_Mo_choices_19 : decode prog_11_method_23_code 19 = .ok (.aload_n 0, 1) := by decide +kernel
theorem d_Mo_choices_20 : decode prog_11_method_23_code 20 = .ok (.getfield 54, 3) := by decide +kernel
theorem d_Mo_choices_23 : decode prog_11_method_23_code 23 = .ok (.iconst 0, 1) := by decide +kernel
theorem d_Mo_choices_24 : decode prog_11_method_23_code 24 = .ok (.ldc2_w 97, 3) := by decide +kernel
theorem d_Mo_choices_27 : decode prog_11_method_23_code 27 = .ok (.lastore, 1) := by decide +kernel
theorem d_Mo_choices_28 : decode prog_11_method_23_code 28 = .ok (.iload_n 3, 1) := by decide +kernel
theorem d_Mo_choices_29 : decode prog_11_method_23_code 29 = .ok (.ifCond .lt 102, 3) := by decide +kernel
theorem d_Mo_choices_32 : decode prog_11_method_23_code 32 = .ok (.aload_n 0, 1) := by decide +kernel
theorem d_Mo_choices_33 : decode prog_11_method_23_code 33 = .ok (.aload_n 0, 1) := by decide +kernel
theorem d_Mo_choices_34 : decode prog_11_method_23_code 34 = .ok (.getfield 51, 3) := by decide +kernel
theorem d_Mo_choices_37 : decode prog_11_method_23_code 37 = .ok (.iload_n 3, 1) := by decide +kernel
theorem d_Mo_choices_38 : decode prog_11_method_23_code 38 = .ok (.iaload, 1) := by decide +kernel
theorem d_Mo_choices_39 : decode prog_11_method_23_code 39 = .ok (.aload_n 0, 1) := by decide +kernel
theorem d_Mo_choices_40 : decode prog_11_method_23_code 40 = .ok (.getfield 7, 3) := by decide +kernel
theorem d_Mo_choices_43 : decode prog_11_method_23_code 43 = .ok (.iload_n 1, 1) := by decide +kernel
theorem d_Mo_choices_44 : decode prog_11_method_23_code 44 = .ok (.iaload, 1) := by decide +kernel
theorem d_Mo_choices_45 : decode prog_11_method_23_code 45 = .ok (.iload_n 3, 1) := by decide +kernel
theorem d_Mo_choices_46 : decode prog_11_method_23_code 46 = .ok (.invokestatic 146, 3) := by decide +kernel
theorem d_Mo_choices_49 : decode prog_11_method_23_code 49 = .ok (.aload_n 0, 1) := by decide +kernel
theorem d_Mo_choices_50 : decode prog_11_method_23_code 50 = .ok (.getfield 54, 3) := by decide +kernel
theorem d_Mo_choices_53 : decode prog_11_method_23_code 53 = .ok (.iload_n 3, 1) := by decide +kernel
theorem d_Mo_choices_54 : decode prog_11_method_23_code 54 = .ok (.laload, 1) := by decide +kernel
theorem d_Mo_choices_55 : decode prog_11_method_23_code 55 = .ok (.invokevirtual 150, 3) := by decide +kernel
theorem d_Mo_choices_58 : decode prog_11_method_23_code 58 = .ok (.istore 4, 2) := by decide +kernel
theorem d_Mo_choices_60 : decode prog_11_method_23_code 60 = .ok (.aload_n 0, 1) := by decide +kernel
theorem d_Mo_choices_61 : decode prog_11_method_23_code 61 = .ok (.getfield 51, 3) := by decide +kernel
theorem d_Mo_choices_64 : decode prog_11_method_23_code 64 = .ok (.iload_n 3, 1) := by decide +kernel
theorem d_Mo_choices_65 : decode prog_11_method_23_code 65 = .ok (.iload 4, 2) := by decide +kernel
theorem d_Mo_choices_67 : decode prog_11_method_23_code 67 = .ok (.iastore, 1) := by decide +kernel
theorem d_Mo_choices_68 : decode prog_11_method_23_code 68 = .ok (.iload 4, 2) := by decide +kernel
theorem d_Mo_choices_70 : decode prog_11_method_23_code 70 = .ok (.iconst (-1), 1) := by decide +kernel
theorem d_Mo_choices_71 : decode prog_11_method_23_code 71 = .ok (.if_icmp .ne 9, 3) := by decide +kernel
theorem d_Mo_choices_74 : decode prog_11_method_23_code 74 = .ok (.iinc 3 (-1), 3) := by decide +kernel
theorem d_Mo_choices_77 : decode prog_11_method_23_code 77 = .ok (.goto 51, 3) := by decide +kernel
theorem d_Mo_choices_80 : decode prog_11_method_23_code 80 = .ok (.iload_n 3, 1) := by decide +kernel
theorem d_Mo_choices_81 : decode prog_11_method_23_code 81 = .ok (.iload_n 2, 1) := by decide +kernel
theorem d_Mo_choices_82 : decode prog_11_method_23_code 82 = .ok (.iconst 1, 1) := by decide +kernel
theorem d_Mo_choices_83 : decode prog_11_method_23_code 83 = .ok (.isub, 1) := by decide +kernel
theorem d_Mo_choices_84 : decode prog_11_method_23_code 84 = .ok (.if_icmp .ne 12, 3) := by decide +kernel
theorem d_Mo_choices_87 : decode prog_11_method_23_code 87 = .ok (.aload_n 0, 1) := by decide +kernel
theorem d_Mo_choices_88 : decode prog_11_method_23_code 88 = .ok (.iload_n 1, 1) := by decide +kernel
theorem d_Mo_choices_89 : decode prog_11_method_23_code 89 = .ok (.iload_n 2, 1) := by decide +kernel
theorem d_Mo_choices_90 : decode prog_11_method_23_code 90 = .ok (.invokevirtual 154, 3) := by decide +kernel
theorem d_Mo_choices_93 : decode prog_11_method_23_code 93 = .ok (.goto 35, 3) := by decide +kernel
theorem d_Mo_choices_96 : decode prog_11_method_23_code 96 = .ok (.aload_n 0, 1) := by decide +kernel
theorem d_Mo_choices_97 : decode prog_11_method_23_code 97 = .ok (.getfield 54, 3) := by decide +kernel
theorem d_Mo_choices_100 : decode prog_11_method_23_code 100 = .ok (.iload_n 3, 1) := by decide +kernel
theorem d_Mo_choices_101 : decode prog_11_method_23_code 101 = .ok (.iconst 1, 1) := by decide +kernel
theorem d_Mo_choices_102 : decode prog_11_method_23_code 102 = .ok (.iadd, 1) := by decide +kernel
theorem d_Mo_choices_103 : decode prog_11_method_23_code 103 = .ok (.aload_n 0, 1) := by decide +kernel
theorem d_Mo_choices_104 : decode prog_11_method_23_code 104 = .ok (.getfield 54, 3) := by decide +kernel
theorem d_Mo_choices_107 : decode prog_11_method_23_code 107 = .ok (.iload_n 3, 1) := by decide +kernel
theorem d_Mo_choices_108 : decode prog_11_method_23_code 108 = .ok (.laload, 1) := by decide +kernel
theorem d_Mo_choices_109 : decode prog_11_method_23_code 109 = .ok (.aload_n 0, 1) := by decide +kernel
theorem d_Mo_choices_110 : decode prog_11_method_23_code 110 = .ok (.getfield 25, 3) := by decide +kernel
theorem d_Mo_choices_113 : decode prog_11_method_23_code 113 = .ok (.iload 4, 2) := by decide +kernel
theorem d_Mo_choices_115 : decode prog_11_method_23_code 115 = .ok (.laload, 1) := by decide +kernel
theorem d_Mo_choices_116 : decode prog_11_method_23_code 116 = .ok (.land, 1) := by decide +kernel
theorem d_Mo_choices_117 : decode prog_11_method_23_code 117 = .ok (.lastore, 1) := by decide +kernel
theorem d_Mo_choices_118 : decode prog_11_method_23_code 118 = .ok (.iinc 3 1, 3) := by decide +kernel
theorem d_Mo_choices_121 : decode prog_11_method_23_code 121 = .ok (.aload_n 0, 1) := by decide +kernel
theorem d_Mo_choices_122 : decode prog_11_method_23_code 122 = .ok (.getfield 51, 3) := by decide +kernel
theorem d_Mo_choices_125 : decode prog_11_method_23_code 125 = .ok (.iload_n 3, 1) := by decide +kernel
theorem d_Mo_choices_126 : decode prog_11_method_23_code 126 = .ok (.iconst (-1), 1) := by decide +kernel
theorem d_Mo_choices_127 : decode prog_11_method_23_code 127 = .ok (.iastore, 1) := by decide +kernel
theorem d_Mo_choices_128 : decode prog_11_method_23_code 128 = .ok (.goto (-100), 3) := by decide +kernel
theorem d_Mo_choices_131 : decode prog_11_method_23_code 131 = .ok (.return_, 1) := by decide +kernel
theorem d_Mo_clear_0 : decode prog_11_method_9_code 0 = .ok (.aload_n 0, 1) := by decide +kernel
theorem d_Mo_clear_1 : decode prog_11_method_9_code 1 = .ok (.iconst 0, 1) := by decide +kernel
theorem d_Mo_clear_2 : decode prog_11_method_9_code 2 = .ok (.putfield 67, 3) := by decide +kernel
theorem d_Mo_clear_5 : decode prog_11_method_9_code 5 = .ok (.aload_n 0, 1) := by decide +kernel
theorem d_Mo_clear_6 : decode prog_11_method_9_code 6 = .ok (.iconst 0, 1) := by decide +kernel
theorem d_Mo_clear_7 : decode prog_11_method_9_code 7 = .ok (.putfield 84, 3) := by decide +kernel
theorem d_Mo_clear_10 : decode prog_11_method_9_code 10 = .ok (.aload_n 0, 1) := by decide +kernel
theorem d_Mo_clear_11 : decode prog_11_method_9_code 11 = .ok (.iconst 0, 1) := by decide +kernel
theorem d_Mo_clear_12 : decode prog_11_method_9_code 12 = .ok (.putfield 90, 3) := by decide +kernel
theorem d_Mo_clear_15 : decode prog_11_method_9_code 15 = .ok (.aload_n 0, 1) := by decide +kernel
theorem d_Mo_clear_16 : decode prog_11_method_9_code 16 = .ok (.invokevirtual 87, 3) := by decide +kernel
theorem d_Mo_clear_19 : decode prog_11_method_9_code 19 = .ok (.return_, 1) := by decide +kernel
theorem d_Mo_come_0 : decode prog_11_method_28_code 0 = .ok (.aload_n 0, 1) := by decide +kernel
theorem d_Mo_come_1 : decode prog_11_method_28_code 1 = .ok (.getfield 70, 3) := by decide +kernel
theorem d_Mo_come_4 : decode prog_11_method_28_code 4 = .ok (.bipush 30, 2) := by decide +kernel
theorem d_Mo_come_6 : decode prog_11_method_28_code 6 = .ok (.if_icmp .ne 5, 3) := by decide +kernel
theorem d_Mo_come_9 : decode prog_11_method_28_code 9 = .ok (.iconst 0, 1) := by decide +kernel
theorem d_Mo_come_10 : decode prog_11_method_28_code 10 = .ok (.ireturn, 1) := by decide +kernel
theorem d_Mo_come_11 : decode prog_11_method_28_code 11 = .ok (.aload_n 0, 1) := by decide +kernel
theorem d_Mo_come_12 : decode prog_11_method_28_code 12 = .ok (.getfield 70, 3) := by decide +kernel
theorem d_Mo_come_15 : decode prog_11_method_28_code 15 = .ok (.istore_n 1, 1) := by decide +kernel
theorem d_Mo_come_16 : decode prog_11_method_28_code 16 = .ok (.aload_n 0, 1) := by decide +kernel
theorem d_Mo_come_17 : decode prog_11_method_28_code 17 = .ok (.aload_n 0, 1) := by decide +kernel
theorem d_Mo_come_18 : decode prog_11_method_28_code 18 = .ok (.getfield 140, 3) := by decide +kernel
theorem d_Mo_come_21 : decode prog_11_method_28_code 21 = .ok (.invokevirtual 125, 3) := by decide +kernel
theorem d_Mo_come_24 : decode prog_11_method_28_code 24 = .ok (.istore_n 2, 1) := by decide +kernel
theorem d_Mo_come_25 : decode prog_11_method_28_code 25 = .ok (.aload_n 0, 1) := by decide +kernel
theorem d_Mo_come_26 : decode prog_11_method_28_code 26 = .ok (.getfield 29, 3) := by decide +kernel
theorem d_Mo_come_29 : decode prog_11_method_28_code 29 = .ok (.iload_n 1, 1) := by decide +kernel
theorem d_Mo_come_30 : decode prog_11_method_28_code 30 = .ok (.aload_n 0, 1) := by decide +kernel
theorem d_Mo_come_31 : decode prog_11_method_28_code 31 = .ok (.getfield 137, 3) := by decide +kernel
theorem d_Mo_come_34 : decode prog_11_method_28_code 34 = .ok (.iastore, 1) := by decide +kernel
theorem d_Mo_come_35 : decode prog_11_method_28_code 35 = .ok (.aload_n 0, 1) := by decide +kernel
theorem d_Mo_come_36 : decode prog_11_method_28_code 36 = .ok (.getfield 35, 3) := by decide +kernel
theorem d_Mo_come_39 : decode prog_11_method_28_code 39 = .ok (.iload_n 1, 1) := by decide +kernel
theorem d_Mo_come_40 : decode prog_11_method_28_code 40 = .ok (.aload_n 0, 1) := by decide +kernel
theorem d_Mo_come_41 : decode prog_11_method_28_code 41 = .ok (.aload_n 0, 1) := by decide +kernel
theorem d_Mo_come_42 : decode prog_11_method_28_code 42 = .ok (.getfield 140, 3) := by decide +kernel
theorem d_Mo_come_45 : decode prog_11_method_28_code 45 = .ok (.invokevirtual 115, 3) := by decide +kernel
theorem d_Mo_come_48 : decode prog_11_method_28_code 48 = .ok (.lastore, 1) := by decide +kernel
theorem d_Mo_come_49 : decode prog_11_method_28_code 49 = .ok (.iconst 0, 1) := by decide +kernel
theorem d_Mo_come_50 : decode prog_11_method_28_code 50 = .ok (.istore_n 3, 1) := by decide +kernel
theorem d_Mo_come_51 : decode prog_11_method_28_code 51 = .ok (.iload_n 3, 1) := by decide +kernel
theorem d_Mo_come_52 : decode prog_11_method_28_code 52 = .ok (.bipush 8, 2) := by decide +kernel
theorem d_Mo_come_54 : decode prog_11_method_28_code 54 = .ok (.if_icmp .ge 38, 3) := by decide +kernel
theorem d_Mo_come_57 : decode prog_11_method_28_code 57 = .ok (.aload_n 0, 1) := by decide +kernel
theorem d_Mo_come_58 : decode prog_11_method_28_code 58 = .ok (.getfield 38, 3) := by decide +kernel
theorem d_Mo_come_61 : decode prog_11_method_28_code 61 = .ok (.bipush 8, 2) := by decide +kernel
theorem d_Mo_come_63 : decode prog_11_method_28_code 63 = .ok (.iload_n 1, 1) := by decide +kernel
theorem d_Mo_come_64 : decode prog_11_method_28_code 64 = .ok (.imul, 1) := by decide +kernel
theorem d_Mo_come_65 : decode prog_11_method_28_code 65 = .ok (.iload_n 3, 1) := by decide +kernel
theorem d_Mo_come_66 : decode prog_11_method_28_code 66 = .ok (.iadd, 1) := by decide +kernel
theorem d_Mo_come_67 : decode prog_11_method_28_code 67 = .ok (.iload_n 3, 1) := by decide +kernel
theorem d_Mo_come_68 : decode prog_11_method_28_code 68 = .ok (.aload_n 0, 1) := by decide +kernel
theorem d_Mo_come_69 : decode prog_11_method_28_code 69 = .ok (.getfield 140, 3) := by decide +kernel
theorem d_Mo_come_72 : decode prog_11_method_28_code 72 = .ok (.if_icmp .ge 12, 3) := by decide +kernel
