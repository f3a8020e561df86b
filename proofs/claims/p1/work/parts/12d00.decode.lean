theorem d_La_transition_0 : decode method_3_code 0 = .ok (.aload_n 3, 1) := by decide +kernel
theorem d_La_transition_1 : decode method_3_code 1 = .ok (.iconst 0, 1) := by decide +kernel
theorem d_La_transition_2 : decode method_3_code 2 = .ok (.aload_n 0, 1) := by decide +kernel
theorem d_La_transition_3 : decode method_3_code 3 = .ok (.iload_n 1, 1) := by decide +kernel
theorem d_La_transition_4 : decode method_3_code 4 = .ok (.iload_n 2, 1) := by decide +kernel
theorem d_La_transition_5 : decode method_3_code 5 = .ok (.invokevirtual 7, 3) := by decide +kernel
theorem d_La_transition_8 : decode method_3_code 8 = .ok (.i2l, 1) := by decide +kernel
theorem d_La_transition_9 : decode method_3_code 9 = .ok (.lastore, 1) := by decide +kernel
theorem d_La_transition_10 : decode method_3_code 10 = .ok (.goto 11, 3) := by decide +kernel
theorem d_La_transition_13 : decode method_3_code 13 = .ok (.astore 4, 2) := by decide +kernel
theorem d_La_transition_15 : decode method_3_code 15 = .ok (.iconst 1, 1) := by decide +kernel
theorem d_La_transition_16 : decode method_3_code 16 = .ok (.ireturn, 1) := by decide +kernel
theorem d_La_transition_17 : decode method_3_code 17 = .ok (.astore 4, 2) := by decide +kernel
theorem d_La_transition_19 : decode method_3_code 19 = .ok (.iconst 2, 1) := by decide +kernel
theorem d_La_transition_20 : decode method_3_code 20 = .ok (.ireturn, 1) := by decide +kernel
theorem d_La_transition_21 : decode method_3_code 21 = .ok (.iconst 0, 1) := by decide +kernel
theorem d_La_transition_22 : decode method_3_code 22 = .ok (.ireturn, 1) := by decide +kernel
theorem d_La_first_0 : decode method_4_code 0 = .ok (.aload_n 0, 1) := by decide +kernel
theorem d_La_first_1 : decode method_4_code 1 = .ok (.iload_n 1, 1) := by decide +kernel
theorem d_La_first_2 : decode method_4_code 2 = .ok (.invokevirtual 17, 3) := by decide +kernel
theorem d_La_first_5 : decode method_4_code 5 = .ok (.goto 6, 3) := by decide +kernel
theorem d_La_first_8 : decode method_4_code 8 = .ok (.astore_n 2, 1) := by decide +kernel
theorem d_La_first_9 : decode method_4_code 9 = .ok (.iconst 1, 1) := by decide +kernel
theorem d_La_first_10 : decode method_4_code 10 = .ok (.ireturn, 1) := by decide +kernel
theorem d_La_first_11 : decode method_4_code 11 = .ok (.iconst 0, 1) := by decide +kernel
theorem d_La_first_12 : decode method_4_code 12 = .ok (.ireturn, 1) := by decide +kernel
theorem d_La_reach_0 : decode method_5_code 0 = .ok (.aload_n 2, 1) := by decide +kernel
theorem d_La_reach_1 : decode method_5_code 1 = .ok (.iconst 0, 1) := by decide +kernel
theorem d_La_reach_2 : decode method_5_code 2 = .ok (.aload_n 0, 1) := by decide +kernel
theorem d_La_reach_3 : decode method_5_code 3 = .ok (.iload_n 1, 1) := by decide +kernel
theorem d_La_reach_4 : decode method_5_code 4 = .ok (.invokevirtual 21, 3) := by decide +kernel
theorem d_La_reach_7 : decode method_5_code 7 = .ok (.i2l, 1) := by decide +kernel
theorem d_La_reach_8 : decode method_5_code 8 = .ok (.lastore, 1) := by decide +kernel
theorem d_La_reach_9 : decode method_5_code 9 = .ok (.goto 9, 3) := by decide +kernel
theorem d_La_reach_12 : decode method_5_code 12 = .ok (.astore_n 3, 1) := by decide +kernel
theorem d_La_reach_13 : decode method_5_code 13 = .ok (.iconst 1, 1) := by decide +kernel
theorem d_La_reach_14 : decode method_5_code 14 = .ok (.ireturn, 1) := by decide +kernel
theorem d_La_reach_15 : decode method_5_code 15 = .ok (.astore_n 3, 1) := by decide +kernel
theorem d_La_reach_16 : decode method_5_code 16 = .ok (.iconst 2, 1) := by decide +kernel
theorem d_La_reach_17 : decode method_5_code 17 = .ok (.ireturn, 1) := by decide +kernel
theorem d_La_reach_18 : decode method_5_code 18 = .ok (.iconst 0, 1) := by decide +kernel
theorem d_La_reach_19 : decode method_5_code 19 = .ok (.ireturn, 1) := by decide +kernel
theorem d_La_deadlock_0 : decode method_6_code 0 = .ok (.aload_n 1, 1) := by decide +kernel
theorem d_La_deadlock_1 : decode method_6_code 1 = .ok (.iconst 0, 1) := by decide +kernel
theorem d_La_deadlock_2 : decode method_6_code 2 = .ok (.aload_n 0, 1) := by decide +kernel
theorem d_La_deadlock_3 : decode method_6_code 3 = .ok (.invokevirtual 25, 3) := by decide +kernel
theorem d_La_deadlock_6 : decode method_6_code 6 = .ok (.i2l, 1) := by decide +kernel
theorem d_La_deadlock_7 : decode method_6_code 7 = .ok (.lastore, 1) := by decide +kernel
theorem d_La_deadlock_8 : decode method_6_code 8 = .ok (.goto 6, 3) := by decide +kernel
theorem d_La_deadlock_11 : decode method_6_code 11 = .ok (.astore_n 2, 1) := by decide +kernel
theorem d_La_deadlock_12 : decode method_6_code 12 = .ok (.iconst 1, 1) := by decide +kernel
theorem d_La_deadlock_13 : decode method_6_code 13 = .ok (.ireturn, 1) := by decide +kernel
theorem d_La_deadlock_14 : decode method_6_code 14 = .ok (.iconst 0, 1) := by decide +kernel
theorem d_La_deadlock_15 : decode method_6_code 15 = .ok (.ireturn, 1) := by decide +kernel
theorem d_La_play_0 : decode method_7_code 0 = .ok (.aload_n 2, 1) := by decide +kernel
theorem d_La_play_1 : decode method_7_code 1 = .ok (.iconst 0, 1) := by decide +kernel
theorem d_La_play_2 : decode method_7_code 2 = .ok (.aload_n 0, 1) := by decide +kernel
theorem d_La_play_3 : decode method_7_code 3 = .ok (.iload_n 1, 1) := by decide +kernel
theorem d_La_play_4 : decode method_7_code 4 = .ok (.invokevirtual 29, 3) := by decide +kernel
theorem d_La_play_7 : decode method_7_code 7 = .ok (.i2l, 1) := by decide +kernel
theorem d_La_play_8 : decode method_7_code 8 = .ok (.lastore, 1) := by decide +kernel
theorem d_La_play_9 : decode method_7_code 9 = .ok (.goto 9, 3) := by decide +kernel
theorem d_La_play_12 : decode method_7_code 12 = .ok (.astore_n 3, 1) := by decide +kernel
theorem d_La_play_13 : decode method_7_code 13 = .ok (.iconst 1, 1) := by decide +kernel
theorem d_La_play_14 : decode method_7_code 14 = .ok (.ireturn, 1) := by decide +kernel
theorem d_La_play_15 : decode method_7_code 15 = .ok (.astore_n 3, 1) := by decide +kernel
theorem d_La_play_16 : decode method_7_code 16 = .ok (.iconst 2, 1) := by decide +kernel
theorem d_La_play_17 : decode method_7_code 17 = .ok (.ireturn, 1) := by decide +kernel
theorem d_La_play_18 : decode method_7_code 18 = .ok (.iconst 0, 1) := by decide +kernel
theorem d_La_play_19 : decode method_7_code 19 = .ok (.ireturn, 1) := by decide +kernel
