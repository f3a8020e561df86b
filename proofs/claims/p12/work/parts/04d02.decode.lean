theorem d_Qu_answer_11 : decode prog_6_method_4_code 11 = .ok (.aload_n 0, 1) := by decide +kernel
theorem d_Qu_answer_12 : decode prog_6_method_4_code 12 = .ok (.getfield 73, 3) := by decide +kernel
theorem d_Qu_answer_15 : decode prog_6_method_4_code 15 = .ok (.i2l, 1) := by decide +kernel
theorem d_Qu_answer_16 : decode prog_6_method_4_code 16 = .ok (.ldc2_w 76, 3) := by decide +kernel
theorem d_Qu_answer_19 : decode prog_6_method_4_code 19 = .ok (.lor, 1) := by decide +kernel
theorem d_Qu_answer_20 : decode prog_6_method_4_code 20 = .ok (.invokevirtual 78, 3) := by decide +kernel
theorem d_Qu_answer_23 : decode prog_6_method_4_code 23 = .ok (.ifCond .eq 56, 3) := by decide +kernel
theorem d_Qu_answer_26 : decode prog_6_method_4_code 26 = .ok (.aload_n 0, 1) := by decide +kernel
theorem d_Qu_answer_27 : decode prog_6_method_4_code 27 = .ok (.getfield 35, 3) := by decide +kernel
theorem d_Qu_answer_30 : decode prog_6_method_4_code 30 = .ok (.invokevirtual 82, 3) := by decide +kernel
theorem d_Qu_answer_33 : decode prog_6_method_4_code 33 = .ok (.iconst 0, 1) := by decide +kernel
theorem d_Qu_answer_34 : decode prog_6_method_4_code 34 = .ok (.istore_n 1, 1) := by decide +kernel
theorem d_Qu_answer_35 : decode prog_6_method_4_code 35 = .ok (.iload_n 1, 1) := by decide +kernel
theorem d_Qu_answer_36 : decode prog_6_method_4_code 36 = .ok (.aload_n 0, 1) := by decide +kernel
theorem d_Qu_answer_37 : decode prog_6_method_4_code 37 = .ok (.getfield 31, 3) := by decide +kernel
theorem d_Qu_answer_40 : decode prog_6_method_4_code 40 = .ok (.getfield 85, 3) := by decide +kernel
theorem d_Qu_answer_43 : decode prog_6_method_4_code 43 = .ok (.if_icmp .ge 36, 3) := by decide +kernel
theorem d_Qu_answer_46 : decode prog_6_method_4_code 46 = .ok (.aload_n 0, 1) := by decide +kernel
theorem d_Qu_answer_47 : decode prog_6_method_4_code 47 = .ok (.getfield 23, 3) := by decide +kernel
theorem d_Qu_answer_50 : decode prog_6_method_4_code 50 = .ok (.iload_n 1, 1) := by decide +kernel
theorem d_Qu_answer_51 : decode prog_6_method_4_code 51 = .ok (.invokevirtual 90, 3) := by decide +kernel
theorem d_Qu_answer_54 : decode prog_6_method_4_code 54 = .ok (.ifCond .eq 19, 3) := by decide +kernel
theorem d_Qu_answer_57 : decode prog_6_method_4_code 57 = .ok (.aload_n 0, 1) := by decide +kernel
theorem d_Qu_answer_58 : decode prog_6_method_4_code 58 = .ok (.getfield 35, 3) := by decide +kernel
theorem d_Qu_answer_61 : decode prog_6_method_4_code 61 = .ok (.aload_n 0, 1) := by decide +kernel
theorem d_Qu_answer_62 : decode prog_6_method_4_code 62 = .ok (.getfield 31, 3) := by decide +kernel
theorem d_Qu_answer_65 : decode prog_6_method_4_code 65 = .ok (.getfield 94, 3) := by decide +kernel
theorem d_Qu_answer_68 : decode prog_6_method_4_code 68 = .ok (.iload_n 1, 1) := by decide +kernel
theorem d_Qu_answer_69 : decode prog_6_method_4_code 69 = .ok (.iaload, 1) := by decide +kernel
theorem d_Qu_answer_70 : decode prog_6_method_4_code 70 = .ok (.invokevirtual 97, 3) := by decide +kernel
theorem d_Qu_answer_73 : decode prog_6_method_4_code 73 = .ok (.iinc 1 1, 3) := by decide +kernel
theorem d_Qu_answer_76 : decode prog_6_method_4_code 76 = .ok (.goto (-41), 3) := by decide +kernel
theorem d_Qu_answer_79 : decode prog_6_method_4_code 79 = .ok (.aload_n 0, 1) := by decide +kernel
theorem d_Qu_answer_80 : decode prog_6_method_4_code 80 = .ok (.getfield 35, 3) := by decide +kernel
theorem d_Qu_answer_83 : decode prog_6_method_4_code 83 = .ok (.getfield 101, 3) := by decide +kernel
theorem d_Qu_answer_86 : decode prog_6_method_4_code 86 = .ok (.ireturn, 1) := by decide +kernel
theorem d_Qu_askDeadlock_0 : decode prog_6_method_3_code 0 = .ok (.aload_n 0, 1) := by decide +kernel
theorem d_Qu_askDeadlock_1 : decode prog_6_method_3_code 1 = .ok (.invokevirtual 39, 3) := by decide +kernel
theorem d_Qu_askDeadlock_4 : decode prog_6_method_3_code 4 = .ok (.iconst 0, 1) := by decide +kernel
theorem d_Qu_askDeadlock_5 : decode prog_6_method_3_code 5 = .ok (.istore_n 1, 1) := by decide +kernel
theorem d_Qu_askDeadlock_6 : decode prog_6_method_3_code 6 = .ok (.iload_n 1, 1) := by decide +kernel
theorem d_Qu_askDeadlock_7 : decode prog_6_method_3_code 7 = .ok (.aload_n 0, 1) := by decide +kernel
theorem d_Qu_askDeadlock_8 : decode prog_6_method_3_code 8 = .ok (.getfield 27, 3) := by decide +kernel
theorem d_Qu_askDeadlock_11 : decode prog_6_method_3_code 11 = .ok (.getfield 58, 3) := by decide +kernel
theorem d_Qu_askDeadlock_14 : decode prog_6_method_3_code 14 = .ok (.if_icmp .ge 30, 3) := by decide +kernel
theorem d_Qu_askDeadlock_17 : decode prog_6_method_3_code 17 = .ok (.aload_n 0, 1) := by decide +kernel
theorem d_Qu_askDeadlock_18 : decode prog_6_method_3_code 18 = .ok (.getfield 12, 3) := by decide +kernel
theorem d_Qu_askDeadlock_21 : decode prog_6_method_3_code 21 = .ok (.lconst 0, 1) := by decide +kernel
theorem d_Qu_askDeadlock_22 : decode prog_6_method_3_code 22 = .ok (.aload_n 0, 1) := by decide +kernel
theorem d_Qu_askDeadlock_23 : decode prog_6_method_3_code 23 = .ok (.getfield 27, 3) := by decide +kernel
theorem d_Qu_askDeadlock_26 : decode prog_6_method_3_code 26 = .ok (.getfield 64, 3) := by decide +kernel
theorem d_Qu_askDeadlock_29 : decode prog_6_method_3_code 29 = .ok (.iload_n 1, 1) := by decide +kernel
theorem d_Qu_askDeadlock_30 : decode prog_6_method_3_code 30 = .ok (.iaload, 1) := by decide +kernel
theorem d_Qu_askDeadlock_31 : decode prog_6_method_3_code 31 = .ok (.i2l, 1) := by decide +kernel
theorem d_Qu_askDeadlock_32 : decode prog_6_method_3_code 32 = .ok (.bipush 30, 2) := by decide +kernel
theorem d_Qu_askDeadlock_34 : decode prog_6_method_3_code 34 = .ok (.lshl, 1) := by decide +kernel
theorem d_Qu_askDeadlock_35 : decode prog_6_method_3_code 35 = .ok (.invokevirtual 50, 3) := by decide +kernel
theorem d_Qu_askDeadlock_38 : decode prog_6_method_3_code 38 = .ok (.iinc 1 1, 3) := by decide +kernel
theorem d_Qu_askDeadlock_41 : decode prog_6_method_3_code 41 = .ok (.goto (-35), 3) := by decide +kernel
theorem d_Qu_askDeadlock_44 : decode prog_6_method_3_code 44 = .ok (.aload_n 0, 1) := by decide +kernel
theorem d_Qu_askDeadlock_45 : decode prog_6_method_3_code 45 = .ok (.invokevirtual 54, 3) := by decide +kernel
theorem d_Qu_askDeadlock_48 : decode prog_6_method_3_code 48 = .ok (.ireturn, 1) := by decide +kernel
theorem d_Qu_askMarking_0 : decode prog_6_method_2_code 0 = .ok (.aload_n 0, 1) := by decide +kernel
theorem d_Qu_askMarking_1 : decode prog_6_method_2_code 1 = .ok (.invokevirtual 39, 3) := by decide +kernel
theorem d_Qu_askMarking_4 : decode prog_6_method_2_code 4 = .ok (.iconst 0, 1) := by decide +kernel
theorem d_Qu_askMarking_5 : decode prog_6_method_2_code 5 = .ok (.istore_n 2, 1) := by decide +kernel
theorem d_Qu_askMarking_6 : decode prog_6_method_2_code 6 = .ok (.iload_n 2, 1) := by decide +kernel
theorem d_Qu_askMarking_7 : decode prog_6_method_2_code 7 = .ok (.bipush 8, 2) := by decide +kernel
theorem d_Qu_askMarking_9 : decode prog_6_method_2_code 9 = .ok (.if_icmp .ge 47, 3) := by decide +kernel
theorem d_Qu_askMarking_12 : decode prog_6_method_2_code 12 = .ok (.iload_n 1, 1) := by decide +kernel
theorem d_Qu_askMarking_13 : decode prog_6_method_2_code 13 = .ok (.i2l, 1) := by decide +kernel
theorem d_Qu_askMarking_14 : decode prog_6_method_2_code 14 = .ok (.iload_n 2, 1) := by decide +kernel
theorem d_Qu_askMarking_15 : decode prog_6_method_2_code 15 = .ok (.invokestatic 42, 3) := by decide +kernel
theorem d_Qu_askMarking_18 : decode prog_6_method_2_code 18 = .ok (.istore_n 3, 1) := by decide +kernel
theorem d_Qu_askMarking_19 : decode prog_6_method_2_code 19 = .ok (.aload_n 0, 1) := by decide +kernel
theorem d_Qu_askMarking_20 : decode prog_6_method_2_code 20 = .ok (.getfield 12, 3) := by decide +kernel
theorem d_Qu_askMarking_23 : decode prog_6_method_2_code 23 = .ok (.iload_n 3, 1) := by decide +kernel
theorem d_Qu_askMarking_24 : decode prog_6_method_2_code 24 = .ok (.ifCond .eq 10, 3) := by decide +kernel
theorem d_Qu_askMarking_27 : decode prog_6_method_2_code 27 = .ok (.iload_n 2, 1) := by decide +kernel
theorem d_Qu_askMarking_28 : decode prog_6_method_2_code 28 = .ok (.invokestatic 46, 3) := by decide +kernel
theorem d_Qu_askMarking_31 : decode prog_6_method_2_code 31 = .ok (.goto 4, 3) := by decide +kernel
theorem d_Qu_askMarking_34 : decode prog_6_method_2_code 34 = .ok (.lconst 0, 1) := by decide +kernel
theorem d_Qu_askMarking_35 : decode prog_6_method_2_code 35 = .ok (.iload_n 3, 1) := by decide +kernel
theorem d_Qu_askMarking_36 : decode prog_6_method_2_code 36 = .ok (.ifCond .eq 7, 3) := by decide +kernel
theorem d_Qu_askMarking_39 : decode prog_6_method_2_code 39 = .ok (.lconst 0, 1) := by decide +kernel
theorem d_Qu_askMarking_40 : decode prog_6_method_2_code 40 = .ok (.goto 7, 3) := by decide +kernel
theorem d_Qu_askMarking_43 : decode prog_6_method_2_code 43 = .ok (.iload_n 2, 1) := by decide +kernel
theorem d_Qu_askMarking_44 : decode prog_6_method_2_code 44 = .ok (.invokestatic 46, 3) := by decide +kernel
theorem d_Qu_askMarking_47 : decode prog_6_method_2_code 47 = .ok (.invokevirtual 50, 3) := by decide +kernel
theorem d_Qu_askMarking_50 : decode prog_6_method_2_code 50 = .ok (.iinc 2 1, 3) := by decide +kernel
theorem d_Qu_askMarking_53 : decode prog_6_method_2_code 53 = .ok (.goto (-47), 3) := by decide +kernel
theorem d_Qu_askMarking_56 : decode prog_6_method_2_code 56 = .ok (.aload_n 0, 1) := by decide +kernel
theorem d_Qu_askMarking_57 : decode prog_6_method_2_code 57 = .ok (.invokevirtual 54, 3) := by decide +kernel
theorem d_Qu_askMarking_60 : decode prog_6_method_2_code 60 = .ok (.ireturn, 1) := by decide +kernel
theorem d_Qu_describeCondition_0 : decode prog_6_method_8_code 0 = .ok (.aload_n 0, 1) := by decide +kernel
theorem d_Qu_describeCondition_1 : decode prog_6_method_8_code 1 = .ok (.getfield 31, 3) := by decide +kernel
theorem d_Qu_describeCondition_4 : decode prog_6_method_8_code 4 = .ok (.getfield 133, 3) := by decide +kernel
theorem d_Qu_describeCondition_7 : decode prog_6_method_8_code 7 = .ok (.iload_n 1, 1) := by decide +kernel
theorem d_Qu_describeCondition_8 : decode prog_6_method_8_code 8 = .ok (.iaload, 1) := by decide +kernel
theorem d_Qu_describeCondition_9 : decode prog_6_method_8_code 9 = .ok (.istore_n 2, 1) := by decide +kernel
theorem d_Qu_describeCondition_10 : decode prog_6_method_8_code 10 = .ok (.aload_n 0, 1) := by decide +kernel
theorem d_Qu_describeCondition_11 : decode prog_6_method_8_code 11 = .ok (.getfield 31, 3) := by decide +kernel
theorem d_Qu_describeCondition_14 : decode prog_6_method_8_code 14 = .ok (.getfield 136, 3) := by decide +kernel
theorem d_Qu_describeCondition_17 : decode prog_6_method_8_code 17 = .ok (.iload_n 1, 1) := by decide +kernel
theorem d_Qu_describeCondition_18 : decode prog_6_method_8_code 18 = .ok (.iaload, 1) := by decide +kernel
theorem d_Qu_describeCondition_19 : decode prog_6_method_8_code 19 = .ok (.aload_n 0, 1) := by decide +kernel
theorem d_Qu_describeCondition_20 : decode prog_6_method_8_code 20 = .ok (.getfield 73, 3) := by decide +kernel
theorem d_Qu_describeCondition_23 : decode prog_6_method_8_code 23 = .ok (.iand, 1) := by decide +kernel
theorem d_Qu_describeCondition_24 : decode prog_6_method_8_code 24 = .ok (.istore_n 3, 1) := by decide +kernel
theorem d_Qu_describeCondition_25 : decode prog_6_method_8_code 25 = .ok (.aload_n 0, 1) := by decide +kernel
theorem d_Qu_describeCondition_26 : decode prog_6_method_8_code 26 = .ok (.getfield 31, 3) := by decide +kernel
theorem d_Qu_describeCondition_29 : decode prog_6_method_8_code 29 = .ok (.getfield 139, 3) := by decide +kernel
theorem d_Qu_describeCondition_32 : decode prog_6_method_8_code 32 = .ok (.iload_n 1, 1) := by decide +kernel
theorem d_Qu_describeCondition_33 : decode prog_6_method_8_code 33 = .ok (.iaload, 1) := by decide +kernel
theorem d_Qu_describeCondition_34 : decode prog_6_method_8_code 34 = .ok (.iconst (-1), 1) := by decide +kernel
theorem d_Qu_describeCondition_35 : decode prog_6_method_8_code 35 = .ok (.if_icmp .ne 7, 3) := by decide +kernel
theorem d_Qu_describeCondition_38 : decode prog_6_method_8_code 38 = .ok (.lconst 0, 1) := by decide +kernel
theorem d_Qu_describeCondition_39 : decode prog_6_method_8_code 39 = .ok (.goto 14, 3) := by decide +kernel
theorem d_Qu_describeCondition_42 : decode prog_6_method_8_code 42 = .ok (.lconst 1, 1) := by decide +kernel
theorem d_Qu_describeCondition_43 : decode prog_6_method_8_code 43 = .ok (.aload_n 0, 1) := by decide +kernel
theorem d_Qu_describeCondition_44 : decode prog_6_method_8_code 44 = .ok (.getfield 31, 3) := by decide +kernel
theorem d_Qu_describeCondition_47 : decode prog_6_method_8_code 47 = .ok (.getfield 139, 3) := by decide +kernel
theorem d_Qu_describeCondition_50 : decode prog_6_method_8_code 50 = .ok (.iload_n 1, 1) := by decide +kernel
theorem d_Qu_describeCondition_51 : decode prog_6_method_8_code 51 = .ok (.iaload, 1) := by decide +kernel
theorem d_Qu_describeCondition_52 : decode prog_6_method_8_code 52 = .ok (.lshl, 1) := by decide +kernel
theorem d_Qu_describeCondition_53 : decode prog_6_method_8_code 53 = .ok (.lstore 4, 2) := by decide +kernel
theorem d_Qu_describeCondition_55 : decode prog_6_method_8_code 55 = .ok (.aload_n 0, 1) := by decide +kernel
theorem d_Qu_describeCondition_56 : decode prog_6_method_8_code 56 = .ok (.getfield 12, 3) := by decide +kernel
theorem d_Qu_describeCondition_59 : decode prog_6_method_8_code 59 = .ok (.iload_n 3, 1) := by decide +kernel
theorem d_Qu_describeCondition_60 : decode prog_6_method_8_code 60 = .ok (.i2l, 1) := by decide +kernel
theorem d_Qu_describeCondition_61 : decode prog_6_method_8_code 61 = .ok (.iload_n 2, 1) := by decide +kernel
theorem d_Qu_describeCondition_62 : decode prog_6_method_8_code 62 = .ok (.invokestatic 46, 3) := by decide +kernel
theorem d_Qu_describeCondition_65 : decode prog_6_method_8_code 65 = .ok (.lor, 1) := by decide +kernel
theorem d_Qu_describeCondition_66 : decode prog_6_method_8_code 66 = .ok (.lload 4, 2) := by decide +kernel
theorem d_Qu_describeCondition_68 : decode prog_6_method_8_code 68 = .ok (.invokevirtual 50, 3) := by decide +kernel
theorem d_Qu_describeCondition_71 : decode prog_6_method_8_code 71 = .ok (.iconst 0, 1) := by decide +kernel
theorem d_Qu_describeCondition_72 : decode prog_6_method_8_code 72 = .ok (.istore 6, 2) := by decide +kernel
theorem d_Qu_describeCondition_74 : decode prog_6_method_8_code 74 = .ok (.iload 6, 2) := by decide +kernel
theorem d_Qu_describeCondition_76 : decode prog_6_method_8_code 76 = .ok (.aload_n 0, 1) := by decide +kernel
theorem d_Qu_describeCondition_77 : decode prog_6_method_8_code 77 = .ok (.getfield 31, 3) := by decide +kernel
theorem d_Qu_describeCondition_80 : decode prog_6_method_8_code 80 = .ok (.getfield 85, 3) := by decide +kernel
theorem d_Qu_describeCondition_83 : decode prog_6_method_8_code 83 = .ok (.if_icmp .ge 42, 3) := by decide +kernel
theorem d_Qu_describeCondition_86 : decode prog_6_method_8_code 86 = .ok (.iload_n 3, 1) := by decide +kernel
theorem d_Qu_describeCondition_87 : decode prog_6_method_8_code 87 = .ok (.i2l, 1) := by decide +kernel
theorem d_Qu_describeCondition_88 : decode prog_6_method_8_code 88 = .ok (.iload 6, 2) := by decide +kernel
theorem d_Qu_describeCondition_90 : decode prog_6_method_8_code 90 = .ok (.invokestatic 42, 3) := by decide +kernel
theorem d_Qu_describeCondition_93 : decode prog_6_method_8_code 93 = .ok (.ifCond .eq 26, 3) := by decide +kernel
theorem d_Qu_describeCondition_96 : decode prog_6_method_8_code 96 = .ok (.aload_n 0, 1) := by decide +kernel
theorem d_Qu_describeCondition_97 : decode prog_6_method_8_code 97 = .ok (.getfield 12, 3) := by decide +kernel
theorem d_Qu_describeCondition_100 : decode prog_6_method_8_code 100 = .ok (.aload_n 0, 1) := by decide +kernel
theorem d_Qu_describeCondition_101 : decode prog_6_method_8_code 101 = .ok (.iload_n 2, 1) := by decide +kernel
theorem d_Qu_describeCondition_102 : decode prog_6_method_8_code 102 = .ok (.iload 6, 2) := by decide +kernel
theorem d_Qu_describeCondition_104 : decode prog_6_method_8_code 104 = .ok (.invokevirtual 122, 3) := by decide +kernel
theorem d_Qu_describeCondition_107 : decode prog_6_method_8_code 107 = .ok (.lconst 1, 1) := by decide +kernel
theorem d_Qu_describeCondition_108 : decode prog_6_method_8_code 108 = .ok (.iload 6, 2) := by decide +kernel
theorem d_Qu_describeCondition_110 : decode prog_6_method_8_code 110 = .ok (.lshl, 1) := by decide +kernel
theorem d_Qu_describeCondition_111 : decode prog_6_method_8_code 111 = .ok (.iload_n 2, 1) := by decide +kernel
theorem d_Qu_describeCondition_112 : decode prog_6_method_8_code 112 = .ok (.invokestatic 46, 3) := by decide +kernel
theorem d_Qu_describeCondition_115 : decode prog_6_method_8_code 115 = .ok (.lor, 1) := by decide +kernel
theorem d_Qu_describeCondition_116 : decode prog_6_method_8_code 116 = .ok (.invokevirtual 50, 3) := by decide +kernel
theorem d_Qu_describeCondition_119 : decode prog_6_method_8_code 119 = .ok (.iinc 6 1, 3) := by decide +kernel
theorem d_Qu_describeCondition_122 : decode prog_6_method_8_code 122 = .ok (.goto (-48), 3) := by decide +kernel
theorem d_Qu_describeCondition_125 : decode prog_6_method_8_code 125 = .ok (.return_, 1) := by decide +kernel
theorem d_Qu_describeEvent_0 : decode prog_6_method_7_code 0 = .ok (.iconst 0, 1) := by decide +kernel
theorem d_Qu_describeEvent_1 : decode prog_6_method_7_code 1 = .ok (.istore_n 2, 1) := by decide +kernel
theorem d_Qu_describeEvent_2 : decode prog_6_method_7_code 2 = .ok (.iload_n 2, 1) := by decide +kernel
theorem d_Qu_describeEvent_3 : decode prog_6_method_7_code 3 = .ok (.iload_n 1, 1) := by decide +kernel
theorem d_Qu_describeEvent_4 : decode prog_6_method_7_code 4 = .ok (.if_icmp .ge 93, 3) := by decide +kernel
theorem d_Qu_describeEvent_7 : decode prog_6_method_7_code 7 = .ok (.aload_n 0, 1) := by decide +kernel
theorem d_Qu_describeEvent_8 : decode prog_6_method_7_code 8 = .ok (.getfield 31, 3) := by decide +kernel
theorem d_Qu_describeEvent_11 : decode prog_6_method_7_code 11 = .ok (.getfield 126, 3) := by decide +kernel
theorem d_Qu_describeEvent_14 : decode prog_6_method_7_code 14 = .ok (.iload_n 1, 1) := by decide +kernel
theorem d_Qu_describeEvent_15 : decode prog_6_method_7_code 15 = .ok (.iaload, 1) := by decide +kernel
theorem d_Qu_describeEvent_16 : decode prog_6_method_7_code 16 = .ok (.i2l, 1) := by decide +kernel
theorem d_Qu_describeEvent_17 : decode prog_6_method_7_code 17 = .ok (.iload_n 2, 1) := by decide +kernel
theorem d_Qu_describeEvent_18 : decode prog_6_method_7_code 18 = .ok (.invokestatic 42, 3) := by decide +kernel
theorem d_Qu_describeEvent_21 : decode prog_6_method_7_code 21 = .ok (.ifCond .eq 19, 3) := by decide +kernel
theorem d_Qu_describeEvent_24 : decode prog_6_method_7_code 24 = .ok (.aload_n 0, 1) := by decide +kernel
theorem d_Qu_describeEvent_25 : decode prog_6_method_7_code 25 = .ok (.getfield 12, 3) := by decide +kernel
theorem d_Qu_describeEvent_28 : decode prog_6_method_7_code 28 = .ok (.lconst 1, 1) := by decide +kernel
theorem d_Qu_describeEvent_29 : decode prog_6_method_7_code 29 = .ok (.iload_n 2, 1) := by decide +kernel
theorem d_Qu_describeEvent_30 : decode prog_6_method_7_code 30 = .ok (.lshl, 1) := by decide +kernel
theorem d_Qu_describeEvent_31 : decode prog_6_method_7_code 31 = .ok (.lconst 1, 1) := by decide +kernel
theorem d_Qu_describeEvent_32 : decode prog_6_method_7_code 32 = .ok (.iload_n 1, 1) := by decide +kernel
theorem d_Qu_describeEvent_33 : decode prog_6_method_7_code 33 = .ok (.lshl, 1) := by decide +kernel
theorem d_Qu_describeEvent_34 : decode prog_6_method_7_code 34 = .ok (.invokevirtual 50, 3) := by decide +kernel
theorem d_Qu_describeEvent_37 : decode prog_6_method_7_code 37 = .ok (.goto 54, 3) := by decide +kernel
theorem d_Qu_describeEvent_40 : decode prog_6_method_7_code 40 = .ok (.aload_n 0, 1) := by decide +kernel
theorem d_Qu_describeEvent_41 : decode prog_6_method_7_code 41 = .ok (.getfield 73, 3) := by decide +kernel
theorem d_Qu_describeEvent_44 : decode prog_6_method_7_code 44 = .ok (.i2l, 1) := by decide +kernel
theorem d_Qu_describeEvent_45 : decode prog_6_method_7_code 45 = .ok (.iload_n 2, 1) := by decide +kernel
theorem d_Qu_describeEvent_46 : decode prog_6_method_7_code 46 = .ok (.invokestatic 42, 3) := by decide +kernel
theorem d_Qu_describeEvent_49 : decode prog_6_method_7_code 49 = .ok (.ifCond .eq 42, 3) := by decide +kernel
theorem d_Qu_describeEvent_52 : decode prog_6_method_7_code 52 = .ok (.aload_n 0, 1) := by decide +kernel
theorem d_Qu_describeEvent_53 : decode prog_6_method_7_code 53 = .ok (.getfield 31, 3) := by decide +kernel
theorem d_Qu_describeEvent_56 : decode prog_6_method_7_code 56 = .ok (.getfield 129, 3) := by decide +kernel
theorem d_Qu_describeEvent_59 : decode prog_6_method_7_code 59 = .ok (.iload_n 1, 1) := by decide +kernel
theorem d_Qu_describeEvent_60 : decode prog_6_method_7_code 60 = .ok (.laload, 1) := by decide +kernel
theorem d_Qu_describeEvent_61 : decode prog_6_method_7_code 61 = .ok (.aload_n 0, 1) := by decide +kernel
theorem d_Qu_describeEvent_62 : decode prog_6_method_7_code 62 = .ok (.getfield 31, 3) := by decide +kernel
theorem d_Qu_describeEvent_65 : decode prog_6_method_7_code 65 = .ok (.getfield 129, 3) := by decide +kernel
theorem d_Qu_describeEvent_68 : decode prog_6_method_7_code 68 = .ok (.iload_n 2, 1) := by decide +kernel
theorem d_Qu_describeEvent_69 : decode prog_6_method_7_code 69 = .ok (.laload, 1) := by decide +kernel
theorem d_Qu_describeEvent_70 : decode prog_6_method_7_code 70 = .ok (.land, 1) := by decide +kernel
theorem d_Qu_describeEvent_71 : decode prog_6_method_7_code 71 = .ok (.lconst 0, 1) := by decide +kernel
theorem d_Qu_describeEvent_72 : decode prog_6_method_7_code 72 = .ok (.lcmp, 1) := by decide +kernel
theorem d_Qu_describeEvent_73 : decode prog_6_method_7_code 73 = .ok (.ifCond .eq 18, 3) := by decide +kernel
theorem d_Qu_describeEvent_76 : decode prog_6_method_7_code 76 = .ok (.aload_n 0, 1) := by decide +kernel
theorem d_Qu_describeEvent_77 : decode prog_6_method_7_code 77 = .ok (.getfield 12, 3) := by decide +kernel
theorem d_Qu_describeEvent_80 : decode prog_6_method_7_code 80 = .ok (.lconst 0, 1) := by decide +kernel
theorem d_Qu_describeEvent_81 : decode prog_6_method_7_code 81 = .ok (.lconst 1, 1) := by decide +kernel
theorem d_Qu_describeEvent_82 : decode prog_6_method_7_code 82 = .ok (.iload_n 1, 1) := by decide +kernel
theorem d_Qu_describeEvent_83 : decode prog_6_method_7_code 83 = .ok (.lshl, 1) := by decide +kernel
theorem d_Qu_describeEvent_84 : decode prog_6_method_7_code 84 = .ok (.lconst 1, 1) := by decide +kernel
theorem d_Qu_describeEvent_85 : decode prog_6_method_7_code 85 = .ok (.iload_n 2, 1) := by decide +kernel
theorem d_Qu_describeEvent_86 : decode prog_6_method_7_code 86 = .ok (.lshl, 1) := by decide +kernel
theorem d_Qu_describeEvent_87 : decode prog_6_method_7_code 87 = .ok (.lor, 1) := by decide +kernel
theorem d_Qu_describeEvent_88 : decode prog_6_method_7_code 88 = .ok (.invokevirtual 50, 3) := by decide +kernel
theorem d_Qu_describeEvent_91 : decode prog_6_method_7_code 91 = .ok (.iinc 2 1, 3) := by decide +kernel
theorem d_Qu_describeEvent_94 : decode prog_6_method_7_code 94 = .ok (.goto (-92), 3) := by decide +kernel
theorem d_Qu_describeEvent_97 : decode prog_6_method_7_code 97 = .ok (.return_, 1) := by decide +kernel
theorem d_Qu_describePrefix_0 : decode prog_6_method_6_code 0 = .ok (.aload_n 0, 1) := by decide +kernel
theorem d_Qu_describePrefix_1 : decode prog_6_method_6_code 1 = .ok (.getfield 12, 3) := by decide +kernel
theorem d_Qu_describePrefix_4 : decode prog_6_method_6_code 4 = .ok (.invokevirtual 104, 3) := by decide +kernel
theorem d_Qu_describePrefix_7 : decode prog_6_method_6_code 7 = .ok (.aload_n 0, 1) := by decide +kernel
theorem d_Qu_describePrefix_8 : decode prog_6_method_6_code 8 = .ok (.iconst 1, 1) := by decide +kernel
theorem d_Qu_describePrefix_9 : decode prog_6_method_6_code 9 = .ok (.aload_n 0, 1) := by decide +kernel
theorem d_Qu_describePrefix_10 : decode prog_6_method_6_code 10 = .ok (.getfield 31, 3) := by decide +kernel
theorem d_Qu_describePrefix_13 : decode prog_6_method_6_code 13 = .ok (.getfield 85, 3) := by decide +kernel
theorem d_Qu_describePrefix_16 : decode prog_6_method_6_code 16 = .ok (.ishl, 1) := by decide +kernel
theorem d_Qu_describePrefix_17 : decode prog_6_method_6_code 17 = .ok (.iconst 1, 1) := by decide +kernel
theorem d_Qu_describePrefix_18 : decode prog_6_method_6_code 18 = .ok (.isub, 1) := by decide +kernel
theorem d_Qu_describePrefix_19 : decode prog_6_method_6_code 19 = .ok (.aload_n 0, 1) := by decide +kernel
theorem d_Qu_describePrefix_20 : decode prog_6_method_6_code 20 = .ok (.getfield 31, 3) := by decide +kernel
theorem d_Qu_describePrefix_23 : decode prog_6_method_6_code 23 = .ok (.getfield 107, 3) := by decide +kernel
theorem d_Qu_describePrefix_26 : decode prog_6_method_6_code 26 = .ok (.iconst (-1), 1) := by decide +kernel
theorem d_Qu_describePrefix_27 : decode prog_6_method_6_code 27 = .ok (.ixor, 1) := by decide +kernel
theorem d_Qu_describePrefix_28 : decode prog_6_method_6_code 28 = .ok (.iand, 1) := by decide +kernel
theorem d_Qu_describePrefix_29 : decode prog_6_method_6_code 29 = .ok (.putfield 73, 3) := by decide +kernel
theorem d_Qu_describePrefix_32 : decode prog_6_method_6_code 32 = .ok (.iconst 0, 1) := by decide +kernel
theorem d_Qu_describePrefix_33 : decode prog_6_method_6_code 33 = .ok (.istore_n 1, 1) := by decide +kernel
theorem d_Qu_describePrefix_34 : decode prog_6_method_6_code 34 = .ok (.iload_n 1, 1) := by decide +kernel
theorem d_Qu_describePrefix_35 : decode prog_6_method_6_code 35 = .ok (.aload_n 0, 1) := by decide +kernel
theorem d_Qu_describePrefix_36 : decode prog_6_method_6_code 36 = .ok (.getfield 31, 3) := by decide +kernel
theorem d_Qu_describePrefix_39 : decode prog_6_method_6_code 39 = .ok (.getfield 85, 3) := by decide +kernel
theorem d_Qu_describePrefix_42 : decode prog_6_method_6_code 42 = .ok (.if_icmp .ge 26, 3) := by decide +kernel
theorem d_Qu_describePrefix_45 : decode prog_6_method_6_code 45 = .ok (.aload_n 0, 1) := by decide +kernel
theorem d_Qu_describePrefix_46 : decode prog_6_method_6_code 46 = .ok (.getfield 73, 3) := by decide +kernel
theorem d_Qu_describePrefix_49 : decode prog_6_method_6_code 49 = .ok (.i2l, 1) := by decide +kernel
theorem d_Qu_describePrefix_50 : decode prog_6_method_6_code 50 = .ok (.iload_n 1, 1) := by decide +kernel
theorem d_Qu_describePrefix_51 : decode prog_6_method_6_code 51 = .ok (.invokestatic 42, 3) := by decide +kernel
theorem d_Qu_describePrefix_54 : decode prog_6_method_6_code 54 = .ok (.ifCond .eq 8, 3) := by decide +kernel
theorem d_Qu_describePrefix_57 : decode prog_6_method_6_code 57 = .ok (.aload_n 0, 1) := by decide +kernel
theorem d_Qu_describePrefix_58 : decode prog_6_method_6_code 58 = .ok (.iload_n 1, 1) := by decide +kernel
theorem d_Qu_describePrefix_59 : decode prog_6_method_6_code 59 = .ok (.invokevirtual 110, 3) := by decide +kernel
theorem d_Qu_describePrefix_62 : decode prog_6_method_6_code 62 = .ok (.iinc 1 1, 3) := by decide +kernel
theorem d_Qu_describePrefix_65 : decode prog_6_method_6_code 65 = .ok (.goto (-31), 3) := by decide +kernel
theorem d_Qu_describePrefix_68 : decode prog_6_method_6_code 68 = .ok (.iconst 0, 1) := by decide +kernel
theorem d_Qu_describePrefix_69 : decode prog_6_method_6_code 69 = .ok (.istore_n 1, 1) := by decide +kernel
theorem d_Qu_describePrefix_70 : decode prog_6_method_6_code 70 = .ok (.iload_n 1, 1) := by decide +kernel
theorem d_Qu_describePrefix_71 : decode prog_6_method_6_code 71 = .ok (.aload_n 0, 1) := by decide +kernel
theorem d_Qu_describePrefix_72 : decode prog_6_method_6_code 72 = .ok (.getfield 31, 3) := by decide +kernel
theorem d_Qu_describePrefix_75 : decode prog_6_method_6_code 75 = .ok (.getfield 113, 3) := by decide +kernel
theorem d_Qu_describePrefix_78 : decode prog_6_method_6_code 78 = .ok (.if_icmp .ge 14, 3) := by decide +kernel
theorem d_Qu_describePrefix_81 : decode prog_6_method_6_code 81 = .ok (.aload_n 0, 1) := by decide +kernel
theorem d_Qu_describePrefix_82 : decode prog_6_method_6_code 82 = .ok (.iload_n 1, 1) := by decide +kernel
theorem d_Qu_describePrefix_83 : decode prog_6_method_6_code 83 = .ok (.invokevirtual 116, 3) := by decide +kernel
theorem d_Qu_describePrefix_86 : decode prog_6_method_6_code 86 = .ok (.iinc 1 1, 3) := by decide +kernel
theorem d_Qu_describePrefix_89 : decode prog_6_method_6_code 89 = .ok (.goto (-19), 3) := by decide +kernel
theorem d_Qu_describePrefix_92 : decode prog_6_method_6_code 92 = .ok (.iconst 0, 1) := by decide +kernel
theorem d_Qu_describePrefix_93 : decode prog_6_method_6_code 93 = .ok (.istore_n 1, 1) := by decide +kernel
theorem d_Qu_describePrefix_94 : decode prog_6_method_6_code 94 = .ok (.iload_n 1, 1) := by decide +kernel
theorem d_Qu_describePrefix_95 : decode prog_6_method_6_code 95 = .ok (.bipush 8, 2) := by decide +kernel
theorem d_Qu_describePrefix_97 : decode prog_6_method_6_code 97 = .ok (.if_icmp .ge 41, 3) := by decide +kernel
theorem d_Qu_describePrefix_100 : decode prog_6_method_6_code 100 = .ok (.aload_n 0, 1) := by decide +kernel
theorem d_Qu_describePrefix_101 : decode prog_6_method_6_code 101 = .ok (.getfield 27, 3) := by decide +kernel
theorem d_Qu_describePrefix_104 : decode prog_6_method_6_code 104 = .ok (.getfield 119, 3) := by decide +kernel
theorem d_Qu_describePrefix_107 : decode prog_6_method_6_code 107 = .ok (.i2l, 1) := by decide +kernel
theorem d_Qu_describePrefix_108 : decode prog_6_method_6_code 108 = .ok (.iload_n 1, 1) := by decide +kernel
theorem d_Qu_describePrefix_109 : decode prog_6_method_6_code 109 = .ok (.invokestatic 42, 3) := by decide +kernel
theorem d_Qu_describePrefix_112 : decode prog_6_method_6_code 112 = .ok (.ifCond .ne 20, 3) := by decide +kernel
theorem d_Qu_describePrefix_115 : decode prog_6_method_6_code 115 = .ok (.aload_n 0, 1) := by decide +kernel
theorem d_Qu_describePrefix_116 : decode prog_6_method_6_code 116 = .ok (.getfield 12, 3) := by decide +kernel
theorem d_Qu_describePrefix_119 : decode prog_6_method_6_code 119 = .ok (.aload_n 0, 1) := by decide +kernel
theorem d_Qu_describePrefix_120 : decode prog_6_method_6_code 120 = .ok (.iload_n 1, 1) := by decide +kernel
theorem d_Qu_describePrefix_121 : decode prog_6_method_6_code 121 = .ok (.iconst (-1), 1) := by decide +kernel
theorem d_Qu_describePrefix_122 : decode prog_6_method_6_code 122 = .ok (.invokevirtual 122, 3) := by decide +kernel
theorem d_Qu_describePrefix_125 : decode prog_6_method_6_code 125 = .ok (.iload_n 1, 1) := by decide +kernel
theorem d_Qu_describePrefix_126 : decode prog_6_method_6_code 126 = .ok (.invokestatic 46, 3) := by decide +kernel
theorem d_Qu_describePrefix_129 : decode prog_6_method_6_code 129 = .ok (.invokevirtual 50, 3) := by decide +kernel
theorem d_Qu_describePrefix_132 : decode prog_6_method_6_code 132 = .ok (.iinc 1 1, 3) := by decide +kernel
theorem d_Qu_describePrefix_135 : decode prog_6_method_6_code 135 = .ok (.goto (-41), 3) := by decide +kernel
theorem d_Qu_describePrefix_138 : decode prog_6_method_6_code 138 = .ok (.return_, 1) := by decide +kernel
theorem d_Qu_makersOf_0 : decode prog_6_method_9_code 0 = .ok (.lconst 0, 1) := by decide +kernel
theorem d_Qu_makersOf_1 : decode prog_6_method_9_code 1 = .ok (.lstore_n 3, 1) := by decide +kernel
theorem d_Qu_makersOf_2 : decode prog_6_method_9_code 2 = .ok (.iconst 0, 1) := by decide +kernel
theorem d_Qu_makersOf_3 : decode prog_6_method_9_code 3 = .ok (.istore 5, 2) := by decide +kernel
theorem d_Qu_makersOf_5 : decode prog_6_method_9_code 5 = .ok (.iload 5, 2) := by decide +kernel
theorem d_Qu_makersOf_7 : decode prog_6_method_9_code 7 = .ok (.aload_n 0, 1) := by decide +kernel
theorem d_Qu_makersOf_8 : decode prog_6_method_9_code 8 = .ok (.getfield 31, 3) := by decide +kernel
theorem d_Qu_makersOf_11 : decode prog_6_method_9_code 11 = .ok (.getfield 113, 3) := by decide +kernel
theorem d_Qu_makersOf_14 : decode prog_6_method_9_code 14 = .ok (.if_icmp .ge 71, 3) := by decide +kernel
theorem d_Qu_makersOf_17 : decode prog_6_method_9_code 17 = .ok (.aload_n 0, 1) := by decide +kernel
theorem d_Qu_makersOf_18 : decode prog_6_method_9_code 18 = .ok (.getfield 31, 3) := by decide +kernel
theorem d_Qu_makersOf_21 : decode prog_6_method_9_code 21 = .ok (.getfield 139, 3) := by decide +kernel
theorem d_Qu_makersOf_24 : decode prog_6_method_9_code 24 = .ok (.iload 5, 2) := by decide +kernel
theorem d_Qu_makersOf_26 : decode prog_6_method_9_code 26 = .ok (.iaload, 1) := by decide +kernel
theorem d_Qu_makersOf_27 : decode prog_6_method_9_code 27 = .ok (.istore 6, 2) := by decide +kernel
theorem d_Qu_makersOf_29 : decode prog_6_method_9_code 29 = .ok (.aload_n 0, 1) := by decide +kernel
theorem d_Qu_makersOf_30 : decode prog_6_method_9_code 30 = .ok (.getfield 31, 3) := by decide +kernel
theorem d_Qu_makersOf_33 : decode prog_6_method_9_code 33 = .ok (.getfield 133, 3) := by decide +kernel
theorem d_Qu_makersOf_36 : decode prog_6_method_9_code 36 = .ok (.iload 5, 2) := by decide +kernel
theorem d_Qu_makersOf_38 : decode prog_6_method_9_code 38 = .ok (.iaload, 1) := by decide +kernel
theorem d_Qu_makersOf_39 : decode prog_6_method_9_code 39 = .ok (.iload_n 1, 1) := by decide +kernel
theorem d_Qu_makersOf_40 : decode prog_6_method_9_code 40 = .ok (.if_icmp .ne 39, 3) := by decide +kernel
theorem d_Qu_makersOf_43 : decode prog_6_method_9_code 43 = .ok (.iload 6, 2) := by decide +kernel
theorem d_Qu_makersOf_45 : decode prog_6_method_9_code 45 = .ok (.iconst (-1), 1) := by decide +kernel
theorem d_Qu_makersOf_46 : decode prog_6_method_9_code 46 = .ok (.if_icmp .eq 33, 3) := by decide +kernel
theorem d_Qu_makersOf_49 : decode prog_6_method_9_code 49 = .ok (.iload_n 2, 1) := by decide +kernel
theorem d_Qu_makersOf_50 : decode prog_6_method_9_code 50 = .ok (.iconst (-1), 1) := by decide +kernel
theorem d_Qu_makersOf_51 : decode prog_6_method_9_code 51 = .ok (.if_icmp .eq 21, 3) := by decide +kernel
theorem d_Qu_makersOf_54 : decode prog_6_method_9_code 54 = .ok (.aload_n 0, 1) := by decide +kernel
theorem d_Qu_makersOf_55 : decode prog_6_method_9_code 55 = .ok (.getfield 31, 3) := by decide +kernel
theorem d_Qu_makersOf_58 : decode prog_6_method_9_code 58 = .ok (.getfield 126, 3) := by decide +kernel
theorem d_Qu_makersOf_61 : decode prog_6_method_9_code 61 = .ok (.iload 6, 2) := by decide +kernel
theorem d_Qu_makersOf_63 : decode prog_6_method_9_code 63 = .ok (.iaload, 1) := by decide +kernel
theorem d_Qu_makersOf_64 : decode prog_6_method_9_code 64 = .ok (.i2l, 1) := by decide +kernel
theorem d_Qu_makersOf_65 : decode prog_6_method_9_code 65 = .ok (.iload_n 2, 1) := by decide +kernel
theorem d_Qu_makersOf_66 : decode prog_6_method_9_code 66 = .ok (.invokestatic 42, 3) := by decide +kernel
theorem d_Qu_makersOf_69 : decode prog_6_method_9_code 69 = .ok (.ifCond .eq 10, 3) := by decide +kernel
theorem d_Qu_makersOf_72 : decode prog_6_method_9_code 72 = .ok (.lload_n 3, 1) := by decide +kernel
theorem d_Qu_makersOf_73 : decode prog_6_method_9_code 73 = .ok (.lconst 1, 1) := by decide +kernel
theorem d_Qu_makersOf_74 : decode prog_6_method_9_code 74 = .ok (.iload 6, 2) := by decide +kernel
theorem d_Qu_makersOf_76 : decode prog_6_method_9_code 76 = .ok (.lshl, 1) := by decide +kernel
theorem d_Qu_makersOf_77 : decode prog_6_method_9_code 77 = .ok (.lor, 1) := by decide +kernel
theorem d_Qu_makersOf_78 : decode prog_6_method_9_code 78 = .ok (.lstore_n 3, 1) := by decide +kernel
theorem d_Qu_makersOf_79 : decode prog_6_method_9_code 79 = .ok (.iinc 5 1, 3) := by decide +kernel
theorem d_Qu_makersOf_82 : decode prog_6_method_9_code 82 = .ok (.goto (-77), 3) := by decide +kernel
theorem d_Qu_makersOf_85 : decode prog_6_method_9_code 85 = .ok (.lload_n 3, 1) := by decide +kernel
theorem d_Qu_makersOf_86 : decode prog_6_method_9_code 86 = .ok (.lreturn, 1) := by decide +kernel
theorem d_Qu_placeBit_0 : decode prog_6_method_5_code 0 = .ok (.lconst 1, 1) := by decide +kernel
theorem d_Qu_placeBit_1 : decode prog_6_method_5_code 1 = .ok (.bipush 30, 2) := by decide +kernel
theorem d_Qu_placeBit_3 : decode prog_6_method_5_code 3 = .ok (.iload_n 0, 1) := by decide +kernel
theorem d_Qu_placeBit_4 : decode prog_6_method_5_code 4 = .ok (.iadd, 1) := by decide +kernel
theorem d_Qu_placeBit_5 : decode prog_6_method_5_code 5 = .ok (.lshl, 1) := by decide +kernel
theorem d_Qu_placeBit_6 : decode prog_6_method_5_code 6 = .ok (.lreturn, 1) := by decide +kernel
theorem d_Se_init_0 : decode prog_7_method_1_code 0 = .ok (.aload_n 0, 1) := by decide +kernel
theorem d_Se_init_1 : decode prog_7_method_1_code 1 = .ok (.invokespecial 3, 3) := by decide +kernel
theorem d_Se_init_4 : decode prog_7_method_1_code 4 = .ok (.aload_n 0, 1) := by decide +kernel
theorem d_Se_init_5 : decode prog_7_method_1_code 5 = .ok (.bipush 39, 2) := by decide +kernel
theorem d_Se_init_7 : decode prog_7_method_1_code 7 = .ok (.newarray .long, 2) := by decide +kernel
theorem d_Se_init_9 : decode prog_7_method_1_code 9 = .ok (.putfield 11, 3) := by decide +kernel
theorem d_Se_init_12 : decode prog_7_method_1_code 12 = .ok (.aload_n 0, 1) := by decide +kernel
theorem d_Se_init_13 : decode prog_7_method_1_code 13 = .ok (.bipush 38, 2) := by decide +kernel
theorem d_Se_init_15 : decode prog_7_method_1_code 15 = .ok (.newarray .int, 2) := by decide +kernel
theorem d_Se_init_17 : decode prog_7_method_1_code 17 = .ok (.putfield 15, 3) := by decide +kernel
theorem d_Se_init_20 : decode prog_7_method_1_code 20 = .ok (.aload_n 0, 1) := by decide +kernel
theorem d_Se_init_21 : decode prog_7_method_1_code 21 = .ok (.bipush 38, 2) := by decide +kernel
theorem d_Se_init_23 : decode prog_7_method_1_code 23 = .ok (.newarray .int, 2) := by decide +kernel
theorem d_Se_init_25 : decode prog_7_method_1_code 25 = .ok (.putfield 19, 3) := by decide +kernel
theorem d_Se_init_28 : decode prog_7_method_1_code 28 = .ok (.aload_n 0, 1) := by decide +kernel
theorem d_Se_init_29 : decode prog_7_method_1_code 29 = .ok (.aload_n 1, 1) := by decide +kernel
theorem d_Se_init_30 : decode prog_7_method_1_code 30 = .ok (.putfield 22, 3) := by decide +kernel
theorem d_Se_init_33 : decode prog_7_method_1_code 33 = .ok (.return_, 1) := by decide +kernel
theorem d_Se_assign_0 : decode prog_7_method_6_code 0 = .ok (.lconst 1, 1) := by decide +kernel
theorem d_Se_assign_1 : decode prog_7_method_6_code 1 = .ok (.iload_n 1, 1) := by decide +kernel
theorem d_Se_assign_2 : decode prog_7_method_6_code 2 = .ok (.lshl, 1) := by decide +kernel
theorem d_Se_assign_3 : decode prog_7_method_6_code 3 = .ok (.lstore 4, 2) := by decide +kernel
theorem d_Se_assign_5 : decode prog_7_method_6_code 5 = .ok (.iload_n 2, 1) := by decide +kernel
theorem d_Se_assign_6 : decode prog_7_method_6_code 6 = .ok (.ifCond .eq 17, 3) := by decide +kernel
theorem d_Se_assign_9 : decode prog_7_method_6_code 9 = .ok (.aload_n 0, 1) := by decide +kernel
theorem d_Se_assign_10 : decode prog_7_method_6_code 10 = .ok (.dup, 1) := by decide +kernel
theorem d_Se_assign_11 : decode prog_7_method_6_code 11 = .ok (.getfield 26, 3) := by decide +kernel
theorem d_Se_assign_14 : decode prog_7_method_6_code 14 = .ok (.lload 4, 2) := by decide +kernel
theorem d_Se_assign_16 : decode prog_7_method_6_code 16 = .ok (.lor, 1) := by decide +kernel
theorem d_Se_assign_17 : decode prog_7_method_6_code 17 = .ok (.putfield 26, 3) := by decide +kernel
theorem d_Se_assign_20 : decode prog_7_method_6_code 20 = .ok (.goto 14, 3) := by decide +kernel
theorem d_Se_assign_23 : decode prog_7_method_6_code 23 = .ok (.aload_n 0, 1) := by decide +kernel
theorem d_Se_assign_24 : decode prog_7_method_6_code 24 = .ok (.dup, 1) := by decide +kernel
theorem d_Se_assign_25 : decode prog_7_method_6_code 25 = .ok (.getfield 42, 3) := by decide +kernel
theorem d_Se_assign_28 : decode prog_7_method_6_code 28 = .ok (.lload 4, 2) := by decide +kernel
theorem d_Se_assign_30 : decode prog_7_method_6_code 30 = .ok (.lor, 1) := by decide +kernel
theorem d_Se_assign_31 : decode prog_7_method_6_code 31 = .ok (.putfield 42, 3) := by decide +kernel
theorem d_Se_assign_34 : decode prog_7_method_6_code 34 = .ok (.aload_n 0, 1) := by decide +kernel
theorem d_Se_assign_35 : decode prog_7_method_6_code 35 = .ok (.getfield 11, 3) := by decide +kernel
theorem d_Se_assign_38 : decode prog_7_method_6_code 38 = .ok (.aload_n 0, 1) := by decide +kernel
theorem d_Se_assign_39 : decode prog_7_method_6_code 39 = .ok (.getfield 47, 3) := by decide +kernel
theorem d_Se_assign_42 : decode prog_7_method_6_code 42 = .ok (.dup2, 1) := by decide +kernel
theorem d_Se_assign_43 : decode prog_7_method_6_code 43 = .ok (.laload, 1) := by decide +kernel
theorem d_Se_assign_44 : decode prog_7_method_6_code 44 = .ok (.lload 4, 2) := by decide +kernel
theorem d_Se_assign_46 : decode prog_7_method_6_code 46 = .ok (.lor, 1) := by decide +kernel
theorem d_Se_assign_47 : decode prog_7_method_6_code 47 = .ok (.lastore, 1) := by decide +kernel
theorem d_Se_assign_48 : decode prog_7_method_6_code 48 = .ok (.aload_n 0, 1) := by decide +kernel
theorem d_Se_assign_49 : decode prog_7_method_6_code 49 = .ok (.getfield 15, 3) := by decide +kernel
theorem d_Se_assign_52 : decode prog_7_method_6_code 52 = .ok (.aload_n 0, 1) := by decide +kernel
theorem d_Se_assign_53 : decode prog_7_method_6_code 53 = .ok (.getfield 62, 3) := by decide +kernel
theorem d_Se_assign_56 : decode prog_7_method_6_code 56 = .ok (.iload_n 1, 1) := by decide +kernel
theorem d_Se_assign_57 : decode prog_7_method_6_code 57 = .ok (.iastore, 1) := by decide +kernel
theorem d_Se_assign_58 : decode prog_7_method_6_code 58 = .ok (.aload_n 0, 1) := by decide +kernel
theorem d_Se_assign_59 : decode prog_7_method_6_code 59 = .ok (.dup, 1) := by decide +kernel
theorem d_Se_assign_60 : decode prog_7_method_6_code 60 = .ok (.getfield 62, 3) := by decide +kernel
theorem d_Se_assign_63 : decode prog_7_method_6_code 63 = .ok (.iconst 1, 1) := by decide +kernel
theorem d_Se_assign_64 : decode prog_7_method_6_code 64 = .ok (.iadd, 1) := by decide +kernel
theorem d_Se_assign_65 : decode prog_7_method_6_code 65 = .ok (.putfield 62, 3) := by decide +kernel
theorem d_Se_assign_68 : decode prog_7_method_6_code 68 = .ok (.aload_n 0, 1) := by decide +kernel
theorem d_Se_assign_69 : decode prog_7_method_6_code 69 = .ok (.getfield 19, 3) := by decide +kernel
theorem d_Se_assign_72 : decode prog_7_method_6_code 72 = .ok (.iload_n 1, 1) := by decide +kernel
theorem d_Se_assign_73 : decode prog_7_method_6_code 73 = .ok (.iload_n 3, 1) := by decide +kernel
theorem d_Se_assign_74 : decode prog_7_method_6_code 74 = .ok (.iastore, 1) := by decide +kernel
theorem d_Se_assign_75 : decode prog_7_method_6_code 75 = .ok (.return_, 1) := by decide +kernel
theorem d_Se_begin_0 : decode prog_7_method_4_code 0 = .ok (.aload_n 0, 1) := by decide +kernel
theorem d_Se_begin_1 : decode prog_7_method_4_code 1 = .ok (.lconst 0, 1) := by decide +kernel
theorem d_Se_begin_2 : decode prog_7_method_4_code 2 = .ok (.putfield 26, 3) := by decide +kernel
theorem d_Se_begin_5 : decode prog_7_method_4_code 5 = .ok (.aload_n 0, 1) := by decide +kernel
theorem d_Se_begin_6 : decode prog_7_method_4_code 6 = .ok (.lconst 0, 1) := by decide +kernel
theorem d_Se_begin_7 : decode prog_7_method_4_code 7 = .ok (.putfield 42, 3) := by decide +kernel
theorem d_Se_begin_10 : decode prog_7_method_4_code 10 = .ok (.aload_n 0, 1) := by decide +kernel
theorem d_Se_begin_11 : decode prog_7_method_4_code 11 = .ok (.iconst 0, 1) := by decide +kernel
theorem d_Se_begin_12 : decode prog_7_method_4_code 12 = .ok (.putfield 47, 3) := by decide +kernel
theorem d_Se_begin_15 : decode prog_7_method_4_code 15 = .ok (.aload_n 0, 1) := by decide +kernel
theorem d_Se_begin_16 : decode prog_7_method_4_code 16 = .ok (.iconst 0, 1) := by decide +kernel
theorem d_Se_begin_17 : decode prog_7_method_4_code 17 = .ok (.putfield 62, 3) := by decide +kernel
theorem d_Se_begin_20 : decode prog_7_method_4_code 20 = .ok (.aload_n 0, 1) := by decide +kernel
theorem d_Se_begin_21 : decode prog_7_method_4_code 21 = .ok (.getfield 11, 3) := by decide +kernel
theorem d_Se_begin_24 : decode prog_7_method_4_code 24 = .ok (.lconst 0, 1) := by decide +kernel
theorem d_Se_begin_25 : decode prog_7_method_4_code 25 = .ok (.invokestatic 65, 3) := by decide +kernel
theorem d_Se_begin_28 : decode prog_7_method_4_code 28 = .ok (.return_, 1) := by decide +kernel
theorem d_Se_decide_0 : decode prog_7_method_5_code 0 = .ok (.aload_n 0, 1) := by decide +kernel
theorem d_Se_decide_1 : decode prog_7_method_5_code 1 = .ok (.dup, 1) := by decide +kernel
theorem d_Se_decide_2 : decode prog_7_method_5_code 2 = .ok (.getfield 47, 3) := by decide +kernel
theorem d_Se_decide_5 : decode prog_7_method_5_code 5 = .ok (.iconst 1, 1) := by decide +kernel
theorem d_Se_decide_6 : decode prog_7_method_5_code 6 = .ok (.iadd, 1) := by decide +kernel
theorem d_Se_decide_7 : decode prog_7_method_5_code 7 = .ok (.putfield 47, 3) := by decide +kernel
theorem d_Se_decide_10 : decode prog_7_method_5_code 10 = .ok (.aload_n 0, 1) := by decide +kernel
theorem d_Se_decide_11 : decode prog_7_method_5_code 11 = .ok (.iload_n 1, 1) := by decide +kernel
theorem d_Se_decide_12 : decode prog_7_method_5_code 12 = .ok (.iconst 0, 1) := by decide +kernel
theorem d_Se_decide_13 : decode prog_7_method_5_code 13 = .ok (.iconst (-1), 1) := by decide +kernel
theorem d_Se_decide_14 : decode prog_7_method_5_code 14 = .ok (.invokevirtual 71, 3) := by decide +kernel
theorem d_Se_decide_17 : decode prog_7_method_5_code 17 = .ok (.return_, 1) := by decide +kernel
theorem d_Se_forcedBy_0 : decode prog_7_method_12_code 0 = .ok (.iconst 0, 1) := by decide +kernel
theorem d_Se_forcedBy_1 : decode prog_7_method_12_code 1 = .ok (.istore_n 2, 1) := by decide +kernel
theorem d_Se_forcedBy_2 : decode prog_7_method_12_code 2 = .ok (.iload_n 2, 1) := by decide +kernel
theorem d_Se_forcedBy_3 : decode prog_7_method_12_code 3 = .ok (.aload_n 0, 1) := by decide +kernel
theorem d_Se_forcedBy_4 : decode prog_7_method_12_code 4 = .ok (.getfield 62, 3) := by decide +kernel
theorem d_Se_forcedBy_7 : decode prog_7_method_12_code 7 = .ok (.if_icmp .ge 31, 3) := by decide +kernel
theorem d_Se_forcedBy_10 : decode prog_7_method_12_code 10 = .ok (.aload_n 0, 1) := by decide +kernel
theorem d_Se_forcedBy_11 : decode prog_7_method_12_code 11 = .ok (.getfield 19, 3) := by decide +kernel
theorem d_Se_forcedBy_14 : decode prog_7_method_12_code 14 = .ok (.aload_n 0, 1) := by decide +kernel
theorem d_Se_forcedBy_15 : decode prog_7_method_12_code 15 = .ok (.getfield 15, 3) := by decide +kernel
theorem d_Se_forcedBy_18 : decode prog_7_method_12_code 18 = .ok (.iload_n 2, 1) := by decide +kernel
theorem d_Se_forcedBy_19 : decode prog_7_method_12_code 19 = .ok (.iaload, 1) := by decide +kernel
theorem d_Se_forcedBy_20 : decode prog_7_method_12_code 20 = .ok (.iaload, 1) := by decide +kernel
theorem d_Se_forcedBy_21 : decode prog_7_method_12_code 21 = .ok (.iload_n 1, 1) := by decide +kernel
theorem d_Se_forcedBy_22 : decode prog_7_method_12_code 22 = .ok (.if_icmp .ne 10, 3) := by decide +kernel
theorem d_Se_forcedBy_25 : decode prog_7_method_12_code 25 = .ok (.aload_n 0, 1) := by decide +kernel
theorem d_Se_forcedBy_26 : decode prog_7_method_12_code 26 = .ok (.getfield 15, 3) := by decide +kernel
theorem d_Se_forcedBy_29 : decode prog_7_method_12_code 29 = .ok (.iload_n 2, 1) := by decide +kernel
theorem d_Se_forcedBy_30 : decode prog_7_method_12_code 30 = .ok (.iaload, 1) := by decide +kernel
theorem d_Se_forcedBy_31 : decode prog_7_method_12_code 31 = .ok (.ireturn, 1) := by decide +kernel
theorem d_Se_forcedBy_32 : decode prog_7_method_12_code 32 = .ok (.iinc 2 1, 3) := by decide +kernel
theorem d_Se_forcedBy_35 : decode prog_7_method_12_code 35 = .ok (.goto (-33), 3) := by decide +kernel
theorem d_Se_forcedBy_38 : decode prog_7_method_12_code 38 = .ok (.iconst (-1), 1) := by decide +kernel
theorem d_Se_forcedBy_39 : decode prog_7_method_12_code 39 = .ok (.ireturn, 1) := by decide +kernel
theorem d_Se_forgetIdle_0 : decode prog_7_method_11_code 0 = .ok (.aload_n 0, 1) := by decide +kernel
theorem d_Se_forgetIdle_1 : decode prog_7_method_11_code 1 = .ok (.getfield 22, 3) := by decide +kernel
theorem d_Se_forgetIdle_4 : decode prog_7_method_11_code 4 = .ok (.getfield 106, 3) := by decide +kernel
theorem d_Se_forgetIdle_7 : decode prog_7_method_11_code 7 = .ok (.istore_n 1, 1) := by decide +kernel
theorem d_Se_forgetIdle_8 : decode prog_7_method_11_code 8 = .ok (.aload_n 0, 1) := by decide +kernel
theorem d_Se_forgetIdle_9 : decode prog_7_method_11_code 9 = .ok (.getfield 22, 3) := by decide +kernel
theorem d_Se_forgetIdle_12 : decode prog_7_method_11_code 12 = .ok (.getfield 106, 3) := by decide +kernel
theorem d_Se_forgetIdle_15 : decode prog_7_method_11_code 15 = .ok (.istore_n 2, 1) := by decide +kernel
theorem d_Se_forgetIdle_16 : decode prog_7_method_11_code 16 = .ok (.iload_n 2, 1) := by decide +kernel
theorem d_Se_forgetIdle_17 : decode prog_7_method_11_code 17 = .ok (.aload_n 0, 1) := by decide +kernel
theorem d_Se_forgetIdle_18 : decode prog_7_method_11_code 18 = .ok (.getfield 22, 3) := by decide +kernel
theorem d_Se_forgetIdle_21 : decode prog_7_method_11_code 21 = .ok (.getfield 75, 3) := by decide +kernel
theorem d_Se_forgetIdle_24 : decode prog_7_method_11_code 24 = .ok (.if_icmp .ge 39, 3) := by decide +kernel
theorem d_Se_forgetIdle_27 : decode prog_7_method_11_code 27 = .ok (.aload_n 0, 1) := by decide +kernel
theorem d_Se_forgetIdle_28 : decode prog_7_method_11_code 28 = .ok (.iload_n 2, 1) := by decide +kernel
theorem d_Se_forgetIdle_29 : decode prog_7_method_11_code 29 = .ok (.invokevirtual 109, 3) := by decide +kernel
theorem d_Se_forgetIdle_32 : decode prog_7_method_11_code 32 = .ok (.istore_n 3, 1) := by decide +kernel
theorem d_Se_forgetIdle_33 : decode prog_7_method_11_code 33 = .ok (.iload_n 3, 1) := by decide +kernel
theorem d_Se_forgetIdle_34 : decode prog_7_method_11_code 34 = .ok (.iconst (-1), 1) := by decide +kernel
theorem d_Se_forgetIdle_35 : decode prog_7_method_11_code 35 = .ok (.if_icmp .eq 22, 3) := by decide +kernel
theorem d_Se_forgetIdle_38 : decode prog_7_method_11_code 38 = .ok (.aload_n 0, 1) := by decide +kernel
theorem d_Se_forgetIdle_39 : decode prog_7_method_11_code 39 = .ok (.getfield 22, 3) := by decide +kernel
theorem d_Se_forgetIdle_42 : decode prog_7_method_11_code 42 = .ok (.iload_n 2, 1) := by decide +kernel
theorem d_Se_forgetIdle_43 : decode prog_7_method_11_code 43 = .ok (.iload_n 1, 1) := by decide +kernel
theorem d_Se_forgetIdle_44 : decode prog_7_method_11_code 44 = .ok (.invokevirtual 113, 3) := by decide +kernel
theorem d_Se_forgetIdle_47 : decode prog_7_method_11_code 47 = .ok (.aload_n 0, 1) := by decide +kernel
theorem d_Se_forgetIdle_48 : decode prog_7_method_11_code 48 = .ok (.getfield 19, 3) := by decide +kernel
theorem d_Se_forgetIdle_51 : decode prog_7_method_11_code 51 = .ok (.iload_n 3, 1) := by decide +kernel
theorem d_Se_forgetIdle_52 : decode prog_7_method_11_code 52 = .ok (.iload_n 1, 1) := by decide +kernel
theorem d_Se_forgetIdle_53 : decode prog_7_method_11_code 53 = .ok (.iastore, 1) := by decide +kernel
theorem d_Se_forgetIdle_54 : decode prog_7_method_11_code 54 = .ok (.iinc 1 1, 3) := by decide +kernel
theorem d_Se_forgetIdle_57 : decode prog_7_method_11_code 57 = .ok (.iinc 2 1, 3) := by decide +kernel
theorem d_Se_forgetIdle_60 : decode prog_7_method_11_code 60 = .ok (.goto (-44), 3) := by decide +kernel
theorem d_Se_forgetIdle_63 : decode prog_7_method_11_code 63 = .ok (.aload_n 0, 1) := by decide +kernel
theorem d_Se_forgetIdle_64 : decode prog_7_method_11_code 64 = .ok (.getfield 22, 3) := by decide +kernel
theorem d_Se_forgetIdle_67 : decode prog_7_method_11_code 67 = .ok (.iload_n 1, 1) := by decide +kernel
theorem d_Se_forgetIdle_68 : decode prog_7_method_11_code 68 = .ok (.putfield 75, 3) := by decide +kernel
theorem d_Se_forgetIdle_71 : decode prog_7_method_11_code 71 = .ok (.return_, 1) := by decide +kernel
theorem d_Se_goBack_0 : decode prog_7_method_10_code 0 = .ok (.aload_n 0, 1) := by decide +kernel
theorem d_Se_goBack_1 : decode prog_7_method_10_code 1 = .ok (.getfield 47, 3) := by decide +kernel
theorem d_Se_goBack_4 : decode prog_7_method_10_code 4 = .ok (.istore_n 2, 1) := by decide +kernel
theorem d_Se_goBack_5 : decode prog_7_method_10_code 5 = .ok (.iload_n 2, 1) := by decide +kernel
theorem d_Se_goBack_6 : decode prog_7_method_10_code 6 = .ok (.iload_n 1, 1) := by decide +kernel
theorem d_Se_goBack_7 : decode prog_7_method_10_code 7 = .ok (.if_icmp .le 72, 3) := by decide +kernel
theorem d_Se_goBack_10 : decode prog_7_method_10_code 10 = .ok (.aload_n 0, 1) := by decide +kernel
theorem d_Se_goBack_11 : decode prog_7_method_10_code 11 = .ok (.dup, 1) := by decide +kernel
theorem d_Se_goBack_12 : decode prog_7_method_10_code 12 = .ok (.getfield 26, 3) := by decide +kernel
theorem d_Se_goBack_15 : decode prog_7_method_10_code 15 = .ok (.aload_n 0, 1) := by decide +kernel
theorem d_Se_goBack_16 : decode prog_7_method_10_code 16 = .ok (.getfield 11, 3) := by decide +kernel
theorem d_Se_goBack_19 : decode prog_7_method_10_code 19 = .ok (.iload_n 2, 1) := by decide +kernel
theorem d_Se_goBack_20 : decode prog_7_method_10_code 20 = .ok (.laload, 1) := by decide +kernel
theorem d_Se_goBack_21 : decode prog_7_method_10_code 21 = .ok (.ldc2_w 45, 3) := by decide +kernel
theorem d_Se_goBack_24 : decode prog_7_method_10_code 24 = .ok (.lxor, 1) := by decide +kernel
theorem d_Se_goBack_25 : decode prog_7_method_10_code 25 = .ok (.land, 1) := by decide +kernel
theorem d_Se_goBack_26 : decode prog_7_method_10_code 26 = .ok (.putfield 26, 3) := by decide +kernel
theorem d_Se_goBack_29 : decode prog_7_method_10_code 29 = .ok (.aload_n 0, 1) := by decide +kernel
theorem d_Se_goBack_30 : decode prog_7_method_10_code 30 = .ok (.dup, 1) := by decide +kernel
theorem d_Se_goBack_31 : decode prog_7_method_10_code 31 = .ok (.getfield 42, 3) := by decide +kernel
theorem d_Se_goBack_34 : decode prog_7_method_10_code 34 = .ok (.aload_n 0, 1) := by decide +kernel
theorem d_Se_goBack_35 : decode prog_7_method_10_code 35 = .ok (.getfield 11, 3) := by decide +kernel
theorem d_Se_goBack_38 : decode prog_7_method_10_code 38 = .ok (.iload_n 2, 1) := by decide +kernel
theorem d_Se_goBack_39 : decode prog_7_method_10_code 39 = .ok (.laload, 1) := by decide +kernel
theorem d_Se_goBack_40 : decode prog_7_method_10_code 40 = .ok (.ldc2_w 45, 3) := by decide +kernel
theorem d_Se_goBack_43 : decode prog_7_method_10_code 43 = .ok (.lxor, 1) := by decide +kernel
theorem d_Se_goBack_44 : decode prog_7_method_10_code 44 = .ok (.land, 1) := by decide +kernel
theorem d_Se_goBack_45 : decode prog_7_method_10_code 45 = .ok (.putfield 42, 3) := by decide +kernel
theorem d_Se_goBack_48 : decode prog_7_method_10_code 48 = .ok (.aload_n 0, 1) := by decide +kernel
theorem d_Se_goBack_49 : decode prog_7_method_10_code 49 = .ok (.dup, 1) := by decide +kernel
theorem d_Se_goBack_50 : decode prog_7_method_10_code 50 = .ok (.getfield 62, 3) := by decide +kernel
theorem d_Se_goBack_53 : decode prog_7_method_10_code 53 = .ok (.aload_n 0, 1) := by decide +kernel
theorem d_Se_goBack_54 : decode prog_7_method_10_code 54 = .ok (.getfield 11, 3) := by decide +kernel
theorem d_Se_goBack_57 : decode prog_7_method_10_code 57 = .ok (.iload_n 2, 1) := by decide +kernel
theorem d_Se_goBack_58 : decode prog_7_method_10_code 58 = .ok (.laload, 1) := by decide +kernel
theorem d_Se_goBack_59 : decode prog_7_method_10_code 59 = .ok (.invokestatic 84, 3) := by decide +kernel
theorem d_Se_goBack_62 : decode prog_7_method_10_code 62 = .ok (.isub, 1) := by decide +kernel
theorem d_Se_goBack_63 : decode prog_7_method_10_code 63 = .ok (.putfield 62, 3) := by decide +kernel
theorem d_Se_goBack_66 : decode prog_7_method_10_code 66 = .ok (.aload_n 0, 1) := by decide +kernel
theorem d_Se_goBack_67 : decode prog_7_method_10_code 67 = .ok (.getfield 11, 3) := by decide +kernel
theorem d_Se_goBack_70 : decode prog_7_method_10_code 70 = .ok (.iload_n 2, 1) := by decide +kernel
theorem d_Se_goBack_71 : decode prog_7_method_10_code 71 = .ok (.lconst 0, 1) := by decide +kernel
theorem d_Se_goBack_72 : decode prog_7_method_10_code 72 = .ok (.lastore, 1) := by decide +kernel
theorem d_Se_goBack_73 : decode prog_7_method_10_code 73 = .ok (.iinc 2 (-1), 3) := by decide +kernel
theorem d_Se_goBack_76 : decode prog_7_method_10_code 76 = .ok (.goto (-71), 3) := by decide +kernel
theorem d_Se_goBack_79 : decode prog_7_method_10_code 79 = .ok (.aload_n 0, 1) := by decide +kernel
theorem d_Se_goBack_80 : decode prog_7_method_10_code 80 = .ok (.iload_n 1, 1) := by decide +kernel
theorem d_Se_goBack_81 : decode prog_7_method_10_code 81 = .ok (.putfield 47, 3) := by decide +kernel
theorem d_Se_goBack_84 : decode prog_7_method_10_code 84 = .ok (.return_, 1) := by decide +kernel
theorem d_Se_learnFrom_0 : decode prog_7_method_8_code 0 = .ok (.aload_n 0, 1) := by decide +kernel
theorem d_Se_learnFrom_1 : decode prog_7_method_8_code 1 = .ok (.getfield 22, 3) := by decide +kernel
theorem d_Se_learnFrom_4 : decode prog_7_method_8_code 4 = .ok (.getfield 80, 3) := by decide +kernel
theorem d_Se_learnFrom_7 : decode prog_7_method_8_code 7 = .ok (.iload_n 1, 1) := by decide +kernel
theorem d_Se_learnFrom_8 : decode prog_7_method_8_code 8 = .ok (.laload, 1) := by decide +kernel
theorem d_Se_learnFrom_9 : decode prog_7_method_8_code 9 = .ok (.lstore_n 2, 1) := by decide +kernel
theorem d_Se_learnFrom_10 : decode prog_7_method_8_code 10 = .ok (.aload_n 0, 1) := by decide +kernel
theorem d_Se_learnFrom_11 : decode prog_7_method_8_code 11 = .ok (.getfield 22, 3) := by decide +kernel
theorem d_Se_learnFrom_14 : decode prog_7_method_8_code 14 = .ok (.getfield 82, 3) := by decide +kernel
theorem d_Se_learnFrom_17 : decode prog_7_method_8_code 17 = .ok (.iload_n 1, 1) := by decide +kernel
theorem d_Se_learnFrom_18 : decode prog_7_method_8_code 18 = .ok (.laload, 1) := by decide +kernel
theorem d_Se_learnFrom_19 : decode prog_7_method_8_code 19 = .ok (.lstore 4, 2) := by decide +kernel
theorem d_Se_learnFrom_21 : decode prog_7_method_8_code 21 = .ok (.aload_n 0, 1) := by decide +kernel
theorem d_Se_learnFrom_22 : decode prog_7_method_8_code 22 = .ok (.getfield 62, 3) := by decide +kernel
theorem d_Se_learnFrom_25 : decode prog_7_method_8_code 25 = .ok (.iconst 1, 1) := by decide +kernel
theorem d_Se_learnFrom_26 : decode prog_7_method_8_code 26 = .ok (.isub, 1) := by decide +kernel
theorem d_Se_learnFrom_27 : decode prog_7_method_8_code 27 = .ok (.istore 6, 2) := by decide +kernel
theorem d_Se_learnFrom_29 : decode prog_7_method_8_code 29 = .ok (.iload 6, 2) := by decide +kernel
theorem d_Se_learnFrom_31 : decode prog_7_method_8_code 31 = .ok (.ifCond .lt 118, 3) := by decide +kernel
theorem d_Se_learnFrom_34 : decode prog_7_method_8_code 34 = .ok (.lload_n 2, 1) := by decide +kernel
theorem d_Se_learnFrom_35 : decode prog_7_method_8_code 35 = .ok (.lload 4, 2) := by decide +kernel
theorem d_Se_learnFrom_37 : decode prog_7_method_8_code 37 = .ok (.lor, 1) := by decide +kernel
theorem d_Se_learnFrom_38 : decode prog_7_method_8_code 38 = .ok (.aload_n 0, 1) := by decide +kernel
theorem d_Se_learnFrom_39 : decode prog_7_method_8_code 39 = .ok (.getfield 11, 3) := by decide +kernel
theorem d_Se_learnFrom_42 : decode prog_7_method_8_code 42 = .ok (.aload_n 0, 1) := by decide +kernel
theorem d_Se_learnFrom_43 : decode prog_7_method_8_code 43 = .ok (.getfield 47, 3) := by decide +kernel
theorem d_Se_learnFrom_46 : decode prog_7_method_8_code 46 = .ok (.laload, 1) := by decide +kernel
theorem d_Se_learnFrom_47 : decode prog_7_method_8_code 47 = .ok (.land, 1) := by decide +kernel
theorem d_Se_learnFrom_48 : decode prog_7_method_8_code 48 = .ok (.invokestatic 84, 3) := by decide +kernel
theorem d_Se_learnFrom_51 : decode prog_7_method_8_code 51 = .ok (.iconst 1, 1) := by decide +kernel
theorem d_Se_learnFrom_52 : decode prog_7_method_8_code 52 = .ok (.if_icmp .gt 6, 3) := by decide +kernel
theorem d_Se_learnFrom_55 : decode prog_7_method_8_code 55 = .ok (.goto 94, 3) := by decide +kernel
theorem d_Se_learnFrom_58 : decode prog_7_method_8_code 58 = .ok (.aload_n 0, 1) := by decide +kernel
theorem d_Se_learnFrom_59 : decode prog_7_method_8_code 59 = .ok (.getfield 19, 3) := by decide +kernel
theorem d_Se_learnFrom_62 : decode prog_7_method_8_code 62 = .ok (.aload_n 0, 1) := by decide +kernel
theorem d_Se_learnFrom_63 : decode prog_7_method_8_code 63 = .ok (.getfield 15, 3) := by decide +kernel
theorem d_Se_learnFrom_66 : decode prog_7_method_8_code 66 = .ok (.iload 6, 2) := by decide +kernel
theorem d_Se_learnFrom_68 : decode prog_7_method_8_code 68 = .ok (.iaload, 1) := by decide +kernel
theorem d_Se_learnFrom_69 : decode prog_7_method_8_code 69 = .ok (.iaload, 1) := by decide +kernel
theorem d_Se_learnFrom_70 : decode prog_7_method_8_code 70 = .ok (.istore 7, 2) := by decide +kernel
theorem d_Se_learnFrom_72 : decode prog_7_method_8_code 72 = .ok (.lconst 1, 1) := by decide +kernel
theorem d_Se_learnFrom_73 : decode prog_7_method_8_code 73 = .ok (.aload_n 0, 1) := by decide +kernel
theorem d_Se_learnFrom_74 : decode prog_7_method_8_code 74 = .ok (.getfield 15, 3) := by decide +kernel
theorem d_Se_learnFrom_77 : decode prog_7_method_8_code 77 = .ok (.iload 6, 2) := by decide +kernel
theorem d_Se_learnFrom_79 : decode prog_7_method_8_code 79 = .ok (.iaload, 1) := by decide +kernel
theorem d_Se_learnFrom_80 : decode prog_7_method_8_code 80 = .ok (.lshl, 1) := by decide +kernel
theorem d_Se_learnFrom_81 : decode prog_7_method_8_code 81 = .ok (.lstore 8, 2) := by decide +kernel
theorem d_Se_learnFrom_83 : decode prog_7_method_8_code 83 = .ok (.lload_n 2, 1) := by decide +kernel
theorem d_Se_learnFrom_84 : decode prog_7_method_8_code 84 = .ok (.lload 4, 2) := by decide +kernel
theorem d_Se_learnFrom_86 : decode prog_7_method_8_code 86 = .ok (.lor, 1) := by decide +kernel
