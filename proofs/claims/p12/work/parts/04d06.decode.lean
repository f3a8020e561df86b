theorem d_Mo_isThere_21 : decode prog_11_method_18_code 21 = .ok (.iload 5, 2) := by decide +kernel
theorem d_Mo_isThere_23 : decode prog_11_method_18_code 23 = .ok (.ifCond .ne 26, 3) := by decide +kernel
theorem d_Mo_isThere_26 : decode prog_11_method_18_code 26 = .ok (.aload_n 0, 1) := by decide +kernel
theorem d_Mo_isThere_27 : decode prog_11_method_18_code 27 = .ok (.getfield 29, 3) := by decide +kernel
theorem d_Mo_isThere_30 : decode prog_11_method_18_code 30 = .ok (.iload 6, 2) := by decide +kernel
theorem d_Mo_isThere_32 : decode prog_11_method_18_code 32 = .ok (.iaload, 1) := by decide +kernel
theorem d_Mo_isThere_33 : decode prog_11_method_18_code 33 = .ok (.iload_n 1, 1) := by decide +kernel
theorem d_Mo_isThere_34 : decode prog_11_method_18_code 34 = .ok (.if_icmp .ne 19, 3) := by decide +kernel
theorem d_Mo_isThere_37 : decode prog_11_method_18_code 37 = .ok (.aload_n 0, 1) := by decide +kernel
theorem d_Mo_isThere_38 : decode prog_11_method_18_code 38 = .ok (.getfield 35, 3) := by decide +kernel
theorem d_Mo_isThere_41 : decode prog_11_method_18_code 41 = .ok (.iload 6, 2) := by decide +kernel
theorem d_Mo_isThere_43 : decode prog_11_method_18_code 43 = .ok (.laload, 1) := by decide +kernel
theorem d_Mo_isThere_44 : decode prog_11_method_18_code 44 = .ok (.lload_n 3, 1) := by decide +kernel
theorem d_Mo_isThere_45 : decode prog_11_method_18_code 45 = .ok (.lcmp, 1) := by decide +kernel
theorem d_Mo_isThere_46 : decode prog_11_method_18_code 46 = .ok (.ifCond .ne 7, 3) := by decide +kernel
theorem d_Mo_isThere_49 : decode prog_11_method_18_code 49 = .ok (.iconst 1, 1) := by decide +kernel
theorem d_Mo_isThere_50 : decode prog_11_method_18_code 50 = .ok (.goto 4, 3) := by decide +kernel
theorem d_Mo_isThere_53 : decode prog_11_method_18_code 53 = .ok (.iconst 0, 1) := by decide +kernel
theorem d_Mo_isThere_54 : decode prog_11_method_18_code 54 = .ok (.istore 5, 2) := by decide +kernel
theorem d_Mo_isThere_56 : decode prog_11_method_18_code 56 = .ok (.iinc 6 1, 3) := by decide +kernel
theorem d_Mo_isThere_59 : decode prog_11_method_18_code 59 = .ok (.goto (-47), 3) := by decide +kernel
theorem d_Mo_isThere_62 : decode prog_11_method_18_code 62 = .ok (.iload 5, 2) := by decide +kernel
theorem d_Mo_isThere_64 : decode prog_11_method_18_code 64 = .ok (.ireturn, 1) := by decide +kernel
theorem d_Mo_markingOf_0 : decode prog_11_method_13_code 0 = .ok (.aload_n 0, 1) := by decide +kernel
theorem d_Mo_markingOf_1 : decode prog_11_method_13_code 1 = .ok (.getfield 90, 3) := by decide +kernel
theorem d_Mo_markingOf_4 : decode prog_11_method_13_code 4 = .ok (.istore_n 3, 1) := by decide +kernel
theorem d_Mo_markingOf_5 : decode prog_11_method_13_code 5 = .ok (.iconst 0, 1) := by decide +kernel
theorem d_Mo_markingOf_6 : decode prog_11_method_13_code 6 = .ok (.istore 4, 2) := by decide +kernel
theorem d_Mo_markingOf_8 : decode prog_11_method_13_code 8 = .ok (.iload 4, 2) := by decide +kernel
theorem d_Mo_markingOf_10 : decode prog_11_method_13_code 10 = .ok (.aload_n 0, 1) := by decide +kernel
theorem d_Mo_markingOf_11 : decode prog_11_method_13_code 11 = .ok (.getfield 70, 3) := by decide +kernel
theorem d_Mo_markingOf_14 : decode prog_11_method_13_code 14 = .ok (.if_icmp .ge 51, 3) := by decide +kernel
theorem d_Mo_markingOf_17 : decode prog_11_method_13_code 17 = .ok (.lload_n 1, 1) := by decide +kernel
theorem d_Mo_markingOf_18 : decode prog_11_method_13_code 18 = .ok (.iload 4, 2) := by decide +kernel
theorem d_Mo_markingOf_20 : decode prog_11_method_13_code 20 = .ok (.invokestatic 93, 3) := by decide +kernel
theorem d_Mo_markingOf_23 : decode prog_11_method_13_code 23 = .ok (.ifCond .eq 34, 3) := by decide +kernel
theorem d_Mo_markingOf_26 : decode prog_11_method_13_code 26 = .ok (.iload_n 3, 1) := by decide +kernel
theorem d_Mo_markingOf_27 : decode prog_11_method_13_code 27 = .ok (.aload_n 0, 1) := by decide +kernel
theorem d_Mo_markingOf_28 : decode prog_11_method_13_code 28 = .ok (.getfield 7, 3) := by decide +kernel
theorem d_Mo_markingOf_31 : decode prog_11_method_13_code 31 = .ok (.aload_n 0, 1) := by decide +kernel
theorem d_Mo_markingOf_32 : decode prog_11_method_13_code 32 = .ok (.getfield 29, 3) := by decide +kernel
theorem d_Mo_markingOf_35 : decode prog_11_method_13_code 35 = .ok (.iload 4, 2) := by decide +kernel
theorem d_Mo_markingOf_37 : decode prog_11_method_13_code 37 = .ok (.iaload, 1) := by decide +kernel
theorem d_Mo_markingOf_38 : decode prog_11_method_13_code 38 = .ok (.iaload, 1) := by decide +kernel
theorem d_Mo_markingOf_39 : decode prog_11_method_13_code 39 = .ok (.aload_n 0, 1) := by decide +kernel
theorem d_Mo_markingOf_40 : decode prog_11_method_13_code 40 = .ok (.getfield 13, 3) := by decide +kernel
theorem d_Mo_markingOf_43 : decode prog_11_method_13_code 43 = .ok (.aload_n 0, 1) := by decide +kernel
theorem d_Mo_markingOf_44 : decode prog_11_method_13_code 44 = .ok (.getfield 29, 3) := by decide +kernel
theorem d_Mo_markingOf_47 : decode prog_11_method_13_code 47 = .ok (.iload 4, 2) := by decide +kernel
theorem d_Mo_markingOf_49 : decode prog_11_method_13_code 49 = .ok (.iaload, 1) := by decide +kernel
theorem d_Mo_markingOf_50 : decode prog_11_method_13_code 50 = .ok (.iaload, 1) := by decide +kernel
theorem d_Mo_markingOf_51 : decode prog_11_method_13_code 51 = .ok (.invokestatic 103, 3) := by decide +kernel
theorem d_Mo_markingOf_54 : decode prog_11_method_13_code 54 = .ok (.goto 4, 3) := by decide +kernel
theorem d_Mo_markingOf_57 : decode prog_11_method_13_code 57 = .ok (.iload_n 3, 1) := by decide +kernel
theorem d_Mo_markingOf_58 : decode prog_11_method_13_code 58 = .ok (.istore_n 3, 1) := by decide +kernel
theorem d_Mo_markingOf_59 : decode prog_11_method_13_code 59 = .ok (.iinc 4 1, 3) := by decide +kernel
theorem d_Mo_markingOf_62 : decode prog_11_method_13_code 62 = .ok (.goto (-54), 3) := by decide +kernel
theorem d_Mo_markingOf_65 : decode prog_11_method_13_code 65 = .ok (.iload_n 3, 1) := by decide +kernel
theorem d_Mo_markingOf_66 : decode prog_11_method_13_code 66 = .ok (.ireturn, 1) := by decide +kernel
theorem d_Mo_outside_0 : decode prog_11_method_4_code 0 = .ok (.iload_n 0, 1) := by decide +kernel
theorem d_Mo_outside_1 : decode prog_11_method_4_code 1 = .ok (.iload_n 1, 1) := by decide +kernel
theorem d_Mo_outside_2 : decode prog_11_method_4_code 2 = .ok (.if_icmp .lt 8, 3) := by decide +kernel
theorem d_Mo_outside_5 : decode prog_11_method_4_code 5 = .ok (.iload_n 0, 1) := by decide +kernel
theorem d_Mo_outside_6 : decode prog_11_method_4_code 6 = .ok (.iload_n 2, 1) := by decide +kernel
theorem d_Mo_outside_7 : decode prog_11_method_4_code 7 = .ok (.if_icmp .le 7, 3) := by decide +kernel
theorem d_Mo_outside_10 : decode prog_11_method_4_code 10 = .ok (.iconst 1, 1) := by decide +kernel
theorem d_Mo_outside_11 : decode prog_11_method_4_code 11 = .ok (.goto 4, 3) := by decide +kernel
theorem d_Mo_outside_14 : decode prog_11_method_4_code 14 = .ok (.iconst 0, 1) := by decide +kernel
theorem d_Mo_outside_15 : decode prog_11_method_4_code 15 = .ok (.ireturn, 1) := by decide +kernel
theorem d_Mo_placeOf_0 : decode prog_11_method_21_code 0 = .ok (.iconst 0, 1) := by decide +kernel
theorem d_Mo_placeOf_1 : decode prog_11_method_21_code 1 = .ok (.istore_n 2, 1) := by decide +kernel
theorem d_Mo_placeOf_2 : decode prog_11_method_21_code 2 = .ok (.iload_n 1, 1) := by decide +kernel
theorem d_Mo_placeOf_3 : decode prog_11_method_21_code 3 = .ok (.istore_n 3, 1) := by decide +kernel
theorem d_Mo_placeOf_4 : decode prog_11_method_21_code 4 = .ok (.iload_n 0, 1) := by decide +kernel
theorem d_Mo_placeOf_5 : decode prog_11_method_21_code 5 = .ok (.iload_n 2, 1) := by decide +kernel
theorem d_Mo_placeOf_6 : decode prog_11_method_21_code 6 = .ok (.ishr, 1) := by decide +kernel
theorem d_Mo_placeOf_7 : decode prog_11_method_21_code 7 = .ok (.iconst 1, 1) := by decide +kernel
theorem d_Mo_placeOf_8 : decode prog_11_method_21_code 8 = .ok (.iand, 1) := by decide +kernel
theorem d_Mo_placeOf_9 : decode prog_11_method_21_code 9 = .ok (.ifCond .eq 7, 3) := by decide +kernel
theorem d_Mo_placeOf_12 : decode prog_11_method_21_code 12 = .ok (.iload_n 3, 1) := by decide +kernel
theorem d_Mo_placeOf_13 : decode prog_11_method_21_code 13 = .ok (.ifCond .le 26, 3) := by decide +kernel
theorem d_Mo_placeOf_16 : decode prog_11_method_21_code 16 = .ok (.iload_n 0, 1) := by decide +kernel
theorem d_Mo_placeOf_17 : decode prog_11_method_21_code 17 = .ok (.iload_n 2, 1) := by decide +kernel
theorem d_Mo_placeOf_18 : decode prog_11_method_21_code 18 = .ok (.ishr, 1) := by decide +kernel
theorem d_Mo_placeOf_19 : decode prog_11_method_21_code 19 = .ok (.iconst 1, 1) := by decide +kernel
theorem d_Mo_placeOf_20 : decode prog_11_method_21_code 20 = .ok (.iand, 1) := by decide +kernel
theorem d_Mo_placeOf_21 : decode prog_11_method_21_code 21 = .ok (.iconst 1, 1) := by decide +kernel
theorem d_Mo_placeOf_22 : decode prog_11_method_21_code 22 = .ok (.if_icmp .ne 9, 3) := by decide +kernel
theorem d_Mo_placeOf_25 : decode prog_11_method_21_code 25 = .ok (.iload_n 3, 1) := by decide +kernel
theorem d_Mo_placeOf_26 : decode prog_11_method_21_code 26 = .ok (.iconst 1, 1) := by decide +kernel
theorem d_Mo_placeOf_27 : decode prog_11_method_21_code 27 = .ok (.isub, 1) := by decide +kernel
theorem d_Mo_placeOf_28 : decode prog_11_method_21_code 28 = .ok (.goto 4, 3) := by decide +kernel
theorem d_Mo_placeOf_31 : decode prog_11_method_21_code 31 = .ok (.iload_n 3, 1) := by decide +kernel
theorem d_Mo_placeOf_32 : decode prog_11_method_21_code 32 = .ok (.istore_n 3, 1) := by decide +kernel
theorem d_Mo_placeOf_33 : decode prog_11_method_21_code 33 = .ok (.iinc 2 1, 3) := by decide +kernel
theorem d_Mo_placeOf_36 : decode prog_11_method_21_code 36 = .ok (.goto (-32), 3) := by decide +kernel
theorem d_Mo_placeOf_39 : decode prog_11_method_21_code 39 = .ok (.iload_n 2, 1) := by decide +kernel
theorem d_Mo_placeOf_40 : decode prog_11_method_21_code 40 = .ok (.ireturn, 1) := by decide +kernel
theorem d_Mo_play_0 : decode prog_11_method_36_code 0 = .ok (.iload_n 1, 1) := by decide +kernel
theorem d_Mo_play_1 : decode prog_11_method_36_code 1 = .ok (.ifCond .lt 19, 3) := by decide +kernel
theorem d_Mo_play_4 : decode prog_11_method_36_code 4 = .ok (.aload_n 0, 1) := by decide +kernel
theorem d_Mo_play_5 : decode prog_11_method_36_code 5 = .ok (.getfield 63, 3) := by decide +kernel
theorem d_Mo_play_8 : decode prog_11_method_36_code 8 = .ok (.iconst (-1), 1) := by decide +kernel
theorem d_Mo_play_9 : decode prog_11_method_36_code 9 = .ok (.if_icmp .eq 17, 3) := by decide +kernel
theorem d_Mo_play_12 : decode prog_11_method_36_code 12 = .ok (.iload_n 1, 1) := by decide +kernel
theorem d_Mo_play_13 : decode prog_11_method_36_code 13 = .ok (.aload_n 0, 1) := by decide +kernel
theorem d_Mo_play_14 : decode prog_11_method_36_code 14 = .ok (.getfield 63, 3) := by decide +kernel
theorem d_Mo_play_17 : decode prog_11_method_36_code 17 = .ok (.if_icmp .le 9, 3) := by decide +kernel
theorem d_Mo_play_20 : decode prog_11_method_36_code 20 = .ok (.aload_n 0, 1) := by decide +kernel
theorem d_Mo_play_21 : decode prog_11_method_36_code 21 = .ok (.iconst 1, 1) := by decide +kernel
theorem d_Mo_play_22 : decode prog_11_method_36_code 22 = .ok (.invokevirtual 199, 3) := by decide +kernel
theorem d_Mo_play_25 : decode prog_11_method_36_code 25 = .ok (.ireturn, 1) := by decide +kernel
theorem d_Mo_play_26 : decode prog_11_method_36_code 26 = .ok (.aload_n 0, 1) := by decide +kernel
theorem d_Mo_play_27 : decode prog_11_method_36_code 27 = .ok (.getfield 63, 3) := by decide +kernel
theorem d_Mo_play_30 : decode prog_11_method_36_code 30 = .ok (.iconst (-1), 1) := by decide +kernel
theorem d_Mo_play_31 : decode prog_11_method_36_code 31 = .ok (.if_icmp .ne 9, 3) := by decide +kernel
theorem d_Mo_play_34 : decode prog_11_method_36_code 34 = .ok (.aload_n 0, 1) := by decide +kernel
theorem d_Mo_play_35 : decode prog_11_method_36_code 35 = .ok (.iconst 2, 1) := by decide +kernel
theorem d_Mo_play_36 : decode prog_11_method_36_code 36 = .ok (.invokevirtual 199, 3) := by decide +kernel
theorem d_Mo_play_39 : decode prog_11_method_36_code 39 = .ok (.ireturn, 1) := by decide +kernel
theorem d_Mo_play_40 : decode prog_11_method_36_code 40 = .ok (.aload_n 0, 1) := by decide +kernel
theorem d_Mo_play_41 : decode prog_11_method_36_code 41 = .ok (.getfield 90, 3) := by decide +kernel
theorem d_Mo_play_44 : decode prog_11_method_36_code 44 = .ok (.istore_n 2, 1) := by decide +kernel
theorem d_Mo_play_45 : decode prog_11_method_36_code 45 = .ok (.iconst 0, 1) := by decide +kernel
theorem d_Mo_play_46 : decode prog_11_method_36_code 46 = .ok (.istore_n 3, 1) := by decide +kernel
theorem d_Mo_play_47 : decode prog_11_method_36_code 47 = .ok (.iload_n 3, 1) := by decide +kernel
theorem d_Mo_play_48 : decode prog_11_method_36_code 48 = .ok (.iload_n 1, 1) := by decide +kernel
theorem d_Mo_play_49 : decode prog_11_method_36_code 49 = .ok (.if_icmp .ge 69, 3) := by decide +kernel
theorem d_Mo_play_52 : decode prog_11_method_36_code 52 = .ok (.iload_n 2, 1) := by decide +kernel
theorem d_Mo_play_53 : decode prog_11_method_36_code 53 = .ok (.aload_n 0, 1) := by decide +kernel
theorem d_Mo_play_54 : decode prog_11_method_36_code 54 = .ok (.getfield 7, 3) := by decide +kernel
theorem d_Mo_play_57 : decode prog_11_method_36_code 57 = .ok (.aload_n 0, 1) := by decide +kernel
theorem d_Mo_play_58 : decode prog_11_method_36_code 58 = .ok (.getfield 60, 3) := by decide +kernel
theorem d_Mo_play_61 : decode prog_11_method_36_code 61 = .ok (.iload_n 3, 1) := by decide +kernel
theorem d_Mo_play_62 : decode prog_11_method_36_code 62 = .ok (.iaload, 1) := by decide +kernel
theorem d_Mo_play_63 : decode prog_11_method_36_code 63 = .ok (.iaload, 1) := by decide +kernel
theorem d_Mo_play_64 : decode prog_11_method_36_code 64 = .ok (.iand, 1) := by decide +kernel
theorem d_Mo_play_65 : decode prog_11_method_36_code 65 = .ok (.aload_n 0, 1) := by decide +kernel
theorem d_Mo_play_66 : decode prog_11_method_36_code 66 = .ok (.getfield 7, 3) := by decide +kernel
theorem d_Mo_play_69 : decode prog_11_method_36_code 69 = .ok (.aload_n 0, 1) := by decide +kernel
theorem d_Mo_play_70 : decode prog_11_method_36_code 70 = .ok (.getfield 60, 3) := by decide +kernel
theorem d_Mo_play_73 : decode prog_11_method_36_code 73 = .ok (.iload_n 3, 1) := by decide +kernel
theorem d_Mo_play_74 : decode prog_11_method_36_code 74 = .ok (.iaload, 1) := by decide +kernel
theorem d_Mo_play_75 : decode prog_11_method_36_code 75 = .ok (.iaload, 1) := by decide +kernel
theorem d_Mo_play_76 : decode prog_11_method_36_code 76 = .ok (.if_icmp .eq 9, 3) := by decide +kernel
theorem d_Mo_play_79 : decode prog_11_method_36_code 79 = .ok (.aload_n 0, 1) := by decide +kernel
theorem d_Mo_play_80 : decode prog_11_method_36_code 80 = .ok (.iconst 2, 1) := by decide +kernel
theorem d_Mo_play_81 : decode prog_11_method_36_code 81 = .ok (.invokevirtual 199, 3) := by decide +kernel
theorem d_Mo_play_84 : decode prog_11_method_36_code 84 = .ok (.ireturn, 1) := by decide +kernel
theorem d_Mo_play_85 : decode prog_11_method_36_code 85 = .ok (.iload_n 2, 1) := by decide +kernel
theorem d_Mo_play_86 : decode prog_11_method_36_code 86 = .ok (.aload_n 0, 1) := by decide +kernel
theorem d_Mo_play_87 : decode prog_11_method_36_code 87 = .ok (.getfield 7, 3) := by decide +kernel
theorem d_Mo_play_90 : decode prog_11_method_36_code 90 = .ok (.aload_n 0, 1) := by decide +kernel
theorem d_Mo_play_91 : decode prog_11_method_36_code 91 = .ok (.getfield 60, 3) := by decide +kernel
theorem d_Mo_play_94 : decode prog_11_method_36_code 94 = .ok (.iload_n 3, 1) := by decide +kernel
theorem d_Mo_play_95 : decode prog_11_method_36_code 95 = .ok (.iaload, 1) := by decide +kernel
theorem d_Mo_play_96 : decode prog_11_method_36_code 96 = .ok (.iaload, 1) := by decide +kernel
theorem d_Mo_play_97 : decode prog_11_method_36_code 97 = .ok (.aload_n 0, 1) := by decide +kernel
theorem d_Mo_play_98 : decode prog_11_method_36_code 98 = .ok (.getfield 13, 3) := by decide +kernel
theorem d_Mo_play_101 : decode prog_11_method_36_code 101 = .ok (.aload_n 0, 1) := by decide +kernel
theorem d_Mo_play_102 : decode prog_11_method_36_code 102 = .ok (.getfield 60, 3) := by decide +kernel
theorem d_Mo_play_105 : decode prog_11_method_36_code 105 = .ok (.iload_n 3, 1) := by decide +kernel
theorem d_Mo_play_106 : decode prog_11_method_36_code 106 = .ok (.iaload, 1) := by decide +kernel
theorem d_Mo_play_107 : decode prog_11_method_36_code 107 = .ok (.iaload, 1) := by decide +kernel
theorem d_Mo_play_108 : decode prog_11_method_36_code 108 = .ok (.invokestatic 103, 3) := by decide +kernel
theorem d_Mo_play_111 : decode prog_11_method_36_code 111 = .ok (.istore_n 2, 1) := by decide +kernel
theorem d_Mo_play_112 : decode prog_11_method_36_code 112 = .ok (.iinc 3 1, 3) := by decide +kernel
theorem d_Mo_play_115 : decode prog_11_method_36_code 115 = .ok (.goto (-68), 3) := by decide +kernel
theorem d_Mo_play_118 : decode prog_11_method_36_code 118 = .ok (.aload_n 0, 1) := by decide +kernel
theorem d_Mo_play_119 : decode prog_11_method_36_code 119 = .ok (.iconst 0, 1) := by decide +kernel
theorem d_Mo_play_120 : decode prog_11_method_36_code 120 = .ok (.putfield 67, 3) := by decide +kernel
theorem d_Mo_play_123 : decode prog_11_method_36_code 123 = .ok (.iload_n 2, 1) := by decide +kernel
theorem d_Mo_play_124 : decode prog_11_method_36_code 124 = .ok (.ireturn, 1) := by decide +kernel
theorem d_Mo_rankOf_0 : decode prog_11_method_15_code 0 = .ok (.lconst 1, 1) := by decide +kernel
theorem d_Mo_rankOf_1 : decode prog_11_method_15_code 1 = .ok (.lstore_n 3, 1) := by decide +kernel
theorem d_Mo_rankOf_2 : decode prog_11_method_15_code 2 = .ok (.lconst 0, 1) := by decide +kernel
theorem d_Mo_rankOf_3 : decode prog_11_method_15_code 3 = .ok (.lstore 5, 2) := by decide +kernel
theorem d_Mo_rankOf_5 : decode prog_11_method_15_code 5 = .ok (.iconst 0, 1) := by decide +kernel
theorem d_Mo_rankOf_6 : decode prog_11_method_15_code 6 = .ok (.istore 7, 2) := by decide +kernel
theorem d_Mo_rankOf_8 : decode prog_11_method_15_code 8 = .ok (.iload 7, 2) := by decide +kernel
theorem d_Mo_rankOf_10 : decode prog_11_method_15_code 10 = .ok (.bipush 8, 2) := by decide +kernel
theorem d_Mo_rankOf_12 : decode prog_11_method_15_code 12 = .ok (.if_icmp .ge 93, 3) := by decide +kernel
theorem d_Mo_rankOf_15 : decode prog_11_method_15_code 15 = .ok (.iload 7, 2) := by decide +kernel
theorem d_Mo_rankOf_17 : decode prog_11_method_15_code 17 = .ok (.iload_n 2, 1) := by decide +kernel
theorem d_Mo_rankOf_18 : decode prog_11_method_15_code 18 = .ok (.if_icmp .ne 7, 3) := by decide +kernel
theorem d_Mo_rankOf_21 : decode prog_11_method_15_code 21 = .ok (.lconst 1, 1) := by decide +kernel
theorem d_Mo_rankOf_22 : decode prog_11_method_15_code 22 = .ok (.goto 4, 3) := by decide +kernel
theorem d_Mo_rankOf_25 : decode prog_11_method_15_code 25 = .ok (.lconst 0, 1) := by decide +kernel
theorem d_Mo_rankOf_26 : decode prog_11_method_15_code 26 = .ok (.lstore 8, 2) := by decide +kernel
theorem d_Mo_rankOf_28 : decode prog_11_method_15_code 28 = .ok (.iconst 0, 1) := by decide +kernel
theorem d_Mo_rankOf_29 : decode prog_11_method_15_code 29 = .ok (.istore 10, 2) := by decide +kernel
theorem d_Mo_rankOf_31 : decode prog_11_method_15_code 31 = .ok (.iload 10, 2) := by decide +kernel
theorem d_Mo_rankOf_33 : decode prog_11_method_15_code 33 = .ok (.aload_n 0, 1) := by decide +kernel
theorem d_Mo_rankOf_34 : decode prog_11_method_15_code 34 = .ok (.getfield 70, 3) := by decide +kernel
theorem d_Mo_rankOf_37 : decode prog_11_method_15_code 37 = .ok (.if_icmp .ge 42, 3) := by decide +kernel
theorem d_Mo_rankOf_40 : decode prog_11_method_15_code 40 = .ok (.iload_n 1, 1) := by decide +kernel
theorem d_Mo_rankOf_41 : decode prog_11_method_15_code 41 = .ok (.i2l, 1) := by decide +kernel
theorem d_Mo_rankOf_42 : decode prog_11_method_15_code 42 = .ok (.iload 10, 2) := by decide +kernel
theorem d_Mo_rankOf_44 : decode prog_11_method_15_code 44 = .ok (.invokestatic 93, 3) := by decide +kernel
theorem d_Mo_rankOf_47 : decode prog_11_method_15_code 47 = .ok (.ifCond .eq 22, 3) := by decide +kernel
theorem d_Mo_rankOf_50 : decode prog_11_method_15_code 50 = .ok (.aload_n 0, 1) := by decide +kernel
theorem d_Mo_rankOf_51 : decode prog_11_method_15_code 51 = .ok (.getfield 29, 3) := by decide +kernel
theorem d_Mo_rankOf_54 : decode prog_11_method_15_code 54 = .ok (.iload 10, 2) := by decide +kernel
theorem d_Mo_rankOf_56 : decode prog_11_method_15_code 56 = .ok (.iaload, 1) := by decide +kernel
theorem d_Mo_rankOf_57 : decode prog_11_method_15_code 57 = .ok (.iload 7, 2) := by decide +kernel
theorem d_Mo_rankOf_59 : decode prog_11_method_15_code 59 = .ok (.if_icmp .ne 10, 3) := by decide +kernel
theorem d_Mo_rankOf_62 : decode prog_11_method_15_code 62 = .ok (.lload 8, 2) := by decide +kernel
theorem d_Mo_rankOf_64 : decode prog_11_method_15_code 64 = .ok (.lconst 1, 1) := by decide +kernel
theorem d_Mo_rankOf_65 : decode prog_11_method_15_code 65 = .ok (.ladd, 1) := by decide +kernel
theorem d_Mo_rankOf_66 : decode prog_11_method_15_code 66 = .ok (.goto 5, 3) := by decide +kernel
theorem d_Mo_rankOf_69 : decode prog_11_method_15_code 69 = .ok (.lload 8, 2) := by decide +kernel
theorem d_Mo_rankOf_71 : decode prog_11_method_15_code 71 = .ok (.lstore 8, 2) := by decide +kernel
theorem d_Mo_rankOf_73 : decode prog_11_method_15_code 73 = .ok (.iinc 10 1, 3) := by decide +kernel
theorem d_Mo_rankOf_76 : decode prog_11_method_15_code 76 = .ok (.goto (-45), 3) := by decide +kernel
theorem d_Mo_rankOf_79 : decode prog_11_method_15_code 79 = .ok (.lload_n 3, 1) := by decide +kernel
theorem d_Mo_rankOf_80 : decode prog_11_method_15_code 80 = .ok (.lload 8, 2) := by decide +kernel
theorem d_Mo_rankOf_82 : decode prog_11_method_15_code 82 = .ok (.ladd, 1) := by decide +kernel
theorem d_Mo_rankOf_83 : decode prog_11_method_15_code 83 = .ok (.lstore_n 3, 1) := by decide +kernel
theorem d_Mo_rankOf_84 : decode prog_11_method_15_code 84 = .ok (.lload 5, 2) := by decide +kernel
theorem d_Mo_rankOf_86 : decode prog_11_method_15_code 86 = .ok (.ldc2_w 111, 3) := by decide +kernel
theorem d_Mo_rankOf_89 : decode prog_11_method_15_code 89 = .ok (.lmul, 1) := by decide +kernel
theorem d_Mo_rankOf_90 : decode prog_11_method_15_code 90 = .ok (.ldc2_w 113, 3) := by decide +kernel
theorem d_Mo_rankOf_93 : decode prog_11_method_15_code 93 = .ok (.ladd, 1) := by decide +kernel
theorem d_Mo_rankOf_94 : decode prog_11_method_15_code 94 = .ok (.lload 8, 2) := by decide +kernel
theorem d_Mo_rankOf_96 : decode prog_11_method_15_code 96 = .ok (.lsub, 1) := by decide +kernel
theorem d_Mo_rankOf_97 : decode prog_11_method_15_code 97 = .ok (.lstore 5, 2) := by decide +kernel
theorem d_Mo_rankOf_99 : decode prog_11_method_15_code 99 = .ok (.iinc 7 1, 3) := by decide +kernel
theorem d_Mo_rankOf_102 : decode prog_11_method_15_code 102 = .ok (.goto (-94), 3) := by decide +kernel
theorem d_Mo_rankOf_105 : decode prog_11_method_15_code 105 = .ok (.lload_n 3, 1) := by decide +kernel
theorem d_Mo_rankOf_106 : decode prog_11_method_15_code 106 = .ok (.bipush 40, 2) := by decide +kernel
theorem d_Mo_rankOf_108 : decode prog_11_method_15_code 108 = .ok (.lshl, 1) := by decide +kernel
theorem d_Mo_rankOf_109 : decode prog_11_method_15_code 109 = .ok (.lload 5, 2) := by decide +kernel
theorem d_Mo_rankOf_111 : decode prog_11_method_15_code 111 = .ok (.lor, 1) := by decide +kernel
theorem d_Mo_rankOf_112 : decode prog_11_method_15_code 112 = .ok (.lreturn, 1) := by decide +kernel
theorem d_Mo_reach_0 : decode prog_11_method_33_code 0 = .ok (.aload_n 0, 1) := by decide +kernel
theorem d_Mo_reach_1 : decode prog_11_method_33_code 1 = .ok (.iload_n 1, 1) := by decide +kernel
theorem d_Mo_reach_2 : decode prog_11_method_33_code 2 = .ok (.iconst 0, 1) := by decide +kernel
theorem d_Mo_reach_3 : decode prog_11_method_33_code 3 = .ok (.sipush 255, 3) := by decide +kernel
theorem d_Mo_reach_6 : decode prog_11_method_33_code 6 = .ok (.invokestatic 80, 3) := by decide +kernel
theorem d_Mo_reach_9 : decode prog_11_method_33_code 9 = .ok (.ifCond .eq 7, 3) := by decide +kernel
theorem d_Mo_reach_12 : decode prog_11_method_33_code 12 = .ok (.iconst 1, 1) := by decide +kernel
theorem d_Mo_reach_13 : decode prog_11_method_33_code 13 = .ok (.goto 15, 3) := by decide +kernel
theorem d_Mo_reach_16 : decode prog_11_method_33_code 16 = .ok (.aload_n 0, 1) := by decide +kernel
theorem d_Mo_reach_17 : decode prog_11_method_33_code 17 = .ok (.getfield 76, 3) := by decide +kernel
theorem d_Mo_reach_20 : decode prog_11_method_33_code 20 = .ok (.ifCond .ne 7, 3) := by decide +kernel
theorem d_Mo_reach_23 : decode prog_11_method_33_code 23 = .ok (.iconst 2, 1) := by decide +kernel
theorem d_Mo_reach_24 : decode prog_11_method_33_code 24 = .ok (.goto 4, 3) := by decide +kernel
theorem d_Mo_reach_27 : decode prog_11_method_33_code 27 = .ok (.iconst 0, 1) := by decide +kernel
theorem d_Mo_reach_28 : decode prog_11_method_33_code 28 = .ok (.putfield 67, 3) := by decide +kernel
theorem d_Mo_reach_31 : decode prog_11_method_33_code 31 = .ok (.aload_n 0, 1) := by decide +kernel
theorem d_Mo_reach_32 : decode prog_11_method_33_code 32 = .ok (.getfield 67, 3) := by decide +kernel
theorem d_Mo_reach_35 : decode prog_11_method_33_code 35 = .ok (.ifCond .eq 7, 3) := by decide +kernel
theorem d_Mo_reach_38 : decode prog_11_method_33_code 38 = .ok (.iconst 0, 1) := by decide +kernel
theorem d_Mo_reach_39 : decode prog_11_method_33_code 39 = .ok (.goto 8, 3) := by decide +kernel
theorem d_Mo_reach_42 : decode prog_11_method_33_code 42 = .ok (.aload_n 0, 1) := by decide +kernel
theorem d_Mo_reach_43 : decode prog_11_method_33_code 43 = .ok (.iload_n 1, 1) := by decide +kernel
theorem d_Mo_reach_44 : decode prog_11_method_33_code 44 = .ok (.invokevirtual 196, 3) := by decide +kernel
theorem d_Mo_reach_47 : decode prog_11_method_33_code 47 = .ok (.ireturn, 1) := by decide +kernel
theorem d_Mo_refuse_0 : decode prog_11_method_3_code 0 = .ok (.aload_n 0, 1) := by decide +kernel
theorem d_Mo_refuse_1 : decode prog_11_method_3_code 1 = .ok (.iload_n 1, 1) := by decide +kernel
theorem d_Mo_refuse_2 : decode prog_11_method_3_code 2 = .ok (.putfield 67, 3) := by decide +kernel
theorem d_Mo_refuse_5 : decode prog_11_method_3_code 5 = .ok (.iconst 0, 1) := by decide +kernel
theorem d_Mo_refuse_6 : decode prog_11_method_3_code 6 = .ok (.ireturn, 1) := by decide +kernel
theorem d_Mo_search_0 : decode prog_11_method_24_code 0 = .ok (.aload_n 0, 1) := by decide +kernel
theorem d_Mo_search_1 : decode prog_11_method_24_code 1 = .ok (.iconst 0, 1) := by decide +kernel
theorem d_Mo_search_2 : decode prog_11_method_24_code 2 = .ok (.putfield 122, 3) := by decide +kernel
theorem d_Mo_search_5 : decode prog_11_method_24_code 5 = .ok (.iconst 0, 1) := by decide +kernel
theorem d_Mo_search_6 : decode prog_11_method_24_code 6 = .ok (.istore_n 1, 1) := by decide +kernel
theorem d_Mo_search_7 : decode prog_11_method_24_code 7 = .ok (.iload_n 1, 1) := by decide +kernel
theorem d_Mo_search_8 : decode prog_11_method_24_code 8 = .ok (.aload_n 0, 1) := by decide +kernel
theorem d_Mo_search_9 : decode prog_11_method_24_code 9 = .ok (.getfield 84, 3) := by decide +kernel
theorem d_Mo_search_12 : decode prog_11_method_24_code 12 = .ok (.if_icmp .ge 14, 3) := by decide +kernel
theorem d_Mo_search_15 : decode prog_11_method_24_code 15 = .ok (.aload_n 0, 1) := by decide +kernel
theorem d_Mo_search_16 : decode prog_11_method_24_code 16 = .ok (.iload_n 1, 1) := by decide +kernel
theorem d_Mo_search_17 : decode prog_11_method_24_code 17 = .ok (.invokevirtual 158, 3) := by decide +kernel
theorem d_Mo_search_20 : decode prog_11_method_24_code 20 = .ok (.iinc 1 1, 3) := by decide +kernel
theorem d_Mo_search_23 : decode prog_11_method_24_code 23 = .ok (.goto (-16), 3) := by decide +kernel
theorem d_Mo_search_26 : decode prog_11_method_24_code 26 = .ok (.iconst 0, 1) := by decide +kernel
theorem d_Mo_search_27 : decode prog_11_method_24_code 27 = .ok (.istore_n 1, 1) := by decide +kernel
theorem d_Mo_search_28 : decode prog_11_method_24_code 28 = .ok (.iload_n 1, 1) := by decide +kernel
theorem d_Mo_search_29 : decode prog_11_method_24_code 29 = .ok (.aload_n 0, 1) := by decide +kernel
theorem d_Mo_search_30 : decode prog_11_method_24_code 30 = .ok (.getfield 140, 3) := by decide +kernel
theorem d_Mo_search_33 : decode prog_11_method_24_code 33 = .ok (.if_icmp .ge 28, 3) := by decide +kernel
theorem d_Mo_search_36 : decode prog_11_method_24_code 36 = .ok (.aload_n 0, 1) := by decide +kernel
theorem d_Mo_search_37 : decode prog_11_method_24_code 37 = .ok (.getfield 122, 3) := by decide +kernel
theorem d_Mo_search_40 : decode prog_11_method_24_code 40 = .ok (.ifCond .le 21, 3) := by decide +kernel
theorem d_Mo_search_43 : decode prog_11_method_24_code 43 = .ok (.aload_n 0, 1) := by decide +kernel
theorem d_Mo_search_44 : decode prog_11_method_24_code 44 = .ok (.getfield 51, 3) := by decide +kernel
theorem d_Mo_search_47 : decode prog_11_method_24_code 47 = .ok (.iload_n 1, 1) := by decide +kernel
theorem d_Mo_search_48 : decode prog_11_method_24_code 48 = .ok (.aload_n 0, 1) := by decide +kernel
theorem d_Mo_search_49 : decode prog_11_method_24_code 49 = .ok (.getfield 57, 3) := by decide +kernel
theorem d_Mo_search_52 : decode prog_11_method_24_code 52 = .ok (.iload_n 1, 1) := by decide +kernel
theorem d_Mo_search_53 : decode prog_11_method_24_code 53 = .ok (.iaload, 1) := by decide +kernel
theorem d_Mo_search_54 : decode prog_11_method_24_code 54 = .ok (.iastore, 1) := by decide +kernel
theorem d_Mo_search_55 : decode prog_11_method_24_code 55 = .ok (.iinc 1 1, 3) := by decide +kernel
theorem d_Mo_search_58 : decode prog_11_method_24_code 58 = .ok (.goto (-30), 3) := by decide +kernel
theorem d_Mo_search_61 : decode prog_11_method_24_code 61 = .ok (.return_, 1) := by decide +kernel
theorem d_Mo_setOf_0 : decode prog_11_method_17_code 0 = .ok (.lconst 0, 1) := by decide +kernel
theorem d_Mo_setOf_1 : decode prog_11_method_17_code 1 = .ok (.lstore_n 2, 1) := by decide +kernel
theorem d_Mo_setOf_2 : decode prog_11_method_17_code 2 = .ok (.iconst 0, 1) := by decide +kernel
theorem d_Mo_setOf_3 : decode prog_11_method_17_code 3 = .ok (.istore 4, 2) := by decide +kernel
theorem d_Mo_setOf_5 : decode prog_11_method_17_code 5 = .ok (.iload 4, 2) := by decide +kernel
theorem d_Mo_setOf_7 : decode prog_11_method_17_code 7 = .ok (.iload_n 1, 1) := by decide +kernel
theorem d_Mo_setOf_8 : decode prog_11_method_17_code 8 = .ok (.if_icmp .ge 21, 3) := by decide +kernel
theorem d_Mo_setOf_11 : decode prog_11_method_17_code 11 = .ok (.lload_n 2, 1) := by decide +kernel
theorem d_Mo_setOf_12 : decode prog_11_method_17_code 12 = .ok (.lconst 1, 1) := by decide +kernel
theorem d_Mo_setOf_13 : decode prog_11_method_17_code 13 = .ok (.aload_n 0, 1) := by decide +kernel
theorem d_Mo_setOf_14 : decode prog_11_method_17_code 14 = .ok (.getfield 51, 3) := by decide +kernel
theorem d_Mo_setOf_17 : decode prog_11_method_17_code 17 = .ok (.iload 4, 2) := by decide +kernel
theorem d_Mo_setOf_19 : decode prog_11_method_17_code 19 = .ok (.iaload, 1) := by decide +kernel
theorem d_Mo_setOf_20 : decode prog_11_method_17_code 20 = .ok (.lshl, 1) := by decide +kernel
theorem d_Mo_setOf_21 : decode prog_11_method_17_code 21 = .ok (.lor, 1) := by decide +kernel
theorem d_Mo_setOf_22 : decode prog_11_method_17_code 22 = .ok (.lstore_n 2, 1) := by decide +kernel
theorem d_Mo_setOf_23 : decode prog_11_method_17_code 23 = .ok (.iinc 4 1, 3) := by decide +kernel
theorem d_Mo_setOf_26 : decode prog_11_method_17_code 26 = .ok (.goto (-21), 3) := by decide +kernel
theorem d_Mo_setOf_29 : decode prog_11_method_17_code 29 = .ok (.lload_n 2, 1) := by decide +kernel
theorem d_Mo_setOf_30 : decode prog_11_method_17_code 30 = .ok (.lreturn, 1) := by decide +kernel
theorem d_Mo_sizeOf_0 : decode prog_11_method_22_code 0 = .ok (.iconst 0, 1) := by decide +kernel
theorem d_Mo_sizeOf_1 : decode prog_11_method_22_code 1 = .ok (.istore_n 1, 1) := by decide +kernel
theorem d_Mo_sizeOf_2 : decode prog_11_method_22_code 2 = .ok (.iconst 0, 1) := by decide +kernel
theorem d_Mo_sizeOf_3 : decode prog_11_method_22_code 3 = .ok (.istore_n 2, 1) := by decide +kernel
theorem d_Mo_sizeOf_4 : decode prog_11_method_22_code 4 = .ok (.iload_n 2, 1) := by decide +kernel
theorem d_Mo_sizeOf_5 : decode prog_11_method_22_code 5 = .ok (.bipush 8, 2) := by decide +kernel
theorem d_Mo_sizeOf_7 : decode prog_11_method_22_code 7 = .ok (.if_icmp .ge 17, 3) := by decide +kernel
theorem d_Mo_sizeOf_10 : decode prog_11_method_22_code 10 = .ok (.iload_n 1, 1) := by decide +kernel
theorem d_Mo_sizeOf_11 : decode prog_11_method_22_code 11 = .ok (.iload_n 0, 1) := by decide +kernel
theorem d_Mo_sizeOf_12 : decode prog_11_method_22_code 12 = .ok (.iload_n 2, 1) := by decide +kernel
theorem d_Mo_sizeOf_13 : decode prog_11_method_22_code 13 = .ok (.ishr, 1) := by decide +kernel
theorem d_Mo_sizeOf_14 : decode prog_11_method_22_code 14 = .ok (.iconst 1, 1) := by decide +kernel
theorem d_Mo_sizeOf_15 : decode prog_11_method_22_code 15 = .ok (.iand, 1) := by decide +kernel
theorem d_Mo_sizeOf_16 : decode prog_11_method_22_code 16 = .ok (.iadd, 1) := by decide +kernel
theorem d_Mo_sizeOf_17 : decode prog_11_method_22_code 17 = .ok (.istore_n 1, 1) := by decide +kernel
theorem d_Mo_sizeOf_18 : decode prog_11_method_22_code 18 = .ok (.iinc 2 1, 3) := by decide +kernel
theorem d_Mo_sizeOf_21 : decode prog_11_method_22_code 21 = .ok (.goto (-17), 3) := by decide +kernel
theorem d_Mo_sizeOf_24 : decode prog_11_method_22_code 24 = .ok (.iload_n 1, 1) := by decide +kernel
theorem d_Mo_sizeOf_25 : decode prog_11_method_22_code 25 = .ok (.ireturn, 1) := by decide +kernel
theorem d_Mo_stuck_0 : decode prog_11_method_30_code 0 = .ok (.iconst 1, 1) := by decide +kernel
theorem d_Mo_stuck_1 : decode prog_11_method_30_code 1 = .ok (.istore_n 2, 1) := by decide +kernel
theorem d_Mo_stuck_2 : decode prog_11_method_30_code 2 = .ok (.iconst 0, 1) := by decide +kernel
theorem d_Mo_stuck_3 : decode prog_11_method_30_code 3 = .ok (.istore_n 3, 1) := by decide +kernel
theorem d_Mo_stuck_4 : decode prog_11_method_30_code 4 = .ok (.iload_n 3, 1) := by decide +kernel
theorem d_Mo_stuck_5 : decode prog_11_method_30_code 5 = .ok (.aload_n 0, 1) := by decide +kernel
theorem d_Mo_stuck_6 : decode prog_11_method_30_code 6 = .ok (.getfield 84, 3) := by decide +kernel
theorem d_Mo_stuck_9 : decode prog_11_method_30_code 9 = .ok (.if_icmp .ge 36, 3) := by decide +kernel
theorem d_Mo_stuck_12 : decode prog_11_method_30_code 12 = .ok (.iload_n 2, 1) := by decide +kernel
theorem d_Mo_stuck_13 : decode prog_11_method_30_code 13 = .ok (.ifCond .eq 24, 3) := by decide +kernel
theorem d_Mo_stuck_16 : decode prog_11_method_30_code 16 = .ok (.iload_n 1, 1) := by decide +kernel
theorem d_Mo_stuck_17 : decode prog_11_method_30_code 17 = .ok (.aload_n 0, 1) := by decide +kernel
theorem d_Mo_stuck_18 : decode prog_11_method_30_code 18 = .ok (.getfield 7, 3) := by decide +kernel
theorem d_Mo_stuck_21 : decode prog_11_method_30_code 21 = .ok (.iload_n 3, 1) := by decide +kernel
theorem d_Mo_stuck_22 : decode prog_11_method_30_code 22 = .ok (.iaload, 1) := by decide +kernel
theorem d_Mo_stuck_23 : decode prog_11_method_30_code 23 = .ok (.iand, 1) := by decide +kernel
theorem d_Mo_stuck_24 : decode prog_11_method_30_code 24 = .ok (.aload_n 0, 1) := by decide +kernel
theorem d_Mo_stuck_25 : decode prog_11_method_30_code 25 = .ok (.getfield 7, 3) := by decide +kernel
theorem d_Mo_stuck_28 : decode prog_11_method_30_code 28 = .ok (.iload_n 3, 1) := by decide +kernel
theorem d_Mo_stuck_29 : decode prog_11_method_30_code 29 = .ok (.iaload, 1) := by decide +kernel
theorem d_Mo_stuck_30 : decode prog_11_method_30_code 30 = .ok (.if_icmp .eq 7, 3) := by decide +kernel
theorem d_Mo_stuck_33 : decode prog_11_method_30_code 33 = .ok (.iconst 1, 1) := by decide +kernel
theorem d_Mo_stuck_34 : decode prog_11_method_30_code 34 = .ok (.goto 4, 3) := by decide +kernel
theorem d_Mo_stuck_37 : decode prog_11_method_30_code 37 = .ok (.iconst 0, 1) := by decide +kernel
theorem d_Mo_stuck_38 : decode prog_11_method_30_code 38 = .ok (.istore_n 2, 1) := by decide +kernel
theorem d_Mo_stuck_39 : decode prog_11_method_30_code 39 = .ok (.iinc 3 1, 3) := by decide +kernel
theorem d_Mo_stuck_42 : decode prog_11_method_30_code 42 = .ok (.goto (-38), 3) := by decide +kernel
theorem d_Mo_stuck_45 : decode prog_11_method_30_code 45 = .ok (.iload_n 2, 1) := by decide +kernel
theorem d_Mo_stuck_46 : decode prog_11_method_30_code 46 = .ok (.ireturn, 1) := by decide +kernel
theorem d_Mo_takenBy_0 : decode prog_11_method_10_code 0 = .ok (.lconst 0, 1) := by decide +kernel
theorem d_Mo_takenBy_1 : decode prog_11_method_10_code 1 = .ok (.lstore_n 3, 1) := by decide +kernel
theorem d_Mo_takenBy_2 : decode prog_11_method_10_code 2 = .ok (.iconst 0, 1) := by decide +kernel
theorem d_Mo_takenBy_3 : decode prog_11_method_10_code 3 = .ok (.istore 5, 2) := by decide +kernel
theorem d_Mo_takenBy_5 : decode prog_11_method_10_code 5 = .ok (.iload 5, 2) := by decide +kernel
theorem d_Mo_takenBy_7 : decode prog_11_method_10_code 7 = .ok (.aload_n 0, 1) := by decide +kernel
theorem d_Mo_takenBy_8 : decode prog_11_method_10_code 8 = .ok (.getfield 70, 3) := by decide +kernel
theorem d_Mo_takenBy_11 : decode prog_11_method_10_code 11 = .ok (.if_icmp .ge 49, 3) := by decide +kernel
theorem d_Mo_takenBy_14 : decode prog_11_method_10_code 14 = .ok (.lload_n 1, 1) := by decide +kernel
theorem d_Mo_takenBy_15 : decode prog_11_method_10_code 15 = .ok (.iload 5, 2) := by decide +kernel
theorem d_Mo_takenBy_17 : decode prog_11_method_10_code 17 = .ok (.invokestatic 93, 3) := by decide +kernel
theorem d_Mo_takenBy_20 : decode prog_11_method_10_code 20 = .ok (.ifCond .ne 6, 3) := by decide +kernel
theorem d_Mo_takenBy_23 : decode prog_11_method_10_code 23 = .ok (.goto 31, 3) := by decide +kernel
theorem d_Mo_takenBy_26 : decode prog_11_method_10_code 26 = .ok (.lload_n 3, 1) := by decide +kernel
theorem d_Mo_takenBy_27 : decode prog_11_method_10_code 27 = .ok (.aload_n 0, 1) := by decide +kernel
theorem d_Mo_takenBy_28 : decode prog_11_method_10_code 28 = .ok (.getfield 35, 3) := by decide +kernel
theorem d_Mo_takenBy_31 : decode prog_11_method_10_code 31 = .ok (.iload 5, 2) := by decide +kernel
theorem d_Mo_takenBy_33 : decode prog_11_method_10_code 33 = .ok (.laload, 1) := by decide +kernel
theorem d_Mo_takenBy_34 : decode prog_11_method_10_code 34 = .ok (.land, 1) := by decide +kernel
theorem d_Mo_takenBy_35 : decode prog_11_method_10_code 35 = .ok (.lconst 0, 1) := by decide +kernel
theorem d_Mo_takenBy_36 : decode prog_11_method_10_code 36 = .ok (.lcmp, 1) := by decide +kernel
theorem d_Mo_takenBy_37 : decode prog_11_method_10_code 37 = .ok (.ifCond .eq 7, 3) := by decide +kernel
theorem d_Mo_takenBy_40 : decode prog_11_method_10_code 40 = .ok (.ldc2_w 97, 3) := by decide +kernel
theorem d_Mo_takenBy_43 : decode prog_11_method_10_code 43 = .ok (.lreturn, 1) := by decide +kernel
theorem d_Mo_takenBy_44 : decode prog_11_method_10_code 44 = .ok (.lload_n 3, 1) := by decide +kernel
theorem d_Mo_takenBy_45 : decode prog_11_method_10_code 45 = .ok (.aload_n 0, 1) := by decide +kernel
theorem d_Mo_takenBy_46 : decode prog_11_method_10_code 46 = .ok (.getfield 35, 3) := by decide +kernel
theorem d_Mo_takenBy_49 : decode prog_11_method_10_code 49 = .ok (.iload 5, 2) := by decide +kernel
theorem d_Mo_takenBy_51 : decode prog_11_method_10_code 51 = .ok (.laload, 1) := by decide +kernel
theorem d_Mo_takenBy_52 : decode prog_11_method_10_code 52 = .ok (.lor, 1) := by decide +kernel
theorem d_Mo_takenBy_53 : decode prog_11_method_10_code 53 = .ok (.lstore_n 3, 1) := by decide +kernel
theorem d_Mo_takenBy_54 : decode prog_11_method_10_code 54 = .ok (.iinc 5 1, 3) := by decide +kernel
theorem d_Mo_takenBy_57 : decode prog_11_method_10_code 57 = .ok (.goto (-52), 3) := by decide +kernel
theorem d_Mo_takenBy_60 : decode prog_11_method_10_code 60 = .ok (.lload_n 3, 1) := by decide +kernel
theorem d_Mo_takenBy_61 : decode prog_11_method_10_code 61 = .ok (.lreturn, 1) := by decide +kernel
theorem d_Mo_takes_0 : decode prog_11_method_39_code 0 = .ok (.aload_n 0, 1) := by decide +kernel
theorem d_Mo_takes_1 : decode prog_11_method_39_code 1 = .ok (.iconst 0, 1) := by decide +kernel
theorem d_Mo_takes_2 : decode prog_11_method_39_code 2 = .ok (.putfield 67, 3) := by decide +kernel
theorem d_Mo_takes_5 : decode prog_11_method_39_code 5 = .ok (.iload_n 1, 1) := by decide +kernel
theorem d_Mo_takes_6 : decode prog_11_method_39_code 6 = .ok (.iconst 0, 1) := by decide +kernel
theorem d_Mo_takes_7 : decode prog_11_method_39_code 7 = .ok (.aload_n 0, 1) := by decide +kernel
theorem d_Mo_takes_8 : decode prog_11_method_39_code 8 = .ok (.getfield 70, 3) := by decide +kernel
theorem d_Mo_takes_11 : decode prog_11_method_39_code 11 = .ok (.iconst 1, 1) := by decide +kernel
theorem d_Mo_takes_12 : decode prog_11_method_39_code 12 = .ok (.isub, 1) := by decide +kernel
theorem d_Mo_takes_13 : decode prog_11_method_39_code 13 = .ok (.invokestatic 80, 3) := by decide +kernel
theorem d_Mo_takes_16 : decode prog_11_method_39_code 16 = .ok (.ifCond .ne 13, 3) := by decide +kernel
theorem d_Mo_takes_19 : decode prog_11_method_39_code 19 = .ok (.iload_n 2, 1) := by decide +kernel
theorem d_Mo_takes_20 : decode prog_11_method_39_code 20 = .ok (.iconst 0, 1) := by decide +kernel
theorem d_Mo_takes_21 : decode prog_11_method_39_code 21 = .ok (.bipush 7, 2) := by decide +kernel
theorem d_Mo_takes_23 : decode prog_11_method_39_code 23 = .ok (.invokestatic 80, 3) := by decide +kernel
theorem d_Mo_takes_26 : decode prog_11_method_39_code 26 = .ok (.ifCond .eq 7, 3) := by decide +kernel
theorem d_Mo_takes_29 : decode prog_11_method_39_code 29 = .ok (.iconst (-1), 1) := by decide +kernel
theorem d_Mo_takes_30 : decode prog_11_method_39_code 30 = .ok (.goto 14, 3) := by decide +kernel
theorem d_Mo_takes_33 : decode prog_11_method_39_code 33 = .ok (.aload_n 0, 1) := by decide +kernel
theorem d_Mo_takes_34 : decode prog_11_method_39_code 34 = .ok (.getfield 38, 3) := by decide +kernel
theorem d_Mo_takes_37 : decode prog_11_method_39_code 37 = .ok (.bipush 8, 2) := by decide +kernel
theorem d_Mo_takes_39 : decode prog_11_method_39_code 39 = .ok (.iload_n 1, 1) := by decide +kernel
theorem d_Mo_takes_40 : decode prog_11_method_39_code 40 = .ok (.imul, 1) := by decide +kernel
theorem d_Mo_takes_41 : decode prog_11_method_39_code 41 = .ok (.iload_n 2, 1) := by decide +kernel
theorem d_Mo_takes_42 : decode prog_11_method_39_code 42 = .ok (.iadd, 1) := by decide +kernel
theorem d_Mo_takes_43 : decode prog_11_method_39_code 43 = .ok (.iaload, 1) := by decide +kernel
theorem d_Mo_takes_44 : decode prog_11_method_39_code 44 = .ok (.ireturn, 1) := by decide +kernel
theorem d_Mo_together_0 : decode prog_11_method_11_code 0 = .ok (.aload_n 0, 1) := by decide +kernel
theorem d_Mo_together_1 : decode prog_11_method_11_code 1 = .ok (.aload_n 0, 1) := by decide +kernel
theorem d_Mo_together_2 : decode prog_11_method_11_code 2 = .ok (.getfield 22, 3) := by decide +kernel
theorem d_Mo_together_5 : decode prog_11_method_11_code 5 = .ok (.iload_n 1, 1) := by decide +kernel
theorem d_Mo_together_6 : decode prog_11_method_11_code 6 = .ok (.iaload, 1) := by decide +kernel
theorem d_Mo_together_7 : decode prog_11_method_11_code 7 = .ok (.aload_n 0, 1) := by decide +kernel
theorem d_Mo_together_8 : decode prog_11_method_11_code 8 = .ok (.getfield 22, 3) := by decide +kernel
theorem d_Mo_together_11 : decode prog_11_method_11_code 11 = .ok (.iload_n 2, 1) := by decide +kernel
theorem d_Mo_together_12 : decode prog_11_method_11_code 12 = .ok (.iaload, 1) := by decide +kernel
theorem d_Mo_together_13 : decode prog_11_method_11_code 13 = .ok (.ior, 1) := by decide +kernel
theorem d_Mo_together_14 : decode prog_11_method_11_code 14 = .ok (.i2l, 1) := by decide +kernel
theorem d_Mo_together_15 : decode prog_11_method_11_code 15 = .ok (.invokevirtual 99, 3) := by decide +kernel
theorem d_Mo_together_18 : decode prog_11_method_11_code 18 = .ok (.lstore_n 3, 1) := by decide +kernel
theorem d_Mo_together_19 : decode prog_11_method_11_code 19 = .ok (.lload_n 3, 1) := by decide +kernel
theorem d_Mo_together_20 : decode prog_11_method_11_code 20 = .ok (.lconst 0, 1) := by decide +kernel
theorem d_Mo_together_21 : decode prog_11_method_11_code 21 = .ok (.lcmp, 1) := by decide +kernel
theorem d_Mo_together_22 : decode prog_11_method_11_code 22 = .ok (.ifCond .lt 23, 3) := by decide +kernel
theorem d_Mo_together_25 : decode prog_11_method_11_code 25 = .ok (.lload_n 3, 1) := by decide +kernel
theorem d_Mo_together_26 : decode prog_11_method_11_code 26 = .ok (.iload_n 1, 1) := by decide +kernel
theorem d_Mo_together_27 : decode prog_11_method_11_code 27 = .ok (.invokestatic 93, 3) := by decide +kernel
theorem d_Mo_together_30 : decode prog_11_method_11_code 30 = .ok (.ifCond .ne 15, 3) := by decide +kernel
theorem d_Mo_together_33 : decode prog_11_method_11_code 33 = .ok (.lload_n 3, 1) := by decide +kernel
theorem d_Mo_together_34 : decode prog_11_method_11_code 34 = .ok (.iload_n 2, 1) := by decide +kernel
theorem d_Mo_together_35 : decode prog_11_method_11_code 35 = .ok (.invokestatic 93, 3) := by decide +kernel
theorem d_Mo_together_38 : decode prog_11_method_11_code 38 = .ok (.ifCond .ne 7, 3) := by decide +kernel
theorem d_Mo_together_41 : decode prog_11_method_11_code 41 = .ok (.iconst 1, 1) := by decide +kernel
theorem d_Mo_together_42 : decode prog_11_method_11_code 42 = .ok (.goto 4, 3) := by decide +kernel
theorem d_Mo_together_45 : decode prog_11_method_11_code 45 = .ok (.iconst 0, 1) := by decide +kernel
theorem d_Mo_together_46 : decode prog_11_method_11_code 46 = .ok (.ireturn, 1) := by decide +kernel
theorem d_Mo_transition_0 : decode prog_11_method_7_code 0 = .ok (.aload_n 0, 1) := by decide +kernel
theorem d_Mo_transition_1 : decode prog_11_method_7_code 1 = .ok (.iload_n 1, 1) := by decide +kernel
theorem d_Mo_transition_2 : decode prog_11_method_7_code 2 = .ok (.iconst 1, 1) := by decide +kernel
theorem d_Mo_transition_3 : decode prog_11_method_7_code 3 = .ok (.sipush 255, 3) := by decide +kernel
theorem d_Mo_transition_6 : decode prog_11_method_7_code 6 = .ok (.invokestatic 80, 3) := by decide +kernel
theorem d_Mo_transition_9 : decode prog_11_method_7_code 9 = .ok (.ifCond .ne 14, 3) := by decide +kernel
theorem d_Mo_transition_12 : decode prog_11_method_7_code 12 = .ok (.iload_n 2, 1) := by decide +kernel
theorem d_Mo_transition_13 : decode prog_11_method_7_code 13 = .ok (.iconst 0, 1) := by decide +kernel
theorem d_Mo_transition_14 : decode prog_11_method_7_code 14 = .ok (.sipush 255, 3) := by decide +kernel
theorem d_Mo_transition_17 : decode prog_11_method_7_code 17 = .ok (.invokestatic 80, 3) := by decide +kernel
theorem d_Mo_transition_20 : decode prog_11_method_7_code 20 = .ok (.ifCond .eq 7, 3) := by decide +kernel
theorem d_Mo_transition_23 : decode prog_11_method_7_code 23 = .ok (.iconst 1, 1) := by decide +kernel
theorem d_Mo_transition_24 : decode prog_11_method_7_code 24 = .ok (.goto 17, 3) := by decide +kernel
theorem d_Mo_transition_27 : decode prog_11_method_7_code 27 = .ok (.aload_n 0, 1) := by decide +kernel
theorem d_Mo_transition_28 : decode prog_11_method_7_code 28 = .ok (.getfield 84, 3) := by decide +kernel
theorem d_Mo_transition_31 : decode prog_11_method_7_code 31 = .ok (.bipush 8, 2) := by decide +kernel
theorem d_Mo_transition_33 : decode prog_11_method_7_code 33 = .ok (.if_icmp .ne 7, 3) := by decide +kernel
theorem d_Mo_transition_36 : decode prog_11_method_7_code 36 = .ok (.iconst 2, 1) := by decide +kernel
theorem d_Mo_transition_37 : decode prog_11_method_7_code 37 = .ok (.goto 4, 3) := by decide +kernel
theorem d_Mo_transition_40 : decode prog_11_method_7_code 40 = .ok (.iconst 0, 1) := by decide +kernel
theorem d_Mo_transition_41 : decode prog_11_method_7_code 41 = .ok (.putfield 67, 3) := by decide +kernel
theorem d_Mo_transition_44 : decode prog_11_method_7_code 44 = .ok (.aload_n 0, 1) := by decide +kernel
theorem d_Mo_transition_45 : decode prog_11_method_7_code 45 = .ok (.getfield 67, 3) := by decide +kernel
theorem d_Mo_transition_48 : decode prog_11_method_7_code 48 = .ok (.ifCond .eq 5, 3) := by decide +kernel
theorem d_Mo_transition_51 : decode prog_11_method_7_code 51 = .ok (.iconst 0, 1) := by decide +kernel
theorem d_Mo_transition_52 : decode prog_11_method_7_code 52 = .ok (.ireturn, 1) := by decide +kernel
theorem d_Mo_transition_53 : decode prog_11_method_7_code 53 = .ok (.aload_n 0, 1) := by decide +kernel
theorem d_Mo_transition_54 : decode prog_11_method_7_code 54 = .ok (.getfield 7, 3) := by decide +kernel
theorem d_Mo_transition_57 : decode prog_11_method_7_code 57 = .ok (.aload_n 0, 1) := by decide +kernel
theorem d_Mo_transition_58 : decode prog_11_method_7_code 58 = .ok (.getfield 84, 3) := by decide +kernel
theorem d_Mo_transition_61 : decode prog_11_method_7_code 61 = .ok (.iload_n 1, 1) := by decide +kernel
theorem d_Mo_transition_62 : decode prog_11_method_7_code 62 = .ok (.iastore, 1) := by decide +kernel
theorem d_Mo_transition_63 : decode prog_11_method_7_code 63 = .ok (.aload_n 0, 1) := by decide +kernel
theorem d_Mo_transition_64 : decode prog_11_method_7_code 64 = .ok (.getfield 13, 3) := by decide +kernel
theorem d_Mo_transition_67 : decode prog_11_method_7_code 67 = .ok (.aload_n 0, 1) := by decide +kernel
theorem d_Mo_transition_68 : decode prog_11_method_7_code 68 = .ok (.getfield 84, 3) := by decide +kernel
theorem d_Mo_transition_71 : decode prog_11_method_7_code 71 = .ok (.iload_n 2, 1) := by decide +kernel
theorem d_Mo_transition_72 : decode prog_11_method_7_code 72 = .ok (.iastore, 1) := by decide +kernel
theorem d_Mo_transition_73 : decode prog_11_method_7_code 73 = .ok (.aload_n 0, 1) := by decide +kernel
theorem d_Mo_transition_74 : decode prog_11_method_7_code 74 = .ok (.dup, 1) := by decide +kernel
theorem d_Mo_transition_75 : decode prog_11_method_7_code 75 = .ok (.getfield 84, 3) := by decide +kernel
theorem d_Mo_transition_78 : decode prog_11_method_7_code 78 = .ok (.iconst 1, 1) := by decide +kernel
theorem d_Mo_transition_79 : decode prog_11_method_7_code 79 = .ok (.iadd, 1) := by decide +kernel
theorem d_Mo_transition_80 : decode prog_11_method_7_code 80 = .ok (.putfield 84, 3) := by decide +kernel
theorem d_Mo_transition_83 : decode prog_11_method_7_code 83 = .ok (.aload_n 0, 1) := by decide +kernel
theorem d_Mo_transition_84 : decode prog_11_method_7_code 84 = .ok (.invokevirtual 87, 3) := by decide +kernel
theorem d_Mo_transition_87 : decode prog_11_method_7_code 87 = .ok (.aload_n 0, 1) := by decide +kernel
theorem d_Mo_transition_88 : decode prog_11_method_7_code 88 = .ok (.getfield 84, 3) := by decide +kernel
theorem d_Mo_transition_91 : decode prog_11_method_7_code 91 = .ok (.iconst 1, 1) := by decide +kernel
theorem d_Mo_transition_92 : decode prog_11_method_7_code 92 = .ok (.isub, 1) := by decide +kernel
theorem d_Mo_transition_93 : decode prog_11_method_7_code 93 = .ok (.ireturn, 1) := by decide +kernel
theorem d_Mo_twice_0 : decode prog_11_method_26_code 0 = .ok (.aload_n 0, 1) := by decide +kernel
theorem d_Mo_twice_1 : decode prog_11_method_26_code 1 = .ok (.invokevirtual 162, 3) := by decide +kernel
theorem d_Mo_twice_4 : decode prog_11_method_26_code 4 = .ok (.lstore_n 1, 1) := by decide +kernel
theorem d_Mo_twice_5 : decode prog_11_method_26_code 5 = .ok (.iconst 0, 1) := by decide +kernel
theorem d_Mo_twice_6 : decode prog_11_method_26_code 6 = .ok (.istore_n 3, 1) := by decide +kernel
theorem d_Mo_twice_7 : decode prog_11_method_26_code 7 = .ok (.iload_n 3, 1) := by decide +kernel
theorem d_Mo_twice_8 : decode prog_11_method_26_code 8 = .ok (.aload_n 0, 1) := by decide +kernel
theorem d_Mo_twice_9 : decode prog_11_method_26_code 9 = .ok (.getfield 73, 3) := by decide +kernel
theorem d_Mo_twice_12 : decode prog_11_method_26_code 12 = .ok (.if_icmp .ge 41, 3) := by decide +kernel
theorem d_Mo_twice_15 : decode prog_11_method_26_code 15 = .ok (.lload_n 1, 1) := by decide +kernel
theorem d_Mo_twice_16 : decode prog_11_method_26_code 16 = .ok (.iload_n 3, 1) := by decide +kernel
theorem d_Mo_twice_17 : decode prog_11_method_26_code 17 = .ok (.invokestatic 93, 3) := by decide +kernel
theorem d_Mo_twice_20 : decode prog_11_method_26_code 20 = .ok (.ifCond .eq 27, 3) := by decide +kernel
theorem d_Mo_twice_23 : decode prog_11_method_26_code 23 = .ok (.aload_n 0, 1) := by decide +kernel
theorem d_Mo_twice_24 : decode prog_11_method_26_code 24 = .ok (.getfield 13, 3) := by decide +kernel
theorem d_Mo_twice_27 : decode prog_11_method_26_code 27 = .ok (.aload_n 0, 1) := by decide +kernel
theorem d_Mo_twice_28 : decode prog_11_method_26_code 28 = .ok (.getfield 137, 3) := by decide +kernel
theorem d_Mo_twice_31 : decode prog_11_method_26_code 31 = .ok (.iaload, 1) := by decide +kernel
theorem d_Mo_twice_32 : decode prog_11_method_26_code 32 = .ok (.aload_n 0, 1) := by decide +kernel
theorem d_Mo_twice_33 : decode prog_11_method_26_code 33 = .ok (.getfield 16, 3) := by decide +kernel
theorem d_Mo_twice_36 : decode prog_11_method_26_code 36 = .ok (.iload_n 3, 1) := by decide +kernel
theorem d_Mo_twice_37 : decode prog_11_method_26_code 37 = .ok (.iaload, 1) := by decide +kernel
theorem d_Mo_twice_38 : decode prog_11_method_26_code 38 = .ok (.ishr, 1) := by decide +kernel
theorem d_Mo_twice_39 : decode prog_11_method_26_code 39 = .ok (.iconst 1, 1) := by decide +kernel
theorem d_Mo_twice_40 : decode prog_11_method_26_code 40 = .ok (.iand, 1) := by decide +kernel
theorem d_Mo_twice_41 : decode prog_11_method_26_code 41 = .ok (.iconst 1, 1) := by decide +kernel
theorem d_Mo_twice_42 : decode prog_11_method_26_code 42 = .ok (.if_icmp .ne 5, 3) := by decide +kernel
theorem d_Mo_twice_45 : decode prog_11_method_26_code 45 = .ok (.iload_n 3, 1) := by decide +kernel
theorem d_Mo_twice_46 : decode prog_11_method_26_code 46 = .ok (.ireturn, 1) := by decide +kernel
theorem d_Mo_twice_47 : decode prog_11_method_26_code 47 = .ok (.iinc 3 1, 3) := by decide +kernel
theorem d_Mo_twice_50 : decode prog_11_method_26_code 50 = .ok (.goto (-43), 3) := by decide +kernel
theorem d_Mo_twice_53 : decode prog_11_method_26_code 53 = .ok (.iconst (-1), 1) := by decide +kernel
theorem d_Mo_twice_54 : decode prog_11_method_26_code 54 = .ok (.ireturn, 1) := by decide +kernel
theorem d_Mo_unfold_0 : decode prog_11_method_29_code 0 = .ok (.aload_n 0, 1) := by decide +kernel
theorem d_Mo_unfold_1 : decode prog_11_method_29_code 1 = .ok (.iconst 0, 1) := by decide +kernel
theorem d_Mo_unfold_2 : decode prog_11_method_29_code 2 = .ok (.putfield 67, 3) := by decide +kernel
theorem d_Mo_unfold_5 : decode prog_11_method_29_code 5 = .ok (.aload_n 0, 1) := by decide +kernel
theorem d_Mo_unfold_6 : decode prog_11_method_29_code 6 = .ok (.invokevirtual 87, 3) := by decide +kernel
theorem d_Mo_unfold_9 : decode prog_11_method_29_code 9 = .ok (.iconst 0, 1) := by decide +kernel
theorem d_Mo_unfold_10 : decode prog_11_method_29_code 10 = .ok (.istore_n 1, 1) := by decide +kernel
theorem d_Mo_unfold_11 : decode prog_11_method_29_code 11 = .ok (.iload_n 1, 1) := by decide +kernel
theorem d_Mo_unfold_12 : decode prog_11_method_29_code 12 = .ok (.bipush 8, 2) := by decide +kernel
theorem d_Mo_unfold_14 : decode prog_11_method_29_code 14 = .ok (.if_icmp .ge 28, 3) := by decide +kernel
theorem d_Mo_unfold_17 : decode prog_11_method_29_code 17 = .ok (.aload_n 0, 1) := by decide +kernel
theorem d_Mo_unfold_18 : decode prog_11_method_29_code 18 = .ok (.getfield 90, 3) := by decide +kernel
theorem d_Mo_unfold_21 : decode prog_11_method_29_code 21 = .ok (.iload_n 1, 1) := by decide +kernel
theorem d_Mo_unfold_22 : decode prog_11_method_29_code 22 = .ok (.ishr, 1) := by decide +kernel
theorem d_Mo_unfold_23 : decode prog_11_method_29_code 23 = .ok (.iconst 1, 1) := by decide +kernel
theorem d_Mo_unfold_24 : decode prog_11_method_29_code 24 = .ok (.iand, 1) := by decide +kernel
theorem d_Mo_unfold_25 : decode prog_11_method_29_code 25 = .ok (.iconst 1, 1) := by decide +kernel
theorem d_Mo_unfold_26 : decode prog_11_method_29_code 26 = .ok (.if_icmp .ne 10, 3) := by decide +kernel
theorem d_Mo_unfold_29 : decode prog_11_method_29_code 29 = .ok (.aload_n 0, 1) := by decide +kernel
theorem d_Mo_unfold_30 : decode prog_11_method_29_code 30 = .ok (.iload_n 1, 1) := by decide +kernel
theorem d_Mo_unfold_31 : decode prog_11_method_29_code 31 = .ok (.iconst (-1), 1) := by decide +kernel
theorem d_Mo_unfold_32 : decode prog_11_method_29_code 32 = .ok (.iconst 0, 1) := by decide +kernel
theorem d_Mo_unfold_33 : decode prog_11_method_29_code 33 = .ok (.invokevirtual 170, 3) := by decide +kernel
theorem d_Mo_unfold_36 : decode prog_11_method_29_code 36 = .ok (.iinc 1 1, 3) := by decide +kernel
theorem d_Mo_unfold_39 : decode prog_11_method_29_code 39 = .ok (.goto (-28), 3) := by decide +kernel
theorem d_Mo_unfold_42 : decode prog_11_method_29_code 42 = .ok (.aload_n 0, 1) := by decide +kernel
theorem d_Mo_unfold_43 : decode prog_11_method_29_code 43 = .ok (.invokevirtual 174, 3) := by decide +kernel
theorem d_Mo_unfold_46 : decode prog_11_method_29_code 46 = .ok (.aload_n 0, 1) := by decide +kernel
theorem d_Mo_unfold_47 : decode prog_11_method_29_code 47 = .ok (.getfield 122, 3) := by decide +kernel
theorem d_Mo_unfold_50 : decode prog_11_method_29_code 50 = .ok (.sipush 200, 3) := by decide +kernel
theorem d_Mo_unfold_53 : decode prog_11_method_29_code 53 = .ok (.if_icmp .gt 7, 3) := by decide +kernel
theorem d_Mo_unfold_56 : decode prog_11_method_29_code 56 = .ok (.iconst 1, 1) := by decide +kernel
theorem d_Mo_unfold_57 : decode prog_11_method_29_code 57 = .ok (.goto 4, 3) := by decide +kernel
theorem d_Mo_unfold_60 : decode prog_11_method_29_code 60 = .ok (.iconst 0, 1) := by decide +kernel
theorem d_Mo_unfold_61 : decode prog_11_method_29_code 61 = .ok (.istore_n 1, 1) := by decide +kernel
theorem d_Mo_unfold_62 : decode prog_11_method_29_code 62 = .ok (.iload_n 1, 1) := by decide +kernel
theorem d_Mo_unfold_63 : decode prog_11_method_29_code 63 = .ok (.ifCond .eq 116, 3) := by decide +kernel
theorem d_Mo_unfold_66 : decode prog_11_method_29_code 66 = .ok (.aload_n 0, 1) := by decide +kernel
theorem d_Mo_unfold_67 : decode prog_11_method_29_code 67 = .ok (.getfield 122, 3) := by decide +kernel
theorem d_Mo_unfold_70 : decode prog_11_method_29_code 70 = .ok (.ifCond .le 109, 3) := by decide +kernel
theorem d_Mo_unfold_73 : decode prog_11_method_29_code 73 = .ok (.aload_n 0, 1) := by decide +kernel
theorem d_Mo_unfold_74 : decode prog_11_method_29_code 74 = .ok (.invokevirtual 177, 3) := by decide +kernel
theorem d_Mo_unfold_77 : decode prog_11_method_29_code 77 = .ok (.istore_n 2, 1) := by decide +kernel
theorem d_Mo_unfold_78 : decode prog_11_method_29_code 78 = .ok (.iload_n 2, 1) := by decide +kernel
theorem d_Mo_unfold_79 : decode prog_11_method_29_code 79 = .ok (.iconst (-1), 1) := by decide +kernel
theorem d_Mo_unfold_80 : decode prog_11_method_29_code 80 = .ok (.if_icmp .eq 67, 3) := by decide +kernel
theorem d_Mo_unfold_83 : decode prog_11_method_29_code 83 = .ok (.aload_n 0, 1) := by decide +kernel
theorem d_Mo_unfold_84 : decode prog_11_method_29_code 84 = .ok (.iconst 0, 1) := by decide +kernel
theorem d_Mo_unfold_85 : decode prog_11_method_29_code 85 = .ok (.putfield 63, 3) := by decide +kernel
theorem d_Mo_unfold_88 : decode prog_11_method_29_code 88 = .ok (.aload_n 0, 1) := by decide +kernel
theorem d_Mo_unfold_89 : decode prog_11_method_29_code 89 = .ok (.aload_n 0, 1) := by decide +kernel
theorem d_Mo_unfold_90 : decode prog_11_method_29_code 90 = .ok (.getfield 22, 3) := by decide +kernel
theorem d_Mo_unfold_93 : decode prog_11_method_29_code 93 = .ok (.iload_n 2, 1) := by decide +kernel
theorem d_Mo_unfold_94 : decode prog_11_method_29_code 94 = .ok (.iaload, 1) := by decide +kernel
theorem d_Mo_unfold_95 : decode prog_11_method_29_code 95 = .ok (.i2l, 1) := by decide +kernel
theorem d_Mo_unfold_96 : decode prog_11_method_29_code 96 = .ok (.invokevirtual 181, 3) := by decide +kernel
theorem d_Mo_unfold_99 : decode prog_11_method_29_code 99 = .ok (.aload_n 0, 1) := by decide +kernel
theorem d_Mo_unfold_100 : decode prog_11_method_29_code 100 = .ok (.aload_n 0, 1) := by decide +kernel
theorem d_Mo_unfold_101 : decode prog_11_method_29_code 101 = .ok (.aload_n 0, 1) := by decide +kernel
theorem d_Mo_unfold_102 : decode prog_11_method_29_code 102 = .ok (.getfield 140, 3) := by decide +kernel
