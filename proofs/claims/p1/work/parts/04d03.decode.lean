theorem d_Mo_reach_44 : decode prog_11_method_33_code 44 = .ok (.invokevirtual 196, 3) := by decide +kernel
theorem d_Mo_reach_47 : decode prog_11_method_33_code 47 = .ok (.ireturn, 1) := by decide +kernel
theorem d_Mo_deadlock_0 : decode prog_11_method_34_code 0 = .ok (.aload_n 0, 1) := by decide +kernel
theorem d_Mo_deadlock_1 : decode prog_11_method_34_code 1 = .ok (.aload_n 0, 1) := by decide +kernel
theorem d_Mo_deadlock_2 : decode prog_11_method_34_code 2 = .ok (.getfield 76, 3) := by decide +kernel
theorem d_Mo_deadlock_5 : decode prog_11_method_34_code 5 = .ok (.ifCond .eq 7, 3) := by decide +kernel
theorem d_Mo_deadlock_8 : decode prog_11_method_34_code 8 = .ok (.iconst 0, 1) := by decide +kernel
theorem d_Mo_deadlock_9 : decode prog_11_method_34_code 9 = .ok (.goto 4, 3) := by decide +kernel
theorem d_Mo_deadlock_12 : decode prog_11_method_34_code 12 = .ok (.iconst 1, 1) := by decide +kernel
theorem d_Mo_deadlock_13 : decode prog_11_method_34_code 13 = .ok (.putfield 67, 3) := by decide +kernel
theorem d_Mo_deadlock_16 : decode prog_11_method_34_code 16 = .ok (.aload_n 0, 1) := by decide +kernel
theorem d_Mo_deadlock_17 : decode prog_11_method_34_code 17 = .ok (.getfield 67, 3) := by decide +kernel
theorem d_Mo_deadlock_20 : decode prog_11_method_34_code 20 = .ok (.ifCond .eq 7, 3) := by decide +kernel
theorem d_Mo_deadlock_23 : decode prog_11_method_34_code 23 = .ok (.iconst 0, 1) := by decide +kernel
theorem d_Mo_deadlock_24 : decode prog_11_method_34_code 24 = .ok (.goto 8, 3) := by decide +kernel
theorem d_Mo_deadlock_27 : decode prog_11_method_34_code 27 = .ok (.aload_n 0, 1) := by decide +kernel
theorem d_Mo_deadlock_28 : decode prog_11_method_34_code 28 = .ok (.iconst (-1), 1) := by decide +kernel
theorem d_Mo_deadlock_29 : decode prog_11_method_34_code 29 = .ok (.invokevirtual 196, 3) := by decide +kernel
theorem d_Mo_deadlock_32 : decode prog_11_method_34_code 32 = .ok (.ireturn, 1) := by decide +kernel
theorem d_Mo_way_0 : decode prog_11_method_35_code 0 = .ok (.aload_n 0, 1) := by decide +kernel
theorem d_Mo_way_1 : decode prog_11_method_35_code 1 = .ok (.iconst 0, 1) := by decide +kernel
theorem d_Mo_way_2 : decode prog_11_method_35_code 2 = .ok (.putfield 67, 3) := by decide +kernel
theorem d_Mo_way_5 : decode prog_11_method_35_code 5 = .ok (.iload_n 1, 1) := by decide +kernel
theorem d_Mo_way_6 : decode prog_11_method_35_code 6 = .ok (.iconst 0, 1) := by decide +kernel
theorem d_Mo_way_7 : decode prog_11_method_35_code 7 = .ok (.aload_n 0, 1) := by decide +kernel
theorem d_Mo_way_8 : decode prog_11_method_35_code 8 = .ok (.getfield 63, 3) := by decide +kernel
theorem d_Mo_way_11 : decode prog_11_method_35_code 11 = .ok (.iconst 1, 1) := by decide +kernel
theorem d_Mo_way_12 : decode prog_11_method_35_code 12 = .ok (.isub, 1) := by decide +kernel
theorem d_Mo_way_13 : decode prog_11_method_35_code 13 = .ok (.invokestatic 80, 3) := by decide +kernel
theorem d_Mo_way_16 : decode prog_11_method_35_code 16 = .ok (.ifCond .eq 7, 3) := by decide +kernel
theorem d_Mo_way_19 : decode prog_11_method_35_code 19 = .ok (.iconst (-1), 1) := by decide +kernel
theorem d_Mo_way_20 : decode prog_11_method_35_code 20 = .ok (.goto 9, 3) := by decide +kernel
theorem d_Mo_way_23 : decode prog_11_method_35_code 23 = .ok (.aload_n 0, 1) := by decide +kernel
theorem d_Mo_way_24 : decode prog_11_method_35_code 24 = .ok (.getfield 60, 3) := by decide +kernel
theorem d_Mo_way_27 : decode prog_11_method_35_code 27 = .ok (.iload_n 1, 1) := by decide +kernel
theorem d_Mo_way_28 : decode prog_11_method_35_code 28 = .ok (.iaload, 1) := by decide +kernel
theorem d_Mo_way_29 : decode prog_11_method_35_code 29 = .ok (.ireturn, 1) := by decide +kernel
theorem d_Mo_play_0 : decode prog_11_method_36_code 0 = .ok (.iload_n 1, 1) := by decide +kernel
theorem d_Mo_play_1 : decode prog_11_method_36_code 1 = .ok (.ifCond .lt 19, 3) := by decide +kernel
theorem d_Mo_play_4 : decode prog_11_method_36_code 4 = .ok (.aload_n 0, 1) := by decide +kernel
theorem d_Mo_play_5 : decode prog_11_method_36_code 5 = .ok (.getfield 63, 3) := by decide +kernel
theorem d_Mo_play_8 : decode prog_11_method_36_code 8 = .ok (.iconst (-1), 1) := by decide +kernel
theorem d_Mo_play_9 : decode prog_11_method_36_code 9 = .ok (.if_icmp .eq 17, 3) := by decide +kernel
theorem d_Mo_play_12 : decode prog_11_method_36_code 12 = .ok (.iload_n 1, 1) := by decide +kernel
theorem d_Mo_play_13 : decode prog_11_method_36_code 13 = .ok (.aload_n 0, 1) := by decide +kernel
theorem d_Mo_play_14 : decode prog_11_method_36_code 14 = .ok (.getfield 63, 3) := by decide +kernel
theorem d_Mo_play_17 : decode prog_11_method_36_code 17 = .ok (.if_icmp .le 9, 3) := by decide +kernel
theorem d_Mo_play_20 : decode prog_11_method_36_code 20 = .ok (.aload_n 0, 1) := by decide +kernel
theorem d_Mo_play_21 : decode prog_11_method_36_code 21 = .ok (.iconst 1, 1) := by decide +kernel
theorem d_Mo_play_22 : decode prog_11_method_36_code 22 = .ok (.invokevirtual 199, 3) := by decide +kernel
theorem d_Mo_play_25 : decode prog_11_method_36_code 25 = .ok (.ireturn, 1) := by decide +kernel
theorem d_Mo_play_26 : decode prog_11_method_36_code 26 = .ok (.aload_n 0, 1) := by decide +kernel
theorem d_Mo_play_27 : decode prog_11_method_36_code 27 = .ok (.getfield 63, 3) := by decide +kernel
theorem d_Mo_play_30 : decode prog_11_method_36_code 30 = .ok (.iconst (-1), 1) := by decide +kernel
theorem d_Mo_play_31 : decode prog_11_method_36_code 31 = .ok (.if_icmp .ne 9, 3) := by decide +kernel
theorem d_Mo_play_34 : decode prog_11_method_36_code 34 = .ok (.aload_n 0, 1) := by decide +kernel
theorem d_Mo_play_35 : decode prog_11_method_36_code 35 = .ok (.iconst 2, 1) := by decide +kernel
theorem d_Mo_play_36 : decode prog_11_method_36_code 36 = .ok (.invokevirtual 199, 3) := by decide +kernel
theorem d_Mo_play_39 : decode prog_11_method_36_code 39 = .ok (.ireturn, 1) := by decide +kernel
theorem d_Mo_play_40 : decode prog_11_method_36_code 40 = .ok (.aload_n 0, 1) := by decide +kernel
theorem d_Mo_play_41 : decode prog_11_method_36_code 41 = .ok (.getfield 90, 3) := by decide +kernel
theorem d_Mo_play_44 : decode prog_11_method_36_code 44 = .ok (.istore_n 2, 1) := by decide +kernel
theorem d_Mo_play_45 : decode prog_11_method_36_code 45 = .ok (.iconst 0, 1) := by decide +kernel
theorem d_Mo_play_46 : decode prog_11_method_36_code 46 = .ok (.istore_n 3, 1) := by decide +kernel
theorem d_Mo_play_47 : decode prog_11_method_36_code 47 = .ok (.iload_n 3, 1) := by decide +kernel
theorem d_Mo_play_48 : decode prog_11_method_36_code 48 = .ok (.iload_n 1, 1) := by decide +kernel
theorem d_Mo_play_49 : decode prog_11_method_36_code 49 = .ok (.if_icmp .ge 69, 3) := by decide +kernel
theorem d_Mo_play_52 : decode prog_11_method_36_code 52 = .ok (.iload_n 2, 1) := by decide +kernel
theorem d_Mo_play_53 : decode prog_11_method_36_code 53 = .ok (.aload_n 0, 1) := by decide +kernel
theorem d_Mo_play_54 : decode prog_11_method_36_code 54 = .ok (.getfield 7, 3) := by decide +kernel
theorem d_Mo_play_57 : decode prog_11_method_36_code 57 = .ok (.aload_n 0, 1) := by decide +kernel
theorem d_Mo_play_58 : decode prog_11_method_36_code 58 = .ok (.getfield 60, 3) := by decide +kernel
theorem d_Mo_play_61 : decode prog_11_method_36_code 61 = .ok (.iload_n 3, 1) := by decide +kernel
theorem d_Mo_play_62 : decode prog_11_method_36_code 62 = .ok (.iaload, 1) := by decide +kernel
theorem d_Mo_play_63 : decode prog_11_method_36_code 63 = .ok (.iaload, 1) := by decide +kernel
theorem d_Mo_play_64 : decode prog_11_method_36_code 64 = .ok (.iand, 1) := by decide +kernel
theorem d_Mo_play_65 : decode prog_11_method_36_code 65 = .ok (.aload_n 0, 1) := by decide +kernel
theorem d_Mo_play_66 : decode prog_11_method_36_code 66 = .ok (.getfield 7, 3) := by decide +kernel
theorem d_Mo_play_69 : decode prog_11_method_36_code 69 = .ok (.aload_n 0, 1) := by decide +kernel
theorem d_Mo_play_70 : decode prog_11_method_36_code 70 = .ok (.getfield 60, 3) := by decide +kernel
theorem d_Mo_play_73 : decode prog_11_method_36_code 73 = .ok (.iload_n 3, 1) := by decide +kernel
theorem d_Mo_play_74 : decode prog_11_method_36_code 74 = .ok (.iaload, 1) := by decide +kernel
theorem d_Mo_play_75 : decode prog_11_method_36_code 75 = .ok (.iaload, 1) := by decide +kernel
theorem d_Mo_play_76 : decode prog_11_method_36_code 76 = .ok (.if_icmp .eq 9, 3) := by decide +kernel
theorem d_Mo_play_79 : decode prog_11_method_36_code 79 = .ok (.aload_n 0, 1) := by decide +kernel
theorem d_Mo_play_80 : decode prog_11_method_36_code 80 = .ok (.iconst 2, 1) := by decide +kernel
theorem d_Mo_play_81 : decode prog_11_method_36_code 81 = .ok (.invokevirtual 199, 3) := by decide +kernel
theorem d_Mo_play_84 : decode prog_11_method_36_code 84 = .ok (.ireturn, 1) := by decide +kernel
theorem d_Mo_play_85 : decode prog_11_method_36_code 85 = .ok (.iload_n 2, 1) := by decide +kernel
theorem d_Mo_play_86 : decode prog_11_method_36_code 86 = .ok (.aload_n 0, 1) := by decide +kernel
theorem d_Mo_play_87 : decode prog_11_method_36_code 87 = .ok (.getfield 7, 3) := by decide +kernel
theorem d_Mo_play_90 : decode prog_11_method_36_code 90 = .ok (.aload_n 0, 1) := by decide +kernel
theorem d_Mo_play_91 : decode prog_11_method_36_code 91 = .ok (.getfield 60, 3) := by decide +kernel
theorem d_Mo_play_94 : decode prog_11_method_36_code 94 = .ok (.iload_n 3, 1) := by decide +kernel
theorem d_Mo_play_95 : decode prog_11_method_36_code 95 = .ok (.iaload, 1) := by decide +kernel
theorem d_Mo_play_96 : decode prog_11_method_36_code 96 = .ok (.iaload, 1) := by decide +kernel
theorem d_Mo_play_97 : decode prog_11_method_36_code 97 = .ok (.aload_n 0, 1) := by decide +kernel
theorem d_Mo_play_98 : decode prog_11_method_36_code 98 = .ok (.getfield 13, 3) := by decide +kernel
theorem d_Mo_play_101 : decode prog_11_method_36_code 101 = .ok (.aload_n 0, 1) := by decide +kernel
theorem d_Mo_play_102 : decode prog_11_method_36_code 102 = .ok (.getfield 60, 3) := by decide +kernel
theorem d_Mo_play_105 : decode prog_11_method_36_code 105 = .ok (.iload_n 3, 1) := by decide +kernel
theorem d_Mo_play_106 : decode prog_11_method_36_code 106 = .ok (.iaload, 1) := by decide +kernel
theorem d_Mo_play_107 : decode prog_11_method_36_code 107 = .ok (.iaload, 1) := by decide +kernel
theorem d_Mo_play_108 : decode prog_11_method_36_code 108 = .ok (.invokestatic 103, 3) := by decide +kernel
theorem d_Mo_play_111 : decode prog_11_method_36_code 111 = .ok (.istore_n 2, 1) := by decide +kernel
theorem d_Mo_play_112 : decode prog_11_method_36_code 112 = .ok (.iinc 3 1, 3) := by decide +kernel
theorem d_Mo_play_115 : decode prog_11_method_36_code 115 = .ok (.goto (-68), 3) := by decide +kernel
theorem d_Mo_play_118 : decode prog_11_method_36_code 118 = .ok (.aload_n 0, 1) := by decide +kernel
theorem d_Mo_play_119 : decode prog_11_method_36_code 119 = .ok (.iconst 0, 1) := by decide +kernel
theorem d_Mo_play_120 : decode prog_11_method_36_code 120 = .ok (.putfield 67, 3) := by decide +kernel
theorem d_Mo_play_123 : decode prog_11_method_36_code 123 = .ok (.iload_n 2, 1) := by decide +kernel
theorem d_Mo_play_124 : decode prog_11_method_36_code 124 = .ok (.ireturn, 1) := by decide +kernel
theorem d_Mo_count_0 : decode prog_11_method_37_code 0 = .ok (.aload_n 0, 1) := by decide +kernel
theorem d_Mo_count_1 : decode prog_11_method_37_code 1 = .ok (.iconst 0, 1) := by decide +kernel
theorem d_Mo_count_2 : decode prog_11_method_37_code 2 = .ok (.putfield 67, 3) := by decide +kernel
theorem d_Mo_count_5 : decode prog_11_method_37_code 5 = .ok (.iconst 0, 1) := by decide +kernel
theorem d_Mo_count_6 : decode prog_11_method_37_code 6 = .ok (.istore_n 2, 1) := by decide +kernel
theorem d_Mo_count_7 : decode prog_11_method_37_code 7 = .ok (.iconst 0, 1) := by decide +kernel
theorem d_Mo_count_8 : decode prog_11_method_37_code 8 = .ok (.istore_n 3, 1) := by decide +kernel
theorem d_Mo_count_9 : decode prog_11_method_37_code 9 = .ok (.iload_n 3, 1) := by decide +kernel
theorem d_Mo_count_10 : decode prog_11_method_37_code 10 = .ok (.aload_n 0, 1) := by decide +kernel
theorem d_Mo_count_11 : decode prog_11_method_37_code 11 = .ok (.getfield 70, 3) := by decide +kernel
theorem d_Mo_count_14 : decode prog_11_method_37_code 14 = .ok (.if_icmp .ge 26, 3) := by decide +kernel
theorem d_Mo_count_17 : decode prog_11_method_37_code 17 = .ok (.aload_n 0, 1) := by decide +kernel
theorem d_Mo_count_18 : decode prog_11_method_37_code 18 = .ok (.getfield 47, 3) := by decide +kernel
theorem d_Mo_count_21 : decode prog_11_method_37_code 21 = .ok (.iload_n 3, 1) := by decide +kernel
theorem d_Mo_count_22 : decode prog_11_method_37_code 22 = .ok (.baload, 1) := by decide +kernel
theorem d_Mo_count_23 : decode prog_11_method_37_code 23 = .ok (.ifCond .eq 9, 3) := by decide +kernel
theorem d_Mo_count_26 : decode prog_11_method_37_code 26 = .ok (.iload_n 2, 1) := by decide +kernel
theorem d_Mo_count_27 : decode prog_11_method_37_code 27 = .ok (.iconst 1, 1) := by decide +kernel
theorem d_Mo_count_28 : decode prog_11_method_37_code 28 = .ok (.iadd, 1) := by decide +kernel
theorem d_Mo_count_29 : decode prog_11_method_37_code 29 = .ok (.goto 4, 3) := by decide +kernel
theorem d_Mo_count_32 : decode prog_11_method_37_code 32 = .ok (.iload_n 2, 1) := by decide +kernel
theorem d_Mo_count_33 : decode prog_11_method_37_code 33 = .ok (.istore_n 2, 1) := by decide +kernel
theorem d_Mo_count_34 : decode prog_11_method_37_code 34 = .ok (.iinc 3 1, 3) := by decide +kernel
theorem d_Mo_count_37 : decode prog_11_method_37_code 37 = .ok (.goto (-28), 3) := by decide +kernel
theorem d_Mo_count_40 : decode prog_11_method_37_code 40 = .ok (.iload_n 1, 1) := by decide +kernel
theorem d_Mo_count_41 : decode prog_11_method_37_code 41 = .ok (.ifCond .ne 10, 3) := by decide +kernel
theorem d_Mo_count_44 : decode prog_11_method_37_code 44 = .ok (.aload_n 0, 1) := by decide +kernel
theorem d_Mo_count_45 : decode prog_11_method_37_code 45 = .ok (.getfield 70, 3) := by decide +kernel
theorem d_Mo_count_48 : decode prog_11_method_37_code 48 = .ok (.goto 37, 3) := by decide +kernel
theorem d_Mo_count_51 : decode prog_11_method_37_code 51 = .ok (.iload_n 1, 1) := by decide +kernel
theorem d_Mo_count_52 : decode prog_11_method_37_code 52 = .ok (.iconst 1, 1) := by decide +kernel
theorem d_Mo_count_53 : decode prog_11_method_37_code 53 = .ok (.if_icmp .ne 10, 3) := by decide +kernel
theorem d_Mo_count_56 : decode prog_11_method_37_code 56 = .ok (.aload_n 0, 1) := by decide +kernel
theorem d_Mo_count_57 : decode prog_11_method_37_code 57 = .ok (.getfield 73, 3) := by decide +kernel
theorem d_Mo_count_60 : decode prog_11_method_37_code 60 = .ok (.goto 25, 3) := by decide +kernel
theorem d_Mo_count_63 : decode prog_11_method_37_code 63 = .ok (.iload_n 1, 1) := by decide +kernel
theorem d_Mo_count_64 : decode prog_11_method_37_code 64 = .ok (.iconst 2, 1) := by decide +kernel
theorem d_Mo_count_65 : decode prog_11_method_37_code 65 = .ok (.if_icmp .ne 7, 3) := by decide +kernel
theorem d_Mo_count_68 : decode prog_11_method_37_code 68 = .ok (.iload_n 2, 1) := by decide +kernel
theorem d_Mo_count_69 : decode prog_11_method_37_code 69 = .ok (.goto 16, 3) := by decide +kernel
theorem d_Mo_count_72 : decode prog_11_method_37_code 72 = .ok (.iload_n 1, 1) := by decide +kernel
theorem d_Mo_count_73 : decode prog_11_method_37_code 73 = .ok (.iconst 3, 1) := by decide +kernel
theorem d_Mo_count_74 : decode prog_11_method_37_code 74 = .ok (.if_icmp .ne 10, 3) := by decide +kernel
theorem d_Mo_count_77 : decode prog_11_method_37_code 77 = .ok (.aload_n 0, 1) := by decide +kernel
theorem d_Mo_count_78 : decode prog_11_method_37_code 78 = .ok (.getfield 63, 3) := by decide +kernel
theorem d_Mo_count_81 : decode prog_11_method_37_code 81 = .ok (.goto 4, 3) := by decide +kernel
theorem d_Mo_count_84 : decode prog_11_method_37_code 84 = .ok (.iconst (-1), 1) := by decide +kernel
theorem d_Mo_count_85 : decode prog_11_method_37_code 85 = .ok (.ireturn, 1) := by decide +kernel
theorem d_Mo_event_0 : decode prog_11_method_38_code 0 = .ok (.aload_n 0, 1) := by decide +kernel
theorem d_Mo_event_1 : decode prog_11_method_38_code 1 = .ok (.iconst 0, 1) := by decide +kernel
theorem d_Mo_event_2 : decode prog_11_method_38_code 2 = .ok (.putfield 67, 3) := by decide +kernel
theorem d_Mo_event_5 : decode prog_11_method_38_code 5 = .ok (.iload_n 1, 1) := by decide +kernel
theorem d_Mo_event_6 : decode prog_11_method_38_code 6 = .ok (.iconst 0, 1) := by decide +kernel
theorem d_Mo_event_7 : decode prog_11_method_38_code 7 = .ok (.aload_n 0, 1) := by decide +kernel
theorem d_Mo_event_8 : decode prog_11_method_38_code 8 = .ok (.getfield 70, 3) := by decide +kernel
theorem d_Mo_event_11 : decode prog_11_method_38_code 11 = .ok (.iconst 1, 1) := by decide +kernel
theorem d_Mo_event_12 : decode prog_11_method_38_code 12 = .ok (.isub, 1) := by decide +kernel
theorem d_Mo_event_13 : decode prog_11_method_38_code 13 = .ok (.invokestatic 80, 3) := by decide +kernel
theorem d_Mo_event_16 : decode prog_11_method_38_code 16 = .ok (.ifCond .ne 12, 3) := by decide +kernel
theorem d_Mo_event_19 : decode prog_11_method_38_code 19 = .ok (.iload_n 2, 1) := by decide +kernel
theorem d_Mo_event_20 : decode prog_11_method_38_code 20 = .ok (.iconst 0, 1) := by decide +kernel
theorem d_Mo_event_21 : decode prog_11_method_38_code 21 = .ok (.iconst 3, 1) := by decide +kernel
theorem d_Mo_event_22 : decode prog_11_method_38_code 22 = .ok (.invokestatic 80, 3) := by decide +kernel
theorem d_Mo_event_25 : decode prog_11_method_38_code 25 = .ok (.ifCond .eq 5, 3) := by decide +kernel
theorem d_Mo_event_28 : decode prog_11_method_38_code 28 = .ok (.iconst (-1), 1) := by decide +kernel
theorem d_Mo_event_29 : decode prog_11_method_38_code 29 = .ok (.ireturn, 1) := by decide +kernel
theorem d_Mo_event_30 : decode prog_11_method_38_code 30 = .ok (.iload_n 2, 1) := by decide +kernel
theorem d_Mo_event_31 : decode prog_11_method_38_code 31 = .ok (.ifCond .ne 12, 3) := by decide +kernel
theorem d_Mo_event_34 : decode prog_11_method_38_code 34 = .ok (.aload_n 0, 1) := by decide +kernel
theorem d_Mo_event_35 : decode prog_11_method_38_code 35 = .ok (.getfield 29, 3) := by decide +kernel
theorem d_Mo_event_38 : decode prog_11_method_38_code 38 = .ok (.iload_n 1, 1) := by decide +kernel
theorem d_Mo_event_39 : decode prog_11_method_38_code 39 = .ok (.iaload, 1) := by decide +kernel
theorem d_Mo_event_40 : decode prog_11_method_38_code 40 = .ok (.goto 51, 3) := by decide +kernel
theorem d_Mo_event_43 : decode prog_11_method_38_code 43 = .ok (.iload_n 2, 1) := by decide +kernel
theorem d_Mo_event_44 : decode prog_11_method_38_code 44 = .ok (.iconst 1, 1) := by decide +kernel
theorem d_Mo_event_45 : decode prog_11_method_38_code 45 = .ok (.if_icmp .ne 18, 3) := by decide +kernel
theorem d_Mo_event_48 : decode prog_11_method_38_code 48 = .ok (.aload_n 0, 1) := by decide +kernel
theorem d_Mo_event_49 : decode prog_11_method_38_code 49 = .ok (.getfield 41, 3) := by decide +kernel
theorem d_Mo_event_52 : decode prog_11_method_38_code 52 = .ok (.iload_n 1, 1) := by decide +kernel
theorem d_Mo_event_53 : decode prog_11_method_38_code 53 = .ok (.laload, 1) := by decide +kernel
theorem d_Mo_event_54 : decode prog_11_method_38_code 54 = .ok (.bipush 40, 2) := by decide +kernel
theorem d_Mo_event_56 : decode prog_11_method_38_code 56 = .ok (.lshr, 1) := by decide +kernel
theorem d_Mo_event_57 : decode prog_11_method_38_code 57 = .ok (.l2i, 1) := by decide +kernel
theorem d_Mo_event_58 : decode prog_11_method_38_code 58 = .ok (.iconst 1, 1) := by decide +kernel
theorem d_Mo_event_59 : decode prog_11_method_38_code 59 = .ok (.isub, 1) := by decide +kernel
theorem d_Mo_event_60 : decode prog_11_method_38_code 60 = .ok (.goto 31, 3) := by decide +kernel
theorem d_Mo_event_63 : decode prog_11_method_38_code 63 = .ok (.iload_n 2, 1) := by decide +kernel
theorem d_Mo_event_64 : decode prog_11_method_38_code 64 = .ok (.iconst 2, 1) := by decide +kernel
theorem d_Mo_event_65 : decode prog_11_method_38_code 65 = .ok (.if_icmp .ne 12, 3) := by decide +kernel
theorem d_Mo_event_68 : decode prog_11_method_38_code 68 = .ok (.aload_n 0, 1) := by decide +kernel
theorem d_Mo_event_69 : decode prog_11_method_38_code 69 = .ok (.getfield 44, 3) := by decide +kernel
theorem d_Mo_event_72 : decode prog_11_method_38_code 72 = .ok (.iload_n 1, 1) := by decide +kernel
theorem d_Mo_event_73 : decode prog_11_method_38_code 73 = .ok (.iaload, 1) := by decide +kernel
theorem d_Mo_event_74 : decode prog_11_method_38_code 74 = .ok (.goto 17, 3) := by decide +kernel
theorem d_Mo_event_77 : decode prog_11_method_38_code 77 = .ok (.aload_n 0, 1) := by decide +kernel
theorem d_Mo_event_78 : decode prog_11_method_38_code 78 = .ok (.getfield 47, 3) := by decide +kernel
theorem d_Mo_event_81 : decode prog_11_method_38_code 81 = .ok (.iload_n 1, 1) := by decide +kernel
theorem d_Mo_event_82 : decode prog_11_method_38_code 82 = .ok (.baload, 1) := by decide +kernel
theorem d_Mo_event_83 : decode prog_11_method_38_code 83 = .ok (.ifCond .eq 7, 3) := by decide +kernel
theorem d_Mo_event_86 : decode prog_11_method_38_code 86 = .ok (.iconst 1, 1) := by decide +kernel
theorem d_Mo_event_87 : decode prog_11_method_38_code 87 = .ok (.goto 4, 3) := by decide +kernel
theorem d_Mo_event_90 : decode prog_11_method_38_code 90 = .ok (.iconst 0, 1) := by decide +kernel
theorem d_Mo_event_91 : decode prog_11_method_38_code 91 = .ok (.ireturn, 1) := by decide +kernel
theorem d_Mo_takes_0 : decode prog_11_method_39_code 0 = .ok (.aload_n 0, 1) := by decide +kernel
theorem d_Mo_takes_1 : decode prog_11_method_39_code 1 = .ok (.iconst 0, 1) := by decide +kernel
theorem d_Mo_takes_2 : decode prog_11_method_39_code 2 = .ok (.putfield 67, 3) := by decide +kernel
theorem d_Mo_takes_5 : decode prog_11_method_39_code 5 = .ok (.iload_n 1, 1) := by decide +kernel
theorem d_Mo_takes_6 : decode prog_11_method_39_code 6 = .ok (.iconst 0, 1) := by decide +kernel
theorem d_Mo_takes_7 : decode prog_11_method_39_code 7 = .ok (.aload_n 0, 1) := by decide +kernel
theorem d_Mo_takes_8 : decode prog_11_method_39_code 8 = .ok (.getfield 70, 3) := by decide +kernel
theorem d_Mo_takes_11 : decode prog_11_method_39_code 11 = .ok (.iconst 1, 1) := by decide +kernel
theorem d_Mo_takes_12 : decode prog_11_method_39_code 12 = .ok (.isub, 1) := by decide +kernel
theorem d_Mo_takes_13 : decode prog_11_method_39_code 13 = .ok (.invokestatic 80, 3) := by decide +kernel
theorem d_Mo_takes_16 : decode prog_11_method_39_code 16 = .ok (.ifCond .ne 13, 3) := by decide +kernel
theorem d_Mo_takes_19 : decode prog_11_method_39_code 19 = .ok (.iload_n 2, 1) := by decide +kernel
theorem d_Mo_takes_20 : decode prog_11_method_39_code 20 = .ok (.iconst 0, 1) := by decide +kernel
theorem d_Mo_takes_21 : decode prog_11_method_39_code 21 = .ok (.bipush 7, 2) := by decide +kernel
theorem d_Mo_takes_23 : decode prog_11_method_39_code 23 = .ok (.invokestatic 80, 3) := by decide +kernel
theorem d_Mo_takes_26 : decode prog_11_method_39_code 26 = .ok (.ifCond .eq 7, 3) := by decide +kernel
theorem d_Mo_takes_29 : decode prog_11_method_39_code 29 = .ok (.iconst (-1), 1) := by decide +kernel
theorem d_Mo_takes_30 : decode prog_11_method_39_code 30 = .ok (.goto 14, 3) := by decide +kernel
theorem d_Mo_takes_33 : decode prog_11_method_39_code 33 = .ok (.aload_n 0, 1) := by decide +kernel
theorem d_Mo_takes_34 : decode prog_11_method_39_code 34 = .ok (.getfield 38, 3) := by decide +kernel
theorem d_Mo_takes_37 : decode prog_11_method_39_code 37 = .ok (.bipush 8, 2) := by decide +kernel
theorem d_Mo_takes_39 : decode prog_11_method_39_code 39 = .ok (.iload_n 1, 1) := by decide +kernel
theorem d_Mo_takes_40 : decode prog_11_method_39_code 40 = .ok (.imul, 1) := by decide +kernel
theorem d_Mo_takes_41 : decode prog_11_method_39_code 41 = .ok (.iload_n 2, 1) := by decide +kernel
theorem d_Mo_takes_42 : decode prog_11_method_39_code 42 = .ok (.iadd, 1) := by decide +kernel
theorem d_Mo_takes_43 : decode prog_11_method_39_code 43 = .ok (.iaload, 1) := by decide +kernel
theorem d_Mo_takes_44 : decode prog_11_method_39_code 44 = .ok (.ireturn, 1) := by decide +kernel
theorem d_Mo_condition_II_0 : decode prog_11_method_40_code 0 = .ok (.aload_n 0, 1) := by decide +kernel
theorem d_Mo_condition_II_1 : decode prog_11_method_40_code 1 = .ok (.iconst 0, 1) := by decide +kernel
theorem d_Mo_condition_II_2 : decode prog_11_method_40_code 2 = .ok (.putfield 67, 3) := by decide +kernel
theorem d_Mo_condition_II_5 : decode prog_11_method_40_code 5 = .ok (.iload_n 1, 1) := by decide +kernel
theorem d_Mo_condition_II_6 : decode prog_11_method_40_code 6 = .ok (.iconst 0, 1) := by decide +kernel
theorem d_Mo_condition_II_7 : decode prog_11_method_40_code 7 = .ok (.aload_n 0, 1) := by decide +kernel
theorem d_Mo_condition_II_8 : decode prog_11_method_40_code 8 = .ok (.getfield 73, 3) := by decide +kernel
theorem d_Mo_condition_II_11 : decode prog_11_method_40_code 11 = .ok (.iconst 1, 1) := by decide +kernel
theorem d_Mo_condition_II_12 : decode prog_11_method_40_code 12 = .ok (.isub, 1) := by decide +kernel
theorem d_Mo_condition_II_13 : decode prog_11_method_40_code 13 = .ok (.invokestatic 80, 3) := by decide +kernel
theorem d_Mo_condition_II_16 : decode prog_11_method_40_code 16 = .ok (.ifCond .ne 12, 3) := by decide +kernel
theorem d_Mo_condition_II_19 : decode prog_11_method_40_code 19 = .ok (.iload_n 2, 1) := by decide +kernel
theorem d_Mo_condition_II_20 : decode prog_11_method_40_code 20 = .ok (.iconst 0, 1) := by decide +kernel
theorem d_Mo_condition_II_21 : decode prog_11_method_40_code 21 = .ok (.iconst 2, 1) := by decide +kernel
theorem d_Mo_condition_II_22 : decode prog_11_method_40_code 22 = .ok (.invokestatic 80, 3) := by decide +kernel
theorem d_Mo_condition_II_25 : decode prog_11_method_40_code 25 = .ok (.ifCond .eq 5, 3) := by decide +kernel
theorem d_Mo_condition_II_28 : decode prog_11_method_40_code 28 = .ok (.iconst (-1), 1) := by decide +kernel
theorem d_Mo_condition_II_29 : decode prog_11_method_40_code 29 = .ok (.ireturn, 1) := by decide +kernel
theorem d_Mo_condition_II_30 : decode prog_11_method_40_code 30 = .ok (.iconst 0, 1) := by decide +kernel
theorem d_Mo_condition_II_31 : decode prog_11_method_40_code 31 = .ok (.istore_n 3, 1) := by decide +kernel
theorem d_Mo_condition_II_32 : decode prog_11_method_40_code 32 = .ok (.iconst 0, 1) := by decide +kernel
theorem d_Mo_condition_II_33 : decode prog_11_method_40_code 33 = .ok (.istore 4, 2) := by decide +kernel
theorem d_Mo_condition_II_35 : decode prog_11_method_40_code 35 = .ok (.iload 4, 2) := by decide +kernel
theorem d_Mo_condition_II_37 : decode prog_11_method_40_code 37 = .ok (.aload_n 0, 1) := by decide +kernel
theorem d_Mo_condition_II_38 : decode prog_11_method_40_code 38 = .ok (.getfield 70, 3) := by decide +kernel
theorem d_Mo_condition_II_41 : decode prog_11_method_40_code 41 = .ok (.if_icmp .ge 31, 3) := by decide +kernel
theorem d_Mo_condition_II_44 : decode prog_11_method_40_code 44 = .ok (.aload_n 0, 1) := by decide +kernel
theorem d_Mo_condition_II_45 : decode prog_11_method_40_code 45 = .ok (.getfield 35, 3) := by decide +kernel
theorem d_Mo_condition_II_48 : decode prog_11_method_40_code 48 = .ok (.iload 4, 2) := by decide +kernel
theorem d_Mo_condition_II_50 : decode prog_11_method_40_code 50 = .ok (.laload, 1) := by decide +kernel
theorem d_Mo_condition_II_51 : decode prog_11_method_40_code 51 = .ok (.iload_n 1, 1) := by decide +kernel
theorem d_Mo_condition_II_52 : decode prog_11_method_40_code 52 = .ok (.invokestatic 93, 3) := by decide +kernel
theorem d_Mo_condition_II_55 : decode prog_11_method_40_code 55 = .ok (.ifCond .eq 9, 3) := by decide +kernel
theorem d_Mo_condition_II_58 : decode prog_11_method_40_code 58 = .ok (.iload_n 3, 1) := by decide +kernel
theorem d_Mo_condition_II_59 : decode prog_11_method_40_code 59 = .ok (.iconst 1, 1) := by decide +kernel
theorem d_Mo_condition_II_60 : decode prog_11_method_40_code 60 = .ok (.iadd, 1) := by decide +kernel
theorem d_Mo_condition_II_61 : decode prog_11_method_40_code 61 = .ok (.goto 4, 3) := by decide +kernel
theorem d_Mo_condition_II_64 : decode prog_11_method_40_code 64 = .ok (.iload_n 3, 1) := by decide +kernel
theorem d_Mo_condition_II_65 : decode prog_11_method_40_code 65 = .ok (.istore_n 3, 1) := by decide +kernel
theorem d_Mo_condition_II_66 : decode prog_11_method_40_code 66 = .ok (.iinc 4 1, 3) := by decide +kernel
theorem d_Mo_condition_II_69 : decode prog_11_method_40_code 69 = .ok (.goto (-34), 3) := by decide +kernel
theorem d_Mo_condition_II_72 : decode prog_11_method_40_code 72 = .ok (.iload_n 2, 1) := by decide +kernel
theorem d_Mo_condition_II_73 : decode prog_11_method_40_code 73 = .ok (.ifCond .ne 12, 3) := by decide +kernel
theorem d_Mo_condition_II_76 : decode prog_11_method_40_code 76 = .ok (.aload_n 0, 1) := by decide +kernel
theorem d_Mo_condition_II_77 : decode prog_11_method_40_code 77 = .ok (.getfield 16, 3) := by decide +kernel
theorem d_Mo_condition_II_80 : decode prog_11_method_40_code 80 = .ok (.iload_n 1, 1) := by decide +kernel
theorem d_Mo_condition_II_81 : decode prog_11_method_40_code 81 = .ok (.iaload, 1) := by decide +kernel
theorem d_Mo_condition_II_82 : decode prog_11_method_40_code 82 = .ok (.goto 18, 3) := by decide +kernel
theorem d_Mo_condition_II_85 : decode prog_11_method_40_code 85 = .ok (.iload_n 2, 1) := by decide +kernel
theorem d_Mo_condition_II_86 : decode prog_11_method_40_code 86 = .ok (.iconst 1, 1) := by decide +kernel
theorem d_Mo_condition_II_87 : decode prog_11_method_40_code 87 = .ok (.if_icmp .ne 12, 3) := by decide +kernel
theorem d_Mo_condition_II_90 : decode prog_11_method_40_code 90 = .ok (.aload_n 0, 1) := by decide +kernel
theorem d_Mo_condition_II_91 : decode prog_11_method_40_code 91 = .ok (.getfield 19, 3) := by decide +kernel
theorem d_Mo_condition_II_94 : decode prog_11_method_40_code 94 = .ok (.iload_n 1, 1) := by decide +kernel
theorem d_Mo_condition_II_95 : decode prog_11_method_40_code 95 = .ok (.iaload, 1) := by decide +kernel
theorem d_Mo_condition_II_96 : decode prog_11_method_40_code 96 = .ok (.goto 4, 3) := by decide +kernel
theorem d_Mo_condition_II_99 : decode prog_11_method_40_code 99 = .ok (.iload_n 3, 1) := by decide +kernel
theorem d_Mo_condition_II_100 : decode prog_11_method_40_code 100 = .ok (.ireturn, 1) := by decide +kernel
theorem d_Mo_concurrent_0 : decode prog_11_method_41_code 0 = .ok (.aload_n 0, 1) := by decide +kernel
theorem d_Mo_concurrent_1 : decode prog_11_method_41_code 1 = .ok (.iconst 0, 1) := by decide +kernel
theorem d_Mo_concurrent_2 : decode prog_11_method_41_code 2 = .ok (.putfield 67, 3) := by decide +kernel
theorem d_Mo_concurrent_5 : decode prog_11_method_41_code 5 = .ok (.iload_n 1, 1) := by decide +kernel
theorem d_Mo_concurrent_6 : decode prog_11_method_41_code 6 = .ok (.iconst 0, 1) := by decide +kernel
theorem d_Mo_concurrent_7 : decode prog_11_method_41_code 7 = .ok (.aload_n 0, 1) := by decide +kernel
theorem d_Mo_concurrent_8 : decode prog_11_method_41_code 8 = .ok (.getfield 73, 3) := by decide +kernel
theorem d_Mo_concurrent_11 : decode prog_11_method_41_code 11 = .ok (.iconst 1, 1) := by decide +kernel
theorem d_Mo_concurrent_12 : decode prog_11_method_41_code 12 = .ok (.isub, 1) := by decide +kernel
theorem d_Mo_concurrent_13 : decode prog_11_method_41_code 13 = .ok (.invokestatic 80, 3) := by decide +kernel
theorem d_Mo_concurrent_16 : decode prog_11_method_41_code 16 = .ok (.ifCond .ne 34, 3) := by decide +kernel
theorem d_Mo_concurrent_19 : decode prog_11_method_41_code 19 = .ok (.iload_n 2, 1) := by decide +kernel
theorem d_Mo_concurrent_20 : decode prog_11_method_41_code 20 = .ok (.iconst 0, 1) := by decide +kernel
theorem d_Mo_concurrent_21 : decode prog_11_method_41_code 21 = .ok (.aload_n 0, 1) := by decide +kernel
theorem d_Mo_concurrent_22 : decode prog_11_method_41_code 22 = .ok (.getfield 73, 3) := by decide +kernel
theorem d_Mo_concurrent_25 : decode prog_11_method_41_code 25 = .ok (.iconst 1, 1) := by decide +kernel
theorem d_Mo_concurrent_26 : decode prog_11_method_41_code 26 = .ok (.isub, 1) := by decide +kernel
theorem d_Mo_concurrent_27 : decode prog_11_method_41_code 27 = .ok (.invokestatic 80, 3) := by decide +kernel
theorem d_Mo_concurrent_30 : decode prog_11_method_41_code 30 = .ok (.ifCond .ne 20, 3) := by decide +kernel
theorem d_Mo_concurrent_33 : decode prog_11_method_41_code 33 = .ok (.aload_n 0, 1) := by decide +kernel
theorem d_Mo_concurrent_34 : decode prog_11_method_41_code 34 = .ok (.getfield 25, 3) := by decide +kernel
theorem d_Mo_concurrent_37 : decode prog_11_method_41_code 37 = .ok (.iload_n 1, 1) := by decide +kernel
theorem d_Mo_concurrent_38 : decode prog_11_method_41_code 38 = .ok (.laload, 1) := by decide +kernel
theorem d_Mo_concurrent_39 : decode prog_11_method_41_code 39 = .ok (.iload_n 2, 1) := by decide +kernel
theorem d_Mo_concurrent_40 : decode prog_11_method_41_code 40 = .ok (.invokestatic 93, 3) := by decide +kernel
theorem d_Mo_concurrent_43 : decode prog_11_method_41_code 43 = .ok (.ifCond .eq 7, 3) := by decide +kernel
theorem d_Mo_concurrent_46 : decode prog_11_method_41_code 46 = .ok (.iconst 1, 1) := by decide +kernel
theorem d_Mo_concurrent_47 : decode prog_11_method_41_code 47 = .ok (.goto 4, 3) := by decide +kernel
theorem d_Mo_concurrent_50 : decode prog_11_method_41_code 50 = .ok (.iconst 0, 1) := by decide +kernel
theorem d_Mo_concurrent_51 : decode prog_11_method_41_code 51 = .ok (.ireturn, 1) := by decide +kernel
