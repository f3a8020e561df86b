theorem d_Po_comesBefore_5 : decode prog_4_method_7_code 5 = .ok (.laload, 1) := by decide +kernel
theorem d_Po_comesBefore_6 : decode prog_4_method_7_code 6 = .ok (.aload_n 0, 1) := by decide +kernel
theorem d_Po_comesBefore_7 : decode prog_4_method_7_code 7 = .ok (.getfield 19, 3) := by decide +kernel
theorem d_Po_comesBefore_10 : decode prog_4_method_7_code 10 = .ok (.iload_n 2, 1) := by decide +kernel
theorem d_Po_comesBefore_11 : decode prog_4_method_7_code 11 = .ok (.laload, 1) := by decide +kernel
theorem d_Po_comesBefore_12 : decode prog_4_method_7_code 12 = .ok (.lcmp, 1) := by decide +kernel
theorem d_Po_comesBefore_13 : decode prog_4_method_7_code 13 = .ok (.ifCond .eq 25, 3) := by decide +kernel
theorem d_Po_comesBefore_16 : decode prog_4_method_7_code 16 = .ok (.aload_n 0, 1) := by decide +kernel
theorem d_Po_comesBefore_17 : decode prog_4_method_7_code 17 = .ok (.getfield 19, 3) := by decide +kernel
theorem d_Po_comesBefore_20 : decode prog_4_method_7_code 20 = .ok (.iload_n 1, 1) := by decide +kernel
theorem d_Po_comesBefore_21 : decode prog_4_method_7_code 21 = .ok (.laload, 1) := by decide +kernel
theorem d_Po_comesBefore_22 : decode prog_4_method_7_code 22 = .ok (.aload_n 0, 1) := by decide +kernel
theorem d_Po_comesBefore_23 : decode prog_4_method_7_code 23 = .ok (.getfield 19, 3) := by decide +kernel
theorem d_Po_comesBefore_26 : decode prog_4_method_7_code 26 = .ok (.iload_n 2, 1) := by decide +kernel
theorem d_Po_comesBefore_27 : decode prog_4_method_7_code 27 = .ok (.laload, 1) := by decide +kernel
theorem d_Po_comesBefore_28 : decode prog_4_method_7_code 28 = .ok (.lcmp, 1) := by decide +kernel
theorem d_Po_comesBefore_29 : decode prog_4_method_7_code 29 = .ok (.ifCond .ge 7, 3) := by decide +kernel
theorem d_Po_comesBefore_32 : decode prog_4_method_7_code 32 = .ok (.iconst 1, 1) := by decide +kernel
theorem d_Po_comesBefore_33 : decode prog_4_method_7_code 33 = .ok (.goto 4, 3) := by decide +kernel
theorem d_Po_comesBefore_36 : decode prog_4_method_7_code 36 = .ok (.iconst 0, 1) := by decide +kernel
theorem d_Po_comesBefore_37 : decode prog_4_method_7_code 37 = .ok (.ireturn, 1) := by decide +kernel
theorem d_Po_comesBefore_38 : decode prog_4_method_7_code 38 = .ok (.aload_n 0, 1) := by decide +kernel
theorem d_Po_comesBefore_39 : decode prog_4_method_7_code 39 = .ok (.getfield 9, 3) := by decide +kernel
theorem d_Po_comesBefore_42 : decode prog_4_method_7_code 42 = .ok (.iload_n 1, 1) := by decide +kernel
theorem d_Po_comesBefore_43 : decode prog_4_method_7_code 43 = .ok (.iaload, 1) := by decide +kernel
theorem d_Po_comesBefore_44 : decode prog_4_method_7_code 44 = .ok (.aload_n 0, 1) := by decide +kernel
theorem d_Po_comesBefore_45 : decode prog_4_method_7_code 45 = .ok (.getfield 9, 3) := by decide +kernel
theorem d_Po_comesBefore_48 : decode prog_4_method_7_code 48 = .ok (.iload_n 2, 1) := by decide +kernel
theorem d_Po_comesBefore_49 : decode prog_4_method_7_code 49 = .ok (.iaload, 1) := by decide +kernel
theorem d_Po_comesBefore_50 : decode prog_4_method_7_code 50 = .ok (.if_icmp .eq 24, 3) := by decide +kernel
theorem d_Po_comesBefore_53 : decode prog_4_method_7_code 53 = .ok (.aload_n 0, 1) := by decide +kernel
theorem d_Po_comesBefore_54 : decode prog_4_method_7_code 54 = .ok (.getfield 9, 3) := by decide +kernel
theorem d_Po_comesBefore_57 : decode prog_4_method_7_code 57 = .ok (.iload_n 1, 1) := by decide +kernel
theorem d_Po_comesBefore_58 : decode prog_4_method_7_code 58 = .ok (.iaload, 1) := by decide +kernel
theorem d_Po_comesBefore_59 : decode prog_4_method_7_code 59 = .ok (.aload_n 0, 1) := by decide +kernel
theorem d_Po_comesBefore_60 : decode prog_4_method_7_code 60 = .ok (.getfield 9, 3) := by decide +kernel
theorem d_Po_comesBefore_63 : decode prog_4_method_7_code 63 = .ok (.iload_n 2, 1) := by decide +kernel
theorem d_Po_comesBefore_64 : decode prog_4_method_7_code 64 = .ok (.iaload, 1) := by decide +kernel
theorem d_Po_comesBefore_65 : decode prog_4_method_7_code 65 = .ok (.if_icmp .ge 7, 3) := by decide +kernel
theorem d_Po_comesBefore_68 : decode prog_4_method_7_code 68 = .ok (.iconst 1, 1) := by decide +kernel
theorem d_Po_comesBefore_69 : decode prog_4_method_7_code 69 = .ok (.goto 4, 3) := by decide +kernel
theorem d_Po_comesBefore_72 : decode prog_4_method_7_code 72 = .ok (.iconst 0, 1) := by decide +kernel
theorem d_Po_comesBefore_73 : decode prog_4_method_7_code 73 = .ok (.ireturn, 1) := by decide +kernel
theorem d_Po_comesBefore_74 : decode prog_4_method_7_code 74 = .ok (.iconst 0, 1) := by decide +kernel
theorem d_Po_comesBefore_75 : decode prog_4_method_7_code 75 = .ok (.istore_n 3, 1) := by decide +kernel
theorem d_Po_comesBefore_76 : decode prog_4_method_7_code 76 = .ok (.iload_n 3, 1) := by decide +kernel
theorem d_Po_comesBefore_77 : decode prog_4_method_7_code 77 = .ok (.bipush 8, 2) := by decide +kernel
theorem d_Po_comesBefore_79 : decode prog_4_method_7_code 79 = .ok (.if_icmp .ge 67, 3) := by decide +kernel
theorem d_Po_comesBefore_82 : decode prog_4_method_7_code 82 = .ok (.aload_n 0, 1) := by decide +kernel
theorem d_Po_comesBefore_83 : decode prog_4_method_7_code 83 = .ok (.getfield 15, 3) := by decide +kernel
theorem d_Po_comesBefore_86 : decode prog_4_method_7_code 86 = .ok (.iload_n 1, 1) := by decide +kernel
theorem d_Po_comesBefore_87 : decode prog_4_method_7_code 87 = .ok (.laload, 1) := by decide +kernel
theorem d_Po_comesBefore_88 : decode prog_4_method_7_code 88 = .ok (.aload_n 0, 1) := by decide +kernel
theorem d_Po_comesBefore_89 : decode prog_4_method_7_code 89 = .ok (.getfield 22, 3) := by decide +kernel
theorem d_Po_comesBefore_92 : decode prog_4_method_7_code 92 = .ok (.getfield 38, 3) := by decide +kernel
theorem d_Po_comesBefore_95 : decode prog_4_method_7_code 95 = .ok (.iload_n 3, 1) := by decide +kernel
theorem d_Po_comesBefore_96 : decode prog_4_method_7_code 96 = .ok (.laload, 1) := by decide +kernel
theorem d_Po_comesBefore_97 : decode prog_4_method_7_code 97 = .ok (.land, 1) := by decide +kernel
theorem d_Po_comesBefore_98 : decode prog_4_method_7_code 98 = .ok (.lstore 4, 2) := by decide +kernel
theorem d_Po_comesBefore_100 : decode prog_4_method_7_code 100 = .ok (.aload_n 0, 1) := by decide +kernel
theorem d_Po_comesBefore_101 : decode prog_4_method_7_code 101 = .ok (.getfield 15, 3) := by decide +kernel
theorem d_Po_comesBefore_104 : decode prog_4_method_7_code 104 = .ok (.iload_n 2, 1) := by decide +kernel
theorem d_Po_comesBefore_105 : decode prog_4_method_7_code 105 = .ok (.laload, 1) := by decide +kernel
theorem d_Po_comesBefore_106 : decode prog_4_method_7_code 106 = .ok (.aload_n 0, 1) := by decide +kernel
theorem d_Po_comesBefore_107 : decode prog_4_method_7_code 107 = .ok (.getfield 22, 3) := by decide +kernel
theorem d_Po_comesBefore_110 : decode prog_4_method_7_code 110 = .ok (.getfield 38, 3) := by decide +kernel
theorem d_Po_comesBefore_113 : decode prog_4_method_7_code 113 = .ok (.iload_n 3, 1) := by decide +kernel
theorem d_Po_comesBefore_114 : decode prog_4_method_7_code 114 = .ok (.laload, 1) := by decide +kernel
theorem d_Po_comesBefore_115 : decode prog_4_method_7_code 115 = .ok (.land, 1) := by decide +kernel
theorem d_Po_comesBefore_116 : decode prog_4_method_7_code 116 = .ok (.lstore 6, 2) := by decide +kernel
theorem d_Po_comesBefore_118 : decode prog_4_method_7_code 118 = .ok (.lload 4, 2) := by decide +kernel
theorem d_Po_comesBefore_120 : decode prog_4_method_7_code 120 = .ok (.lload 6, 2) := by decide +kernel
theorem d_Po_comesBefore_122 : decode prog_4_method_7_code 122 = .ok (.lcmp, 1) := by decide +kernel
theorem d_Po_comesBefore_123 : decode prog_4_method_7_code 123 = .ok (.ifCond .eq 17, 3) := by decide +kernel
theorem d_Po_comesBefore_126 : decode prog_4_method_7_code 126 = .ok (.lload 4, 2) := by decide +kernel
theorem d_Po_comesBefore_128 : decode prog_4_method_7_code 128 = .ok (.lload 6, 2) := by decide +kernel
theorem d_Po_comesBefore_130 : decode prog_4_method_7_code 130 = .ok (.lcmp, 1) := by decide +kernel
theorem d_Po_comesBefore_131 : decode prog_4_method_7_code 131 = .ok (.ifCond .ge 7, 3) := by decide +kernel
theorem d_Po_comesBefore_134 : decode prog_4_method_7_code 134 = .ok (.iconst 1, 1) := by decide +kernel
theorem d_Po_comesBefore_135 : decode prog_4_method_7_code 135 = .ok (.goto 4, 3) := by decide +kernel
theorem d_Po_comesBefore_138 : decode prog_4_method_7_code 138 = .ok (.iconst 0, 1) := by decide +kernel
theorem d_Po_comesBefore_139 : decode prog_4_method_7_code 139 = .ok (.ireturn, 1) := by decide +kernel
theorem d_Po_comesBefore_140 : decode prog_4_method_7_code 140 = .ok (.iinc 3 1, 3) := by decide +kernel
theorem d_Po_comesBefore_143 : decode prog_4_method_7_code 143 = .ok (.goto (-67), 3) := by decide +kernel
theorem d_Po_comesBefore_146 : decode prog_4_method_7_code 146 = .ok (.iconst 0, 1) := by decide +kernel
theorem d_Po_comesBefore_147 : decode prog_4_method_7_code 147 = .ok (.ireturn, 1) := by decide +kernel
theorem d_Po_next_0 : decode prog_4_method_6_code 0 = .ok (.iconst 0, 1) := by decide +kernel
theorem d_Po_next_1 : decode prog_4_method_6_code 1 = .ok (.istore_n 1, 1) := by decide +kernel
theorem d_Po_next_2 : decode prog_4_method_6_code 2 = .ok (.iconst 1, 1) := by decide +kernel
theorem d_Po_next_3 : decode prog_4_method_6_code 3 = .ok (.istore_n 2, 1) := by decide +kernel
theorem d_Po_next_4 : decode prog_4_method_6_code 4 = .ok (.iload_n 2, 1) := by decide +kernel
theorem d_Po_next_5 : decode prog_4_method_6_code 5 = .ok (.aload_n 0, 1) := by decide +kernel
theorem d_Po_next_6 : decode prog_4_method_6_code 6 = .ok (.getfield 26, 3) := by decide +kernel
theorem d_Po_next_9 : decode prog_4_method_6_code 9 = .ok (.if_icmp .ge 20, 3) := by decide +kernel
theorem d_Po_next_12 : decode prog_4_method_6_code 12 = .ok (.aload_n 0, 1) := by decide +kernel
theorem d_Po_next_13 : decode prog_4_method_6_code 13 = .ok (.iload_n 2, 1) := by decide +kernel
theorem d_Po_next_14 : decode prog_4_method_6_code 14 = .ok (.iload_n 1, 1) := by decide +kernel
theorem d_Po_next_15 : decode prog_4_method_6_code 15 = .ok (.invokevirtual 34, 3) := by decide +kernel
theorem d_Po_next_18 : decode prog_4_method_6_code 18 = .ok (.ifCond .eq 5, 3) := by decide +kernel
theorem d_Po_next_21 : decode prog_4_method_6_code 21 = .ok (.iload_n 2, 1) := by decide +kernel
theorem d_Po_next_22 : decode prog_4_method_6_code 22 = .ok (.istore_n 1, 1) := by decide +kernel
theorem d_Po_next_23 : decode prog_4_method_6_code 23 = .ok (.iinc 2 1, 3) := by decide +kernel
theorem d_Po_next_26 : decode prog_4_method_6_code 26 = .ok (.goto (-22), 3) := by decide +kernel
theorem d_Po_next_29 : decode prog_4_method_6_code 29 = .ok (.iload_n 1, 1) := by decide +kernel
theorem d_Po_next_30 : decode prog_4_method_6_code 30 = .ok (.ireturn, 1) := by decide +kernel
theorem d_Po_remove_0 : decode prog_4_method_5_code 0 = .ok (.aload_n 0, 1) := by decide +kernel
theorem d_Po_remove_1 : decode prog_4_method_5_code 1 = .ok (.dup, 1) := by decide +kernel
theorem d_Po_remove_2 : decode prog_4_method_5_code 2 = .ok (.getfield 26, 3) := by decide +kernel
theorem d_Po_remove_5 : decode prog_4_method_5_code 5 = .ok (.iconst 1, 1) := by decide +kernel
theorem d_Po_remove_6 : decode prog_4_method_5_code 6 = .ok (.isub, 1) := by decide +kernel
theorem d_Po_remove_7 : decode prog_4_method_5_code 7 = .ok (.putfield 26, 3) := by decide +kernel
theorem d_Po_remove_10 : decode prog_4_method_5_code 10 = .ok (.aload_n 0, 1) := by decide +kernel
theorem d_Po_remove_11 : decode prog_4_method_5_code 11 = .ok (.getfield 9, 3) := by decide +kernel
theorem d_Po_remove_14 : decode prog_4_method_5_code 14 = .ok (.iload_n 1, 1) := by decide +kernel
theorem d_Po_remove_15 : decode prog_4_method_5_code 15 = .ok (.aload_n 0, 1) := by decide +kernel
theorem d_Po_remove_16 : decode prog_4_method_5_code 16 = .ok (.getfield 9, 3) := by decide +kernel
theorem d_Po_remove_19 : decode prog_4_method_5_code 19 = .ok (.aload_n 0, 1) := by decide +kernel
theorem d_Po_remove_20 : decode prog_4_method_5_code 20 = .ok (.getfield 26, 3) := by decide +kernel
theorem d_Po_remove_23 : decode prog_4_method_5_code 23 = .ok (.iaload, 1) := by decide +kernel
theorem d_Po_remove_24 : decode prog_4_method_5_code 24 = .ok (.iastore, 1) := by decide +kernel
theorem d_Po_remove_25 : decode prog_4_method_5_code 25 = .ok (.aload_n 0, 1) := by decide +kernel
theorem d_Po_remove_26 : decode prog_4_method_5_code 26 = .ok (.getfield 15, 3) := by decide +kernel
theorem d_Po_remove_29 : decode prog_4_method_5_code 29 = .ok (.iload_n 1, 1) := by decide +kernel
theorem d_Po_remove_30 : decode prog_4_method_5_code 30 = .ok (.aload_n 0, 1) := by decide +kernel
theorem d_Po_remove_31 : decode prog_4_method_5_code 31 = .ok (.getfield 15, 3) := by decide +kernel
theorem d_Po_remove_34 : decode prog_4_method_5_code 34 = .ok (.aload_n 0, 1) := by decide +kernel
theorem d_Po_remove_35 : decode prog_4_method_5_code 35 = .ok (.getfield 26, 3) := by decide +kernel
theorem d_Po_remove_38 : decode prog_4_method_5_code 38 = .ok (.laload, 1) := by decide +kernel
theorem d_Po_remove_39 : decode prog_4_method_5_code 39 = .ok (.lastore, 1) := by decide +kernel
theorem d_Po_remove_40 : decode prog_4_method_5_code 40 = .ok (.aload_n 0, 1) := by decide +kernel
theorem d_Po_remove_41 : decode prog_4_method_5_code 41 = .ok (.getfield 19, 3) := by decide +kernel
theorem d_Po_remove_44 : decode prog_4_method_5_code 44 = .ok (.iload_n 1, 1) := by decide +kernel
theorem d_Po_remove_45 : decode prog_4_method_5_code 45 = .ok (.aload_n 0, 1) := by decide +kernel
theorem d_Po_remove_46 : decode prog_4_method_5_code 46 = .ok (.getfield 19, 3) := by decide +kernel
theorem d_Po_remove_49 : decode prog_4_method_5_code 49 = .ok (.aload_n 0, 1) := by decide +kernel
theorem d_Po_remove_50 : decode prog_4_method_5_code 50 = .ok (.getfield 26, 3) := by decide +kernel
theorem d_Po_remove_53 : decode prog_4_method_5_code 53 = .ok (.laload, 1) := by decide +kernel
theorem d_Po_remove_54 : decode prog_4_method_5_code 54 = .ok (.lastore, 1) := by decide +kernel
theorem d_Po_remove_55 : decode prog_4_method_5_code 55 = .ok (.return_, 1) := by decide +kernel
theorem d_Po_tooMany_0 : decode prog_4_method_3_code 0 = .ok (.aload_n 0, 1) := by decide +kernel
theorem d_Po_tooMany_1 : decode prog_4_method_3_code 1 = .ok (.getfield 26, 3) := by decide +kernel
theorem d_Po_tooMany_4 : decode prog_4_method_3_code 4 = .ok (.sipush 200, 3) := by decide +kernel
theorem d_Po_tooMany_7 : decode prog_4_method_3_code 7 = .ok (.if_icmp .le 7, 3) := by decide +kernel
theorem d_Po_tooMany_10 : decode prog_4_method_3_code 10 = .ok (.iconst 1, 1) := by decide +kernel
theorem d_Po_tooMany_11 : decode prog_4_method_3_code 11 = .ok (.goto 4, 3) := by decide +kernel
theorem d_Po_tooMany_14 : decode prog_4_method_3_code 14 = .ok (.iconst 0, 1) := by decide +kernel
theorem d_Po_tooMany_15 : decode prog_4_method_3_code 15 = .ok (.ireturn, 1) := by decide +kernel
theorem d_Po_wipe_0 : decode prog_4_method_2_code 0 = .ok (.aload_n 0, 1) := by decide +kernel
theorem d_Po_wipe_1 : decode prog_4_method_2_code 1 = .ok (.iconst 0, 1) := by decide +kernel
theorem d_Po_wipe_2 : decode prog_4_method_2_code 2 = .ok (.putfield 26, 3) := by decide +kernel
theorem d_Po_wipe_5 : decode prog_4_method_2_code 5 = .ok (.return_, 1) := by decide +kernel
theorem d_Pf_init_0 : decode prog_5_method_1_code 0 = .ok (.aload_n 0, 1) := by decide +kernel
theorem d_Pf_init_1 : decode prog_5_method_1_code 1 = .ok (.invokespecial 3, 3) := by decide +kernel
theorem d_Pf_init_4 : decode prog_5_method_1_code 4 = .ok (.aload_n 0, 1) := by decide +kernel
theorem d_Pf_init_5 : decode prog_5_method_1_code 5 = .ok (.bipush 60, 2) := by decide +kernel
theorem d_Pf_init_7 : decode prog_5_method_1_code 7 = .ok (.newarray .int, 2) := by decide +kernel
theorem d_Pf_init_9 : decode prog_5_method_1_code 9 = .ok (.putfield 9, 3) := by decide +kernel
theorem d_Pf_init_12 : decode prog_5_method_1_code 12 = .ok (.aload_n 0, 1) := by decide +kernel
theorem d_Pf_init_13 : decode prog_5_method_1_code 13 = .ok (.bipush 60, 2) := by decide +kernel
theorem d_Pf_init_15 : decode prog_5_method_1_code 15 = .ok (.newarray .int, 2) := by decide +kernel
theorem d_Pf_init_17 : decode prog_5_method_1_code 17 = .ok (.putfield 15, 3) := by decide +kernel
theorem d_Pf_init_20 : decode prog_5_method_1_code 20 = .ok (.aload_n 0, 1) := by decide +kernel
theorem d_Pf_init_21 : decode prog_5_method_1_code 21 = .ok (.bipush 60, 2) := by decide +kernel
theorem d_Pf_init_23 : decode prog_5_method_1_code 23 = .ok (.newarray .int, 2) := by decide +kernel
theorem d_Pf_init_25 : decode prog_5_method_1_code 25 = .ok (.putfield 18, 3) := by decide +kernel
theorem d_Pf_init_28 : decode prog_5_method_1_code 28 = .ok (.aload_n 0, 1) := by decide +kernel
theorem d_Pf_init_29 : decode prog_5_method_1_code 29 = .ok (.bipush 60, 2) := by decide +kernel
theorem d_Pf_init_31 : decode prog_5_method_1_code 31 = .ok (.newarray .long, 2) := by decide +kernel
theorem d_Pf_init_33 : decode prog_5_method_1_code 33 = .ok (.putfield 21, 3) := by decide +kernel
theorem d_Pf_init_36 : decode prog_5_method_1_code 36 = .ok (.aload_n 0, 1) := by decide +kernel
theorem d_Pf_init_37 : decode prog_5_method_1_code 37 = .ok (.bipush 8, 2) := by decide +kernel
theorem d_Pf_init_39 : decode prog_5_method_1_code 39 = .ok (.newarray .long, 2) := by decide +kernel
theorem d_Pf_init_41 : decode prog_5_method_1_code 41 = .ok (.putfield 25, 3) := by decide +kernel
theorem d_Pf_init_44 : decode prog_5_method_1_code 44 = .ok (.aload_n 0, 1) := by decide +kernel
theorem d_Pf_init_45 : decode prog_5_method_1_code 45 = .ok (.bipush 30, 2) := by decide +kernel
theorem d_Pf_init_47 : decode prog_5_method_1_code 47 = .ok (.newarray .int, 2) := by decide +kernel
theorem d_Pf_init_49 : decode prog_5_method_1_code 49 = .ok (.putfield 28, 3) := by decide +kernel
theorem d_Pf_init_52 : decode prog_5_method_1_code 52 = .ok (.aload_n 0, 1) := by decide +kernel
theorem d_Pf_init_53 : decode prog_5_method_1_code 53 = .ok (.bipush 30, 2) := by decide +kernel
theorem d_Pf_init_55 : decode prog_5_method_1_code 55 = .ok (.newarray .long, 2) := by decide +kernel
theorem d_Pf_init_57 : decode prog_5_method_1_code 57 = .ok (.putfield 31, 3) := by decide +kernel
theorem d_Pf_init_60 : decode prog_5_method_1_code 60 = .ok (.aload_n 0, 1) := by decide +kernel
theorem d_Pf_init_61 : decode prog_5_method_1_code 61 = .ok (.bipush 30, 2) := by decide +kernel
theorem d_Pf_init_63 : decode prog_5_method_1_code 63 = .ok (.newarray .int, 2) := by decide +kernel
theorem d_Pf_init_65 : decode prog_5_method_1_code 65 = .ok (.putfield 34, 3) := by decide +kernel
theorem d_Pf_init_68 : decode prog_5_method_1_code 68 = .ok (.aload_n 0, 1) := by decide +kernel
theorem d_Pf_init_69 : decode prog_5_method_1_code 69 = .ok (.bipush 30, 2) := by decide +kernel
theorem d_Pf_init_71 : decode prog_5_method_1_code 71 = .ok (.newarray .int, 2) := by decide +kernel
theorem d_Pf_init_73 : decode prog_5_method_1_code 73 = .ok (.putfield 37, 3) := by decide +kernel
theorem d_Pf_init_76 : decode prog_5_method_1_code 76 = .ok (.aload_n 0, 1) := by decide +kernel
theorem d_Pf_init_77 : decode prog_5_method_1_code 77 = .ok (.bipush 30, 2) := by decide +kernel
theorem d_Pf_init_79 : decode prog_5_method_1_code 79 = .ok (.newarray .long, 2) := by decide +kernel
theorem d_Pf_init_81 : decode prog_5_method_1_code 81 = .ok (.putfield 40, 3) := by decide +kernel
theorem d_Pf_init_84 : decode prog_5_method_1_code 84 = .ok (.return_, 1) := by decide +kernel
theorem d_Pf_addConditions_0 : decode prog_5_method_5_code 0 = .ok (.aload_n 0, 1) := by decide +kernel
theorem d_Pf_addConditions_1 : decode prog_5_method_5_code 1 = .ok (.invokevirtual 67, 3) := by decide +kernel
theorem d_Pf_addConditions_4 : decode prog_5_method_5_code 4 = .ok (.lstore 5, 2) := by decide +kernel
theorem d_Pf_addConditions_6 : decode prog_5_method_5_code 6 = .ok (.iconst 0, 1) := by decide +kernel
theorem d_Pf_addConditions_7 : decode prog_5_method_5_code 7 = .ok (.istore 7, 2) := by decide +kernel
theorem d_Pf_addConditions_9 : decode prog_5_method_5_code 9 = .ok (.iload 7, 2) := by decide +kernel
theorem d_Pf_addConditions_11 : decode prog_5_method_5_code 11 = .ok (.bipush 8, 2) := by decide +kernel
theorem d_Pf_addConditions_13 : decode prog_5_method_5_code 13 = .ok (.if_icmp .ge 85, 3) := by decide +kernel
theorem d_Pf_addConditions_16 : decode prog_5_method_5_code 16 = .ok (.iload_n 1, 1) := by decide +kernel
theorem d_Pf_addConditions_17 : decode prog_5_method_5_code 17 = .ok (.i2l, 1) := by decide +kernel
theorem d_Pf_addConditions_18 : decode prog_5_method_5_code 18 = .ok (.iload 7, 2) := by decide +kernel
theorem d_Pf_addConditions_20 : decode prog_5_method_5_code 20 = .ok (.invokestatic 63, 3) := by decide +kernel
theorem d_Pf_addConditions_23 : decode prog_5_method_5_code 23 = .ok (.ifCond .eq 69, 3) := by decide +kernel
theorem d_Pf_addConditions_26 : decode prog_5_method_5_code 26 = .ok (.aload_n 0, 1) := by decide +kernel
theorem d_Pf_addConditions_27 : decode prog_5_method_5_code 27 = .ok (.getfield 43, 3) := by decide +kernel
theorem d_Pf_addConditions_30 : decode prog_5_method_5_code 30 = .ok (.bipush 60, 2) := by decide +kernel
theorem d_Pf_addConditions_32 : decode prog_5_method_5_code 32 = .ok (.if_icmp .ge 60, 3) := by decide +kernel
theorem d_Pf_addConditions_35 : decode prog_5_method_5_code 35 = .ok (.aload_n 0, 1) := by decide +kernel
theorem d_Pf_addConditions_36 : decode prog_5_method_5_code 36 = .ok (.getfield 9, 3) := by decide +kernel
theorem d_Pf_addConditions_39 : decode prog_5_method_5_code 39 = .ok (.aload_n 0, 1) := by decide +kernel
theorem d_Pf_addConditions_40 : decode prog_5_method_5_code 40 = .ok (.getfield 43, 3) := by decide +kernel
theorem d_Pf_addConditions_43 : decode prog_5_method_5_code 43 = .ok (.iload 7, 2) := by decide +kernel
theorem d_Pf_addConditions_45 : decode prog_5_method_5_code 45 = .ok (.iastore, 1) := by decide +kernel
theorem d_Pf_addConditions_46 : decode prog_5_method_5_code 46 = .ok (.aload_n 0, 1) := by decide +kernel
theorem d_Pf_addConditions_47 : decode prog_5_method_5_code 47 = .ok (.getfield 15, 3) := by decide +kernel
theorem d_Pf_addConditions_50 : decode prog_5_method_5_code 50 = .ok (.aload_n 0, 1) := by decide +kernel
theorem d_Pf_addConditions_51 : decode prog_5_method_5_code 51 = .ok (.getfield 43, 3) := by decide +kernel
theorem d_Pf_addConditions_54 : decode prog_5_method_5_code 54 = .ok (.iload_n 2, 1) := by decide +kernel
theorem d_Pf_addConditions_55 : decode prog_5_method_5_code 55 = .ok (.iastore, 1) := by decide +kernel
theorem d_Pf_addConditions_56 : decode prog_5_method_5_code 56 = .ok (.aload_n 0, 1) := by decide +kernel
theorem d_Pf_addConditions_57 : decode prog_5_method_5_code 57 = .ok (.getfield 18, 3) := by decide +kernel
theorem d_Pf_addConditions_60 : decode prog_5_method_5_code 60 = .ok (.aload_n 0, 1) := by decide +kernel
theorem d_Pf_addConditions_61 : decode prog_5_method_5_code 61 = .ok (.getfield 43, 3) := by decide +kernel
theorem d_Pf_addConditions_64 : decode prog_5_method_5_code 64 = .ok (.iconst 0, 1) := by decide +kernel
theorem d_Pf_addConditions_65 : decode prog_5_method_5_code 65 = .ok (.iastore, 1) := by decide +kernel
theorem d_Pf_addConditions_66 : decode prog_5_method_5_code 66 = .ok (.aload_n 0, 1) := by decide +kernel
theorem d_Pf_addConditions_67 : decode prog_5_method_5_code 67 = .ok (.getfield 25, 3) := by decide +kernel
theorem d_Pf_addConditions_70 : decode prog_5_method_5_code 70 = .ok (.iload 7, 2) := by decide +kernel
theorem d_Pf_addConditions_72 : decode prog_5_method_5_code 72 = .ok (.dup2, 1) := by decide +kernel
theorem d_Pf_addConditions_73 : decode prog_5_method_5_code 73 = .ok (.laload, 1) := by decide +kernel
theorem d_Pf_addConditions_74 : decode prog_5_method_5_code 74 = .ok (.lconst 1, 1) := by decide +kernel
theorem d_Pf_addConditions_75 : decode prog_5_method_5_code 75 = .ok (.aload_n 0, 1) := by decide +kernel
theorem d_Pf_addConditions_76 : decode prog_5_method_5_code 76 = .ok (.getfield 43, 3) := by decide +kernel
theorem d_Pf_addConditions_79 : decode prog_5_method_5_code 79 = .ok (.lshl, 1) := by decide +kernel
theorem d_Pf_addConditions_80 : decode prog_5_method_5_code 80 = .ok (.lor, 1) := by decide +kernel
theorem d_Pf_addConditions_81 : decode prog_5_method_5_code 81 = .ok (.lastore, 1) := by decide +kernel
theorem d_Pf_addConditions_82 : decode prog_5_method_5_code 82 = .ok (.aload_n 0, 1) := by decide +kernel
theorem d_Pf_addConditions_83 : decode prog_5_method_5_code 83 = .ok (.dup, 1) := by decide +kernel
theorem d_Pf_addConditions_84 : decode prog_5_method_5_code 84 = .ok (.getfield 43, 3) := by decide +kernel
theorem d_Pf_addConditions_87 : decode prog_5_method_5_code 87 = .ok (.iconst 1, 1) := by decide +kernel
theorem d_Pf_addConditions_88 : decode prog_5_method_5_code 88 = .ok (.iadd, 1) := by decide +kernel
theorem d_Pf_addConditions_89 : decode prog_5_method_5_code 89 = .ok (.putfield 43, 3) := by decide +kernel
theorem d_Pf_addConditions_92 : decode prog_5_method_5_code 92 = .ok (.iinc 7 1, 3) := by decide +kernel
theorem d_Pf_addConditions_95 : decode prog_5_method_5_code 95 = .ok (.goto (-86), 3) := by decide +kernel
theorem d_Pf_addConditions_98 : decode prog_5_method_5_code 98 = .ok (.aload_n 0, 1) := by decide +kernel
theorem d_Pf_addConditions_99 : decode prog_5_method_5_code 99 = .ok (.invokevirtual 67, 3) := by decide +kernel
theorem d_Pf_addConditions_102 : decode prog_5_method_5_code 102 = .ok (.lload 5, 2) := by decide +kernel
theorem d_Pf_addConditions_104 : decode prog_5_method_5_code 104 = .ok (.ldc2_w 71, 3) := by decide +kernel
theorem d_Pf_addConditions_107 : decode prog_5_method_5_code 107 = .ok (.lxor, 1) := by decide +kernel
theorem d_Pf_addConditions_108 : decode prog_5_method_5_code 108 = .ok (.land, 1) := by decide +kernel
theorem d_Pf_addConditions_109 : decode prog_5_method_5_code 109 = .ok (.lstore 7, 2) := by decide +kernel
theorem d_Pf_addConditions_111 : decode prog_5_method_5_code 111 = .ok (.iconst 0, 1) := by decide +kernel
theorem d_Pf_addConditions_112 : decode prog_5_method_5_code 112 = .ok (.istore 9, 2) := by decide +kernel
theorem d_Pf_addConditions_114 : decode prog_5_method_5_code 114 = .ok (.iload 9, 2) := by decide +kernel
theorem d_Pf_addConditions_116 : decode prog_5_method_5_code 116 = .ok (.aload_n 0, 1) := by decide +kernel
theorem d_Pf_addConditions_117 : decode prog_5_method_5_code 117 = .ok (.getfield 43, 3) := by decide +kernel
theorem d_Pf_addConditions_120 : decode prog_5_method_5_code 120 = .ok (.if_icmp .ge 63, 3) := by decide +kernel
theorem d_Pf_addConditions_123 : decode prog_5_method_5_code 123 = .ok (.lload 7, 2) := by decide +kernel
theorem d_Pf_addConditions_125 : decode prog_5_method_5_code 125 = .ok (.iload 9, 2) := by decide +kernel
theorem d_Pf_addConditions_127 : decode prog_5_method_5_code 127 = .ok (.invokestatic 63, 3) := by decide +kernel
theorem d_Pf_addConditions_130 : decode prog_5_method_5_code 130 = .ok (.ifCond .eq 26, 3) := by decide +kernel
theorem d_Pf_addConditions_133 : decode prog_5_method_5_code 133 = .ok (.aload_n 0, 1) := by decide +kernel
theorem d_Pf_addConditions_134 : decode prog_5_method_5_code 134 = .ok (.getfield 21, 3) := by decide +kernel
theorem d_Pf_addConditions_137 : decode prog_5_method_5_code 137 = .ok (.iload 9, 2) := by decide +kernel
theorem d_Pf_addConditions_139 : decode prog_5_method_5_code 139 = .ok (.lload_n 3, 1) := by decide +kernel
theorem d_Pf_addConditions_140 : decode prog_5_method_5_code 140 = .ok (.lload 7, 2) := by decide +kernel
theorem d_Pf_addConditions_142 : decode prog_5_method_5_code 142 = .ok (.lor, 1) := by decide +kernel
theorem d_Pf_addConditions_143 : decode prog_5_method_5_code 143 = .ok (.lconst 1, 1) := by decide +kernel
theorem d_Pf_addConditions_144 : decode prog_5_method_5_code 144 = .ok (.iload 9, 2) := by decide +kernel
theorem d_Pf_addConditions_146 : decode prog_5_method_5_code 146 = .ok (.lshl, 1) := by decide +kernel
theorem d_Pf_addConditions_147 : decode prog_5_method_5_code 147 = .ok (.ldc2_w 71, 3) := by decide +kernel
theorem d_Pf_addConditions_150 : decode prog_5_method_5_code 150 = .ok (.lxor, 1) := by decide +kernel
theorem d_Pf_addConditions_151 : decode prog_5_method_5_code 151 = .ok (.land, 1) := by decide +kernel
theorem d_Pf_addConditions_152 : decode prog_5_method_5_code 152 = .ok (.lastore, 1) := by decide +kernel
theorem d_Pf_addConditions_153 : decode prog_5_method_5_code 153 = .ok (.goto 24, 3) := by decide +kernel
theorem d_Pf_addConditions_156 : decode prog_5_method_5_code 156 = .ok (.lload_n 3, 1) := by decide +kernel
theorem d_Pf_addConditions_157 : decode prog_5_method_5_code 157 = .ok (.iload 9, 2) := by decide +kernel
theorem d_Pf_addConditions_159 : decode prog_5_method_5_code 159 = .ok (.invokestatic 63, 3) := by decide +kernel
theorem d_Pf_addConditions_162 : decode prog_5_method_5_code 162 = .ok (.ifCond .eq 15, 3) := by decide +kernel
theorem d_Pf_addConditions_165 : decode prog_5_method_5_code 165 = .ok (.aload_n 0, 1) := by decide +kernel
theorem d_Pf_addConditions_166 : decode prog_5_method_5_code 166 = .ok (.getfield 21, 3) := by decide +kernel
theorem d_Pf_addConditions_169 : decode prog_5_method_5_code 169 = .ok (.iload 9, 2) := by decide +kernel
theorem d_Pf_addConditions_171 : decode prog_5_method_5_code 171 = .ok (.dup2, 1) := by decide +kernel
theorem d_Pf_addConditions_172 : decode prog_5_method_5_code 172 = .ok (.laload, 1) := by decide +kernel
theorem d_Pf_addConditions_173 : decode prog_5_method_5_code 173 = .ok (.lload 7, 2) := by decide +kernel
theorem d_Pf_addConditions_175 : decode prog_5_method_5_code 175 = .ok (.lor, 1) := by decide +kernel
theorem d_Pf_addConditions_176 : decode prog_5_method_5_code 176 = .ok (.lastore, 1) := by decide +kernel
theorem d_Pf_addConditions_177 : decode prog_5_method_5_code 177 = .ok (.iinc 9 1, 3) := by decide +kernel
theorem d_Pf_addConditions_180 : decode prog_5_method_5_code 180 = .ok (.goto (-66), 3) := by decide +kernel
theorem d_Pf_addConditions_183 : decode prog_5_method_5_code 183 = .ok (.lload 7, 2) := by decide +kernel
theorem d_Pf_addConditions_185 : decode prog_5_method_5_code 185 = .ok (.lreturn, 1) := by decide +kernel
theorem d_Pf_addEvent_0 : decode prog_5_method_6_code 0 = .ok (.aload_n 0, 1) := by decide +kernel
theorem d_Pf_addEvent_1 : decode prog_5_method_6_code 1 = .ok (.getfield 53, 3) := by decide +kernel
theorem d_Pf_addEvent_4 : decode prog_5_method_6_code 4 = .ok (.istore 6, 2) := by decide +kernel
theorem d_Pf_addEvent_6 : decode prog_5_method_6_code 6 = .ok (.aload_n 0, 1) := by decide +kernel
theorem d_Pf_addEvent_7 : decode prog_5_method_6_code 7 = .ok (.getfield 28, 3) := by decide +kernel
theorem d_Pf_addEvent_10 : decode prog_5_method_6_code 10 = .ok (.iload 6, 2) := by decide +kernel
theorem d_Pf_addEvent_12 : decode prog_5_method_6_code 12 = .ok (.iload_n 1, 1) := by decide +kernel
theorem d_Pf_addEvent_13 : decode prog_5_method_6_code 13 = .ok (.iastore, 1) := by decide +kernel
theorem d_Pf_addEvent_14 : decode prog_5_method_6_code 14 = .ok (.aload_n 0, 1) := by decide +kernel
theorem d_Pf_addEvent_15 : decode prog_5_method_6_code 15 = .ok (.getfield 31, 3) := by decide +kernel
theorem d_Pf_addEvent_18 : decode prog_5_method_6_code 18 = .ok (.iload 6, 2) := by decide +kernel
theorem d_Pf_addEvent_20 : decode prog_5_method_6_code 20 = .ok (.lload_n 2, 1) := by decide +kernel
theorem d_Pf_addEvent_21 : decode prog_5_method_6_code 21 = .ok (.lastore, 1) := by decide +kernel
theorem d_Pf_addEvent_22 : decode prog_5_method_6_code 22 = .ok (.aload_n 0, 1) := by decide +kernel
theorem d_Pf_addEvent_23 : decode prog_5_method_6_code 23 = .ok (.getfield 34, 3) := by decide +kernel
theorem d_Pf_addEvent_26 : decode prog_5_method_6_code 26 = .ok (.iload 6, 2) := by decide +kernel
theorem d_Pf_addEvent_28 : decode prog_5_method_6_code 28 = .ok (.aload_n 0, 1) := by decide +kernel
theorem d_Pf_addEvent_29 : decode prog_5_method_6_code 29 = .ok (.lload_n 2, 1) := by decide +kernel
theorem d_Pf_addEvent_30 : decode prog_5_method_6_code 30 = .ok (.invokevirtual 73, 3) := by decide +kernel
theorem d_Pf_addEvent_33 : decode prog_5_method_6_code 33 = .ok (.iconst 1, 1) := by decide +kernel
theorem d_Pf_addEvent_34 : decode prog_5_method_6_code 34 = .ok (.iload 6, 2) := by decide +kernel
theorem d_Pf_addEvent_36 : decode prog_5_method_6_code 36 = .ok (.ishl, 1) := by decide +kernel
theorem d_Pf_addEvent_37 : decode prog_5_method_6_code 37 = .ok (.ior, 1) := by decide +kernel
theorem d_Pf_addEvent_38 : decode prog_5_method_6_code 38 = .ok (.iastore, 1) := by decide +kernel
theorem d_Pf_addEvent_39 : decode prog_5_method_6_code 39 = .ok (.aload_n 0, 1) := by decide +kernel
theorem d_Pf_addEvent_40 : decode prog_5_method_6_code 40 = .ok (.getfield 40, 3) := by decide +kernel
theorem d_Pf_addEvent_43 : decode prog_5_method_6_code 43 = .ok (.iload 6, 2) := by decide +kernel
theorem d_Pf_addEvent_45 : decode prog_5_method_6_code 45 = .ok (.lload 4, 2) := by decide +kernel
theorem d_Pf_addEvent_47 : decode prog_5_method_6_code 47 = .ok (.lastore, 1) := by decide +kernel
theorem d_Pf_addEvent_48 : decode prog_5_method_6_code 48 = .ok (.iconst 0, 1) := by decide +kernel
theorem d_Pf_addEvent_49 : decode prog_5_method_6_code 49 = .ok (.istore 7, 2) := by decide +kernel
theorem d_Pf_addEvent_51 : decode prog_5_method_6_code 51 = .ok (.iload 7, 2) := by decide +kernel
theorem d_Pf_addEvent_53 : decode prog_5_method_6_code 53 = .ok (.aload_n 0, 1) := by decide +kernel
theorem d_Pf_addEvent_54 : decode prog_5_method_6_code 54 = .ok (.getfield 43, 3) := by decide +kernel
theorem d_Pf_addEvent_57 : decode prog_5_method_6_code 57 = .ok (.if_icmp .ge 32, 3) := by decide +kernel
theorem d_Pf_addEvent_60 : decode prog_5_method_6_code 60 = .ok (.lload_n 2, 1) := by decide +kernel
theorem d_Pf_addEvent_61 : decode prog_5_method_6_code 61 = .ok (.iload 7, 2) := by decide +kernel
theorem d_Pf_addEvent_63 : decode prog_5_method_6_code 63 = .ok (.invokestatic 63, 3) := by decide +kernel
theorem d_Pf_addEvent_66 : decode prog_5_method_6_code 66 = .ok (.ifCond .eq 17, 3) := by decide +kernel
theorem d_Pf_addEvent_69 : decode prog_5_method_6_code 69 = .ok (.aload_n 0, 1) := by decide +kernel
theorem d_Pf_addEvent_70 : decode prog_5_method_6_code 70 = .ok (.getfield 18, 3) := by decide +kernel
theorem d_Pf_addEvent_73 : decode prog_5_method_6_code 73 = .ok (.iload 7, 2) := by decide +kernel
theorem d_Pf_addEvent_75 : decode prog_5_method_6_code 75 = .ok (.dup2, 1) := by decide +kernel
theorem d_Pf_addEvent_76 : decode prog_5_method_6_code 76 = .ok (.iaload, 1) := by decide +kernel
theorem d_Pf_addEvent_77 : decode prog_5_method_6_code 77 = .ok (.iconst 1, 1) := by decide +kernel
theorem d_Pf_addEvent_78 : decode prog_5_method_6_code 78 = .ok (.iload 6, 2) := by decide +kernel
theorem d_Pf_addEvent_80 : decode prog_5_method_6_code 80 = .ok (.ishl, 1) := by decide +kernel
theorem d_Pf_addEvent_81 : decode prog_5_method_6_code 81 = .ok (.ior, 1) := by decide +kernel
theorem d_Pf_addEvent_82 : decode prog_5_method_6_code 82 = .ok (.iastore, 1) := by decide +kernel
theorem d_Pf_addEvent_83 : decode prog_5_method_6_code 83 = .ok (.iinc 7 1, 3) := by decide +kernel
theorem d_Pf_addEvent_86 : decode prog_5_method_6_code 86 = .ok (.goto (-35), 3) := by decide +kernel
theorem d_Pf_addEvent_89 : decode prog_5_method_6_code 89 = .ok (.aload_n 0, 1) := by decide +kernel
theorem d_Pf_addEvent_90 : decode prog_5_method_6_code 90 = .ok (.dup, 1) := by decide +kernel
theorem d_Pf_addEvent_91 : decode prog_5_method_6_code 91 = .ok (.getfield 53, 3) := by decide +kernel
theorem d_Pf_addEvent_94 : decode prog_5_method_6_code 94 = .ok (.iconst 1, 1) := by decide +kernel
theorem d_Pf_addEvent_95 : decode prog_5_method_6_code 95 = .ok (.iadd, 1) := by decide +kernel
theorem d_Pf_addEvent_96 : decode prog_5_method_6_code 96 = .ok (.putfield 53, 3) := by decide +kernel
theorem d_Pf_addEvent_99 : decode prog_5_method_6_code 99 = .ok (.iload 6, 2) := by decide +kernel
theorem d_Pf_addEvent_101 : decode prog_5_method_6_code 101 = .ok (.ireturn, 1) := by decide +kernel
theorem d_Pf_allConditions_0 : decode prog_5_method_4_code 0 = .ok (.lconst 1, 1) := by decide +kernel
theorem d_Pf_allConditions_1 : decode prog_5_method_4_code 1 = .ok (.aload_n 0, 1) := by decide +kernel
theorem d_Pf_allConditions_2 : decode prog_5_method_4_code 2 = .ok (.getfield 43, 3) := by decide +kernel
theorem d_Pf_allConditions_5 : decode prog_5_method_4_code 5 = .ok (.lshl, 1) := by decide +kernel
theorem d_Pf_allConditions_6 : decode prog_5_method_4_code 6 = .ok (.lconst 1, 1) := by decide +kernel
theorem d_Pf_allConditions_7 : decode prog_5_method_4_code 7 = .ok (.lsub, 1) := by decide +kernel
theorem d_Pf_allConditions_8 : decode prog_5_method_4_code 8 = .ok (.lreturn, 1) := by decide +kernel
theorem d_Pf_besideAll_0 : decode prog_5_method_8_code 0 = .ok (.aload_n 0, 1) := by decide +kernel
theorem d_Pf_besideAll_1 : decode prog_5_method_8_code 1 = .ok (.invokevirtual 67, 3) := by decide +kernel
theorem d_Pf_besideAll_4 : decode prog_5_method_8_code 4 = .ok (.lstore_n 3, 1) := by decide +kernel
theorem d_Pf_besideAll_5 : decode prog_5_method_8_code 5 = .ok (.iconst 0, 1) := by decide +kernel
theorem d_Pf_besideAll_6 : decode prog_5_method_8_code 6 = .ok (.istore 5, 2) := by decide +kernel
theorem d_Pf_besideAll_8 : decode prog_5_method_8_code 8 = .ok (.iload 5, 2) := by decide +kernel
theorem d_Pf_besideAll_10 : decode prog_5_method_8_code 10 = .ok (.aload_n 0, 1) := by decide +kernel
theorem d_Pf_besideAll_11 : decode prog_5_method_8_code 11 = .ok (.getfield 43, 3) := by decide +kernel
theorem d_Pf_besideAll_14 : decode prog_5_method_8_code 14 = .ok (.if_icmp .ge 28, 3) := by decide +kernel
theorem d_Pf_besideAll_17 : decode prog_5_method_8_code 17 = .ok (.lload_n 1, 1) := by decide +kernel
theorem d_Pf_besideAll_18 : decode prog_5_method_8_code 18 = .ok (.iload 5, 2) := by decide +kernel
theorem d_Pf_besideAll_20 : decode prog_5_method_8_code 20 = .ok (.invokestatic 63, 3) := by decide +kernel
theorem d_Pf_besideAll_23 : decode prog_5_method_8_code 23 = .ok (.ifCond .eq 13, 3) := by decide +kernel
theorem d_Pf_besideAll_26 : decode prog_5_method_8_code 26 = .ok (.lload_n 3, 1) := by decide +kernel
theorem d_Pf_besideAll_27 : decode prog_5_method_8_code 27 = .ok (.aload_n 0, 1) := by decide +kernel
theorem d_Pf_besideAll_28 : decode prog_5_method_8_code 28 = .ok (.getfield 21, 3) := by decide +kernel
theorem d_Pf_besideAll_31 : decode prog_5_method_8_code 31 = .ok (.iload 5, 2) := by decide +kernel
theorem d_Pf_besideAll_33 : decode prog_5_method_8_code 33 = .ok (.laload, 1) := by decide +kernel
theorem d_Pf_besideAll_34 : decode prog_5_method_8_code 34 = .ok (.land, 1) := by decide +kernel
theorem d_Pf_besideAll_35 : decode prog_5_method_8_code 35 = .ok (.lstore_n 3, 1) := by decide +kernel
theorem d_Pf_besideAll_36 : decode prog_5_method_8_code 36 = .ok (.iinc 5 1, 3) := by decide +kernel
theorem d_Pf_besideAll_39 : decode prog_5_method_8_code 39 = .ok (.goto (-31), 3) := by decide +kernel
theorem d_Pf_besideAll_42 : decode prog_5_method_8_code 42 = .ok (.lload_n 3, 1) := by decide +kernel
theorem d_Pf_besideAll_43 : decode prog_5_method_8_code 43 = .ok (.lreturn, 1) := by decide +kernel
theorem d_Pf_causesOf_0 : decode prog_5_method_7_code 0 = .ok (.iconst 0, 1) := by decide +kernel
theorem d_Pf_causesOf_1 : decode prog_5_method_7_code 1 = .ok (.istore_n 3, 1) := by decide +kernel
theorem d_Pf_causesOf_2 : decode prog_5_method_7_code 2 = .ok (.iconst 0, 1) := by decide +kernel
theorem d_Pf_causesOf_3 : decode prog_5_method_7_code 3 = .ok (.istore 4, 2) := by decide +kernel
theorem d_Pf_causesOf_5 : decode prog_5_method_7_code 5 = .ok (.iload 4, 2) := by decide +kernel
theorem d_Pf_causesOf_7 : decode prog_5_method_7_code 7 = .ok (.aload_n 0, 1) := by decide +kernel
theorem d_Pf_causesOf_8 : decode prog_5_method_7_code 8 = .ok (.getfield 43, 3) := by decide +kernel
theorem d_Pf_causesOf_11 : decode prog_5_method_7_code 11 = .ok (.if_icmp .ge 44, 3) := by decide +kernel
theorem d_Pf_causesOf_14 : decode prog_5_method_7_code 14 = .ok (.lload_n 1, 1) := by decide +kernel
theorem d_Pf_causesOf_15 : decode prog_5_method_7_code 15 = .ok (.iload 4, 2) := by decide +kernel
theorem d_Pf_causesOf_17 : decode prog_5_method_7_code 17 = .ok (.invokestatic 63, 3) := by decide +kernel
theorem d_Pf_causesOf_20 : decode prog_5_method_7_code 20 = .ok (.ifCond .eq 29, 3) := by decide +kernel
theorem d_Pf_causesOf_23 : decode prog_5_method_7_code 23 = .ok (.aload_n 0, 1) := by decide +kernel
theorem d_Pf_causesOf_24 : decode prog_5_method_7_code 24 = .ok (.getfield 15, 3) := by decide +kernel
theorem d_Pf_causesOf_27 : decode prog_5_method_7_code 27 = .ok (.iload 4, 2) := by decide +kernel
theorem d_Pf_causesOf_29 : decode prog_5_method_7_code 29 = .ok (.iaload, 1) := by decide +kernel
theorem d_Pf_causesOf_30 : decode prog_5_method_7_code 30 = .ok (.iconst (-1), 1) := by decide +kernel
theorem d_Pf_causesOf_31 : decode prog_5_method_7_code 31 = .ok (.if_icmp .eq 18, 3) := by decide +kernel
theorem d_Pf_causesOf_34 : decode prog_5_method_7_code 34 = .ok (.iload_n 3, 1) := by decide +kernel
theorem d_Pf_causesOf_35 : decode prog_5_method_7_code 35 = .ok (.aload_n 0, 1) := by decide +kernel
theorem d_Pf_causesOf_36 : decode prog_5_method_7_code 36 = .ok (.getfield 34, 3) := by decide +kernel
theorem d_Pf_causesOf_39 : decode prog_5_method_7_code 39 = .ok (.aload_n 0, 1) := by decide +kernel
theorem d_Pf_causesOf_40 : decode prog_5_method_7_code 40 = .ok (.getfield 15, 3) := by decide +kernel
theorem d_Pf_causesOf_43 : decode prog_5_method_7_code 43 = .ok (.iload 4, 2) := by decide +kernel
theorem d_Pf_causesOf_45 : decode prog_5_method_7_code 45 = .ok (.iaload, 1) := by decide +kernel
theorem d_Pf_causesOf_46 : decode prog_5_method_7_code 46 = .ok (.iaload, 1) := by decide +kernel
theorem d_Pf_causesOf_47 : decode prog_5_method_7_code 47 = .ok (.ior, 1) := by decide +kernel
theorem d_Pf_causesOf_48 : decode prog_5_method_7_code 48 = .ok (.istore_n 3, 1) := by decide +kernel
theorem d_Pf_causesOf_49 : decode prog_5_method_7_code 49 = .ok (.iinc 4 1, 3) := by decide +kernel
theorem d_Pf_causesOf_52 : decode prog_5_method_7_code 52 = .ok (.goto (-47), 3) := by decide +kernel
theorem d_Pf_causesOf_55 : decode prog_5_method_7_code 55 = .ok (.iload_n 3, 1) := by decide +kernel
theorem d_Pf_causesOf_56 : decode prog_5_method_7_code 56 = .ok (.ireturn, 1) := by decide +kernel
theorem d_Pf_isCutOff_0 : decode prog_5_method_3_code 0 = .ok (.aload_n 0, 1) := by decide +kernel
theorem d_Pf_isCutOff_1 : decode prog_5_method_3_code 1 = .ok (.getfield 56, 3) := by decide +kernel
theorem d_Pf_isCutOff_4 : decode prog_5_method_3_code 4 = .ok (.i2l, 1) := by decide +kernel
theorem d_Pf_isCutOff_5 : decode prog_5_method_3_code 5 = .ok (.iload_n 1, 1) := by decide +kernel
theorem d_Pf_isCutOff_6 : decode prog_5_method_3_code 6 = .ok (.invokestatic 63, 3) := by decide +kernel
theorem d_Pf_isCutOff_9 : decode prog_5_method_3_code 9 = .ok (.ireturn, 1) := by decide +kernel
theorem d_Pf_markingOf_0 : decode prog_5_method_9_code 0 = .ok (.iconst 0, 1) := by decide +kernel
theorem d_Pf_markingOf_1 : decode prog_5_method_9_code 1 = .ok (.istore_n 2, 1) := by decide +kernel
theorem d_Pf_markingOf_2 : decode prog_5_method_9_code 2 = .ok (.iconst 0, 1) := by decide +kernel
theorem d_Pf_markingOf_3 : decode prog_5_method_9_code 3 = .ok (.istore_n 3, 1) := by decide +kernel
theorem d_Pf_markingOf_4 : decode prog_5_method_9_code 4 = .ok (.iload_n 3, 1) := by decide +kernel
theorem d_Pf_markingOf_5 : decode prog_5_method_9_code 5 = .ok (.aload_n 0, 1) := by decide +kernel
theorem d_Pf_markingOf_6 : decode prog_5_method_9_code 6 = .ok (.getfield 43, 3) := by decide +kernel
theorem d_Pf_markingOf_9 : decode prog_5_method_9_code 9 = .ok (.if_icmp .ge 67, 3) := by decide +kernel
theorem d_Pf_markingOf_12 : decode prog_5_method_9_code 12 = .ok (.aload_n 0, 1) := by decide +kernel
theorem d_Pf_markingOf_13 : decode prog_5_method_9_code 13 = .ok (.getfield 15, 3) := by decide +kernel
theorem d_Pf_markingOf_16 : decode prog_5_method_9_code 16 = .ok (.iload_n 3, 1) := by decide +kernel
theorem d_Pf_markingOf_17 : decode prog_5_method_9_code 17 = .ok (.iaload, 1) := by decide +kernel
theorem d_Pf_markingOf_18 : decode prog_5_method_9_code 18 = .ok (.iconst (-1), 1) := by decide +kernel
theorem d_Pf_markingOf_19 : decode prog_5_method_9_code 19 = .ok (.if_icmp .eq 17, 3) := by decide +kernel
theorem d_Pf_markingOf_22 : decode prog_5_method_9_code 22 = .ok (.iload_n 1, 1) := by decide +kernel
theorem d_Pf_markingOf_23 : decode prog_5_method_9_code 23 = .ok (.i2l, 1) := by decide +kernel
theorem d_Pf_markingOf_24 : decode prog_5_method_9_code 24 = .ok (.aload_n 0, 1) := by decide +kernel
theorem d_Pf_markingOf_25 : decode prog_5_method_9_code 25 = .ok (.getfield 15, 3) := by decide +kernel
theorem d_Pf_markingOf_28 : decode prog_5_method_9_code 28 = .ok (.iload_n 3, 1) := by decide +kernel
theorem d_Pf_markingOf_29 : decode prog_5_method_9_code 29 = .ok (.iaload, 1) := by decide +kernel
theorem d_Pf_markingOf_30 : decode prog_5_method_9_code 30 = .ok (.invokestatic 63, 3) := by decide +kernel
theorem d_Pf_markingOf_33 : decode prog_5_method_9_code 33 = .ok (.ifCond .eq 7, 3) := by decide +kernel
theorem d_Pf_markingOf_36 : decode prog_5_method_9_code 36 = .ok (.iconst 1, 1) := by decide +kernel
theorem d_Pf_markingOf_37 : decode prog_5_method_9_code 37 = .ok (.goto 4, 3) := by decide +kernel
theorem d_Pf_markingOf_40 : decode prog_5_method_9_code 40 = .ok (.iconst 0, 1) := by decide +kernel
theorem d_Pf_markingOf_41 : decode prog_5_method_9_code 41 = .ok (.istore 4, 2) := by decide +kernel
theorem d_Pf_markingOf_43 : decode prog_5_method_9_code 43 = .ok (.iload 4, 2) := by decide +kernel
theorem d_Pf_markingOf_45 : decode prog_5_method_9_code 45 = .ok (.ifCond .eq 25, 3) := by decide +kernel
theorem d_Pf_markingOf_48 : decode prog_5_method_9_code 48 = .ok (.aload_n 0, 1) := by decide +kernel
theorem d_Pf_markingOf_49 : decode prog_5_method_9_code 49 = .ok (.getfield 18, 3) := by decide +kernel
theorem d_Pf_markingOf_52 : decode prog_5_method_9_code 52 = .ok (.iload_n 3, 1) := by decide +kernel
theorem d_Pf_markingOf_53 : decode prog_5_method_9_code 53 = .ok (.iaload, 1) := by decide +kernel
theorem d_Pf_markingOf_54 : decode prog_5_method_9_code 54 = .ok (.iload_n 1, 1) := by decide +kernel
theorem d_Pf_markingOf_55 : decode prog_5_method_9_code 55 = .ok (.iand, 1) := by decide +kernel
theorem d_Pf_markingOf_56 : decode prog_5_method_9_code 56 = .ok (.ifCond .ne 14, 3) := by decide +kernel
theorem d_Pf_markingOf_59 : decode prog_5_method_9_code 59 = .ok (.iload_n 2, 1) := by decide +kernel
theorem d_Pf_markingOf_60 : decode prog_5_method_9_code 60 = .ok (.iconst 1, 1) := by decide +kernel
theorem d_Pf_markingOf_61 : decode prog_5_method_9_code 61 = .ok (.aload_n 0, 1) := by decide +kernel
theorem d_Pf_markingOf_62 : decode prog_5_method_9_code 62 = .ok (.getfield 9, 3) := by decide +kernel
theorem d_Pf_markingOf_65 : decode prog_5_method_9_code 65 = .ok (.iload_n 3, 1) := by decide +kernel
theorem d_Pf_markingOf_66 : decode prog_5_method_9_code 66 = .ok (.iaload, 1) := by decide +kernel
theorem d_Pf_markingOf_67 : decode prog_5_method_9_code 67 = .ok (.ishl, 1) := by decide +kernel
theorem d_Pf_markingOf_68 : decode prog_5_method_9_code 68 = .ok (.ior, 1) := by decide +kernel
theorem d_Pf_markingOf_69 : decode prog_5_method_9_code 69 = .ok (.istore_n 2, 1) := by decide +kernel
theorem d_Pf_markingOf_70 : decode prog_5_method_9_code 70 = .ok (.iinc 3 1, 3) := by decide +kernel
theorem d_Pf_markingOf_73 : decode prog_5_method_9_code 73 = .ok (.goto (-69), 3) := by decide +kernel
theorem d_Pf_markingOf_76 : decode prog_5_method_9_code 76 = .ok (.iload_n 2, 1) := by decide +kernel
theorem d_Pf_markingOf_77 : decode prog_5_method_9_code 77 = .ok (.ireturn, 1) := by decide +kernel
theorem d_Pf_rankOf_0 : decode prog_5_method_10_code 0 = .ok (.iload_n 2, 1) := by decide +kernel
theorem d_Pf_rankOf_1 : decode prog_5_method_10_code 1 = .ok (.invokestatic 77, 3) := by decide +kernel
theorem d_Pf_rankOf_4 : decode prog_5_method_10_code 4 = .ok (.iconst 1, 1) := by decide +kernel
theorem d_Pf_rankOf_5 : decode prog_5_method_10_code 5 = .ok (.iadd, 1) := by decide +kernel
theorem d_Pf_rankOf_6 : decode prog_5_method_10_code 6 = .ok (.i2l, 1) := by decide +kernel
theorem d_Pf_rankOf_7 : decode prog_5_method_10_code 7 = .ok (.lstore_n 3, 1) := by decide +kernel
theorem d_Pf_rankOf_8 : decode prog_5_method_10_code 8 = .ok (.iconst 0, 1) := by decide +kernel
theorem d_Pf_rankOf_9 : decode prog_5_method_10_code 9 = .ok (.istore 5, 2) := by decide +kernel
theorem d_Pf_rankOf_11 : decode prog_5_method_10_code 11 = .ok (.iload 5, 2) := by decide +kernel
theorem d_Pf_rankOf_13 : decode prog_5_method_10_code 13 = .ok (.bipush 8, 2) := by decide +kernel
theorem d_Pf_rankOf_15 : decode prog_5_method_10_code 15 = .ok (.if_icmp .ge 76, 3) := by decide +kernel
theorem d_Pf_rankOf_18 : decode prog_5_method_10_code 18 = .ok (.iload 5, 2) := by decide +kernel
theorem d_Pf_rankOf_20 : decode prog_5_method_10_code 20 = .ok (.iload_n 1, 1) := by decide +kernel
theorem d_Pf_rankOf_21 : decode prog_5_method_10_code 21 = .ok (.if_icmp .ne 7, 3) := by decide +kernel
theorem d_Pf_rankOf_24 : decode prog_5_method_10_code 24 = .ok (.iconst 1, 1) := by decide +kernel
theorem d_Pf_rankOf_25 : decode prog_5_method_10_code 25 = .ok (.goto 4, 3) := by decide +kernel
theorem d_Pf_rankOf_28 : decode prog_5_method_10_code 28 = .ok (.iconst 0, 1) := by decide +kernel
theorem d_Pf_rankOf_29 : decode prog_5_method_10_code 29 = .ok (.istore 6, 2) := by decide +kernel
theorem d_Pf_rankOf_31 : decode prog_5_method_10_code 31 = .ok (.iconst 0, 1) := by decide +kernel
theorem d_Pf_rankOf_32 : decode prog_5_method_10_code 32 = .ok (.istore 7, 2) := by decide +kernel
theorem d_Pf_rankOf_34 : decode prog_5_method_10_code 34 = .ok (.iload 7, 2) := by decide +kernel
theorem d_Pf_rankOf_36 : decode prog_5_method_10_code 36 = .ok (.aload_n 0, 1) := by decide +kernel
theorem d_Pf_rankOf_37 : decode prog_5_method_10_code 37 = .ok (.getfield 53, 3) := by decide +kernel
theorem d_Pf_rankOf_40 : decode prog_5_method_10_code 40 = .ok (.if_icmp .ge 34, 3) := by decide +kernel
theorem d_Pf_rankOf_43 : decode prog_5_method_10_code 43 = .ok (.iload_n 2, 1) := by decide +kernel
theorem d_Pf_rankOf_44 : decode prog_5_method_10_code 44 = .ok (.i2l, 1) := by decide +kernel
theorem d_Pf_rankOf_45 : decode prog_5_method_10_code 45 = .ok (.iload 7, 2) := by decide +kernel
theorem d_Pf_rankOf_47 : decode prog_5_method_10_code 47 = .ok (.invokestatic 63, 3) := by decide +kernel
theorem d_Pf_rankOf_50 : decode prog_5_method_10_code 50 = .ok (.ifCond .eq 18, 3) := by decide +kernel
theorem d_Pf_rankOf_53 : decode prog_5_method_10_code 53 = .ok (.aload_n 0, 1) := by decide +kernel
theorem d_Pf_rankOf_54 : decode prog_5_method_10_code 54 = .ok (.getfield 28, 3) := by decide +kernel
theorem d_Pf_rankOf_57 : decode prog_5_method_10_code 57 = .ok (.iload 7, 2) := by decide +kernel
theorem d_Pf_rankOf_59 : decode prog_5_method_10_code 59 = .ok (.iaload, 1) := by decide +kernel
theorem d_Pf_rankOf_60 : decode prog_5_method_10_code 60 = .ok (.iload 5, 2) := by decide +kernel
theorem d_Pf_rankOf_62 : decode prog_5_method_10_code 62 = .ok (.if_icmp .ne 6, 3) := by decide +kernel
theorem d_Pf_rankOf_65 : decode prog_5_method_10_code 65 = .ok (.iinc 6 1, 3) := by decide +kernel
theorem d_Pf_rankOf_68 : decode prog_5_method_10_code 68 = .ok (.iinc 7 1, 3) := by decide +kernel
theorem d_Pf_rankOf_71 : decode prog_5_method_10_code 71 = .ok (.goto (-37), 3) := by decide +kernel
theorem d_Pf_rankOf_74 : decode prog_5_method_10_code 74 = .ok (.lload_n 3, 1) := by decide +kernel
theorem d_Pf_rankOf_75 : decode prog_5_method_10_code 75 = .ok (.iconst 5, 1) := by decide +kernel
theorem d_Pf_rankOf_76 : decode prog_5_method_10_code 76 = .ok (.lshl, 1) := by decide +kernel
theorem d_Pf_rankOf_77 : decode prog_5_method_10_code 77 = .ok (.bipush 31, 2) := by decide +kernel
theorem d_Pf_rankOf_79 : decode prog_5_method_10_code 79 = .ok (.iload 6, 2) := by decide +kernel
theorem d_Pf_rankOf_81 : decode prog_5_method_10_code 81 = .ok (.isub, 1) := by decide +kernel
theorem d_Pf_rankOf_82 : decode prog_5_method_10_code 82 = .ok (.i2l, 1) := by decide +kernel
theorem d_Pf_rankOf_83 : decode prog_5_method_10_code 83 = .ok (.lor, 1) := by decide +kernel
theorem d_Pf_rankOf_84 : decode prog_5_method_10_code 84 = .ok (.lstore_n 3, 1) := by decide +kernel
theorem d_Pf_rankOf_85 : decode prog_5_method_10_code 85 = .ok (.iinc 5 1, 3) := by decide +kernel
theorem d_Pf_rankOf_88 : decode prog_5_method_10_code 88 = .ok (.goto (-77), 3) := by decide +kernel
theorem d_Pf_rankOf_91 : decode prog_5_method_10_code 91 = .ok (.lload_n 3, 1) := by decide +kernel
theorem d_Pf_rankOf_92 : decode prog_5_method_10_code 92 = .ok (.lreturn, 1) := by decide +kernel
theorem d_Pf_takenBy_0 : decode prog_5_method_11_code 0 = .ok (.iconst 0, 1) := by decide +kernel
theorem d_Pf_takenBy_1 : decode prog_5_method_11_code 1 = .ok (.istore_n 3, 1) := by decide +kernel
theorem d_Pf_takenBy_2 : decode prog_5_method_11_code 2 = .ok (.iconst 0, 1) := by decide +kernel
theorem d_Pf_takenBy_3 : decode prog_5_method_11_code 3 = .ok (.istore 4, 2) := by decide +kernel
theorem d_Pf_takenBy_5 : decode prog_5_method_11_code 5 = .ok (.iload 4, 2) := by decide +kernel
theorem d_Pf_takenBy_7 : decode prog_5_method_11_code 7 = .ok (.bipush 8, 2) := by decide +kernel
theorem d_Pf_takenBy_9 : decode prog_5_method_11_code 9 = .ok (.if_icmp .ge 46, 3) := by decide +kernel
theorem d_Pf_takenBy_12 : decode prog_5_method_11_code 12 = .ok (.aload_n 0, 1) := by decide +kernel
theorem d_Pf_takenBy_13 : decode prog_5_method_11_code 13 = .ok (.getfield 31, 3) := by decide +kernel
theorem d_Pf_takenBy_16 : decode prog_5_method_11_code 16 = .ok (.iload_n 1, 1) := by decide +kernel
theorem d_Pf_takenBy_17 : decode prog_5_method_11_code 17 = .ok (.laload, 1) := by decide +kernel
theorem d_Pf_takenBy_18 : decode prog_5_method_11_code 18 = .ok (.aload_n 0, 1) := by decide +kernel
theorem d_Pf_takenBy_19 : decode prog_5_method_11_code 19 = .ok (.getfield 25, 3) := by decide +kernel
theorem d_Pf_takenBy_22 : decode prog_5_method_11_code 22 = .ok (.iload 4, 2) := by decide +kernel
theorem d_Pf_takenBy_24 : decode prog_5_method_11_code 24 = .ok (.laload, 1) := by decide +kernel
theorem d_Pf_takenBy_25 : decode prog_5_method_11_code 25 = .ok (.land, 1) := by decide +kernel
theorem d_Pf_takenBy_26 : decode prog_5_method_11_code 26 = .ok (.lstore 5, 2) := by decide +kernel
theorem d_Pf_takenBy_28 : decode prog_5_method_11_code 28 = .ok (.lload 5, 2) := by decide +kernel
theorem d_Pf_takenBy_30 : decode prog_5_method_11_code 30 = .ok (.lconst 0, 1) := by decide +kernel
theorem d_Pf_takenBy_31 : decode prog_5_method_11_code 31 = .ok (.lcmp, 1) := by decide +kernel
theorem d_Pf_takenBy_32 : decode prog_5_method_11_code 32 = .ok (.ifCond .eq 17, 3) := by decide +kernel
theorem d_Pf_takenBy_35 : decode prog_5_method_11_code 35 = .ok (.iload_n 3, 1) := by decide +kernel
theorem d_Pf_takenBy_36 : decode prog_5_method_11_code 36 = .ok (.iload_n 2, 1) := by decide +kernel
theorem d_Pf_takenBy_37 : decode prog_5_method_11_code 37 = .ok (.if_icmp .ne 9, 3) := by decide +kernel
theorem d_Pf_takenBy_40 : decode prog_5_method_11_code 40 = .ok (.lload 5, 2) := by decide +kernel
theorem d_Pf_takenBy_42 : decode prog_5_method_11_code 42 = .ok (.invokestatic 83, 3) := by decide +kernel
theorem d_Pf_takenBy_45 : decode prog_5_method_11_code 45 = .ok (.ireturn, 1) := by decide +kernel
theorem d_Pf_takenBy_46 : decode prog_5_method_11_code 46 = .ok (.iinc 3 1, 3) := by decide +kernel
theorem d_Pf_takenBy_49 : decode prog_5_method_11_code 49 = .ok (.iinc 4 1, 3) := by decide +kernel
theorem d_Pf_takenBy_52 : decode prog_5_method_11_code 52 = .ok (.goto (-47), 3) := by decide +kernel
theorem d_Pf_takenBy_55 : decode prog_5_method_11_code 55 = .ok (.iconst (-1), 1) := by decide +kernel
theorem d_Pf_takenBy_56 : decode prog_5_method_11_code 56 = .ok (.ireturn, 1) := by decide +kernel
theorem d_Pf_wipe_0 : decode prog_5_method_2_code 0 = .ok (.aload_n 0, 1) := by decide +kernel
theorem d_Pf_wipe_1 : decode prog_5_method_2_code 1 = .ok (.iconst 0, 1) := by decide +kernel
theorem d_Pf_wipe_2 : decode prog_5_method_2_code 2 = .ok (.putfield 43, 3) := by decide +kernel
theorem d_Pf_wipe_5 : decode prog_5_method_2_code 5 = .ok (.aload_n 0, 1) := by decide +kernel
theorem d_Pf_wipe_6 : decode prog_5_method_2_code 6 = .ok (.getfield 25, 3) := by decide +kernel
theorem d_Pf_wipe_9 : decode prog_5_method_2_code 9 = .ok (.lconst 0, 1) := by decide +kernel
theorem d_Pf_wipe_10 : decode prog_5_method_2_code 10 = .ok (.invokestatic 47, 3) := by decide +kernel
theorem d_Pf_wipe_13 : decode prog_5_method_2_code 13 = .ok (.aload_n 0, 1) := by decide +kernel
theorem d_Pf_wipe_14 : decode prog_5_method_2_code 14 = .ok (.iconst 0, 1) := by decide +kernel
theorem d_Pf_wipe_15 : decode prog_5_method_2_code 15 = .ok (.putfield 53, 3) := by decide +kernel
theorem d_Pf_wipe_18 : decode prog_5_method_2_code 18 = .ok (.aload_n 0, 1) := by decide +kernel
theorem d_Pf_wipe_19 : decode prog_5_method_2_code 19 = .ok (.iconst 0, 1) := by decide +kernel
theorem d_Pf_wipe_20 : decode prog_5_method_2_code 20 = .ok (.putfield 56, 3) := by decide +kernel
theorem d_Pf_wipe_23 : decode prog_5_method_2_code 23 = .ok (.aload_n 0, 1) := by decide +kernel
theorem d_Pf_wipe_24 : decode prog_5_method_2_code 24 = .ok (.iconst 0, 1) := by decide +kernel
theorem d_Pf_wipe_25 : decode prog_5_method_2_code 25 = .ok (.putfield 59, 3) := by decide +kernel
theorem d_Pf_wipe_28 : decode prog_5_method_2_code 28 = .ok (.return_, 1) := by decide +kernel
theorem d_Qu_init_0 : decode prog_6_method_1_code 0 = .ok (.aload_n 0, 1) := by decide +kernel
theorem d_Qu_init_1 : decode prog_6_method_1_code 1 = .ok (.invokespecial 3, 3) := by decide +kernel
theorem d_Qu_init_4 : decode prog_6_method_1_code 4 = .ok (.aload_n 0, 1) := by decide +kernel
theorem d_Qu_init_5 : decode prog_6_method_1_code 5 = .ok (.new 9, 3) := by decide +kernel
theorem d_Qu_init_8 : decode prog_6_method_1_code 8 = .ok (.dup, 1) := by decide +kernel
theorem d_Qu_init_9 : decode prog_6_method_1_code 9 = .ok (.invokespecial 11, 3) := by decide +kernel
theorem d_Qu_init_12 : decode prog_6_method_1_code 12 = .ok (.putfield 12, 3) := by decide +kernel
theorem d_Qu_init_15 : decode prog_6_method_1_code 15 = .ok (.aload_n 0, 1) := by decide +kernel
theorem d_Qu_init_16 : decode prog_6_method_1_code 16 = .ok (.new 18, 3) := by decide +kernel
theorem d_Qu_init_19 : decode prog_6_method_1_code 19 = .ok (.dup, 1) := by decide +kernel
theorem d_Qu_init_20 : decode prog_6_method_1_code 20 = .ok (.aload_n 0, 1) := by decide +kernel
theorem d_Qu_init_21 : decode prog_6_method_1_code 21 = .ok (.getfield 12, 3) := by decide +kernel
theorem d_Qu_init_24 : decode prog_6_method_1_code 24 = .ok (.invokespecial 20, 3) := by decide +kernel
theorem d_Qu_init_27 : decode prog_6_method_1_code 27 = .ok (.putfield 23, 3) := by decide +kernel
theorem d_Qu_init_30 : decode prog_6_method_1_code 30 = .ok (.aload_n 0, 1) := by decide +kernel
theorem d_Qu_init_31 : decode prog_6_method_1_code 31 = .ok (.aload_n 1, 1) := by decide +kernel
theorem d_Qu_init_32 : decode prog_6_method_1_code 32 = .ok (.putfield 27, 3) := by decide +kernel
theorem d_Qu_init_35 : decode prog_6_method_1_code 35 = .ok (.aload_n 0, 1) := by decide +kernel
theorem d_Qu_init_36 : decode prog_6_method_1_code 36 = .ok (.aload_n 2, 1) := by decide +kernel
theorem d_Qu_init_37 : decode prog_6_method_1_code 37 = .ok (.putfield 31, 3) := by decide +kernel
theorem d_Qu_init_40 : decode prog_6_method_1_code 40 = .ok (.aload_n 0, 1) := by decide +kernel
theorem d_Qu_init_41 : decode prog_6_method_1_code 41 = .ok (.aload_n 3, 1) := by decide +kernel
theorem d_Qu_init_42 : decode prog_6_method_1_code 42 = .ok (.putfield 35, 3) := by decide +kernel
theorem d_Qu_init_45 : decode prog_6_method_1_code 45 = .ok (.return_, 1) := by decide +kernel
theorem d_Qu_answer_0 : decode prog_6_method_4_code 0 = .ok (.aload_n 0, 1) := by decide +kernel
theorem d_Qu_answer_1 : decode prog_6_method_4_code 1 = .ok (.getfield 35, 3) := by decide +kernel
theorem d_Qu_answer_4 : decode prog_6_method_4_code 4 = .ok (.invokevirtual 68, 3) := by decide +kernel
theorem d_Qu_answer_7 : decode prog_6_method_4_code 7 = .ok (.aload_n 0, 1) := by decide +kernel
theorem d_Qu_answer_8 : decode prog_6_method_4_code 8 = .ok (.getfield 23, 3) := by decide +kernel
