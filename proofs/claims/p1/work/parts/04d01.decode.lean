theorem d_Ne_add_27 : decode prog_3_method_3_code 27 = .ok (.putfield 18, 3) := by decide +kernel
theorem d_Ne_add_30 : decode prog_3_method_3_code 30 = .ok (.aload_n 0, 1) := by decide +kernel
theorem d_Ne_add_31 : decode prog_3_method_3_code 31 = .ok (.getfield 18, 3) := by decide +kernel
theorem d_Ne_add_34 : decode prog_3_method_3_code 34 = .ok (.iconst 1, 1) := by decide +kernel
theorem d_Ne_add_35 : decode prog_3_method_3_code 35 = .ok (.isub, 1) := by decide +kernel
theorem d_Ne_add_36 : decode prog_3_method_3_code 36 = .ok (.ireturn, 1) := by decide +kernel
theorem d_NU_dropPrefixAndWay_0 : decode prog_1_method_15_code 0 = .ok (.aload_n 0, 1) := by decide +kernel
theorem d_NU_dropPrefixAndWay_1 : decode prog_1_method_15_code 1 = .ok (.getfield 19, 3) := by decide +kernel
theorem d_NU_dropPrefixAndWay_4 : decode prog_1_method_15_code 4 = .ok (.invokevirtual 148, 3) := by decide +kernel
theorem d_NU_dropPrefixAndWay_7 : decode prog_1_method_15_code 7 = .ok (.aload_n 0, 1) := by decide +kernel
theorem d_NU_dropPrefixAndWay_8 : decode prog_1_method_15_code 8 = .ok (.getfield 26, 3) := by decide +kernel
theorem d_NU_dropPrefixAndWay_11 : decode prog_1_method_15_code 11 = .ok (.invokevirtual 149, 3) := by decide +kernel
theorem d_NU_dropPrefixAndWay_14 : decode prog_1_method_15_code 14 = .ok (.return_, 1) := by decide +kernel
theorem d_Pf_allConditions_0 : decode prog_5_method_4_code 0 = .ok (.lconst 1, 1) := by decide +kernel
theorem d_Pf_allConditions_1 : decode prog_5_method_4_code 1 = .ok (.aload_n 0, 1) := by decide +kernel
theorem d_Pf_allConditions_2 : decode prog_5_method_4_code 2 = .ok (.getfield 43, 3) := by decide +kernel
theorem d_Pf_allConditions_5 : decode prog_5_method_4_code 5 = .ok (.lshl, 1) := by decide +kernel
theorem d_Pf_allConditions_6 : decode prog_5_method_4_code 6 = .ok (.lconst 1, 1) := by decide +kernel
theorem d_Pf_allConditions_7 : decode prog_5_method_4_code 7 = .ok (.lsub, 1) := by decide +kernel
theorem d_Pf_allConditions_8 : decode prog_5_method_4_code 8 = .ok (.lreturn, 1) := by decide +kernel
theorem d_Pf_addConditions_0 : decode prog_5_method_5_code 0 = .ok (.aload_n 0, 1) := by decide +kernel
theorem d_Pf_addConditions_1 : decode prog_5_method_5_code 1 = .ok (.invokevirtual 67, 3) := by decide +kernel
theorem d_Pf_addConditions_4 : decode prog_5_method_5_code 4 = .ok (.lstore 5, 2) := by decide +kernel
theorem d_Pf_addConditions_6 : decode prog_5_method_5_code 6 = .ok (.iconst 0, 1) := by decide +kernel
theorem d_Pf_addConditions_7 : decode prog_5_method_5_code 7 = .ok (.istore 7, 2) := by decide +kernel
theorem d_Pf_addConditions_9 : decode prog_5_method_5_code 9 = .ok (.iload 7, 2) := by decide +kernel
theorem d_Pf_addConditions_11 : decode prog_5_method_5_code 11 = .ok (.bipush 8, 2) := by decide +kernel
theorem d_Pf_addConditions_13 : decode prog_5_method_5_code 13 = .ok (.if_icmp .ge 85, 3) := by decide +kernel
theorem d_Pf_addConditions_16 : decode prog_5_method_5_code 16 = .ok (.iload_n 1, 1) := by decide +kernel
theorem d_Pf_addConditions_17 : decode prog_5_method_5_code 17 = .ok (.i2l, 1) := by decide +kernel
theorem d_Pf_addConditions_18 : decode prog_5_method_5_code 18 = .ok (.iload 7, 2) := by decide +kernel
theorem d_Pf_addConditions_20 : decode prog_5_method_5_code 20 = .ok (.invokestatic 63, 3) := by decide +kernel
theorem d_Pf_addConditions_23 : decode prog_5_method_5_code 23 = .ok (.ifCond .eq 69, 3) := by decide +kernel
theorem d_Pf_addConditions_26 : decode prog_5_method_5_code 26 = .ok (.aload_n 0, 1) := by decide +kernel
theorem d_Pf_addConditions_27 : decode prog_5_method_5_code 27 = .ok (.getfield 43, 3) := by decide +kernel
theorem d_Pf_addConditions_30 : decode prog_5_method_5_code 30 = .ok (.bipush 60, 2) := by decide +kernel
theorem d_Pf_addConditions_32 : decode prog_5_method_5_code 32 = .ok (.if_icmp .ge 60, 3) := by decide +kernel
theorem d_Pf_addConditions_35 : decode prog_5_method_5_code 35 = .ok (.aload_n 0, 1) := by decide +kernel
theorem d_Pf_addConditions_36 : decode prog_5_method_5_code 36 = .ok (.getfield 9, 3) := by decide +kernel
theorem d_Pf_addConditions_39 : decode prog_5_method_5_code 39 = .ok (.aload_n 0, 1) := by decide +kernel
theorem d_Pf_addConditions_40 : decode prog_5_method_5_code 40 = .ok (.getfield 43, 3) := by decide +kernel
theorem d_Pf_addConditions_43 : decode prog_5_method_5_code 43 = .ok (.iload 7, 2) := by decide +kernel
theorem d_Pf_addConditions_45 : decode prog_5_method_5_code 45 = .ok (.iastore, 1) := by decide +kernel
theorem d_Pf_addConditions_46 : decode prog_5_method_5_code 46 = .ok (.aload_n 0, 1) := by decide +kernel
theorem d_Pf_addConditions_47 : decode prog_5_method_5_code 47 = .ok (.getfield 15, 3) := by decide +kernel
theorem d_Pf_addConditions_50 : decode prog_5_method_5_code 50 = .ok (.aload_n 0, 1) := by decide +kernel
theorem d_Pf_addConditions_51 : decode prog_5_method_5_code 51 = .ok (.getfield 43, 3) := by decide +kernel
theorem d_Pf_addConditions_54 : decode prog_5_method_5_code 54 = .ok (.iload_n 2, 1) := by decide +kernel
theorem d_Pf_addConditions_55 : decode prog_5_method_5_code 55 = .ok (.iastore, 1) := by decide +kernel
theorem d_Pf_addConditions_56 : decode prog_5_method_5_code 56 = .ok (.aload_n 0, 1) := by decide +kernel
theorem d_Pf_addConditions_57 : decode prog_5_method_5_code 57 = .ok (.getfield 18, 3) := by decide +kernel
theorem d_Pf_addConditions_60 : decode prog_5_method_5_code 60 = .ok (.aload_n 0, 1) := by decide +kernel
theorem d_Pf_addConditions_61 : decode prog_5_method_5_code 61 = .ok (.getfield 43, 3) := by decide +kernel
theorem d_Pf_addConditions_64 : decode prog_5_method_5_code 64 = .ok (.iconst 0, 1) := by decide +kernel
theorem d_Pf_addConditions_65 : decode prog_5_method_5_code 65 = .ok (.iastore, 1) := by decide +kernel
theorem d_Pf_addConditions_66 : decode prog_5_method_5_code 66 = .ok (.aload_n 0, 1) := by decide +kernel
theorem d_Pf_addConditions_67 : decode prog_5_method_5_code 67 = .ok (.getfield 25, 3) := by decide +kernel
theorem d_Pf_addConditions_70 : decode prog_5_method_5_code 70 = .ok (.iload 7, 2) := by decide +kernel
theorem d_Pf_addConditions_72 : decode prog_5_method_5_code 72 = .ok (.dup2, 1) := by decide +kernel
theorem d_Pf_addConditions_73 : decode prog_5_method_5_code 73 = .ok (.laload, 1) := by decide +kernel
theorem d_Pf_addConditions_74 : decode prog_5_method_5_code 74 = .ok (.lconst 1, 1) := by decide +kernel
theorem d_Pf_addConditions_75 : decode prog_5_method_5_code 75 = .ok (.aload_n 0, 1) := by decide +kernel
theorem d_Pf_addConditions_76 : decode prog_5_method_5_code 76 = .ok (.getfield 43, 3) := by decide +kernel
theorem d_Pf_addConditions_79 : decode prog_5_method_5_code 79 = .ok (.lshl, 1) := by decide +kernel
theorem d_Pf_addConditions_80 : decode prog_5_method_5_code 80 = .ok (.lor, 1) := by decide +kernel
theorem d_Pf_addConditions_81 : decode prog_5_method_5_code 81 = .ok (.lastore, 1) := by decide +kernel
theorem d_Pf_addConditions_82 : decode prog_5_method_5_code 82 = .ok (.aload_n 0, 1) := by decide +kernel
theorem d_Pf_addConditions_83 : decode prog_5_method_5_code 83 = .ok (.dup, 1) := by decide +kernel
theorem d_Pf_addConditions_84 : decode prog_5_method_5_code 84 = .ok (.getfield 43, 3) := by decide +kernel
theorem d_Pf_addConditions_87 : decode prog_5_method_5_code 87 = .ok (.iconst 1, 1) := by decide +kernel
theorem d_Pf_addConditions_88 : decode prog_5_method_5_code 88 = .ok (.iadd, 1) := by decide +kernel
theorem d_Pf_addConditions_89 : decode prog_5_method_5_code 89 = .ok (.putfield 43, 3) := by decide +kernel
theorem d_Pf_addConditions_92 : decode prog_5_method_5_code 92 = .ok (.iinc 7 1, 3) := by decide +kernel
theorem d_Pf_addConditions_95 : decode prog_5_method_5_code 95 = .ok (.goto (-86), 3) := by decide +kernel
theorem d_Pf_addConditions_98 : decode prog_5_method_5_code 98 = .ok (.aload_n 0, 1) := by decide +kernel
theorem d_Pf_addConditions_99 : decode prog_5_method_5_code 99 = .ok (.invokevirtual 67, 3) := by decide +kernel
theorem d_Pf_addConditions_102 : decode prog_5_method_5_code 102 = .ok (.lload 5, 2) := by decide +kernel
theorem d_Pf_addConditions_104 : decode prog_5_method_5_code 104 = .ok (.ldc2_w 71, 3) := by decide +kernel
theorem d_Pf_addConditions_107 : decode prog_5_method_5_code 107 = .ok (.lxor, 1) := by decide +kernel
theorem d_Pf_addConditions_108 : decode prog_5_method_5_code 108 = .ok (.land, 1) := by decide +kernel
theorem d_Pf_addConditions_109 : decode prog_5_method_5_code 109 = .ok (.lstore 7, 2) := by decide +kernel
theorem d_Pf_addConditions_111 : decode prog_5_method_5_code 111 = .ok (.iconst 0, 1) := by decide +kernel
theorem d_Pf_addConditions_112 : decode prog_5_method_5_code 112 = .ok (.istore 9, 2) := by decide +kernel
theorem d_Pf_addConditions_114 : decode prog_5_method_5_code 114 = .ok (.iload 9, 2) := by decide +kernel
theorem d_Pf_addConditions_116 : decode prog_5_method_5_code 116 = .ok (.aload_n 0, 1) := by decide +kernel
theorem d_Pf_addConditions_117 : decode prog_5_method_5_code 117 = .ok (.getfield 43, 3) := by decide +kernel
theorem d_Pf_addConditions_120 : decode prog_5_method_5_code 120 = .ok (.if_icmp .ge 63, 3) := by decide +kernel
theorem d_Pf_addConditions_123 : decode prog_5_method_5_code 123 = .ok (.lload 7, 2) := by decide +kernel
theorem d_Pf_addConditions_125 : decode prog_5_method_5_code 125 = .ok (.iload 9, 2) := by decide +kernel
theorem d_Pf_addConditions_127 : decode prog_5_method_5_code 127 = .ok (.invokestatic 63, 3) := by decide +kernel
theorem d_Pf_addConditions_130 : decode prog_5_method_5_code 130 = .ok (.ifCond .eq 26, 3) := by decide +kernel
theorem d_Pf_addConditions_133 : decode prog_5_method_5_code 133 = .ok (.aload_n 0, 1) := by decide +kernel
theorem d_Pf_addConditions_134 : decode prog_5_method_5_code 134 = .ok (.getfield 21, 3) := by decide +kernel
theorem d_Pf_addConditions_137 : decode prog_5_method_5_code 137 = .ok (.iload 9, 2) := by decide +kernel
theorem d_Pf_addConditions_139 : decode prog_5_method_5_code 139 = .ok (.lload_n 3, 1) := by decide +kernel
theorem d_Pf_addConditions_140 : decode prog_5_method_5_code 140 = .ok (.lload 7, 2) := by decide +kernel
theorem d_Pf_addConditions_142 : decode prog_5_method_5_code 142 = .ok (.lor, 1) := by decide +kernel
theorem d_Pf_addConditions_143 : decode prog_5_method_5_code 143 = .ok (.lconst 1, 1) := by decide +kernel
theorem d_Pf_addConditions_144 : decode prog_5_method_5_code 144 = .ok (.iload 9, 2) := by decide +kernel
theorem d_Pf_addConditions_146 : decode prog_5_method_5_code 146 = .ok (.lshl, 1) := by decide +kernel
theorem d_Pf_addConditions_147 : decode prog_5_method_5_code 147 = .ok (.ldc2_w 71, 3) := by decide +kernel
theorem d_Pf_addConditions_150 : decode prog_5_method_5_code 150 = .ok (.lxor, 1) := by decide +kernel
theorem d_Pf_addConditions_151 : decode prog_5_method_5_code 151 = .ok (.land, 1) := by decide +kernel
theorem d_Pf_addConditions_152 : decode prog_5_method_5_code 152 = .ok (.lastore, 1) := by decide +kernel
theorem d_Pf_addConditions_153 : decode prog_5_method_5_code 153 = .ok (.goto 24, 3) := by decide +kernel
theorem d_Pf_addConditions_156 : decode prog_5_method_5_code 156 = .ok (.lload_n 3, 1) := by decide +kernel
theorem d_Pf_addConditions_157 : decode prog_5_method_5_code 157 = .ok (.iload 9, 2) := by decide +kernel
theorem d_Pf_addConditions_159 : decode prog_5_method_5_code 159 = .ok (.invokestatic 63, 3) := by decide +kernel
theorem d_Pf_addConditions_162 : decode prog_5_method_5_code 162 = .ok (.ifCond .eq 15, 3) := by decide +kernel
theorem d_Pf_addConditions_165 : decode prog_5_method_5_code 165 = .ok (.aload_n 0, 1) := by decide +kernel
theorem d_Pf_addConditions_166 : decode prog_5_method_5_code 166 = .ok (.getfield 21, 3) := by decide +kernel
theorem d_Pf_addConditions_169 : decode prog_5_method_5_code 169 = .ok (.iload 9, 2) := by decide +kernel
theorem d_Pf_addConditions_171 : decode prog_5_method_5_code 171 = .ok (.dup2, 1) := by decide +kernel
theorem d_Pf_addConditions_172 : decode prog_5_method_5_code 172 = .ok (.laload, 1) := by decide +kernel
theorem d_Pf_addConditions_173 : decode prog_5_method_5_code 173 = .ok (.lload 7, 2) := by decide +kernel
theorem d_Pf_addConditions_175 : decode prog_5_method_5_code 175 = .ok (.lor, 1) := by decide +kernel
theorem d_Pf_addConditions_176 : decode prog_5_method_5_code 176 = .ok (.lastore, 1) := by decide +kernel
theorem d_Pf_addConditions_177 : decode prog_5_method_5_code 177 = .ok (.iinc 9 1, 3) := by decide +kernel
theorem d_Pf_addConditions_180 : decode prog_5_method_5_code 180 = .ok (.goto (-66), 3) := by decide +kernel
theorem d_Pf_addConditions_183 : decode prog_5_method_5_code 183 = .ok (.lload 7, 2) := by decide +kernel
theorem d_Pf_addConditions_185 : decode prog_5_method_5_code 185 = .ok (.lreturn, 1) := by decide +kernel
theorem d_Po_wipe_0 : decode prog_4_method_2_code 0 = .ok (.aload_n 0, 1) := by decide +kernel
theorem d_Po_wipe_1 : decode prog_4_method_2_code 1 = .ok (.iconst 0, 1) := by decide +kernel
theorem d_Po_wipe_2 : decode prog_4_method_2_code 2 = .ok (.putfield 26, 3) := by decide +kernel
theorem d_Po_wipe_5 : decode prog_4_method_2_code 5 = .ok (.return_, 1) := by decide +kernel
theorem d_Po_tooMany_0 : decode prog_4_method_3_code 0 = .ok (.aload_n 0, 1) := by decide +kernel
theorem d_Po_tooMany_1 : decode prog_4_method_3_code 1 = .ok (.getfield 26, 3) := by decide +kernel
theorem d_Po_tooMany_4 : decode prog_4_method_3_code 4 = .ok (.sipush 200, 3) := by decide +kernel
theorem d_Po_tooMany_7 : decode prog_4_method_3_code 7 = .ok (.if_icmp .le 7, 3) := by decide +kernel
theorem d_Po_tooMany_10 : decode prog_4_method_3_code 10 = .ok (.iconst 1, 1) := by decide +kernel
theorem d_Po_tooMany_11 : decode prog_4_method_3_code 11 = .ok (.goto 4, 3) := by decide +kernel
theorem d_Po_tooMany_14 : decode prog_4_method_3_code 14 = .ok (.iconst 0, 1) := by decide +kernel
theorem d_Po_tooMany_15 : decode prog_4_method_3_code 15 = .ok (.ireturn, 1) := by decide +kernel
theorem d_Un_findPossible_0 : decode prog_8_method_9_code 0 = .ok (.iconst 0, 1) := by decide +kernel
theorem d_Un_findPossible_1 : decode prog_8_method_9_code 1 = .ok (.istore 5, 2) := by decide +kernel
theorem d_Un_findPossible_3 : decode prog_8_method_9_code 3 = .ok (.iload 5, 2) := by decide +kernel
theorem d_Un_findPossible_5 : decode prog_8_method_9_code 5 = .ok (.aload_n 0, 1) := by decide +kernel
theorem d_Un_findPossible_6 : decode prog_8_method_9_code 6 = .ok (.getfield 9, 3) := by decide +kernel
theorem d_Un_findPossible_9 : decode prog_8_method_9_code 9 = .ok (.getfield 158, 3) := by decide +kernel
theorem d_Un_findPossible_12 : decode prog_8_method_9_code 12 = .ok (.if_icmp .ge 19, 3) := by decide +kernel
theorem d_Un_findPossible_15 : decode prog_8_method_9_code 15 = .ok (.aload_n 0, 1) := by decide +kernel
theorem d_Un_findPossible_16 : decode prog_8_method_9_code 16 = .ok (.iload 5, 2) := by decide +kernel
theorem d_Un_findPossible_18 : decode prog_8_method_9_code 18 = .ok (.iconst 0, 1) := by decide +kernel
theorem d_Un_findPossible_19 : decode prog_8_method_9_code 19 = .ok (.lload_n 1, 1) := by decide +kernel
theorem d_Un_findPossible_20 : decode prog_8_method_9_code 20 = .ok (.lconst 0, 1) := by decide +kernel
theorem d_Un_findPossible_21 : decode prog_8_method_9_code 21 = .ok (.lload_n 3, 1) := by decide +kernel
theorem d_Un_findPossible_22 : decode prog_8_method_9_code 22 = .ok (.invokevirtual 159, 3) := by decide +kernel
theorem d_Un_findPossible_25 : decode prog_8_method_9_code 25 = .ok (.iinc 5 1, 3) := by decide +kernel
theorem d_Un_findPossible_28 : decode prog_8_method_9_code 28 = .ok (.goto (-25), 3) := by decide +kernel
theorem d_Un_findPossible_31 : decode prog_8_method_9_code 31 = .ok (.return_, 1) := by decide +kernel
theorem d_Un_begin_0 : decode prog_8_method_3_code 0 = .ok (.aload_n 0, 1) := by decide +kernel
theorem d_Un_begin_1 : decode prog_8_method_3_code 1 = .ok (.getfield 15, 3) := by decide +kernel
theorem d_Un_begin_4 : decode prog_8_method_3_code 4 = .ok (.invokevirtual 68, 3) := by decide +kernel
theorem d_Un_begin_7 : decode prog_8_method_3_code 7 = .ok (.aload_n 0, 1) := by decide +kernel
theorem d_Un_begin_8 : decode prog_8_method_3_code 8 = .ok (.getfield 28, 3) := by decide +kernel
theorem d_Un_begin_11 : decode prog_8_method_3_code 11 = .ok (.invokevirtual 71, 3) := by decide +kernel
theorem d_Un_begin_14 : decode prog_8_method_3_code 14 = .ok (.aload_n 0, 1) := by decide +kernel
theorem d_Un_begin_15 : decode prog_8_method_3_code 15 = .ok (.getfield 15, 3) := by decide +kernel
theorem d_Un_begin_18 : decode prog_8_method_3_code 18 = .ok (.aload_n 0, 1) := by decide +kernel
theorem d_Un_begin_19 : decode prog_8_method_3_code 19 = .ok (.getfield 9, 3) := by decide +kernel
theorem d_Un_begin_22 : decode prog_8_method_3_code 22 = .ok (.getfield 72, 3) := by decide +kernel
theorem d_Un_begin_25 : decode prog_8_method_3_code 25 = .ok (.iconst (-1), 1) := by decide +kernel
theorem d_Un_begin_26 : decode prog_8_method_3_code 26 = .ok (.lconst 0, 1) := by decide +kernel
theorem d_Un_begin_27 : decode prog_8_method_3_code 27 = .ok (.invokevirtual 77, 3) := by decide +kernel
theorem d_Un_begin_30 : decode prog_8_method_3_code 30 = .ok (.lstore_n 1, 1) := by decide +kernel
theorem d_Un_begin_31 : decode prog_8_method_3_code 31 = .ok (.aload_n 0, 1) := by decide +kernel
theorem d_Un_begin_32 : decode prog_8_method_3_code 32 = .ok (.lload_n 1, 1) := by decide +kernel
theorem d_Un_begin_33 : decode prog_8_method_3_code 33 = .ok (.lload_n 1, 1) := by decide +kernel
theorem d_Un_begin_34 : decode prog_8_method_3_code 34 = .ok (.invokevirtual 81, 3) := by decide +kernel
theorem d_Un_begin_37 : decode prog_8_method_3_code 37 = .ok (.return_, 1) := by decide +kernel
theorem d_Un_run_0 : decode prog_8_method_2_code 0 = .ok (.aload_n 0, 1) := by decide +kernel
theorem d_Un_run_1 : decode prog_8_method_2_code 1 = .ok (.invokevirtual 32, 3) := by decide +kernel
theorem d_Un_run_4 : decode prog_8_method_2_code 4 = .ok (.iconst 0, 1) := by decide +kernel
theorem d_Un_run_5 : decode prog_8_method_2_code 5 = .ok (.istore_n 1, 1) := by decide +kernel
theorem d_Un_run_6 : decode prog_8_method_2_code 6 = .ok (.iload_n 1, 1) := by decide +kernel
theorem d_Un_run_7 : decode prog_8_method_2_code 7 = .ok (.bipush 30, 2) := by decide +kernel
theorem d_Un_run_9 : decode prog_8_method_2_code 9 = .ok (.if_icmp .gt 87, 3) := by decide +kernel
theorem d_Un_run_12 : decode prog_8_method_2_code 12 = .ok (.aload_n 0, 1) := by decide +kernel
theorem d_Un_run_13 : decode prog_8_method_2_code 13 = .ok (.getfield 28, 3) := by decide +kernel
theorem d_Un_run_16 : decode prog_8_method_2_code 16 = .ok (.invokevirtual 35, 3) := by decide +kernel
theorem d_Un_run_19 : decode prog_8_method_2_code 19 = .ok (.ifCond .eq 6, 3) := by decide +kernel
theorem d_Un_run_22 : decode prog_8_method_2_code 22 = .ok (.bipush (-3), 2) := by decide +kernel
theorem d_Un_run_24 : decode prog_8_method_2_code 24 = .ok (.ireturn, 1) := by decide +kernel
theorem d_Un_run_25 : decode prog_8_method_2_code 25 = .ok (.aload_n 0, 1) := by decide +kernel
theorem d_Un_run_26 : decode prog_8_method_2_code 26 = .ok (.getfield 28, 3) := by decide +kernel
theorem d_Un_run_29 : decode prog_8_method_2_code 29 = .ok (.getfield 39, 3) := by decide +kernel
theorem d_Un_run_32 : decode prog_8_method_2_code 32 = .ok (.ifCond .ne 19, 3) := by decide +kernel
theorem d_Un_run_35 : decode prog_8_method_2_code 35 = .ok (.aload_n 0, 1) := by decide +kernel
theorem d_Un_run_36 : decode prog_8_method_2_code 36 = .ok (.getfield 15, 3) := by decide +kernel
theorem d_Un_run_39 : decode prog_8_method_2_code 39 = .ok (.iconst 1, 1) := by decide +kernel
theorem d_Un_run_40 : decode prog_8_method_2_code 40 = .ok (.putfield 43, 3) := by decide +kernel
theorem d_Un_run_43 : decode prog_8_method_2_code 43 = .ok (.aload_n 0, 1) := by decide +kernel
theorem d_Un_run_44 : decode prog_8_method_2_code 44 = .ok (.getfield 15, 3) := by decide +kernel
theorem d_Un_run_47 : decode prog_8_method_2_code 47 = .ok (.getfield 49, 3) := by decide +kernel
theorem d_Un_run_50 : decode prog_8_method_2_code 50 = .ok (.ireturn, 1) := by decide +kernel
theorem d_Un_run_51 : decode prog_8_method_2_code 51 = .ok (.aload_n 0, 1) := by decide +kernel
theorem d_Un_run_52 : decode prog_8_method_2_code 52 = .ok (.getfield 28, 3) := by decide +kernel
theorem d_Un_run_55 : decode prog_8_method_2_code 55 = .ok (.invokevirtual 52, 3) := by decide +kernel
theorem d_Un_run_58 : decode prog_8_method_2_code 58 = .ok (.istore_n 2, 1) := by decide +kernel
theorem d_Un_run_59 : decode prog_8_method_2_code 59 = .ok (.aload_n 0, 1) := by decide +kernel
theorem d_Un_run_60 : decode prog_8_method_2_code 60 = .ok (.iload_n 2, 1) := by decide +kernel
theorem d_Un_run_61 : decode prog_8_method_2_code 61 = .ok (.invokevirtual 56, 3) := by decide +kernel
theorem d_Un_run_64 : decode prog_8_method_2_code 64 = .ok (.istore_n 3, 1) := by decide +kernel
theorem d_Un_run_65 : decode prog_8_method_2_code 65 = .ok (.iload_n 3, 1) := by decide +kernel
theorem d_Un_run_66 : decode prog_8_method_2_code 66 = .ok (.iconst (-1), 1) := by decide +kernel
theorem d_Un_run_67 : decode prog_8_method_2_code 67 = .ok (.if_icmp .eq 12, 3) := by decide +kernel
theorem d_Un_run_70 : decode prog_8_method_2_code 70 = .ok (.aload_n 0, 1) := by decide +kernel
theorem d_Un_run_71 : decode prog_8_method_2_code 71 = .ok (.iload_n 2, 1) := by decide +kernel
theorem d_Un_run_72 : decode prog_8_method_2_code 72 = .ok (.iload_n 3, 1) := by decide +kernel
theorem d_Un_run_73 : decode prog_8_method_2_code 73 = .ok (.invokevirtual 60, 3) := by decide +kernel
theorem d_Un_run_76 : decode prog_8_method_2_code 76 = .ok (.bipush (-2), 2) := by decide +kernel
theorem d_Un_run_78 : decode prog_8_method_2_code 78 = .ok (.ireturn, 1) := by decide +kernel
theorem d_Un_run_79 : decode prog_8_method_2_code 79 = .ok (.aload_n 0, 1) := by decide +kernel
theorem d_Un_run_80 : decode prog_8_method_2_code 80 = .ok (.iload_n 2, 1) := by decide +kernel
theorem d_Un_run_81 : decode prog_8_method_2_code 81 = .ok (.invokevirtual 64, 3) := by decide +kernel
theorem d_Un_run_84 : decode prog_8_method_2_code 84 = .ok (.ifCond .ne 6, 3) := by decide +kernel
theorem d_Un_run_87 : decode prog_8_method_2_code 87 = .ok (.bipush (-3), 2) := by decide +kernel
theorem d_Un_run_89 : decode prog_8_method_2_code 89 = .ok (.ireturn, 1) := by decide +kernel
theorem d_Un_run_90 : decode prog_8_method_2_code 90 = .ok (.iinc 1 1, 3) := by decide +kernel
theorem d_Un_run_93 : decode prog_8_method_2_code 93 = .ok (.goto (-87), 3) := by decide +kernel
theorem d_Un_run_96 : decode prog_8_method_2_code 96 = .ok (.bipush (-3), 2) := by decide +kernel
theorem d_Un_run_98 : decode prog_8_method_2_code 98 = .ok (.ireturn, 1) := by decide +kernel
theorem d_NU_clear_0 : decode prog_1_method_4_code 0 = .ok (.aload_n 0, 1) := by decide +kernel
theorem d_NU_clear_1 : decode prog_1_method_4_code 1 = .ok (.invokevirtual 60, 3) := by decide +kernel
theorem d_NU_clear_4 : decode prog_1_method_4_code 4 = .ok (.aload_n 0, 1) := by decide +kernel
theorem d_NU_clear_5 : decode prog_1_method_4_code 5 = .ok (.getfield 10, 3) := by decide +kernel
theorem d_NU_clear_8 : decode prog_1_method_4_code 8 = .ok (.invokevirtual 70, 3) := by decide +kernel
theorem d_NU_clear_11 : decode prog_1_method_4_code 11 = .ok (.return_, 1) := by decide +kernel
theorem d_NU_unfold_0 : decode prog_1_method_5_code 0 = .ok (.aload_n 0, 1) := by decide +kernel
theorem d_NU_unfold_1 : decode prog_1_method_5_code 1 = .ok (.getfield 35, 3) := by decide +kernel
theorem d_NU_unfold_4 : decode prog_1_method_5_code 4 = .ok (.invokevirtual 73, 3) := by decide +kernel
theorem d_NU_unfold_7 : decode prog_1_method_5_code 7 = .ok (.istore_n 1, 1) := by decide +kernel
theorem d_NU_unfold_8 : decode prog_1_method_5_code 8 = .ok (.iload_n 1, 1) := by decide +kernel
theorem d_NU_unfold_9 : decode prog_1_method_5_code 9 = .ok (.bipush (-3), 2) := by decide +kernel
theorem d_NU_unfold_11 : decode prog_1_method_5_code 11 = .ok (.if_icmp .ne 7, 3) := by decide +kernel
theorem d_NU_unfold_14 : decode prog_1_method_5_code 14 = .ok (.aload_n 0, 1) := by decide +kernel
theorem d_NU_unfold_15 : decode prog_1_method_5_code 15 = .ok (.invokevirtual 60, 3) := by decide +kernel
theorem d_NU_unfold_18 : decode prog_1_method_5_code 18 = .ok (.iload_n 1, 1) := by decide +kernel
theorem d_NU_unfold_19 : decode prog_1_method_5_code 19 = .ok (.ireturn, 1) := by decide +kernel
theorem d_NU_transition_0 : decode prog_1_method_2_code 0 = .ok (.iload_n 1, 1) := by decide +kernel
theorem d_NU_transition_1 : decode prog_1_method_2_code 1 = .ok (.ifCond .eq 17, 3) := by decide +kernel
theorem d_NU_transition_4 : decode prog_1_method_2_code 4 = .ok (.iload_n 1, 1) := by decide +kernel
theorem d_NU_transition_5 : decode prog_1_method_2_code 5 = .ok (.invokestatic 46, 3) := by decide +kernel
theorem d_NU_transition_8 : decode prog_1_method_2_code 8 = .ok (.ifCond .eq 10, 3) := by decide +kernel
theorem d_NU_transition_11 : decode prog_1_method_2_code 11 = .ok (.iload_n 2, 1) := by decide +kernel
theorem d_NU_transition_12 : decode prog_1_method_2_code 12 = .ok (.invokestatic 46, 3) := by decide +kernel
theorem d_NU_transition_15 : decode prog_1_method_2_code 15 = .ok (.ifCond .ne 11, 3) := by decide +kernel
theorem d_NU_transition_18 : decode prog_1_method_2_code 18 = .ok (.new 50, 3) := by decide +kernel
theorem d_NU_transition_21 : decode prog_1_method_2_code 21 = .ok (.dup, 1) := by decide +kernel
theorem d_NU_transition_22 : decode prog_1_method_2_code 22 = .ok (.invokespecial 52, 3) := by decide +kernel
theorem d_NU_transition_25 : decode prog_1_method_2_code 25 = .ok (.athrow, 1) := by decide +kernel
theorem d_NU_transition_26 : decode prog_1_method_2_code 26 = .ok (.aload_n 0, 1) := by decide +kernel
theorem d_NU_transition_27 : decode prog_1_method_2_code 27 = .ok (.getfield 10, 3) := by decide +kernel
theorem d_NU_transition_30 : decode prog_1_method_2_code 30 = .ok (.getfield 53, 3) := by decide +kernel
theorem d_NU_transition_33 : decode prog_1_method_2_code 33 = .ok (.bipush 8, 2) := by decide +kernel
theorem d_NU_transition_35 : decode prog_1_method_2_code 35 = .ok (.if_icmp .lt 11, 3) := by decide +kernel
theorem d_NU_transition_38 : decode prog_1_method_2_code 38 = .ok (.new 57, 3) := by decide +kernel
theorem d_NU_transition_41 : decode prog_1_method_2_code 41 = .ok (.dup, 1) := by decide +kernel
theorem d_NU_transition_42 : decode prog_1_method_2_code 42 = .ok (.invokespecial 59, 3) := by decide +kernel
theorem d_NU_transition_45 : decode prog_1_method_2_code 45 = .ok (.athrow, 1) := by decide +kernel
theorem d_NU_transition_46 : decode prog_1_method_2_code 46 = .ok (.aload_n 0, 1) := by decide +kernel
theorem d_NU_transition_47 : decode prog_1_method_2_code 47 = .ok (.invokevirtual 60, 3) := by decide +kernel
theorem d_NU_transition_50 : decode prog_1_method_2_code 50 = .ok (.aload_n 0, 1) := by decide +kernel
theorem d_NU_transition_51 : decode prog_1_method_2_code 51 = .ok (.getfield 10, 3) := by decide +kernel
theorem d_NU_transition_54 : decode prog_1_method_2_code 54 = .ok (.iload_n 1, 1) := by decide +kernel
theorem d_NU_transition_55 : decode prog_1_method_2_code 55 = .ok (.iload_n 2, 1) := by decide +kernel
theorem d_NU_transition_56 : decode prog_1_method_2_code 56 = .ok (.invokevirtual 63, 3) := by decide +kernel
theorem d_NU_transition_59 : decode prog_1_method_2_code 59 = .ok (.ireturn, 1) := by decide +kernel
theorem d_NU_first_0 : decode prog_1_method_3_code 0 = .ok (.iload_n 1, 1) := by decide +kernel
theorem d_NU_first_1 : decode prog_1_method_3_code 1 = .ok (.invokestatic 46, 3) := by decide +kernel
theorem d_NU_first_4 : decode prog_1_method_3_code 4 = .ok (.ifCond .ne 11, 3) := by decide +kernel
theorem d_NU_first_7 : decode prog_1_method_3_code 7 = .ok (.new 50, 3) := by decide +kernel
theorem d_NU_first_10 : decode prog_1_method_3_code 10 = .ok (.dup, 1) := by decide +kernel
theorem d_NU_first_11 : decode prog_1_method_3_code 11 = .ok (.invokespecial 52, 3) := by decide +kernel
theorem d_NU_first_14 : decode prog_1_method_3_code 14 = .ok (.athrow, 1) := by decide +kernel
theorem d_NU_first_15 : decode prog_1_method_3_code 15 = .ok (.aload_n 0, 1) := by decide +kernel
theorem d_NU_first_16 : decode prog_1_method_3_code 16 = .ok (.invokevirtual 60, 3) := by decide +kernel
theorem d_NU_first_19 : decode prog_1_method_3_code 19 = .ok (.aload_n 0, 1) := by decide +kernel
theorem d_NU_first_20 : decode prog_1_method_3_code 20 = .ok (.getfield 10, 3) := by decide +kernel
theorem d_NU_first_23 : decode prog_1_method_3_code 23 = .ok (.iload_n 1, 1) := by decide +kernel
theorem d_NU_first_24 : decode prog_1_method_3_code 24 = .ok (.putfield 67, 3) := by decide +kernel
theorem d_NU_first_27 : decode prog_1_method_3_code 27 = .ok (.return_, 1) := by decide +kernel
theorem d_Wa_step_0 : decode prog_9_method_5_code 0 = .ok (.iload_n 1, 1) := by decide +kernel
theorem d_Wa_step_1 : decode prog_9_method_5_code 1 = .ok (.ifCond .lt 20, 3) := by decide +kernel
theorem d_Wa_step_4 : decode prog_9_method_5_code 4 = .ok (.iload_n 1, 1) := by decide +kernel
theorem d_Wa_step_5 : decode prog_9_method_5_code 5 = .ok (.aload_n 0, 1) := by decide +kernel
theorem d_Wa_step_6 : decode prog_9_method_5_code 6 = .ok (.getfield 15, 3) := by decide +kernel
theorem d_Wa_step_9 : decode prog_9_method_5_code 9 = .ok (.if_icmp .ge 12, 3) := by decide +kernel
theorem d_Wa_step_12 : decode prog_9_method_5_code 12 = .ok (.aload_n 0, 1) := by decide +kernel
theorem d_Wa_step_13 : decode prog_9_method_5_code 13 = .ok (.getfield 9, 3) := by decide +kernel
theorem d_Wa_step_16 : decode prog_9_method_5_code 16 = .ok (.iload_n 1, 1) := by decide +kernel
theorem d_Wa_step_17 : decode prog_9_method_5_code 17 = .ok (.iaload, 1) := by decide +kernel
theorem d_Wa_step_18 : decode prog_9_method_5_code 18 = .ok (.goto 4, 3) := by decide +kernel
theorem d_Wa_step_21 : decode prog_9_method_5_code 21 = .ok (.iconst (-1), 1) := by decide +kernel
theorem d_Wa_step_22 : decode prog_9_method_5_code 22 = .ok (.ireturn, 1) := by decide +kernel
theorem d_NU_way_0 : decode prog_1_method_8_code 0 = .ok (.aload_n 0, 1) := by decide +kernel
theorem d_NU_way_1 : decode prog_1_method_8_code 1 = .ok (.getfield 26, 3) := by decide +kernel
theorem d_NU_way_4 : decode prog_1_method_8_code 4 = .ok (.iload_n 1, 1) := by decide +kernel
theorem d_NU_way_5 : decode prog_1_method_8_code 5 = .ok (.invokevirtual 88, 3) := by decide +kernel
theorem d_NU_way_8 : decode prog_1_method_8_code 8 = .ok (.ireturn, 1) := by decide +kernel
theorem d_NU_count_0 : decode prog_1_method_10_code 0 = .ok (.iload_n 1, 1) := by decide +kernel
theorem d_NU_count_1 : decode prog_1_method_10_code 1 = .ok (.tableswitch 66 0 3 #[31, 39, 47, 58], 31) := by decide +kernel
theorem d_NU_count_32 : decode prog_1_method_10_code 32 = .ok (.aload_n 0, 1) := by decide +kernel
theorem d_NU_count_33 : decode prog_1_method_10_code 33 = .ok (.getfield 19, 3) := by decide +kernel
theorem d_NU_count_36 : decode prog_1_method_10_code 36 = .ok (.getfield 101, 3) := by decide +kernel
theorem d_NU_count_39 : decode prog_1_method_10_code 39 = .ok (.ireturn, 1) := by decide +kernel
theorem d_NU_count_40 : decode prog_1_method_10_code 40 = .ok (.aload_n 0, 1) := by decide +kernel
theorem d_NU_count_41 : decode prog_1_method_10_code 41 = .ok (.getfield 19, 3) := by decide +kernel
theorem d_NU_count_44 : decode prog_1_method_10_code 44 = .ok (.getfield 104, 3) := by decide +kernel
theorem d_NU_count_47 : decode prog_1_method_10_code 47 = .ok (.ireturn, 1) := by decide +kernel
theorem d_NU_count_48 : decode prog_1_method_10_code 48 = .ok (.aload_n 0, 1) := by decide +kernel
theorem d_NU_count_49 : decode prog_1_method_10_code 49 = .ok (.getfield 19, 3) := by decide +kernel
theorem d_NU_count_52 : decode prog_1_method_10_code 52 = .ok (.getfield 107, 3) := by decide +kernel
theorem d_NU_count_55 : decode prog_1_method_10_code 55 = .ok (.invokestatic 110, 3) := by decide +kernel
theorem d_NU_count_58 : decode prog_1_method_10_code 58 = .ok (.ireturn, 1) := by decide +kernel
theorem d_NU_count_59 : decode prog_1_method_10_code 59 = .ok (.aload_n 0, 1) := by decide +kernel
theorem d_NU_count_60 : decode prog_1_method_10_code 60 = .ok (.getfield 26, 3) := by decide +kernel
theorem d_NU_count_63 : decode prog_1_method_10_code 63 = .ok (.getfield 91, 3) := by decide +kernel
theorem d_NU_count_66 : decode prog_1_method_10_code 66 = .ok (.ireturn, 1) := by decide +kernel
theorem d_NU_count_67 : decode prog_1_method_10_code 67 = .ok (.iconst (-1), 1) := by decide +kernel
theorem d_NU_count_68 : decode prog_1_method_10_code 68 = .ok (.ireturn, 1) := by decide +kernel
theorem d_NU_event_0 : decode prog_1_method_11_code 0 = .ok (.iload_n 1, 1) := by decide +kernel
theorem d_NU_event_1 : decode prog_1_method_11_code 1 = .ok (.ifCond .lt 14, 3) := by decide +kernel
theorem d_NU_event_4 : decode prog_1_method_11_code 4 = .ok (.iload_n 1, 1) := by decide +kernel
theorem d_NU_event_5 : decode prog_1_method_11_code 5 = .ok (.aload_n 0, 1) := by decide +kernel
theorem d_NU_event_6 : decode prog_1_method_11_code 6 = .ok (.getfield 19, 3) := by decide +kernel
theorem d_NU_event_9 : decode prog_1_method_11_code 9 = .ok (.getfield 101, 3) := by decide +kernel
theorem d_NU_event_12 : decode prog_1_method_11_code 12 = .ok (.if_icmp .lt 5, 3) := by decide +kernel
theorem d_NU_event_15 : decode prog_1_method_11_code 15 = .ok (.iconst (-1), 1) := by decide +kernel
theorem d_NU_event_16 : decode prog_1_method_11_code 16 = .ok (.ireturn, 1) := by decide +kernel
theorem d_NU_event_17 : decode prog_1_method_11_code 17 = .ok (.iload_n 2, 1) := by decide +kernel
theorem d_NU_event_18 : decode prog_1_method_11_code 18 = .ok (.tableswitch 80 0 3 #[30, 40, 53, 63], 30) := by decide +kernel
theorem d_NU_event_48 : decode prog_1_method_11_code 48 = .ok (.aload_n 0, 1) := by decide +kernel
theorem d_NU_event_49 : decode prog_1_method_11_code 49 = .ok (.getfield 19, 3) := by decide +kernel
theorem d_NU_event_52 : decode prog_1_method_11_code 52 = .ok (.getfield 115, 3) := by decide +kernel
theorem d_NU_event_55 : decode prog_1_method_11_code 55 = .ok (.iload_n 1, 1) := by decide +kernel
theorem d_NU_event_56 : decode prog_1_method_11_code 56 = .ok (.iaload, 1) := by decide +kernel
theorem d_NU_event_57 : decode prog_1_method_11_code 57 = .ok (.ireturn, 1) := by decide +kernel
theorem d_NU_event_58 : decode prog_1_method_11_code 58 = .ok (.aload_n 0, 1) := by decide +kernel
theorem d_NU_event_59 : decode prog_1_method_11_code 59 = .ok (.getfield 19, 3) := by decide +kernel
theorem d_NU_event_62 : decode prog_1_method_11_code 62 = .ok (.getfield 119, 3) := by decide +kernel
theorem d_NU_event_65 : decode prog_1_method_11_code 65 = .ok (.iload_n 1, 1) := by decide +kernel
theorem d_NU_event_66 : decode prog_1_method_11_code 66 = .ok (.iaload, 1) := by decide +kernel
theorem d_NU_event_67 : decode prog_1_method_11_code 67 = .ok (.invokestatic 110, 3) := by decide +kernel
theorem d_NU_event_70 : decode prog_1_method_11_code 70 = .ok (.ireturn, 1) := by decide +kernel
theorem d_NU_event_71 : decode prog_1_method_11_code 71 = .ok (.aload_n 0, 1) := by decide +kernel
theorem d_NU_event_72 : decode prog_1_method_11_code 72 = .ok (.getfield 19, 3) := by decide +kernel
theorem d_NU_event_75 : decode prog_1_method_11_code 75 = .ok (.getfield 122, 3) := by decide +kernel
theorem d_NU_event_78 : decode prog_1_method_11_code 78 = .ok (.iload_n 1, 1) := by decide +kernel
theorem d_NU_event_79 : decode prog_1_method_11_code 79 = .ok (.iaload, 1) := by decide +kernel
theorem d_NU_event_80 : decode prog_1_method_11_code 80 = .ok (.ireturn, 1) := by decide +kernel
theorem d_NU_event_81 : decode prog_1_method_11_code 81 = .ok (.aload_n 0, 1) := by decide +kernel
theorem d_NU_event_82 : decode prog_1_method_11_code 82 = .ok (.getfield 19, 3) := by decide +kernel
theorem d_NU_event_85 : decode prog_1_method_11_code 85 = .ok (.iload_n 1, 1) := by decide +kernel
theorem d_NU_event_86 : decode prog_1_method_11_code 86 = .ok (.invokevirtual 125, 3) := by decide +kernel
theorem d_NU_event_89 : decode prog_1_method_11_code 89 = .ok (.ifCond .eq 7, 3) := by decide +kernel
theorem d_NU_event_92 : decode prog_1_method_11_code 92 = .ok (.iconst 1, 1) := by decide +kernel
theorem d_NU_event_93 : decode prog_1_method_11_code 93 = .ok (.goto 4, 3) := by decide +kernel
theorem d_NU_event_96 : decode prog_1_method_11_code 96 = .ok (.iconst 0, 1) := by decide +kernel
theorem d_NU_event_97 : decode prog_1_method_11_code 97 = .ok (.ireturn, 1) := by decide +kernel
theorem d_NU_event_98 : decode prog_1_method_11_code 98 = .ok (.iconst (-1), 1) := by decide +kernel
theorem d_NU_event_99 : decode prog_1_method_11_code 99 = .ok (.ireturn, 1) := by decide +kernel
theorem d_NU_takes_0 : decode prog_1_method_12_code 0 = .ok (.iload_n 1, 1) := by decide +kernel
theorem d_NU_takes_1 : decode prog_1_method_12_code 1 = .ok (.ifCond .lt 14, 3) := by decide +kernel
theorem d_NU_takes_4 : decode prog_1_method_12_code 4 = .ok (.iload_n 1, 1) := by decide +kernel
theorem d_NU_takes_5 : decode prog_1_method_12_code 5 = .ok (.aload_n 0, 1) := by decide +kernel
theorem d_NU_takes_6 : decode prog_1_method_12_code 6 = .ok (.getfield 19, 3) := by decide +kernel
theorem d_NU_takes_9 : decode prog_1_method_12_code 9 = .ok (.getfield 101, 3) := by decide +kernel
theorem d_NU_takes_12 : decode prog_1_method_12_code 12 = .ok (.if_icmp .lt 5, 3) := by decide +kernel
theorem d_NU_takes_15 : decode prog_1_method_12_code 15 = .ok (.iconst (-1), 1) := by decide +kernel
theorem d_NU_takes_16 : decode prog_1_method_12_code 16 = .ok (.ireturn, 1) := by decide +kernel
theorem d_NU_takes_17 : decode prog_1_method_12_code 17 = .ok (.aload_n 0, 1) := by decide +kernel
theorem d_NU_takes_18 : decode prog_1_method_12_code 18 = .ok (.getfield 19, 3) := by decide +kernel
theorem d_NU_takes_21 : decode prog_1_method_12_code 21 = .ok (.iload_n 1, 1) := by decide +kernel
theorem d_NU_takes_22 : decode prog_1_method_12_code 22 = .ok (.iload_n 2, 1) := by decide +kernel
theorem d_NU_takes_23 : decode prog_1_method_12_code 23 = .ok (.invokevirtual 128, 3) := by decide +kernel
theorem d_NU_takes_26 : decode prog_1_method_12_code 26 = .ok (.ireturn, 1) := by decide +kernel
theorem d_NU_condition_0 : decode prog_1_method_13_code 0 = .ok (.iload_n 1, 1) := by decide +kernel
theorem d_NU_condition_1 : decode prog_1_method_13_code 1 = .ok (.ifCond .lt 14, 3) := by decide +kernel
theorem d_NU_condition_4 : decode prog_1_method_13_code 4 = .ok (.iload_n 1, 1) := by decide +kernel
theorem d_NU_condition_5 : decode prog_1_method_13_code 5 = .ok (.aload_n 0, 1) := by decide +kernel
theorem d_NU_condition_6 : decode prog_1_method_13_code 6 = .ok (.getfield 19, 3) := by decide +kernel
theorem d_NU_condition_9 : decode prog_1_method_13_code 9 = .ok (.getfield 104, 3) := by decide +kernel
theorem d_NU_condition_12 : decode prog_1_method_13_code 12 = .ok (.if_icmp .lt 5, 3) := by decide +kernel
theorem d_NU_condition_15 : decode prog_1_method_13_code 15 = .ok (.iconst (-1), 1) := by decide +kernel
theorem d_NU_condition_16 : decode prog_1_method_13_code 16 = .ok (.ireturn, 1) := by decide +kernel
theorem d_NU_condition_17 : decode prog_1_method_13_code 17 = .ok (.iload_n 2, 1) := by decide +kernel
theorem d_NU_condition_18 : decode prog_1_method_13_code 18 = .ok (.tableswitch 59 0 2 #[26, 36, 46], 26) := by decide +kernel
theorem d_NU_condition_44 : decode prog_1_method_13_code 44 = .ok (.aload_n 0, 1) := by decide +kernel
theorem d_NU_condition_45 : decode prog_1_method_13_code 45 = .ok (.getfield 19, 3) := by decide +kernel
theorem d_NU_condition_48 : decode prog_1_method_13_code 48 = .ok (.getfield 131, 3) := by decide +kernel
theorem d_NU_condition_51 : decode prog_1_method_13_code 51 = .ok (.iload_n 1, 1) := by decide +kernel
theorem d_NU_condition_52 : decode prog_1_method_13_code 52 = .ok (.iaload, 1) := by decide +kernel
theorem d_NU_condition_53 : decode prog_1_method_13_code 53 = .ok (.ireturn, 1) := by decide +kernel
theorem d_NU_condition_54 : decode prog_1_method_13_code 54 = .ok (.aload_n 0, 1) := by decide +kernel
theorem d_NU_condition_55 : decode prog_1_method_13_code 55 = .ok (.getfield 19, 3) := by decide +kernel
theorem d_NU_condition_58 : decode prog_1_method_13_code 58 = .ok (.getfield 134, 3) := by decide +kernel
theorem d_NU_condition_61 : decode prog_1_method_13_code 61 = .ok (.iload_n 1, 1) := by decide +kernel
theorem d_NU_condition_62 : decode prog_1_method_13_code 62 = .ok (.iaload, 1) := by decide +kernel
theorem d_NU_condition_63 : decode prog_1_method_13_code 63 = .ok (.ireturn, 1) := by decide +kernel
