theorem d_Mo_unfold_105 : decode prog_11_method_29_code 105 = .ok (.invokevirtual 125, 3) := by decide +kernel
theorem d_Mo_unfold_108 : decode prog_11_method_29_code 108 = .ok (.aload_n 0, 1) := by decide +kernel
theorem d_Mo_unfold_109 : decode prog_11_method_29_code 109 = .ok (.getfield 22, 3) := by decide +kernel
theorem d_Mo_unfold_112 : decode prog_11_method_29_code 112 = .ok (.iload_n 2, 1) := by decide +kernel
theorem d_Mo_unfold_113 : decode prog_11_method_29_code 113 = .ok (.iaload, 1) := by decide +kernel
theorem d_Mo_unfold_114 : decode prog_11_method_29_code 114 = .ok (.iconst (-1), 1) := by decide +kernel
theorem d_Mo_unfold_115 : decode prog_11_method_29_code 115 = .ok (.ixor, 1) := by decide +kernel
theorem d_Mo_unfold_116 : decode prog_11_method_29_code 116 = .ok (.iand, 1) := by decide +kernel
theorem d_Mo_unfold_117 : decode prog_11_method_29_code 117 = .ok (.i2l, 1) := by decide +kernel
theorem d_Mo_unfold_118 : decode prog_11_method_29_code 118 = .ok (.invokevirtual 181, 3) := by decide +kernel
theorem d_Mo_unfold_121 : decode prog_11_method_29_code 121 = .ok (.aload_n 0, 1) := by decide +kernel
theorem d_Mo_unfold_122 : decode prog_11_method_29_code 122 = .ok (.getfield 60, 3) := by decide +kernel
theorem d_Mo_unfold_125 : decode prog_11_method_29_code 125 = .ok (.aload_n 0, 1) := by decide +kernel
theorem d_Mo_unfold_126 : decode prog_11_method_29_code 126 = .ok (.getfield 63, 3) := by decide +kernel
theorem d_Mo_unfold_129 : decode prog_11_method_29_code 129 = .ok (.aload_n 0, 1) := by decide +kernel
theorem d_Mo_unfold_130 : decode prog_11_method_29_code 130 = .ok (.getfield 137, 3) := by decide +kernel
theorem d_Mo_unfold_133 : decode prog_11_method_29_code 133 = .ok (.iastore, 1) := by decide +kernel
theorem d_Mo_unfold_134 : decode prog_11_method_29_code 134 = .ok (.aload_n 0, 1) := by decide +kernel
theorem d_Mo_unfold_135 : decode prog_11_method_29_code 135 = .ok (.dup, 1) := by decide +kernel
theorem d_Mo_unfold_136 : decode prog_11_method_29_code 136 = .ok (.getfield 63, 3) := by decide +kernel
theorem d_Mo_unfold_139 : decode prog_11_method_29_code 139 = .ok (.iconst 1, 1) := by decide +kernel
theorem d_Mo_unfold_140 : decode prog_11_method_29_code 140 = .ok (.iadd, 1) := by decide +kernel
theorem d_Mo_unfold_141 : decode prog_11_method_29_code 141 = .ok (.putfield 63, 3) := by decide +kernel
theorem d_Mo_unfold_144 : decode prog_11_method_29_code 144 = .ok (.bipush (-2), 2) := by decide +kernel
theorem d_Mo_unfold_146 : decode prog_11_method_29_code 146 = .ok (.ireturn, 1) := by decide +kernel
theorem d_Mo_unfold_147 : decode prog_11_method_29_code 147 = .ok (.aload_n 0, 1) := by decide +kernel
theorem d_Mo_unfold_148 : decode prog_11_method_29_code 148 = .ok (.invokevirtual 185, 3) := by decide +kernel
theorem d_Mo_unfold_151 : decode prog_11_method_29_code 151 = .ok (.istore_n 1, 1) := by decide +kernel
theorem d_Mo_unfold_152 : decode prog_11_method_29_code 152 = .ok (.aload_n 0, 1) := by decide +kernel
theorem d_Mo_unfold_153 : decode prog_11_method_29_code 153 = .ok (.invokevirtual 174, 3) := by decide +kernel
theorem d_Mo_unfold_156 : decode prog_11_method_29_code 156 = .ok (.iload_n 1, 1) := by decide +kernel
theorem d_Mo_unfold_157 : decode prog_11_method_29_code 157 = .ok (.ifCond .eq 17, 3) := by decide +kernel
theorem d_Mo_unfold_160 : decode prog_11_method_29_code 160 = .ok (.aload_n 0, 1) := by decide +kernel
theorem d_Mo_unfold_161 : decode prog_11_method_29_code 161 = .ok (.getfield 122, 3) := by decide +kernel
theorem d_Mo_unfold_164 : decode prog_11_method_29_code 164 = .ok (.sipush 200, 3) := by decide +kernel
theorem d_Mo_unfold_167 : decode prog_11_method_29_code 167 = .ok (.if_icmp .gt 7, 3) := by decide +kernel
theorem d_Mo_unfold_170 : decode prog_11_method_29_code 170 = .ok (.iconst 1, 1) := by decide +kernel
theorem d_Mo_unfold_171 : decode prog_11_method_29_code 171 = .ok (.goto 4, 3) := by decide +kernel
theorem d_Mo_unfold_174 : decode prog_11_method_29_code 174 = .ok (.iconst 0, 1) := by decide +kernel
theorem d_Mo_unfold_175 : decode prog_11_method_29_code 175 = .ok (.istore_n 1, 1) := by decide +kernel
theorem d_Mo_unfold_176 : decode prog_11_method_29_code 176 = .ok (.goto (-114), 3) := by decide +kernel
theorem d_Mo_unfold_179 : decode prog_11_method_29_code 179 = .ok (.iload_n 1, 1) := by decide +kernel
theorem d_Mo_unfold_180 : decode prog_11_method_29_code 180 = .ok (.ifCond .ne 10, 3) := by decide +kernel
theorem d_Mo_unfold_183 : decode prog_11_method_29_code 183 = .ok (.aload_n 0, 1) := by decide +kernel
theorem d_Mo_unfold_184 : decode prog_11_method_29_code 184 = .ok (.invokevirtual 87, 3) := by decide +kernel
theorem d_Mo_unfold_187 : decode prog_11_method_29_code 187 = .ok (.bipush (-3), 2) := by decide +kernel
theorem d_Mo_unfold_189 : decode prog_11_method_29_code 189 = .ok (.ireturn, 1) := by decide +kernel
theorem d_Mo_unfold_190 : decode prog_11_method_29_code 190 = .ok (.aload_n 0, 1) := by decide +kernel
theorem d_Mo_unfold_191 : decode prog_11_method_29_code 191 = .ok (.iconst 1, 1) := by decide +kernel
theorem d_Mo_unfold_192 : decode prog_11_method_29_code 192 = .ok (.putfield 76, 3) := by decide +kernel
theorem d_Mo_unfold_195 : decode prog_11_method_29_code 195 = .ok (.aload_n 0, 1) := by decide +kernel
theorem d_Mo_unfold_196 : decode prog_11_method_29_code 196 = .ok (.getfield 70, 3) := by decide +kernel
theorem d_Mo_unfold_199 : decode prog_11_method_29_code 199 = .ok (.ireturn, 1) := by decide +kernel
theorem d_Mo_way_0 : decode prog_11_method_35_code 0 = .ok (.aload_n 0, 1) := by decide +kernel
theorem d_Mo_way_1 : decode prog_11_method_35_code 1 = .ok (.iconst 0, 1) := by decide +kernel
theorem d_Mo_way_2 : decode prog_11_method_35_code 2 = .ok (.putfield 67, 3) := by decide +kernel
theorem d_Mo_way_5 : decode prog_11_method_35_code 5 = .ok (.iload_n 1, 1) := by decide +kernel
theorem d_Mo_way_6 : decode prog_11_method_35_code 6 = .ok (.iconst 0, 1) := by decide +kernel
theorem d_Mo_way_7 : decode prog_11_method_35_code 7 = .ok (.aload_n 0, 1) := by decide +kernel
theorem d_Mo_way_8 : decode prog_11_method_35_code 8 = .ok (.getfield 63, 3) := by decide +kernel
theorem d_Mo_way_11 : decode prog_11_method_35_code 11 = .ok (.iconst 1, 1) := by decide +kernel
theorem d_Mo_way_12 : decode prog_11_method_35_code 12 = .ok (.isub, 1) := by decide +kernel
theorem d_Mo_way_13 : decode prog_11_method_35_code 13 = .ok (.invokestatic 80, 3) := by decide +kernel
theorem d_Mo_way_16 : decode prog_11_method_35_code 16 = .ok (.ifCond .eq 7, 3) := by decide +kernel
theorem d_Mo_way_19 : decode prog_11_method_35_code 19 = .ok (.iconst (-1), 1) := by decide +kernel
theorem d_Mo_way_20 : decode prog_11_method_35_code 20 = .ok (.goto 9, 3) := by decide +kernel
theorem d_Mo_way_23 : decode prog_11_method_35_code 23 = .ok (.aload_n 0, 1) := by decide +kernel
theorem d_Mo_way_24 : decode prog_11_method_35_code 24 = .ok (.getfield 60, 3) := by decide +kernel
theorem d_Mo_way_27 : decode prog_11_method_35_code 27 = .ok (.iload_n 1, 1) := by decide +kernel
theorem d_Mo_way_28 : decode prog_11_method_35_code 28 = .ok (.iaload, 1) := by decide +kernel
theorem d_Mo_way_29 : decode prog_11_method_35_code 29 = .ok (.ireturn, 1) := by decide +kernel
theorem d_Ig_bitCount_0 : decode prog_15_method_49_code 0 = .ok (.iload_n 0, 1) := by decide +kernel
theorem d_Ig_bitCount_1 : decode prog_15_method_49_code 1 = .ok (.iload_n 0, 1) := by decide +kernel
theorem d_Ig_bitCount_2 : decode prog_15_method_49_code 2 = .ok (.iconst 1, 1) := by decide +kernel
theorem d_Ig_bitCount_3 : decode prog_15_method_49_code 3 = .ok (.iushr, 1) := by decide +kernel
theorem d_Ig_bitCount_4 : decode prog_15_method_49_code 4 = .ok (.ldc_w 265, 3) := by decide +kernel
theorem d_Ig_bitCount_7 : decode prog_15_method_49_code 7 = .ok (.iand, 1) := by decide +kernel
theorem d_Ig_bitCount_8 : decode prog_15_method_49_code 8 = .ok (.isub, 1) := by decide +kernel
theorem d_Ig_bitCount_9 : decode prog_15_method_49_code 9 = .ok (.istore_n 0, 1) := by decide +kernel
theorem d_Ig_bitCount_10 : decode prog_15_method_49_code 10 = .ok (.iload_n 0, 1) := by decide +kernel
theorem d_Ig_bitCount_11 : decode prog_15_method_49_code 11 = .ok (.ldc_w 266, 3) := by decide +kernel
theorem d_Ig_bitCount_14 : decode prog_15_method_49_code 14 = .ok (.iand, 1) := by decide +kernel
theorem d_Ig_bitCount_15 : decode prog_15_method_49_code 15 = .ok (.iload_n 0, 1) := by decide +kernel
theorem d_Ig_bitCount_16 : decode prog_15_method_49_code 16 = .ok (.iconst 2, 1) := by decide +kernel
theorem d_Ig_bitCount_17 : decode prog_15_method_49_code 17 = .ok (.iushr, 1) := by decide +kernel
theorem d_Ig_bitCount_18 : decode prog_15_method_49_code 18 = .ok (.ldc_w 266, 3) := by decide +kernel
theorem d_Ig_bitCount_21 : decode prog_15_method_49_code 21 = .ok (.iand, 1) := by decide +kernel
theorem d_Ig_bitCount_22 : decode prog_15_method_49_code 22 = .ok (.iadd, 1) := by decide +kernel
theorem d_Ig_bitCount_23 : decode prog_15_method_49_code 23 = .ok (.istore_n 0, 1) := by decide +kernel
theorem d_Ig_bitCount_24 : decode prog_15_method_49_code 24 = .ok (.iload_n 0, 1) := by decide +kernel
theorem d_Ig_bitCount_25 : decode prog_15_method_49_code 25 = .ok (.iload_n 0, 1) := by decide +kernel
theorem d_Ig_bitCount_26 : decode prog_15_method_49_code 26 = .ok (.iconst 4, 1) := by decide +kernel
theorem d_Ig_bitCount_27 : decode prog_15_method_49_code 27 = .ok (.iushr, 1) := by decide +kernel
theorem d_Ig_bitCount_28 : decode prog_15_method_49_code 28 = .ok (.iadd, 1) := by decide +kernel
theorem d_Ig_bitCount_29 : decode prog_15_method_49_code 29 = .ok (.ldc_w 267, 3) := by decide +kernel
theorem d_Ig_bitCount_32 : decode prog_15_method_49_code 32 = .ok (.iand, 1) := by decide +kernel
theorem d_Ig_bitCount_33 : decode prog_15_method_49_code 33 = .ok (.istore_n 0, 1) := by decide +kernel
theorem d_Ig_bitCount_34 : decode prog_15_method_49_code 34 = .ok (.iload_n 0, 1) := by decide +kernel
theorem d_Ig_bitCount_35 : decode prog_15_method_49_code 35 = .ok (.iload_n 0, 1) := by decide +kernel
theorem d_Ig_bitCount_36 : decode prog_15_method_49_code 36 = .ok (.bipush 8, 2) := by decide +kernel
theorem d_Ig_bitCount_38 : decode prog_15_method_49_code 38 = .ok (.iushr, 1) := by decide +kernel
theorem d_Ig_bitCount_39 : decode prog_15_method_49_code 39 = .ok (.iadd, 1) := by decide +kernel
theorem d_Ig_bitCount_40 : decode prog_15_method_49_code 40 = .ok (.istore_n 0, 1) := by decide +kernel
theorem d_Ig_bitCount_41 : decode prog_15_method_49_code 41 = .ok (.iload_n 0, 1) := by decide +kernel
theorem d_Ig_bitCount_42 : decode prog_15_method_49_code 42 = .ok (.iload_n 0, 1) := by decide +kernel
theorem d_Ig_bitCount_43 : decode prog_15_method_49_code 43 = .ok (.bipush 16, 2) := by decide +kernel
theorem d_Ig_bitCount_45 : decode prog_15_method_49_code 45 = .ok (.iushr, 1) := by decide +kernel
theorem d_Ig_bitCount_46 : decode prog_15_method_49_code 46 = .ok (.iadd, 1) := by decide +kernel
theorem d_Ig_bitCount_47 : decode prog_15_method_49_code 47 = .ok (.istore_n 0, 1) := by decide +kernel
theorem d_Ig_bitCount_48 : decode prog_15_method_49_code 48 = .ok (.iload_n 0, 1) := by decide +kernel
theorem d_Ig_bitCount_49 : decode prog_15_method_49_code 49 = .ok (.bipush 63, 2) := by decide +kernel
theorem d_Ig_bitCount_51 : decode prog_15_method_49_code 51 = .ok (.iand, 1) := by decide +kernel
theorem d_Ig_bitCount_52 : decode prog_15_method_49_code 52 = .ok (.ireturn, 1) := by decide +kernel
theorem d_Lo_bitCount_0 : decode prog_16_method_50_code 0 = .ok (.lload_n 0, 1) := by decide +kernel
theorem d_Lo_bitCount_1 : decode prog_16_method_50_code 1 = .ok (.lload_n 0, 1) := by decide +kernel
theorem d_Lo_bitCount_2 : decode prog_16_method_50_code 2 = .ok (.iconst 1, 1) := by decide +kernel
theorem d_Lo_bitCount_3 : decode prog_16_method_50_code 3 = .ok (.lushr, 1) := by decide +kernel
theorem d_Lo_bitCount_4 : decode prog_16_method_50_code 4 = .ok (.ldc2_w 314, 3) := by decide +kernel
theorem d_Lo_bitCount_7 : decode prog_16_method_50_code 7 = .ok (.land, 1) := by decide +kernel
theorem d_Lo_bitCount_8 : decode prog_16_method_50_code 8 = .ok (.lsub, 1) := by decide +kernel
theorem d_Lo_bitCount_9 : decode prog_16_method_50_code 9 = .ok (.lstore_n 0, 1) := by decide +kernel
theorem d_Lo_bitCount_10 : decode prog_16_method_50_code 10 = .ok (.lload_n 0, 1) := by decide +kernel
theorem d_Lo_bitCount_11 : decode prog_16_method_50_code 11 = .ok (.ldc2_w 316, 3) := by decide +kernel
theorem d_Lo_bitCount_14 : decode prog_16_method_50_code 14 = .ok (.land, 1) := by decide +kernel
theorem d_Lo_bitCount_15 : decode prog_16_method_50_code 15 = .ok (.lload_n 0, 1) := by decide +kernel
theorem d_Lo_bitCount_16 : decode prog_16_method_50_code 16 = .ok (.iconst 2, 1) := by decide +kernel
theorem d_Lo_bitCount_17 : decode prog_16_method_50_code 17 = .ok (.lushr, 1) := by decide +kernel
theorem d_Lo_bitCount_18 : decode prog_16_method_50_code 18 = .ok (.ldc2_w 316, 3) := by decide +kernel
theorem d_Lo_bitCount_21 : decode prog_16_method_50_code 21 = .ok (.land, 1) := by decide +kernel
theorem d_Lo_bitCount_22 : decode prog_16_method_50_code 22 = .ok (.ladd, 1) := by decide +kernel
theorem d_Lo_bitCount_23 : decode prog_16_method_50_code 23 = .ok (.lstore_n 0, 1) := by decide +kernel
theorem d_Lo_bitCount_24 : decode prog_16_method_50_code 24 = .ok (.lload_n 0, 1) := by decide +kernel
theorem d_Lo_bitCount_25 : decode prog_16_method_50_code 25 = .ok (.lload_n 0, 1) := by decide +kernel
theorem d_Lo_bitCount_26 : decode prog_16_method_50_code 26 = .ok (.iconst 4, 1) := by decide +kernel
theorem d_Lo_bitCount_27 : decode prog_16_method_50_code 27 = .ok (.lushr, 1) := by decide +kernel
theorem d_Lo_bitCount_28 : decode prog_16_method_50_code 28 = .ok (.ladd, 1) := by decide +kernel
theorem d_Lo_bitCount_29 : decode prog_16_method_50_code 29 = .ok (.ldc2_w 318, 3) := by decide +kernel
theorem d_Lo_bitCount_32 : decode prog_16_method_50_code 32 = .ok (.land, 1) := by decide +kernel
theorem d_Lo_bitCount_33 : decode prog_16_method_50_code 33 = .ok (.lstore_n 0, 1) := by decide +kernel
theorem d_Lo_bitCount_34 : decode prog_16_method_50_code 34 = .ok (.lload_n 0, 1) := by decide +kernel
theorem d_Lo_bitCount_35 : decode prog_16_method_50_code 35 = .ok (.lload_n 0, 1) := by decide +kernel
theorem d_Lo_bitCount_36 : decode prog_16_method_50_code 36 = .ok (.bipush 8, 2) := by decide +kernel
theorem d_Lo_bitCount_38 : decode prog_16_method_50_code 38 = .ok (.lushr, 1) := by decide +kernel
theorem d_Lo_bitCount_39 : decode prog_16_method_50_code 39 = .ok (.ladd, 1) := by decide +kernel
theorem d_Lo_bitCount_40 : decode prog_16_method_50_code 40 = .ok (.lstore_n 0, 1) := by decide +kernel
theorem d_Lo_bitCount_41 : decode prog_16_method_50_code 41 = .ok (.lload_n 0, 1) := by decide +kernel
theorem d_Lo_bitCount_42 : decode prog_16_method_50_code 42 = .ok (.lload_n 0, 1) := by decide +kernel
theorem d_Lo_bitCount_43 : decode prog_16_method_50_code 43 = .ok (.bipush 16, 2) := by decide +kernel
theorem d_Lo_bitCount_45 : decode prog_16_method_50_code 45 = .ok (.lushr, 1) := by decide +kernel
theorem d_Lo_bitCount_46 : decode prog_16_method_50_code 46 = .ok (.ladd, 1) := by decide +kernel
theorem d_Lo_bitCount_47 : decode prog_16_method_50_code 47 = .ok (.lstore_n 0, 1) := by decide +kernel
theorem d_Lo_bitCount_48 : decode prog_16_method_50_code 48 = .ok (.lload_n 0, 1) := by decide +kernel
theorem d_Lo_bitCount_49 : decode prog_16_method_50_code 49 = .ok (.lload_n 0, 1) := by decide +kernel
theorem d_Lo_bitCount_50 : decode prog_16_method_50_code 50 = .ok (.bipush 32, 2) := by decide +kernel
theorem d_Lo_bitCount_52 : decode prog_16_method_50_code 52 = .ok (.lushr, 1) := by decide +kernel
theorem d_Lo_bitCount_53 : decode prog_16_method_50_code 53 = .ok (.ladd, 1) := by decide +kernel
theorem d_Lo_bitCount_54 : decode prog_16_method_50_code 54 = .ok (.lstore_n 0, 1) := by decide +kernel
theorem d_Lo_bitCount_55 : decode prog_16_method_50_code 55 = .ok (.lload_n 0, 1) := by decide +kernel
theorem d_Lo_bitCount_56 : decode prog_16_method_50_code 56 = .ok (.l2i, 1) := by decide +kernel
theorem d_Lo_bitCount_57 : decode prog_16_method_50_code 57 = .ok (.bipush 127, 2) := by decide +kernel
theorem d_Lo_bitCount_59 : decode prog_16_method_50_code 59 = .ok (.iand, 1) := by decide +kernel
theorem d_Lo_bitCount_60 : decode prog_16_method_50_code 60 = .ok (.ireturn, 1) := by decide +kernel
theorem d_Ar_fill_0 : decode prog_19_method_101_code 0 = .ok (.iconst 0, 1) := by decide +kernel
theorem d_Ar_fill_1 : decode prog_19_method_101_code 1 = .ok (.istore_n 3, 1) := by decide +kernel
theorem d_Ar_fill_2 : decode prog_19_method_101_code 2 = .ok (.aload_n 0, 1) := by decide +kernel
theorem d_Ar_fill_3 : decode prog_19_method_101_code 3 = .ok (.arraylength, 1) := by decide +kernel
theorem d_Ar_fill_4 : decode prog_19_method_101_code 4 = .ok (.istore 4, 2) := by decide +kernel
theorem d_Ar_fill_6 : decode prog_19_method_101_code 6 = .ok (.iload_n 3, 1) := by decide +kernel
theorem d_Ar_fill_7 : decode prog_19_method_101_code 7 = .ok (.iload 4, 2) := by decide +kernel
theorem d_Ar_fill_9 : decode prog_19_method_101_code 9 = .ok (.if_icmp .ge 13, 3) := by decide +kernel
theorem d_Ar_fill_12 : decode prog_19_method_101_code 12 = .ok (.aload_n 0, 1) := by decide +kernel
theorem d_Ar_fill_13 : decode prog_19_method_101_code 13 = .ok (.iload_n 3, 1) := by decide +kernel
theorem d_Ar_fill_14 : decode prog_19_method_101_code 14 = .ok (.lload_n 1, 1) := by decide +kernel
theorem d_Ar_fill_15 : decode prog_19_method_101_code 15 = .ok (.lastore, 1) := by decide +kernel
theorem d_Ar_fill_16 : decode prog_19_method_101_code 16 = .ok (.iinc 3 1, 3) := by decide +kernel
theorem d_Ar_fill_19 : decode prog_19_method_101_code 19 = .ok (.goto (-13), 3) := by decide +kernel
theorem d_Ar_fill_22 : decode prog_19_method_101_code 22 = .ok (.return_, 1) := by decide +kernel
