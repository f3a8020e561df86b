theorem d_Se_learnFrom_87 : decode prog_7_method_8_code 87 = .ok (.lload 8, 2) := by decide +kernel
theorem d_Se_learnFrom_89 : decode prog_7_method_8_code 89 = .ok (.land, 1) := by decide +kernel
theorem d_Se_learnFrom_90 : decode prog_7_method_8_code 90 = .ok (.lconst 0, 1) := by decide +kernel
theorem d_Se_learnFrom_91 : decode prog_7_method_8_code 91 = .ok (.lcmp, 1) := by decide +kernel
theorem d_Se_learnFrom_92 : decode prog_7_method_8_code 92 = .ok (.ifCond .eq 51, 3) := by decide +kernel
theorem d_Se_learnFrom_95 : decode prog_7_method_8_code 95 = .ok (.iload 7, 2) := by decide +kernel
theorem d_Se_learnFrom_97 : decode prog_7_method_8_code 97 = .ok (.iconst (-1), 1) := by decide +kernel
theorem d_Se_learnFrom_98 : decode prog_7_method_8_code 98 = .ok (.if_icmp .eq 45, 3) := by decide +kernel
theorem d_Se_learnFrom_101 : decode prog_7_method_8_code 101 = .ok (.lload_n 2, 1) := by decide +kernel
theorem d_Se_learnFrom_102 : decode prog_7_method_8_code 102 = .ok (.aload_n 0, 1) := by decide +kernel
theorem d_Se_learnFrom_103 : decode prog_7_method_8_code 103 = .ok (.getfield 22, 3) := by decide +kernel
theorem d_Se_learnFrom_106 : decode prog_7_method_8_code 106 = .ok (.getfield 80, 3) := by decide +kernel
theorem d_Se_learnFrom_109 : decode prog_7_method_8_code 109 = .ok (.iload 7, 2) := by decide +kernel
theorem d_Se_learnFrom_111 : decode prog_7_method_8_code 111 = .ok (.laload, 1) := by decide +kernel
theorem d_Se_learnFrom_112 : decode prog_7_method_8_code 112 = .ok (.lor, 1) := by decide +kernel
theorem d_Se_learnFrom_113 : decode prog_7_method_8_code 113 = .ok (.lload 8, 2) := by decide +kernel
theorem d_Se_learnFrom_115 : decode prog_7_method_8_code 115 = .ok (.ldc2_w 45, 3) := by decide +kernel
theorem d_Se_learnFrom_118 : decode prog_7_method_8_code 118 = .ok (.lxor, 1) := by decide +kernel
theorem d_Se_learnFrom_119 : decode prog_7_method_8_code 119 = .ok (.land, 1) := by decide +kernel
theorem d_Se_learnFrom_120 : decode prog_7_method_8_code 120 = .ok (.lstore_n 2, 1) := by decide +kernel
theorem d_Se_learnFrom_121 : decode prog_7_method_8_code 121 = .ok (.lload 4, 2) := by decide +kernel
theorem d_Se_learnFrom_123 : decode prog_7_method_8_code 123 = .ok (.aload_n 0, 1) := by decide +kernel
theorem d_Se_learnFrom_124 : decode prog_7_method_8_code 124 = .ok (.getfield 22, 3) := by decide +kernel
theorem d_Se_learnFrom_127 : decode prog_7_method_8_code 127 = .ok (.getfield 82, 3) := by decide +kernel
theorem d_Se_learnFrom_130 : decode prog_7_method_8_code 130 = .ok (.iload 7, 2) := by decide +kernel
theorem d_Se_learnFrom_132 : decode prog_7_method_8_code 132 = .ok (.laload, 1) := by decide +kernel
theorem d_Se_learnFrom_133 : decode prog_7_method_8_code 133 = .ok (.lor, 1) := by decide +kernel
theorem d_Se_learnFrom_134 : decode prog_7_method_8_code 134 = .ok (.lload 8, 2) := by decide +kernel
theorem d_Se_learnFrom_136 : decode prog_7_method_8_code 136 = .ok (.ldc2_w 45, 3) := by decide +kernel
theorem d_Se_learnFrom_139 : decode prog_7_method_8_code 139 = .ok (.lxor, 1) := by decide +kernel
theorem d_Se_learnFrom_140 : decode prog_7_method_8_code 140 = .ok (.land, 1) := by decide +kernel
theorem d_Se_learnFrom_141 : decode prog_7_method_8_code 141 = .ok (.lstore 4, 2) := by decide +kernel
theorem d_Se_learnFrom_143 : decode prog_7_method_8_code 143 = .ok (.iinc 6 (-1), 3) := by decide +kernel
theorem d_Se_learnFrom_146 : decode prog_7_method_8_code 146 = .ok (.goto (-117), 3) := by decide +kernel
theorem d_Se_learnFrom_149 : decode prog_7_method_8_code 149 = .ok (.aload_n 0, 1) := by decide +kernel
theorem d_Se_learnFrom_150 : decode prog_7_method_8_code 150 = .ok (.aload_n 0, 1) := by decide +kernel
theorem d_Se_learnFrom_151 : decode prog_7_method_8_code 151 = .ok (.lload_n 2, 1) := by decide +kernel
theorem d_Se_learnFrom_152 : decode prog_7_method_8_code 152 = .ok (.lload 4, 2) := by decide +kernel
theorem d_Se_learnFrom_154 : decode prog_7_method_8_code 154 = .ok (.lor, 1) := by decide +kernel
theorem d_Se_learnFrom_155 : decode prog_7_method_8_code 155 = .ok (.invokevirtual 89, 3) := by decide +kernel
theorem d_Se_learnFrom_158 : decode prog_7_method_8_code 158 = .ok (.invokevirtual 92, 3) := by decide +kernel
theorem d_Se_learnFrom_161 : decode prog_7_method_8_code 161 = .ok (.aload_n 0, 1) := by decide +kernel
theorem d_Se_learnFrom_162 : decode prog_7_method_8_code 162 = .ok (.getfield 22, 3) := by decide +kernel
theorem d_Se_learnFrom_165 : decode prog_7_method_8_code 165 = .ok (.invokevirtual 95, 3) := by decide +kernel
theorem d_Se_learnFrom_168 : decode prog_7_method_8_code 168 = .ok (.ifCond .eq 7, 3) := by decide +kernel
theorem d_Se_learnFrom_171 : decode prog_7_method_8_code 171 = .ok (.aload_n 0, 1) := by decide +kernel
theorem d_Se_learnFrom_172 : decode prog_7_method_8_code 172 = .ok (.invokevirtual 99, 3) := by decide +kernel
theorem d_Se_learnFrom_175 : decode prog_7_method_8_code 175 = .ok (.aload_n 0, 1) := by decide +kernel
theorem d_Se_learnFrom_176 : decode prog_7_method_8_code 176 = .ok (.getfield 22, 3) := by decide +kernel
theorem d_Se_learnFrom_179 : decode prog_7_method_8_code 179 = .ok (.lload_n 2, 1) := by decide +kernel
theorem d_Se_learnFrom_180 : decode prog_7_method_8_code 180 = .ok (.aload_n 0, 1) := by decide +kernel
theorem d_Se_learnFrom_181 : decode prog_7_method_8_code 181 = .ok (.getfield 11, 3) := by decide +kernel
theorem d_Se_learnFrom_184 : decode prog_7_method_8_code 184 = .ok (.iconst 0, 1) := by decide +kernel
theorem d_Se_learnFrom_185 : decode prog_7_method_8_code 185 = .ok (.laload, 1) := by decide +kernel
theorem d_Se_learnFrom_186 : decode prog_7_method_8_code 186 = .ok (.ldc2_w 45, 3) := by decide +kernel
theorem d_Se_learnFrom_189 : decode prog_7_method_8_code 189 = .ok (.lxor, 1) := by decide +kernel
theorem d_Se_learnFrom_190 : decode prog_7_method_8_code 190 = .ok (.land, 1) := by decide +kernel
theorem d_Se_learnFrom_191 : decode prog_7_method_8_code 191 = .ok (.lload 4, 2) := by decide +kernel
theorem d_Se_learnFrom_193 : decode prog_7_method_8_code 193 = .ok (.aload_n 0, 1) := by decide +kernel
theorem d_Se_learnFrom_194 : decode prog_7_method_8_code 194 = .ok (.getfield 11, 3) := by decide +kernel
theorem d_Se_learnFrom_197 : decode prog_7_method_8_code 197 = .ok (.iconst 0, 1) := by decide +kernel
theorem d_Se_learnFrom_198 : decode prog_7_method_8_code 198 = .ok (.laload, 1) := by decide +kernel
theorem d_Se_learnFrom_199 : decode prog_7_method_8_code 199 = .ok (.ldc2_w 45, 3) := by decide +kernel
theorem d_Se_learnFrom_202 : decode prog_7_method_8_code 202 = .ok (.lxor, 1) := by decide +kernel
theorem d_Se_learnFrom_203 : decode prog_7_method_8_code 203 = .ok (.land, 1) := by decide +kernel
theorem d_Se_learnFrom_204 : decode prog_7_method_8_code 204 = .ok (.invokevirtual 102, 3) := by decide +kernel
theorem d_Se_learnFrom_207 : decode prog_7_method_8_code 207 = .ok (.return_, 1) := by decide +kernel
theorem d_Se_levelBelow_0 : decode prog_7_method_9_code 0 = .ok (.aload_n 0, 1) := by decide +kernel
theorem d_Se_levelBelow_1 : decode prog_7_method_9_code 1 = .ok (.getfield 47, 3) := by decide +kernel
theorem d_Se_levelBelow_4 : decode prog_7_method_9_code 4 = .ok (.iconst 1, 1) := by decide +kernel
theorem d_Se_levelBelow_5 : decode prog_7_method_9_code 5 = .ok (.isub, 1) := by decide +kernel
theorem d_Se_levelBelow_6 : decode prog_7_method_9_code 6 = .ok (.istore_n 3, 1) := by decide +kernel
theorem d_Se_levelBelow_7 : decode prog_7_method_9_code 7 = .ok (.iload_n 3, 1) := by decide +kernel
theorem d_Se_levelBelow_8 : decode prog_7_method_9_code 8 = .ok (.ifCond .le 24, 3) := by decide +kernel
theorem d_Se_levelBelow_11 : decode prog_7_method_9_code 11 = .ok (.lload_n 1, 1) := by decide +kernel
theorem d_Se_levelBelow_12 : decode prog_7_method_9_code 12 = .ok (.aload_n 0, 1) := by decide +kernel
theorem d_Se_levelBelow_13 : decode prog_7_method_9_code 13 = .ok (.getfield 11, 3) := by decide +kernel
theorem d_Se_levelBelow_16 : decode prog_7_method_9_code 16 = .ok (.iload_n 3, 1) := by decide +kernel
theorem d_Se_levelBelow_17 : decode prog_7_method_9_code 17 = .ok (.laload, 1) := by decide +kernel
theorem d_Se_levelBelow_18 : decode prog_7_method_9_code 18 = .ok (.land, 1) := by decide +kernel
theorem d_Se_levelBelow_19 : decode prog_7_method_9_code 19 = .ok (.lconst 0, 1) := by decide +kernel
theorem d_Se_levelBelow_20 : decode prog_7_method_9_code 20 = .ok (.lcmp, 1) := by decide +kernel
theorem d_Se_levelBelow_21 : decode prog_7_method_9_code 21 = .ok (.ifCond .eq 5, 3) := by decide +kernel
theorem d_Se_levelBelow_24 : decode prog_7_method_9_code 24 = .ok (.iload_n 3, 1) := by decide +kernel
theorem d_Se_levelBelow_25 : decode prog_7_method_9_code 25 = .ok (.ireturn, 1) := by decide +kernel
theorem d_Se_levelBelow_26 : decode prog_7_method_9_code 26 = .ok (.iinc 3 (-1), 3) := by decide +kernel
theorem d_Se_levelBelow_29 : decode prog_7_method_9_code 29 = .ok (.goto (-22), 3) := by decide +kernel
theorem d_Se_levelBelow_32 : decode prog_7_method_9_code 32 = .ok (.iconst 0, 1) := by decide +kernel
theorem d_Se_levelBelow_33 : decode prog_7_method_9_code 33 = .ok (.ireturn, 1) := by decide +kernel
theorem d_Se_propagate_0 : decode prog_7_method_7_code 0 = .ok (.iconst 0, 1) := by decide +kernel
theorem d_Se_propagate_1 : decode prog_7_method_7_code 1 = .ok (.istore_n 1, 1) := by decide +kernel
theorem d_Se_propagate_2 : decode prog_7_method_7_code 2 = .ok (.iload_n 1, 1) := by decide +kernel
theorem d_Se_propagate_3 : decode prog_7_method_7_code 3 = .ok (.bipush 38, 2) := by decide +kernel
theorem d_Se_propagate_5 : decode prog_7_method_7_code 5 = .ok (.if_icmp .gt 165, 3) := by decide +kernel
theorem d_Se_propagate_8 : decode prog_7_method_7_code 8 = .ok (.aload_n 0, 1) := by decide +kernel
theorem d_Se_propagate_9 : decode prog_7_method_7_code 9 = .ok (.getfield 62, 3) := by decide +kernel
theorem d_Se_propagate_12 : decode prog_7_method_7_code 12 = .ok (.istore_n 2, 1) := by decide +kernel
theorem d_Se_propagate_13 : decode prog_7_method_7_code 13 = .ok (.iconst 0, 1) := by decide +kernel
theorem d_Se_propagate_14 : decode prog_7_method_7_code 14 = .ok (.istore_n 3, 1) := by decide +kernel
theorem d_Se_propagate_15 : decode prog_7_method_7_code 15 = .ok (.iload_n 3, 1) := by decide +kernel
theorem d_Se_propagate_16 : decode prog_7_method_7_code 16 = .ok (.aload_n 0, 1) := by decide +kernel
theorem d_Se_propagate_17 : decode prog_7_method_7_code 17 = .ok (.getfield 22, 3) := by decide +kernel
theorem d_Se_propagate_20 : decode prog_7_method_7_code 20 = .ok (.getfield 75, 3) := by decide +kernel
theorem d_Se_propagate_23 : decode prog_7_method_7_code 23 = .ok (.if_icmp .ge 131, 3) := by decide +kernel
theorem d_Se_propagate_26 : decode prog_7_method_7_code 26 = .ok (.aload_n 0, 1) := by decide +kernel
theorem d_Se_propagate_27 : decode prog_7_method_7_code 27 = .ok (.getfield 22, 3) := by decide +kernel
theorem d_Se_propagate_30 : decode prog_7_method_7_code 30 = .ok (.getfield 80, 3) := by decide +kernel
theorem d_Se_propagate_33 : decode prog_7_method_7_code 33 = .ok (.iload_n 3, 1) := by decide +kernel
theorem d_Se_propagate_34 : decode prog_7_method_7_code 34 = .ok (.laload, 1) := by decide +kernel
theorem d_Se_propagate_35 : decode prog_7_method_7_code 35 = .ok (.aload_n 0, 1) := by decide +kernel
theorem d_Se_propagate_36 : decode prog_7_method_7_code 36 = .ok (.getfield 26, 3) := by decide +kernel
theorem d_Se_propagate_39 : decode prog_7_method_7_code 39 = .ok (.land, 1) := by decide +kernel
theorem d_Se_propagate_40 : decode prog_7_method_7_code 40 = .ok (.aload_n 0, 1) := by decide +kernel
theorem d_Se_propagate_41 : decode prog_7_method_7_code 41 = .ok (.getfield 22, 3) := by decide +kernel
theorem d_Se_propagate_44 : decode prog_7_method_7_code 44 = .ok (.getfield 82, 3) := by decide +kernel
theorem d_Se_propagate_47 : decode prog_7_method_7_code 47 = .ok (.iload_n 3, 1) := by decide +kernel
theorem d_Se_propagate_48 : decode prog_7_method_7_code 48 = .ok (.laload, 1) := by decide +kernel
theorem d_Se_propagate_49 : decode prog_7_method_7_code 49 = .ok (.aload_n 0, 1) := by decide +kernel
theorem d_Se_propagate_50 : decode prog_7_method_7_code 50 = .ok (.getfield 42, 3) := by decide +kernel
theorem d_Se_propagate_53 : decode prog_7_method_7_code 53 = .ok (.land, 1) := by decide +kernel
theorem d_Se_propagate_54 : decode prog_7_method_7_code 54 = .ok (.lor, 1) := by decide +kernel
theorem d_Se_propagate_55 : decode prog_7_method_7_code 55 = .ok (.lconst 0, 1) := by decide +kernel
theorem d_Se_propagate_56 : decode prog_7_method_7_code 56 = .ok (.lcmp, 1) := by decide +kernel
theorem d_Se_propagate_57 : decode prog_7_method_7_code 57 = .ok (.ifCond .ne 91, 3) := by decide +kernel
theorem d_Se_propagate_60 : decode prog_7_method_7_code 60 = .ok (.aload_n 0, 1) := by decide +kernel
theorem d_Se_propagate_61 : decode prog_7_method_7_code 61 = .ok (.getfield 22, 3) := by decide +kernel
theorem d_Se_propagate_64 : decode prog_7_method_7_code 64 = .ok (.getfield 80, 3) := by decide +kernel
theorem d_Se_propagate_67 : decode prog_7_method_7_code 67 = .ok (.iload_n 3, 1) := by decide +kernel
theorem d_Se_propagate_68 : decode prog_7_method_7_code 68 = .ok (.laload, 1) := by decide +kernel
theorem d_Se_propagate_69 : decode prog_7_method_7_code 69 = .ok (.aload_n 0, 1) := by decide +kernel
theorem d_Se_propagate_70 : decode prog_7_method_7_code 70 = .ok (.getfield 22, 3) := by decide +kernel
theorem d_Se_propagate_73 : decode prog_7_method_7_code 73 = .ok (.getfield 82, 3) := by decide +kernel
theorem d_Se_propagate_76 : decode prog_7_method_7_code 76 = .ok (.iload_n 3, 1) := by decide +kernel
theorem d_Se_propagate_77 : decode prog_7_method_7_code 77 = .ok (.laload, 1) := by decide +kernel
theorem d_Se_propagate_78 : decode prog_7_method_7_code 78 = .ok (.lor, 1) := by decide +kernel
theorem d_Se_propagate_79 : decode prog_7_method_7_code 79 = .ok (.aload_n 0, 1) := by decide +kernel
theorem d_Se_propagate_80 : decode prog_7_method_7_code 80 = .ok (.getfield 26, 3) := by decide +kernel
theorem d_Se_propagate_83 : decode prog_7_method_7_code 83 = .ok (.aload_n 0, 1) := by decide +kernel
theorem d_Se_propagate_84 : decode prog_7_method_7_code 84 = .ok (.getfield 42, 3) := by decide +kernel
theorem d_Se_propagate_87 : decode prog_7_method_7_code 87 = .ok (.lor, 1) := by decide +kernel
theorem d_Se_propagate_88 : decode prog_7_method_7_code 88 = .ok (.ldc2_w 45, 3) := by decide +kernel
theorem d_Se_propagate_91 : decode prog_7_method_7_code 91 = .ok (.lxor, 1) := by decide +kernel
theorem d_Se_propagate_92 : decode prog_7_method_7_code 92 = .ok (.land, 1) := by decide +kernel
theorem d_Se_propagate_93 : decode prog_7_method_7_code 93 = .ok (.lstore 4, 2) := by decide +kernel
theorem d_Se_propagate_95 : decode prog_7_method_7_code 95 = .ok (.lload 4, 2) := by decide +kernel
theorem d_Se_propagate_97 : decode prog_7_method_7_code 97 = .ok (.lconst 0, 1) := by decide +kernel
theorem d_Se_propagate_98 : decode prog_7_method_7_code 98 = .ok (.lcmp, 1) := by decide +kernel
theorem d_Se_propagate_99 : decode prog_7_method_7_code 99 = .ok (.ifCond .ne 5, 3) := by decide +kernel
theorem d_Se_propagate_102 : decode prog_7_method_7_code 102 = .ok (.iload_n 3, 1) := by decide +kernel
theorem d_Se_propagate_103 : decode prog_7_method_7_code 103 = .ok (.ireturn, 1) := by decide +kernel
theorem d_Se_propagate_104 : decode prog_7_method_7_code 104 = .ok (.lload 4, 2) := by decide +kernel
theorem d_Se_propagate_106 : decode prog_7_method_7_code 106 = .ok (.lload 4, 2) := by decide +kernel
theorem d_Se_propagate_108 : decode prog_7_method_7_code 108 = .ok (.lconst 1, 1) := by decide +kernel
theorem d_Se_propagate_109 : decode prog_7_method_7_code 109 = .ok (.lsub, 1) := by decide +kernel
theorem d_Se_propagate_110 : decode prog_7_method_7_code 110 = .ok (.land, 1) := by decide +kernel
theorem d_Se_propagate_111 : decode prog_7_method_7_code 111 = .ok (.lconst 0, 1) := by decide +kernel
theorem d_Se_propagate_112 : decode prog_7_method_7_code 112 = .ok (.lcmp, 1) := by decide +kernel
theorem d_Se_propagate_113 : decode prog_7_method_7_code 113 = .ok (.ifCond .ne 35, 3) := by decide +kernel
theorem d_Se_propagate_116 : decode prog_7_method_7_code 116 = .ok (.aload_n 0, 1) := by decide +kernel
theorem d_Se_propagate_117 : decode prog_7_method_7_code 117 = .ok (.lload 4, 2) := by decide +kernel
theorem d_Se_propagate_119 : decode prog_7_method_7_code 119 = .ok (.invokestatic 55, 3) := by decide +kernel
theorem d_Se_propagate_122 : decode prog_7_method_7_code 122 = .ok (.aload_n 0, 1) := by decide +kernel
theorem d_Se_propagate_123 : decode prog_7_method_7_code 123 = .ok (.getfield 22, 3) := by decide +kernel
theorem d_Se_propagate_126 : decode prog_7_method_7_code 126 = .ok (.getfield 80, 3) := by decide +kernel
theorem d_Se_propagate_129 : decode prog_7_method_7_code 129 = .ok (.iload_n 3, 1) := by decide +kernel
theorem d_Se_propagate_130 : decode prog_7_method_7_code 130 = .ok (.laload, 1) := by decide +kernel
theorem d_Se_propagate_131 : decode prog_7_method_7_code 131 = .ok (.lload 4, 2) := by decide +kernel
theorem d_Se_propagate_133 : decode prog_7_method_7_code 133 = .ok (.land, 1) := by decide +kernel
theorem d_Se_propagate_134 : decode prog_7_method_7_code 134 = .ok (.lconst 0, 1) := by decide +kernel
theorem d_Se_propagate_135 : decode prog_7_method_7_code 135 = .ok (.lcmp, 1) := by decide +kernel
theorem d_Se_propagate_136 : decode prog_7_method_7_code 136 = .ok (.ifCond .eq 7, 3) := by decide +kernel
theorem d_Se_propagate_139 : decode prog_7_method_7_code 139 = .ok (.iconst 1, 1) := by decide +kernel
theorem d_Se_propagate_140 : decode prog_7_method_7_code 140 = .ok (.goto 4, 3) := by decide +kernel
theorem d_Se_propagate_143 : decode prog_7_method_7_code 143 = .ok (.iconst 0, 1) := by decide +kernel
theorem d_Se_propagate_144 : decode prog_7_method_7_code 144 = .ok (.iload_n 3, 1) := by decide +kernel
theorem d_Se_propagate_145 : decode prog_7_method_7_code 145 = .ok (.invokevirtual 71, 3) := by decide +kernel
theorem d_Se_propagate_148 : decode prog_7_method_7_code 148 = .ok (.iinc 3 1, 3) := by decide +kernel
theorem d_Se_propagate_151 : decode prog_7_method_7_code 151 = .ok (.goto (-136), 3) := by decide +kernel
theorem d_Se_propagate_154 : decode prog_7_method_7_code 154 = .ok (.aload_n 0, 1) := by decide +kernel
theorem d_Se_propagate_155 : decode prog_7_method_7_code 155 = .ok (.getfield 62, 3) := by decide +kernel
theorem d_Se_propagate_158 : decode prog_7_method_7_code 158 = .ok (.iload_n 2, 1) := by decide +kernel
theorem d_Se_propagate_159 : decode prog_7_method_7_code 159 = .ok (.if_icmp .ne 5, 3) := by decide +kernel
theorem d_Se_propagate_162 : decode prog_7_method_7_code 162 = .ok (.iconst (-1), 1) := by decide +kernel
theorem d_Se_propagate_163 : decode prog_7_method_7_code 163 = .ok (.ireturn, 1) := by decide +kernel
theorem d_Se_propagate_164 : decode prog_7_method_7_code 164 = .ok (.iinc 1 1, 3) := by decide +kernel
theorem d_Se_propagate_167 : decode prog_7_method_7_code 167 = .ok (.goto (-165), 3) := by decide +kernel
theorem d_Se_propagate_170 : decode prog_7_method_7_code 170 = .ok (.iconst (-1), 1) := by decide +kernel
theorem d_Se_propagate_171 : decode prog_7_method_7_code 171 = .ok (.ireturn, 1) := by decide +kernel
theorem d_Se_says_0 : decode prog_7_method_2_code 0 = .ok (.aload_n 0, 1) := by decide +kernel
theorem d_Se_says_1 : decode prog_7_method_2_code 1 = .ok (.getfield 26, 3) := by decide +kernel
theorem d_Se_says_4 : decode prog_7_method_2_code 4 = .ok (.iload_n 1, 1) := by decide +kernel
theorem d_Se_says_5 : decode prog_7_method_2_code 5 = .ok (.invokestatic 30, 3) := by decide +kernel
theorem d_Se_says_8 : decode prog_7_method_2_code 8 = .ok (.ireturn, 1) := by decide +kernel
theorem d_Se_solve_0 : decode prog_7_method_3_code 0 = .ok (.aload_n 0, 1) := by decide +kernel
theorem d_Se_solve_1 : decode prog_7_method_3_code 1 = .ok (.invokevirtual 34, 3) := by decide +kernel
theorem d_Se_solve_4 : decode prog_7_method_3_code 4 = .ok (.iconst 0, 1) := by decide +kernel
theorem d_Se_solve_5 : decode prog_7_method_3_code 5 = .ok (.istore_n 3, 1) := by decide +kernel
theorem d_Se_solve_6 : decode prog_7_method_3_code 6 = .ok (.iload_n 3, 1) := by decide +kernel
theorem d_Se_solve_7 : decode prog_7_method_3_code 7 = .ok (.ldc 37, 2) := by decide +kernel
theorem d_Se_solve_9 : decode prog_7_method_3_code 9 = .ok (.if_icmp .ge 74, 3) := by decide +kernel
theorem d_Se_solve_12 : decode prog_7_method_3_code 12 = .ok (.aload_n 0, 1) := by decide +kernel
theorem d_Se_solve_13 : decode prog_7_method_3_code 13 = .ok (.invokevirtual 38, 3) := by decide +kernel
theorem d_Se_solve_16 : decode prog_7_method_3_code 16 = .ok (.istore 4, 2) := by decide +kernel
theorem d_Se_solve_18 : decode prog_7_method_3_code 18 = .ok (.lload_n 1, 1) := by decide +kernel
theorem d_Se_solve_19 : decode prog_7_method_3_code 19 = .ok (.aload_n 0, 1) := by decide +kernel
theorem d_Se_solve_20 : decode prog_7_method_3_code 20 = .ok (.getfield 26, 3) := by decide +kernel
theorem d_Se_solve_23 : decode prog_7_method_3_code 23 = .ok (.aload_n 0, 1) := by decide +kernel
theorem d_Se_solve_24 : decode prog_7_method_3_code 24 = .ok (.getfield 42, 3) := by decide +kernel
theorem d_Se_solve_27 : decode prog_7_method_3_code 27 = .ok (.lor, 1) := by decide +kernel
theorem d_Se_solve_28 : decode prog_7_method_3_code 28 = .ok (.ldc2_w 45, 3) := by decide +kernel
theorem d_Se_solve_31 : decode prog_7_method_3_code 31 = .ok (.lxor, 1) := by decide +kernel
theorem d_Se_solve_32 : decode prog_7_method_3_code 32 = .ok (.land, 1) := by decide +kernel
theorem d_Se_solve_33 : decode prog_7_method_3_code 33 = .ok (.lstore 5, 2) := by decide +kernel
theorem d_Se_solve_35 : decode prog_7_method_3_code 35 = .ok (.iload 4, 2) := by decide +kernel
theorem d_Se_solve_37 : decode prog_7_method_3_code 37 = .ok (.iconst (-1), 1) := by decide +kernel
theorem d_Se_solve_38 : decode prog_7_method_3_code 38 = .ok (.if_icmp .eq 21, 3) := by decide +kernel
theorem d_Se_solve_41 : decode prog_7_method_3_code 41 = .ok (.aload_n 0, 1) := by decide +kernel
theorem d_Se_solve_42 : decode prog_7_method_3_code 42 = .ok (.getfield 47, 3) := by decide +kernel
theorem d_Se_solve_45 : decode prog_7_method_3_code 45 = .ok (.ifCond .ne 5, 3) := by decide +kernel
theorem d_Se_solve_48 : decode prog_7_method_3_code 48 = .ok (.iconst 0, 1) := by decide +kernel
theorem d_Se_solve_49 : decode prog_7_method_3_code 49 = .ok (.ireturn, 1) := by decide +kernel
theorem d_Se_solve_50 : decode prog_7_method_3_code 50 = .ok (.aload_n 0, 1) := by decide +kernel
theorem d_Se_solve_51 : decode prog_7_method_3_code 51 = .ok (.iload 4, 2) := by decide +kernel
theorem d_Se_solve_53 : decode prog_7_method_3_code 53 = .ok (.invokevirtual 51, 3) := by decide +kernel
theorem d_Se_solve_56 : decode prog_7_method_3_code 56 = .ok (.goto 21, 3) := by decide +kernel
theorem d_Se_solve_59 : decode prog_7_method_3_code 59 = .ok (.lload 5, 2) := by decide +kernel
theorem d_Se_solve_61 : decode prog_7_method_3_code 61 = .ok (.lconst 0, 1) := by decide +kernel
theorem d_Se_solve_62 : decode prog_7_method_3_code 62 = .ok (.lcmp, 1) := by decide +kernel
theorem d_Se_solve_63 : decode prog_7_method_3_code 63 = .ok (.ifCond .ne 5, 3) := by decide +kernel
theorem d_Se_solve_66 : decode prog_7_method_3_code 66 = .ok (.iconst 1, 1) := by decide +kernel
theorem d_Se_solve_67 : decode prog_7_method_3_code 67 = .ok (.ireturn, 1) := by decide +kernel
theorem d_Se_solve_68 : decode prog_7_method_3_code 68 = .ok (.aload_n 0, 1) := by decide +kernel
theorem d_Se_solve_69 : decode prog_7_method_3_code 69 = .ok (.lload 5, 2) := by decide +kernel
theorem d_Se_solve_71 : decode prog_7_method_3_code 71 = .ok (.invokestatic 55, 3) := by decide +kernel
theorem d_Se_solve_74 : decode prog_7_method_3_code 74 = .ok (.invokevirtual 59, 3) := by decide +kernel
theorem d_Se_solve_77 : decode prog_7_method_3_code 77 = .ok (.iinc 3 1, 3) := by decide +kernel
theorem d_Se_solve_80 : decode prog_7_method_3_code 80 = .ok (.goto (-74), 3) := by decide +kernel
theorem d_Se_solve_83 : decode prog_7_method_3_code 83 = .ok (.iconst 0, 1) := by decide +kernel
theorem d_Se_solve_84 : decode prog_7_method_3_code 84 = .ok (.ireturn, 1) := by decide +kernel
theorem d_Un_init_0 : decode prog_8_method_1_code 0 = .ok (.aload_n 0, 1) := by decide +kernel
theorem d_Un_init_1 : decode prog_8_method_1_code 1 = .ok (.invokespecial 3, 3) := by decide +kernel
theorem d_Un_init_4 : decode prog_8_method_1_code 4 = .ok (.aload_n 0, 1) := by decide +kernel
theorem d_Un_init_5 : decode prog_8_method_1_code 5 = .ok (.aload_n 1, 1) := by decide +kernel
theorem d_Un_init_6 : decode prog_8_method_1_code 6 = .ok (.putfield 9, 3) := by decide +kernel
theorem d_Un_init_9 : decode prog_8_method_1_code 9 = .ok (.aload_n 0, 1) := by decide +kernel
theorem d_Un_init_10 : decode prog_8_method_1_code 10 = .ok (.aload_n 2, 1) := by decide +kernel
theorem d_Un_init_11 : decode prog_8_method_1_code 11 = .ok (.putfield 15, 3) := by decide +kernel
theorem d_Un_init_14 : decode prog_8_method_1_code 14 = .ok (.aload_n 0, 1) := by decide +kernel
theorem d_Un_init_15 : decode prog_8_method_1_code 15 = .ok (.aload_n 3, 1) := by decide +kernel
theorem d_Un_init_16 : decode prog_8_method_1_code 16 = .ok (.putfield 19, 3) := by decide +kernel
theorem d_Un_init_19 : decode prog_8_method_1_code 19 = .ok (.aload_n 0, 1) := by decide +kernel
theorem d_Un_init_20 : decode prog_8_method_1_code 20 = .ok (.new 23, 3) := by decide +kernel
theorem d_Un_init_23 : decode prog_8_method_1_code 23 = .ok (.dup, 1) := by decide +kernel
theorem d_Un_init_24 : decode prog_8_method_1_code 24 = .ok (.aload_n 2, 1) := by decide +kernel
theorem d_Un_init_25 : decode prog_8_method_1_code 25 = .ok (.invokespecial 25, 3) := by decide +kernel
theorem d_Un_init_28 : decode prog_8_method_1_code 28 = .ok (.putfield 28, 3) := by decide +kernel
theorem d_Un_init_31 : decode prog_8_method_1_code 31 = .ok (.return_, 1) := by decide +kernel
theorem d_Un_begin_0 : decode prog_8_method_3_code 0 = .ok (.aload_n 0, 1) := by decide +kernel
theorem d_Un_begin_1 : decode prog_8_method_3_code 1 = .ok (.getfield 15, 3) := by decide +kernel
theorem d_Un_begin_4 : decode prog_8_method_3_code 4 = .ok (.invokevirtual 68, 3) := by decide +kernel
theorem d_Un_begin_7 : decode prog_8_method_3_code 7 = .ok (.aload_n 0, 1) := by decide +kernel
theorem d_Un_begin_8 : decode prog_8_method_3_code 8 = .ok (.getfield 28, 3) := by decide +kernel
theorem d_Un_begin_11 : decode prog_8_method_3_code 11 = .ok (.invokevirtual 71, 3) := by decide +kernel
theorem d_Un_begin_14 : decode prog_8_method_3_code 14 = .ok (.aload_n 0, 1) := by decide +kernel
theorem d_Un_begin_15 : decode prog_8_method_3_code 15 = .ok (.getfield 15, 3) := by decide +kernel
theorem d_Un_begin_18 : decode prog_8_method_3_code 18 = .ok (.aload_n 0, 1) := by decide +kernel
theorem d_Un_begin_19 : decode prog_8_method_3_code 19 = .ok (.getfield 9, 3) := by decide +kernel
theorem d_Un_begin_22 : decode prog_8_method_3_code 22 = .ok (.getfield 72, 3) := by decide +kernel
theorem d_Un_begin_25 : decode prog_8_method_3_code 25 = .ok (.iconst (-1), 1) := by decide +kernel
theorem d_Un_begin_26 : decode prog_8_method_3_code 26 = .ok (.lconst 0, 1) := by decide +kernel
theorem d_Un_begin_27 : decode prog_8_method_3_code 27 = .ok (.invokevirtual 77, 3) := by decide +kernel
theorem d_Un_begin_30 : decode prog_8_method_3_code 30 = .ok (.lstore_n 1, 1) := by decide +kernel
theorem d_Un_begin_31 : decode prog_8_method_3_code 31 = .ok (.aload_n 0, 1) := by decide +kernel
theorem d_Un_begin_32 : decode prog_8_method_3_code 32 = .ok (.lload_n 1, 1) := by decide +kernel
theorem d_Un_begin_33 : decode prog_8_method_3_code 33 = .ok (.lload_n 1, 1) := by decide +kernel
theorem d_Un_begin_34 : decode prog_8_method_3_code 34 = .ok (.invokevirtual 81, 3) := by decide +kernel
theorem d_Un_begin_37 : decode prog_8_method_3_code 37 = .ok (.return_, 1) := by decide +kernel
theorem d_Un_choose_0 : decode prog_8_method_10_code 0 = .ok (.aload_n 0, 1) := by decide +kernel
theorem d_Un_choose_1 : decode prog_8_method_10_code 1 = .ok (.getfield 28, 3) := by decide +kernel
theorem d_Un_choose_4 : decode prog_8_method_10_code 4 = .ok (.invokevirtual 35, 3) := by decide +kernel
theorem d_Un_choose_7 : decode prog_8_method_10_code 7 = .ok (.ifCond .ne 15, 3) := by decide +kernel
theorem d_Un_choose_10 : decode prog_8_method_10_code 10 = .ok (.lload_n 3, 1) := by decide +kernel
theorem d_Un_choose_11 : decode prog_8_method_10_code 11 = .ok (.lload 5, 2) := by decide +kernel
theorem d_Un_choose_13 : decode prog_8_method_10_code 13 = .ok (.lor, 1) := by decide +kernel
theorem d_Un_choose_14 : decode prog_8_method_10_code 14 = .ok (.lload 7, 2) := by decide +kernel
theorem d_Un_choose_16 : decode prog_8_method_10_code 16 = .ok (.land, 1) := by decide +kernel
theorem d_Un_choose_17 : decode prog_8_method_10_code 17 = .ok (.lconst 0, 1) := by decide +kernel
theorem d_Un_choose_18 : decode prog_8_method_10_code 18 = .ok (.lcmp, 1) := by decide +kernel
theorem d_Un_choose_19 : decode prog_8_method_10_code 19 = .ok (.ifCond .ne 4, 3) := by decide +kernel
theorem d_Un_choose_22 : decode prog_8_method_10_code 22 = .ok (.return_, 1) := by decide +kernel
theorem d_Un_choose_23 : decode prog_8_method_10_code 23 = .ok (.iload_n 2, 1) := by decide +kernel
theorem d_Un_choose_24 : decode prog_8_method_10_code 24 = .ok (.bipush 8, 2) := by decide +kernel
theorem d_Un_choose_26 : decode prog_8_method_10_code 26 = .ok (.if_icmp .lt 41, 3) := by decide +kernel
theorem d_Un_choose_29 : decode prog_8_method_10_code 29 = .ok (.lload 5, 2) := by decide +kernel
theorem d_Un_choose_31 : decode prog_8_method_10_code 31 = .ok (.lload 7, 2) := by decide +kernel
theorem d_Un_choose_33 : decode prog_8_method_10_code 33 = .ok (.land, 1) := by decide +kernel
theorem d_Un_choose_34 : decode prog_8_method_10_code 34 = .ok (.lconst 0, 1) := by decide +kernel
theorem d_Un_choose_35 : decode prog_8_method_10_code 35 = .ok (.lcmp, 1) := by decide +kernel
theorem d_Un_choose_36 : decode prog_8_method_10_code 36 = .ok (.ifCond .eq 30, 3) := by decide +kernel
theorem d_Un_choose_39 : decode prog_8_method_10_code 39 = .ok (.aload_n 0, 1) := by decide +kernel
theorem d_Un_choose_40 : decode prog_8_method_10_code 40 = .ok (.getfield 28, 3) := by decide +kernel
theorem d_Un_choose_43 : decode prog_8_method_10_code 43 = .ok (.iload_n 1, 1) := by decide +kernel
theorem d_Un_choose_44 : decode prog_8_method_10_code 44 = .ok (.lload 5, 2) := by decide +kernel
theorem d_Un_choose_46 : decode prog_8_method_10_code 46 = .ok (.aload_n 0, 1) := by decide +kernel
theorem d_Un_choose_47 : decode prog_8_method_10_code 47 = .ok (.getfield 15, 3) := by decide +kernel
theorem d_Un_choose_50 : decode prog_8_method_10_code 50 = .ok (.iload_n 1, 1) := by decide +kernel
theorem d_Un_choose_51 : decode prog_8_method_10_code 51 = .ok (.aload_n 0, 1) := by decide +kernel
theorem d_Un_choose_52 : decode prog_8_method_10_code 52 = .ok (.getfield 15, 3) := by decide +kernel
theorem d_Un_choose_55 : decode prog_8_method_10_code 55 = .ok (.lload 5, 2) := by decide +kernel
theorem d_Un_choose_57 : decode prog_8_method_10_code 57 = .ok (.invokevirtual 110, 3) := by decide +kernel
theorem d_Un_choose_60 : decode prog_8_method_10_code 60 = .ok (.invokevirtual 163, 3) := by decide +kernel
theorem d_Un_choose_63 : decode prog_8_method_10_code 63 = .ok (.invokevirtual 167, 3) := by decide +kernel
theorem d_Un_choose_66 : decode prog_8_method_10_code 66 = .ok (.return_, 1) := by decide +kernel
theorem d_Un_choose_67 : decode prog_8_method_10_code 67 = .ok (.aload_n 0, 1) := by decide +kernel
theorem d_Un_choose_68 : decode prog_8_method_10_code 68 = .ok (.getfield 9, 3) := by decide +kernel
theorem d_Un_choose_71 : decode prog_8_method_10_code 71 = .ok (.getfield 170, 3) := by decide +kernel
theorem d_Un_choose_74 : decode prog_8_method_10_code 74 = .ok (.iload_n 1, 1) := by decide +kernel
theorem d_Un_choose_75 : decode prog_8_method_10_code 75 = .ok (.iaload, 1) := by decide +kernel
theorem d_Un_choose_76 : decode prog_8_method_10_code 76 = .ok (.i2l, 1) := by decide +kernel
theorem d_Un_choose_77 : decode prog_8_method_10_code 77 = .ok (.iload_n 2, 1) := by decide +kernel
theorem d_Un_choose_78 : decode prog_8_method_10_code 78 = .ok (.invokestatic 103, 3) := by decide +kernel
theorem d_Un_choose_81 : decode prog_8_method_10_code 81 = .ok (.ifCond .ne 17, 3) := by decide +kernel
theorem d_Un_choose_84 : decode prog_8_method_10_code 84 = .ok (.aload_n 0, 1) := by decide +kernel
theorem d_Un_choose_85 : decode prog_8_method_10_code 85 = .ok (.iload_n 1, 1) := by decide +kernel
theorem d_Un_choose_86 : decode prog_8_method_10_code 86 = .ok (.iload_n 2, 1) := by decide +kernel
theorem d_Un_choose_87 : decode prog_8_method_10_code 87 = .ok (.iconst 1, 1) := by decide +kernel
theorem d_Un_choose_88 : decode prog_8_method_10_code 88 = .ok (.iadd, 1) := by decide +kernel
theorem d_Un_choose_89 : decode prog_8_method_10_code 89 = .ok (.lload_n 3, 1) := by decide +kernel
theorem d_Un_choose_90 : decode prog_8_method_10_code 90 = .ok (.lload 5, 2) := by decide +kernel
theorem d_Un_choose_92 : decode prog_8_method_10_code 92 = .ok (.lload 7, 2) := by decide +kernel
theorem d_Un_choose_94 : decode prog_8_method_10_code 94 = .ok (.invokevirtual 159, 3) := by decide +kernel
theorem d_Un_choose_97 : decode prog_8_method_10_code 97 = .ok (.return_, 1) := by decide +kernel
theorem d_Un_choose_98 : decode prog_8_method_10_code 98 = .ok (.lload_n 3, 1) := by decide +kernel
theorem d_Un_choose_99 : decode prog_8_method_10_code 99 = .ok (.aload_n 0, 1) := by decide +kernel
theorem d_Un_choose_100 : decode prog_8_method_10_code 100 = .ok (.getfield 15, 3) := by decide +kernel
theorem d_Un_choose_103 : decode prog_8_method_10_code 103 = .ok (.getfield 173, 3) := by decide +kernel
theorem d_Un_choose_106 : decode prog_8_method_10_code 106 = .ok (.iload_n 2, 1) := by decide +kernel
theorem d_Un_choose_107 : decode prog_8_method_10_code 107 = .ok (.laload, 1) := by decide +kernel
theorem d_Un_choose_108 : decode prog_8_method_10_code 108 = .ok (.land, 1) := by decide +kernel
theorem d_Un_choose_109 : decode prog_8_method_10_code 109 = .ok (.lstore 9, 2) := by decide +kernel
theorem d_Un_choose_111 : decode prog_8_method_10_code 111 = .ok (.iconst 0, 1) := by decide +kernel
theorem d_Un_choose_112 : decode prog_8_method_10_code 112 = .ok (.istore 11, 2) := by decide +kernel
theorem d_Un_choose_114 : decode prog_8_method_10_code 114 = .ok (.iload 11, 2) := by decide +kernel
theorem d_Un_choose_116 : decode prog_8_method_10_code 116 = .ok (.aload_n 0, 1) := by decide +kernel
theorem d_Un_choose_117 : decode prog_8_method_10_code 117 = .ok (.getfield 15, 3) := by decide +kernel
theorem d_Un_choose_120 : decode prog_8_method_10_code 120 = .ok (.getfield 100, 3) := by decide +kernel
theorem d_Un_choose_123 : decode prog_8_method_10_code 123 = .ok (.if_icmp .ge 48, 3) := by decide +kernel
theorem d_Un_choose_126 : decode prog_8_method_10_code 126 = .ok (.lload 9, 2) := by decide +kernel
theorem d_Un_choose_128 : decode prog_8_method_10_code 128 = .ok (.iload 11, 2) := by decide +kernel
theorem d_Un_choose_130 : decode prog_8_method_10_code 130 = .ok (.invokestatic 103, 3) := by decide +kernel
theorem d_Un_choose_133 : decode prog_8_method_10_code 133 = .ok (.ifCond .eq 32, 3) := by decide +kernel
theorem d_Un_choose_136 : decode prog_8_method_10_code 136 = .ok (.aload_n 0, 1) := by decide +kernel
theorem d_Un_choose_137 : decode prog_8_method_10_code 137 = .ok (.iload_n 1, 1) := by decide +kernel
theorem d_Un_choose_138 : decode prog_8_method_10_code 138 = .ok (.iload_n 2, 1) := by decide +kernel
theorem d_Un_choose_139 : decode prog_8_method_10_code 139 = .ok (.iconst 1, 1) := by decide +kernel
theorem d_Un_choose_140 : decode prog_8_method_10_code 140 = .ok (.iadd, 1) := by decide +kernel
theorem d_Un_choose_141 : decode prog_8_method_10_code 141 = .ok (.lload_n 3, 1) := by decide +kernel
theorem d_Un_choose_142 : decode prog_8_method_10_code 142 = .ok (.aload_n 0, 1) := by decide +kernel
theorem d_Un_choose_143 : decode prog_8_method_10_code 143 = .ok (.getfield 15, 3) := by decide +kernel
theorem d_Un_choose_146 : decode prog_8_method_10_code 146 = .ok (.getfield 176, 3) := by decide +kernel
theorem d_Un_choose_149 : decode prog_8_method_10_code 149 = .ok (.iload 11, 2) := by decide +kernel
theorem d_Un_choose_151 : decode prog_8_method_10_code 151 = .ok (.laload, 1) := by decide +kernel
theorem d_Un_choose_152 : decode prog_8_method_10_code 152 = .ok (.land, 1) := by decide +kernel
theorem d_Un_choose_153 : decode prog_8_method_10_code 153 = .ok (.lload 5, 2) := by decide +kernel
theorem d_Un_choose_155 : decode prog_8_method_10_code 155 = .ok (.lconst 1, 1) := by decide +kernel
theorem d_Un_choose_156 : decode prog_8_method_10_code 156 = .ok (.iload 11, 2) := by decide +kernel
theorem d_Un_choose_158 : decode prog_8_method_10_code 158 = .ok (.lshl, 1) := by decide +kernel
theorem d_Un_choose_159 : decode prog_8_method_10_code 159 = .ok (.lor, 1) := by decide +kernel
theorem d_Un_choose_160 : decode prog_8_method_10_code 160 = .ok (.lload 7, 2) := by decide +kernel
theorem d_Un_choose_162 : decode prog_8_method_10_code 162 = .ok (.invokevirtual 159, 3) := by decide +kernel
theorem d_Un_choose_165 : decode prog_8_method_10_code 165 = .ok (.iinc 11 1, 3) := by decide +kernel
theorem d_Un_choose_168 : decode prog_8_method_10_code 168 = .ok (.goto (-54), 3) := by decide +kernel
theorem d_Un_choose_171 : decode prog_8_method_10_code 171 = .ok (.return_, 1) := by decide +kernel
theorem d_Un_findPossible_0 : decode prog_8_method_9_code 0 = .ok (.iconst 0, 1) := by decide +kernel
theorem d_Un_findPossible_1 : decode prog_8_method_9_code 1 = .ok (.istore 5, 2) := by decide +kernel
theorem d_Un_findPossible_3 : decode prog_8_method_9_code 3 = .ok (.iload 5, 2) := by decide +kernel
theorem d_Un_findPossible_5 : decode prog_8_method_9_code 5 = .ok (.aload_n 0, 1) := by decide +kernel
theorem d_Un_findPossible_6 : decode prog_8_method_9_code 6 = .ok (.getfield 9, 3) := by decide +kernel
theorem d_Un_findPossible_9 : decode prog_8_method_9_code 9 = .ok (.getfield 158, 3) := by decide +kernel
theorem d_Un_findPossible_12 : decode prog_8_method_9_code 12 = .ok (.if_icmp .ge 19, 3) := by decide +kernel
theorem d_Un_findPossible_15 : decode prog_8_method_9_code 15 = .ok (.aload_n 0, 1) := by decide +kernel
theorem d_Un_findPossible_16 : decode prog_8_method_9_code 16 = .ok (.iload 5, 2) := by decide +kernel
theorem d_Un_findPossible_18 : decode prog_8_method_9_code 18 = .ok (.iconst 0, 1) := by decide +kernel
theorem d_Un_findPossible_19 : decode prog_8_method_9_code 19 = .ok (.lload_n 1, 1) := by decide +kernel
theorem d_Un_findPossible_20 : decode prog_8_method_9_code 20 = .ok (.lconst 0, 1) := by decide +kernel
theorem d_Un_findPossible_21 : decode prog_8_method_9_code 21 = .ok (.lload_n 3, 1) := by decide +kernel
theorem d_Un_findPossible_22 : decode prog_8_method_9_code 22 = .ok (.invokevirtual 159, 3) := by decide +kernel
theorem d_Un_findPossible_25 : decode prog_8_method_9_code 25 = .ok (.iinc 5 1, 3) := by decide +kernel
theorem d_Un_findPossible_28 : decode prog_8_method_9_code 28 = .ok (.goto (-25), 3) := by decide +kernel
theorem d_Un_findPossible_31 : decode prog_8_method_9_code 31 = .ok (.return_, 1) := by decide +kernel
theorem d_Un_leadsToNothingNew_0 : decode prog_8_method_8_code 0 = .ok (.iload_n 1, 1) := by decide +kernel
theorem d_Un_leadsToNothingNew_1 : decode prog_8_method_8_code 1 = .ok (.aload_n 0, 1) := by decide +kernel
theorem d_Un_leadsToNothingNew_2 : decode prog_8_method_8_code 2 = .ok (.getfield 9, 3) := by decide +kernel
theorem d_Un_leadsToNothingNew_5 : decode prog_8_method_8_code 5 = .ok (.getfield 72, 3) := by decide +kernel
theorem d_Un_leadsToNothingNew_8 : decode prog_8_method_8_code 8 = .ok (.if_icmp .ne 5, 3) := by decide +kernel
theorem d_Un_leadsToNothingNew_11 : decode prog_8_method_8_code 11 = .ok (.iconst 1, 1) := by decide +kernel
theorem d_Un_leadsToNothingNew_12 : decode prog_8_method_8_code 12 = .ok (.ireturn, 1) := by decide +kernel
theorem d_Un_leadsToNothingNew_13 : decode prog_8_method_8_code 13 = .ok (.iconst 0, 1) := by decide +kernel
theorem d_Un_leadsToNothingNew_14 : decode prog_8_method_8_code 14 = .ok (.istore 4, 2) := by decide +kernel
theorem d_Un_leadsToNothingNew_16 : decode prog_8_method_8_code 16 = .ok (.iload 4, 2) := by decide +kernel
theorem d_Un_leadsToNothingNew_18 : decode prog_8_method_8_code 18 = .ok (.aload_n 0, 1) := by decide +kernel
theorem d_Un_leadsToNothingNew_19 : decode prog_8_method_8_code 19 = .ok (.getfield 15, 3) := by decide +kernel
theorem d_Un_leadsToNothingNew_22 : decode prog_8_method_8_code 22 = .ok (.getfield 49, 3) := by decide +kernel
theorem d_Un_leadsToNothingNew_25 : decode prog_8_method_8_code 25 = .ok (.if_icmp .ge 40, 3) := by decide +kernel
theorem d_Un_leadsToNothingNew_28 : decode prog_8_method_8_code 28 = .ok (.aload_n 0, 1) := by decide +kernel
theorem d_Un_leadsToNothingNew_29 : decode prog_8_method_8_code 29 = .ok (.getfield 15, 3) := by decide +kernel
theorem d_Un_leadsToNothingNew_32 : decode prog_8_method_8_code 32 = .ok (.getfield 151, 3) := by decide +kernel
theorem d_Un_leadsToNothingNew_35 : decode prog_8_method_8_code 35 = .ok (.iload 4, 2) := by decide +kernel
theorem d_Un_leadsToNothingNew_37 : decode prog_8_method_8_code 37 = .ok (.iaload, 1) := by decide +kernel
theorem d_Un_leadsToNothingNew_38 : decode prog_8_method_8_code 38 = .ok (.iload_n 1, 1) := by decide +kernel
theorem d_Un_leadsToNothingNew_39 : decode prog_8_method_8_code 39 = .ok (.if_icmp .ne 20, 3) := by decide +kernel
theorem d_Un_leadsToNothingNew_42 : decode prog_8_method_8_code 42 = .ok (.aload_n 0, 1) := by decide +kernel
theorem d_Un_leadsToNothingNew_43 : decode prog_8_method_8_code 43 = .ok (.getfield 15, 3) := by decide +kernel
theorem d_Un_leadsToNothingNew_46 : decode prog_8_method_8_code 46 = .ok (.getfield 157, 3) := by decide +kernel
theorem d_Un_leadsToNothingNew_49 : decode prog_8_method_8_code 49 = .ok (.iload 4, 2) := by decide +kernel
theorem d_Un_leadsToNothingNew_51 : decode prog_8_method_8_code 51 = .ok (.laload, 1) := by decide +kernel
theorem d_Un_leadsToNothingNew_52 : decode prog_8_method_8_code 52 = .ok (.lload_n 2, 1) := by decide +kernel
theorem d_Un_leadsToNothingNew_53 : decode prog_8_method_8_code 53 = .ok (.lcmp, 1) := by decide +kernel
theorem d_Un_leadsToNothingNew_54 : decode prog_8_method_8_code 54 = .ok (.ifCond .ge 5, 3) := by decide +kernel
theorem d_Un_leadsToNothingNew_57 : decode prog_8_method_8_code 57 = .ok (.iconst 1, 1) := by decide +kernel
theorem d_Un_leadsToNothingNew_58 : decode prog_8_method_8_code 58 = .ok (.ireturn, 1) := by decide +kernel
theorem d_Un_leadsToNothingNew_59 : decode prog_8_method_8_code 59 = .ok (.iinc 4 1, 3) := by decide +kernel
theorem d_Un_leadsToNothingNew_62 : decode prog_8_method_8_code 62 = .ok (.goto (-46), 3) := by decide +kernel
theorem d_Un_leadsToNothingNew_65 : decode prog_8_method_8_code 65 = .ok (.iconst 0, 1) := by decide +kernel
theorem d_Un_leadsToNothingNew_66 : decode prog_8_method_8_code 66 = .ok (.ireturn, 1) := by decide +kernel
theorem d_Un_letCome_0 : decode prog_8_method_7_code 0 = .ok (.aload_n 0, 1) := by decide +kernel
theorem d_Un_letCome_1 : decode prog_8_method_7_code 1 = .ok (.getfield 15, 3) := by decide +kernel
theorem d_Un_letCome_4 : decode prog_8_method_7_code 4 = .ok (.getfield 49, 3) := by decide +kernel
theorem d_Un_letCome_7 : decode prog_8_method_7_code 7 = .ok (.bipush 30, 2) := by decide +kernel
theorem d_Un_letCome_9 : decode prog_8_method_7_code 9 = .ok (.if_icmp .lt 5, 3) := by decide +kernel
theorem d_Un_letCome_12 : decode prog_8_method_7_code 12 = .ok (.iconst 0, 1) := by decide +kernel
theorem d_Un_letCome_13 : decode prog_8_method_7_code 13 = .ok (.ireturn, 1) := by decide +kernel
theorem d_Un_letCome_14 : decode prog_8_method_7_code 14 = .ok (.aload_n 0, 1) := by decide +kernel
theorem d_Un_letCome_15 : decode prog_8_method_7_code 15 = .ok (.getfield 28, 3) := by decide +kernel
theorem d_Un_letCome_18 : decode prog_8_method_7_code 18 = .ok (.getfield 89, 3) := by decide +kernel
theorem d_Un_letCome_21 : decode prog_8_method_7_code 21 = .ok (.iload_n 1, 1) := by decide +kernel
theorem d_Un_letCome_22 : decode prog_8_method_7_code 22 = .ok (.iaload, 1) := by decide +kernel
theorem d_Un_letCome_23 : decode prog_8_method_7_code 23 = .ok (.istore_n 2, 1) := by decide +kernel
theorem d_Un_letCome_24 : decode prog_8_method_7_code 24 = .ok (.aload_n 0, 1) := by decide +kernel
theorem d_Un_letCome_25 : decode prog_8_method_7_code 25 = .ok (.getfield 28, 3) := by decide +kernel
theorem d_Un_letCome_28 : decode prog_8_method_7_code 28 = .ok (.getfield 92, 3) := by decide +kernel
theorem d_Un_letCome_31 : decode prog_8_method_7_code 31 = .ok (.iload_n 1, 1) := by decide +kernel
theorem d_Un_letCome_32 : decode prog_8_method_7_code 32 = .ok (.laload, 1) := by decide +kernel
theorem d_Un_letCome_33 : decode prog_8_method_7_code 33 = .ok (.lstore_n 3, 1) := by decide +kernel
theorem d_Un_letCome_34 : decode prog_8_method_7_code 34 = .ok (.aload_n 0, 1) := by decide +kernel
theorem d_Un_letCome_35 : decode prog_8_method_7_code 35 = .ok (.getfield 28, 3) := by decide +kernel
theorem d_Un_letCome_38 : decode prog_8_method_7_code 38 = .ok (.getfield 125, 3) := by decide +kernel
theorem d_Un_letCome_41 : decode prog_8_method_7_code 41 = .ok (.iload_n 1, 1) := by decide +kernel
theorem d_Un_letCome_42 : decode prog_8_method_7_code 42 = .ok (.laload, 1) := by decide +kernel
theorem d_Un_letCome_43 : decode prog_8_method_7_code 43 = .ok (.lstore 5, 2) := by decide +kernel
theorem d_Un_letCome_45 : decode prog_8_method_7_code 45 = .ok (.aload_n 0, 1) := by decide +kernel
theorem d_Un_letCome_46 : decode prog_8_method_7_code 46 = .ok (.getfield 9, 3) := by decide +kernel
theorem d_Un_letCome_49 : decode prog_8_method_7_code 49 = .ok (.aload_n 0, 1) := by decide +kernel
theorem d_Un_letCome_50 : decode prog_8_method_7_code 50 = .ok (.getfield 15, 3) := by decide +kernel
theorem d_Un_letCome_53 : decode prog_8_method_7_code 53 = .ok (.aload_n 0, 1) := by decide +kernel
theorem d_Un_letCome_54 : decode prog_8_method_7_code 54 = .ok (.getfield 15, 3) := by decide +kernel
theorem d_Un_letCome_57 : decode prog_8_method_7_code 57 = .ok (.lload_n 3, 1) := by decide +kernel
theorem d_Un_letCome_58 : decode prog_8_method_7_code 58 = .ok (.invokevirtual 110, 3) := by decide +kernel
theorem d_Un_letCome_61 : decode prog_8_method_7_code 61 = .ok (.invokevirtual 128, 3) := by decide +kernel
theorem d_Un_letCome_64 : decode prog_8_method_7_code 64 = .ok (.iload_n 2, 1) := by decide +kernel
theorem d_Un_letCome_65 : decode prog_8_method_7_code 65 = .ok (.invokevirtual 131, 3) := by decide +kernel
theorem d_Un_letCome_68 : decode prog_8_method_7_code 68 = .ok (.istore 7, 2) := by decide +kernel
theorem d_Un_letCome_70 : decode prog_8_method_7_code 70 = .ok (.aload_n 0, 1) := by decide +kernel
theorem d_Un_letCome_71 : decode prog_8_method_7_code 71 = .ok (.iload 7, 2) := by decide +kernel
theorem d_Un_letCome_73 : decode prog_8_method_7_code 73 = .ok (.lload 5, 2) := by decide +kernel
theorem d_Un_letCome_75 : decode prog_8_method_7_code 75 = .ok (.invokevirtual 135, 3) := by decide +kernel
theorem d_Un_letCome_78 : decode prog_8_method_7_code 78 = .ok (.istore 8, 2) := by decide +kernel
theorem d_Un_letCome_80 : decode prog_8_method_7_code 80 = .ok (.iload 8, 2) := by decide +kernel
theorem d_Un_letCome_82 : decode prog_8_method_7_code 82 = .ok (.ifCond .eq 7, 3) := by decide +kernel
theorem d_Un_letCome_85 : decode prog_8_method_7_code 85 = .ok (.iconst 0, 1) := by decide +kernel
theorem d_Un_letCome_86 : decode prog_8_method_7_code 86 = .ok (.goto 15, 3) := by decide +kernel
theorem d_Un_letCome_89 : decode prog_8_method_7_code 89 = .ok (.aload_n 0, 1) := by decide +kernel
theorem d_Un_letCome_90 : decode prog_8_method_7_code 90 = .ok (.getfield 9, 3) := by decide +kernel
theorem d_Un_letCome_93 : decode prog_8_method_7_code 93 = .ok (.getfield 85, 3) := by decide +kernel
theorem d_Un_letCome_96 : decode prog_8_method_7_code 96 = .ok (.iload_n 2, 1) := by decide +kernel
theorem d_Un_letCome_97 : decode prog_8_method_7_code 97 = .ok (.iaload, 1) := by decide +kernel
theorem d_Un_letCome_98 : decode prog_8_method_7_code 98 = .ok (.invokestatic 139, 3) := by decide +kernel
theorem d_Un_letCome_101 : decode prog_8_method_7_code 101 = .ok (.istore 9, 2) := by decide +kernel
theorem d_Un_letCome_103 : decode prog_8_method_7_code 103 = .ok (.aload_n 0, 1) := by decide +kernel
theorem d_Un_letCome_104 : decode prog_8_method_7_code 104 = .ok (.getfield 15, 3) := by decide +kernel
theorem d_Un_letCome_107 : decode prog_8_method_7_code 107 = .ok (.getfield 100, 3) := by decide +kernel
theorem d_Un_letCome_110 : decode prog_8_method_7_code 110 = .ok (.iload 9, 2) := by decide +kernel
theorem d_Un_letCome_112 : decode prog_8_method_7_code 112 = .ok (.iadd, 1) := by decide +kernel
theorem d_Un_letCome_113 : decode prog_8_method_7_code 113 = .ok (.bipush 60, 2) := by decide +kernel
theorem d_Un_letCome_115 : decode prog_8_method_7_code 115 = .ok (.if_icmp .le 5, 3) := by decide +kernel
theorem d_Un_letCome_118 : decode prog_8_method_7_code 118 = .ok (.iconst 0, 1) := by decide +kernel
theorem d_Un_letCome_119 : decode prog_8_method_7_code 119 = .ok (.ireturn, 1) := by decide +kernel
theorem d_Un_letCome_120 : decode prog_8_method_7_code 120 = .ok (.aload_n 0, 1) := by decide +kernel
theorem d_Un_letCome_121 : decode prog_8_method_7_code 121 = .ok (.getfield 28, 3) := by decide +kernel
theorem d_Un_letCome_124 : decode prog_8_method_7_code 124 = .ok (.iload_n 1, 1) := by decide +kernel
theorem d_Un_letCome_125 : decode prog_8_method_7_code 125 = .ok (.invokevirtual 144, 3) := by decide +kernel
theorem d_Un_letCome_128 : decode prog_8_method_7_code 128 = .ok (.aload_n 0, 1) := by decide +kernel
theorem d_Un_letCome_129 : decode prog_8_method_7_code 129 = .ok (.getfield 15, 3) := by decide +kernel
theorem d_Un_letCome_132 : decode prog_8_method_7_code 132 = .ok (.iload_n 2, 1) := by decide +kernel
theorem d_Un_letCome_133 : decode prog_8_method_7_code 133 = .ok (.lload_n 3, 1) := by decide +kernel
theorem d_Un_letCome_134 : decode prog_8_method_7_code 134 = .ok (.lload 5, 2) := by decide +kernel
theorem d_Un_letCome_136 : decode prog_8_method_7_code 136 = .ok (.invokevirtual 147, 3) := by decide +kernel
theorem d_Un_letCome_139 : decode prog_8_method_7_code 139 = .ok (.istore 10, 2) := by decide +kernel
theorem d_Un_letCome_141 : decode prog_8_method_7_code 141 = .ok (.aload_n 0, 1) := by decide +kernel
theorem d_Un_letCome_142 : decode prog_8_method_7_code 142 = .ok (.getfield 15, 3) := by decide +kernel
theorem d_Un_letCome_145 : decode prog_8_method_7_code 145 = .ok (.getfield 151, 3) := by decide +kernel
theorem d_Un_letCome_148 : decode prog_8_method_7_code 148 = .ok (.iload 10, 2) := by decide +kernel
theorem d_Un_letCome_150 : decode prog_8_method_7_code 150 = .ok (.iload 7, 2) := by decide +kernel
theorem d_Un_letCome_152 : decode prog_8_method_7_code 152 = .ok (.iastore, 1) := by decide +kernel
theorem d_Un_letCome_153 : decode prog_8_method_7_code 153 = .ok (.iload 8, 2) := by decide +kernel
theorem d_Un_letCome_155 : decode prog_8_method_7_code 155 = .ok (.ifCond .eq 22, 3) := by decide +kernel
theorem d_Un_letCome_158 : decode prog_8_method_7_code 158 = .ok (.aload_n 0, 1) := by decide +kernel
theorem d_Un_letCome_159 : decode prog_8_method_7_code 159 = .ok (.getfield 15, 3) := by decide +kernel
theorem d_Un_letCome_162 : decode prog_8_method_7_code 162 = .ok (.dup, 1) := by decide +kernel
theorem d_Un_letCome_163 : decode prog_8_method_7_code 163 = .ok (.getfield 154, 3) := by decide +kernel
theorem d_Un_letCome_166 : decode prog_8_method_7_code 166 = .ok (.iconst 1, 1) := by decide +kernel
theorem d_Un_letCome_167 : decode prog_8_method_7_code 167 = .ok (.iload 10, 2) := by decide +kernel
theorem d_Un_letCome_169 : decode prog_8_method_7_code 169 = .ok (.ishl, 1) := by decide +kernel
theorem d_Un_letCome_170 : decode prog_8_method_7_code 170 = .ok (.ior, 1) := by decide +kernel
theorem d_Un_letCome_171 : decode prog_8_method_7_code 171 = .ok (.putfield 154, 3) := by decide +kernel
theorem d_Un_letCome_174 : decode prog_8_method_7_code 174 = .ok (.goto 46, 3) := by decide +kernel
theorem d_Un_letCome_177 : decode prog_8_method_7_code 177 = .ok (.aload_n 0, 1) := by decide +kernel
theorem d_Un_letCome_178 : decode prog_8_method_7_code 178 = .ok (.getfield 15, 3) := by decide +kernel
theorem d_Un_letCome_181 : decode prog_8_method_7_code 181 = .ok (.lload_n 3, 1) := by decide +kernel
theorem d_Un_letCome_182 : decode prog_8_method_7_code 182 = .ok (.invokevirtual 96, 3) := by decide +kernel
theorem d_Un_letCome_185 : decode prog_8_method_7_code 185 = .ok (.lstore 11, 2) := by decide +kernel
theorem d_Un_letCome_187 : decode prog_8_method_7_code 187 = .ok (.aload_n 0, 1) := by decide +kernel
theorem d_Un_letCome_188 : decode prog_8_method_7_code 188 = .ok (.getfield 15, 3) := by decide +kernel
theorem d_Un_letCome_191 : decode prog_8_method_7_code 191 = .ok (.aload_n 0, 1) := by decide +kernel
theorem d_Un_letCome_192 : decode prog_8_method_7_code 192 = .ok (.getfield 9, 3) := by decide +kernel
theorem d_Un_letCome_195 : decode prog_8_method_7_code 195 = .ok (.getfield 85, 3) := by decide +kernel
theorem d_Un_letCome_198 : decode prog_8_method_7_code 198 = .ok (.iload_n 2, 1) := by decide +kernel
theorem d_Un_letCome_199 : decode prog_8_method_7_code 199 = .ok (.iaload, 1) := by decide +kernel
theorem d_Un_letCome_200 : decode prog_8_method_7_code 200 = .ok (.iload 10, 2) := by decide +kernel
theorem d_Un_letCome_202 : decode prog_8_method_7_code 202 = .ok (.lload 11, 2) := by decide +kernel
theorem d_Un_letCome_204 : decode prog_8_method_7_code 204 = .ok (.invokevirtual 77, 3) := by decide +kernel
theorem d_Un_letCome_207 : decode prog_8_method_7_code 207 = .ok (.lstore 13, 2) := by decide +kernel
theorem d_Un_letCome_209 : decode prog_8_method_7_code 209 = .ok (.aload_n 0, 1) := by decide +kernel
theorem d_Un_letCome_210 : decode prog_8_method_7_code 210 = .ok (.lload 11, 2) := by decide +kernel
theorem d_Un_letCome_212 : decode prog_8_method_7_code 212 = .ok (.lload 13, 2) := by decide +kernel
theorem d_Un_letCome_214 : decode prog_8_method_7_code 214 = .ok (.lor, 1) := by decide +kernel
theorem d_Un_letCome_215 : decode prog_8_method_7_code 215 = .ok (.lload 13, 2) := by decide +kernel
theorem d_Un_letCome_217 : decode prog_8_method_7_code 217 = .ok (.invokevirtual 81, 3) := by decide +kernel
theorem d_Un_letCome_220 : decode prog_8_method_7_code 220 = .ok (.iconst 1, 1) := by decide +kernel
theorem d_Un_letCome_221 : decode prog_8_method_7_code 221 = .ok (.ireturn, 1) := by decide +kernel
theorem d_Un_rivalOf_0 : decode prog_8_method_4_code 0 = .ok (.aload_n 0, 1) := by decide +kernel
theorem d_Un_rivalOf_1 : decode prog_8_method_4_code 1 = .ok (.getfield 9, 3) := by decide +kernel
theorem d_Un_rivalOf_4 : decode prog_8_method_4_code 4 = .ok (.getfield 85, 3) := by decide +kernel
theorem d_Un_rivalOf_7 : decode prog_8_method_4_code 7 = .ok (.aload_n 0, 1) := by decide +kernel
theorem d_Un_rivalOf_8 : decode prog_8_method_4_code 8 = .ok (.getfield 28, 3) := by decide +kernel
theorem d_Un_rivalOf_11 : decode prog_8_method_4_code 11 = .ok (.getfield 89, 3) := by decide +kernel
theorem d_Un_rivalOf_14 : decode prog_8_method_4_code 14 = .ok (.iload_n 1, 1) := by decide +kernel
theorem d_Un_rivalOf_15 : decode prog_8_method_4_code 15 = .ok (.iaload, 1) := by decide +kernel
theorem d_Un_rivalOf_16 : decode prog_8_method_4_code 16 = .ok (.iaload, 1) := by decide +kernel
theorem d_Un_rivalOf_17 : decode prog_8_method_4_code 17 = .ok (.istore_n 2, 1) := by decide +kernel
theorem d_Un_rivalOf_18 : decode prog_8_method_4_code 18 = .ok (.aload_n 0, 1) := by decide +kernel
theorem d_Un_rivalOf_19 : decode prog_8_method_4_code 19 = .ok (.getfield 15, 3) := by decide +kernel
theorem d_Un_rivalOf_22 : decode prog_8_method_4_code 22 = .ok (.aload_n 0, 1) := by decide +kernel
theorem d_Un_rivalOf_23 : decode prog_8_method_4_code 23 = .ok (.getfield 28, 3) := by decide +kernel
theorem d_Un_rivalOf_26 : decode prog_8_method_4_code 26 = .ok (.getfield 92, 3) := by decide +kernel
theorem d_Un_rivalOf_29 : decode prog_8_method_4_code 29 = .ok (.iload_n 1, 1) := by decide +kernel
theorem d_Un_rivalOf_30 : decode prog_8_method_4_code 30 = .ok (.laload, 1) := by decide +kernel
theorem d_Un_rivalOf_31 : decode prog_8_method_4_code 31 = .ok (.invokevirtual 96, 3) := by decide +kernel
theorem d_Un_rivalOf_34 : decode prog_8_method_4_code 34 = .ok (.lstore_n 3, 1) := by decide +kernel
theorem d_Un_rivalOf_35 : decode prog_8_method_4_code 35 = .ok (.iconst 0, 1) := by decide +kernel
theorem d_Un_rivalOf_36 : decode prog_8_method_4_code 36 = .ok (.istore 5, 2) := by decide +kernel
theorem d_Un_rivalOf_38 : decode prog_8_method_4_code 38 = .ok (.iload 5, 2) := by decide +kernel
theorem d_Un_rivalOf_40 : decode prog_8_method_4_code 40 = .ok (.aload_n 0, 1) := by decide +kernel
theorem d_Un_rivalOf_41 : decode prog_8_method_4_code 41 = .ok (.getfield 15, 3) := by decide +kernel
theorem d_Un_rivalOf_44 : decode prog_8_method_4_code 44 = .ok (.getfield 100, 3) := by decide +kernel
theorem d_Un_rivalOf_47 : decode prog_8_method_4_code 47 = .ok (.if_icmp .ge 39, 3) := by decide +kernel
theorem d_Un_rivalOf_50 : decode prog_8_method_4_code 50 = .ok (.lload_n 3, 1) := by decide +kernel
theorem d_Un_rivalOf_51 : decode prog_8_method_4_code 51 = .ok (.iload 5, 2) := by decide +kernel
theorem d_Un_rivalOf_53 : decode prog_8_method_4_code 53 = .ok (.invokestatic 103, 3) := by decide +kernel
theorem d_Un_rivalOf_56 : decode prog_8_method_4_code 56 = .ok (.ifCond .eq 24, 3) := by decide +kernel
theorem d_Un_rivalOf_59 : decode prog_8_method_4_code 59 = .ok (.iload_n 2, 1) := by decide +kernel
theorem d_Un_rivalOf_60 : decode prog_8_method_4_code 60 = .ok (.i2l, 1) := by decide +kernel
theorem d_Un_rivalOf_61 : decode prog_8_method_4_code 61 = .ok (.aload_n 0, 1) := by decide +kernel
theorem d_Un_rivalOf_62 : decode prog_8_method_4_code 62 = .ok (.getfield 15, 3) := by decide +kernel
theorem d_Un_rivalOf_65 : decode prog_8_method_4_code 65 = .ok (.getfield 107, 3) := by decide +kernel
theorem d_Un_rivalOf_68 : decode prog_8_method_4_code 68 = .ok (.iload 5, 2) := by decide +kernel
theorem d_Un_rivalOf_70 : decode prog_8_method_4_code 70 = .ok (.iaload, 1) := by decide +kernel
theorem d_Un_rivalOf_71 : decode prog_8_method_4_code 71 = .ok (.invokestatic 103, 3) := by decide +kernel
theorem d_Un_rivalOf_74 : decode prog_8_method_4_code 74 = .ok (.ifCond .eq 6, 3) := by decide +kernel
theorem d_Un_rivalOf_77 : decode prog_8_method_4_code 77 = .ok (.iload 5, 2) := by decide +kernel
theorem d_Un_rivalOf_79 : decode prog_8_method_4_code 79 = .ok (.ireturn, 1) := by decide +kernel
theorem d_Un_rivalOf_80 : decode prog_8_method_4_code 80 = .ok (.iinc 5 1, 3) := by decide +kernel
theorem d_Un_rivalOf_83 : decode prog_8_method_4_code 83 = .ok (.goto (-45), 3) := by decide +kernel
theorem d_Un_rivalOf_86 : decode prog_8_method_4_code 86 = .ok (.iconst (-1), 1) := by decide +kernel
theorem d_Un_rivalOf_87 : decode prog_8_method_4_code 87 = .ok (.ireturn, 1) := by decide +kernel
theorem d_Un_run_0 : decode prog_8_method_2_code 0 = .ok (.aload_n 0, 1) := by decide +kernel
theorem d_Un_run_1 : decode prog_8_method_2_code 1 = .ok (.invokevirtual 32, 3) := by decide +kernel
theorem d_Un_run_4 : decode prog_8_method_2_code 4 = .ok (.iconst 0, 1) := by decide +kernel
theorem d_Un_run_5 : decode prog_8_method_2_code 5 = .ok (.istore_n 1, 1) := by decide +kernel
theorem d_Un_run_6 : decode prog_8_method_2_code 6 = .ok (.iload_n 1, 1) := by decide +kernel
theorem d_Un_run_7 : decode prog_8_method_2_code 7 = .ok (.bipush 30, 2) := by decide +kernel
theorem d_Un_run_9 : decode prog_8_method_2_code 9 = .ok (.if_icmp .gt 87, 3) := by decide +kernel
theorem d_Un_run_12 : decode prog_8_method_2_code 12 = .ok (.aload_n 0, 1) := by decide +kernel
theorem d_Un_run_13 : decode prog_8_method_2_code 13 = .ok (.getfield 28, 3) := by decide +kernel
theorem d_Un_run_16 : decode prog_8_method_2_code 16 = .ok (.invokevirtual 35, 3) := by decide +kernel
theorem d_Un_run_19 : decode prog_8_method_2_code 19 = .ok (.ifCond .eq 6, 3) := by decide +kernel
theorem d_Un_run_22 : decode prog_8_method_2_code 22 = .ok (.bipush (-3), 2) := by decide +kernel
theorem d_Un_run_24 : decode prog_8_method_2_code 24 = .ok (.ireturn, 1) := by decide +kernel
theorem d_Un_run_25 : decode prog_8_method_2_code 25 = .ok (.aload_n 0, 1) := by decide +kernel
theorem d_Un_run_26 : decode prog_8_method_2_code 26 = .ok (.getfield 28, 3) := by decide +kernel
