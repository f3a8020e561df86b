theorem d_Mo_come_75 : decode prog_11_method_28_code 75 = .ok (.aload_n 0, 1) := by decide +kernel
theorem d_Mo_come_76 : decode prog_11_method_28_code 76 = .ok (.getfield 57, 3) := by decide +kernel
theorem d_Mo_come_79 : decode prog_11_method_28_code 79 = .ok (.iload_n 3, 1) := by decide +kernel
theorem d_Mo_come_80 : decode prog_11_method_28_code 80 = .ok (.iaload, 1) := by decide +kernel
theorem d_Mo_come_81 : decode prog_11_method_28_code 81 = .ok (.goto 4, 3) := by decide +kernel
theorem d_Mo_come_84 : decode prog_11_method_28_code 84 = .ok (.iconst (-1), 1) := by decide +kernel
theorem d_Mo_come_85 : decode prog_11_method_28_code 85 = .ok (.iastore, 1) := by decide +kernel
theorem d_Mo_come_86 : decode prog_11_method_28_code 86 = .ok (.iinc 3 1, 3) := by decide +kernel
theorem d_Mo_come_89 : decode prog_11_method_28_code 89 = .ok (.goto (-38), 3) := by decide +kernel
theorem d_Mo_come_92 : decode prog_11_method_28_code 92 = .ok (.aload_n 0, 1) := by decide +kernel
theorem d_Mo_come_93 : decode prog_11_method_28_code 93 = .ok (.getfield 41, 3) := by decide +kernel
theorem d_Mo_come_96 : decode prog_11_method_28_code 96 = .ok (.iload_n 1, 1) := by decide +kernel
theorem d_Mo_come_97 : decode prog_11_method_28_code 97 = .ok (.aload_n 0, 1) := by decide +kernel
theorem d_Mo_come_98 : decode prog_11_method_28_code 98 = .ok (.getfield 133, 3) := by decide +kernel
theorem d_Mo_come_101 : decode prog_11_method_28_code 101 = .ok (.lastore, 1) := by decide +kernel
theorem d_Mo_come_102 : decode prog_11_method_28_code 102 = .ok (.aload_n 0, 1) := by decide +kernel
theorem d_Mo_come_103 : decode prog_11_method_28_code 103 = .ok (.getfield 44, 3) := by decide +kernel
theorem d_Mo_come_106 : decode prog_11_method_28_code 106 = .ok (.iload_n 1, 1) := by decide +kernel
theorem d_Mo_come_107 : decode prog_11_method_28_code 107 = .ok (.aload_n 0, 1) := by decide +kernel
theorem d_Mo_come_108 : decode prog_11_method_28_code 108 = .ok (.iload_n 2, 1) := by decide +kernel
theorem d_Mo_come_109 : decode prog_11_method_28_code 109 = .ok (.i2l, 1) := by decide +kernel
theorem d_Mo_come_110 : decode prog_11_method_28_code 110 = .ok (.invokevirtual 166, 3) := by decide +kernel
theorem d_Mo_come_113 : decode prog_11_method_28_code 113 = .ok (.aload_n 0, 1) := by decide +kernel
theorem d_Mo_come_114 : decode prog_11_method_28_code 114 = .ok (.getfield 7, 3) := by decide +kernel
theorem d_Mo_come_117 : decode prog_11_method_28_code 117 = .ok (.aload_n 0, 1) := by decide +kernel
theorem d_Mo_come_118 : decode prog_11_method_28_code 118 = .ok (.getfield 137, 3) := by decide +kernel
theorem d_Mo_come_121 : decode prog_11_method_28_code 121 = .ok (.iaload, 1) := by decide +kernel
theorem d_Mo_come_122 : decode prog_11_method_28_code 122 = .ok (.aload_n 0, 1) := by decide +kernel
theorem d_Mo_come_123 : decode prog_11_method_28_code 123 = .ok (.getfield 13, 3) := by decide +kernel
theorem d_Mo_come_126 : decode prog_11_method_28_code 126 = .ok (.aload_n 0, 1) := by decide +kernel
theorem d_Mo_come_127 : decode prog_11_method_28_code 127 = .ok (.getfield 137, 3) := by decide +kernel
theorem d_Mo_come_130 : decode prog_11_method_28_code 130 = .ok (.iaload, 1) := by decide +kernel
theorem d_Mo_come_131 : decode prog_11_method_28_code 131 = .ok (.invokestatic 103, 3) := by decide +kernel
theorem d_Mo_come_134 : decode prog_11_method_28_code 134 = .ok (.iastore, 1) := by decide +kernel
theorem d_Mo_come_135 : decode prog_11_method_28_code 135 = .ok (.aload_n 0, 1) := by decide +kernel
theorem d_Mo_come_136 : decode prog_11_method_28_code 136 = .ok (.getfield 47, 3) := by decide +kernel
theorem d_Mo_come_139 : decode prog_11_method_28_code 139 = .ok (.iload_n 1, 1) := by decide +kernel
theorem d_Mo_come_140 : decode prog_11_method_28_code 140 = .ok (.aload_n 0, 1) := by decide +kernel
theorem d_Mo_come_141 : decode prog_11_method_28_code 141 = .ok (.getfield 44, 3) := by decide +kernel
theorem d_Mo_come_144 : decode prog_11_method_28_code 144 = .ok (.iload_n 1, 1) := by decide +kernel
theorem d_Mo_come_145 : decode prog_11_method_28_code 145 = .ok (.iaload, 1) := by decide +kernel
theorem d_Mo_come_146 : decode prog_11_method_28_code 146 = .ok (.aload_n 0, 1) := by decide +kernel
theorem d_Mo_come_147 : decode prog_11_method_28_code 147 = .ok (.getfield 90, 3) := by decide +kernel
theorem d_Mo_come_150 : decode prog_11_method_28_code 150 = .ok (.if_icmp .ne 7, 3) := by decide +kernel
theorem d_Mo_come_153 : decode prog_11_method_28_code 153 = .ok (.iconst 1, 1) := by decide +kernel
theorem d_Mo_come_154 : decode prog_11_method_28_code 154 = .ok (.goto 4, 3) := by decide +kernel
theorem d_Mo_come_157 : decode prog_11_method_28_code 157 = .ok (.iconst 0, 1) := by decide +kernel
theorem d_Mo_come_158 : decode prog_11_method_28_code 158 = .ok (.bastore, 1) := by decide +kernel
theorem d_Mo_come_159 : decode prog_11_method_28_code 159 = .ok (.iconst 0, 1) := by decide +kernel
theorem d_Mo_come_160 : decode prog_11_method_28_code 160 = .ok (.istore_n 3, 1) := by decide +kernel
theorem d_Mo_come_161 : decode prog_11_method_28_code 161 = .ok (.iload_n 3, 1) := by decide +kernel
theorem d_Mo_come_162 : decode prog_11_method_28_code 162 = .ok (.iload_n 1, 1) := by decide +kernel
theorem d_Mo_come_163 : decode prog_11_method_28_code 163 = .ok (.if_icmp .ge 60, 3) := by decide +kernel
theorem d_Mo_come_166 : decode prog_11_method_28_code 166 = .ok (.aload_n 0, 1) := by decide +kernel
theorem d_Mo_come_167 : decode prog_11_method_28_code 167 = .ok (.getfield 47, 3) := by decide +kernel
theorem d_Mo_come_170 : decode prog_11_method_28_code 170 = .ok (.iload_n 1, 1) := by decide +kernel
theorem d_Mo_come_171 : decode prog_11_method_28_code 171 = .ok (.aload_n 0, 1) := by decide +kernel
theorem d_Mo_come_172 : decode prog_11_method_28_code 172 = .ok (.getfield 47, 3) := by decide +kernel
theorem d_Mo_come_175 : decode prog_11_method_28_code 175 = .ok (.iload_n 1, 1) := by decide +kernel
theorem d_Mo_come_176 : decode prog_11_method_28_code 176 = .ok (.baload, 1) := by decide +kernel
theorem d_Mo_come_177 : decode prog_11_method_28_code 177 = .ok (.ifCond .ne 34, 3) := by decide +kernel
theorem d_Mo_come_180 : decode prog_11_method_28_code 180 = .ok (.aload_n 0, 1) := by decide +kernel
theorem d_Mo_come_181 : decode prog_11_method_28_code 181 = .ok (.getfield 44, 3) := by decide +kernel
theorem d_Mo_come_184 : decode prog_11_method_28_code 184 = .ok (.iload_n 3, 1) := by decide +kernel
theorem d_Mo_come_185 : decode prog_11_method_28_code 185 = .ok (.iaload, 1) := by decide +kernel
theorem d_Mo_come_186 : decode prog_11_method_28_code 186 = .ok (.aload_n 0, 1) := by decide +kernel
theorem d_Mo_come_187 : decode prog_11_method_28_code 187 = .ok (.getfield 44, 3) := by decide +kernel
theorem d_Mo_come_190 : decode prog_11_method_28_code 190 = .ok (.iload_n 1, 1) := by decide +kernel
theorem d_Mo_come_191 : decode prog_11_method_28_code 191 = .ok (.iaload, 1) := by decide +kernel
theorem d_Mo_come_192 : decode prog_11_method_28_code 192 = .ok (.if_icmp .ne 23, 3) := by decide +kernel
theorem d_Mo_come_195 : decode prog_11_method_28_code 195 = .ok (.aload_n 0, 1) := by decide +kernel
theorem d_Mo_come_196 : decode prog_11_method_28_code 196 = .ok (.getfield 41, 3) := by decide +kernel
theorem d_Mo_come_199 : decode prog_11_method_28_code 199 = .ok (.iload_n 3, 1) := by decide +kernel
theorem d_Mo_come_200 : decode prog_11_method_28_code 200 = .ok (.laload, 1) := by decide +kernel
theorem d_Mo_come_201 : decode prog_11_method_28_code 201 = .ok (.aload_n 0, 1) := by decide +kernel
theorem d_Mo_come_202 : decode prog_11_method_28_code 202 = .ok (.getfield 41, 3) := by decide +kernel
theorem d_Mo_come_205 : decode prog_11_method_28_code 205 = .ok (.iload_n 1, 1) := by decide +kernel
theorem d_Mo_come_206 : decode prog_11_method_28_code 206 = .ok (.laload, 1) := by decide +kernel
theorem d_Mo_come_207 : decode prog_11_method_28_code 207 = .ok (.lcmp, 1) := by decide +kernel
theorem d_Mo_come_208 : decode prog_11_method_28_code 208 = .ok (.ifCond .ge 7, 3) := by decide +kernel
theorem d_Mo_come_211 : decode prog_11_method_28_code 211 = .ok (.iconst 1, 1) := by decide +kernel
theorem d_Mo_come_212 : decode prog_11_method_28_code 212 = .ok (.goto 4, 3) := by decide +kernel
theorem d_Mo_come_215 : decode prog_11_method_28_code 215 = .ok (.iconst 0, 1) := by decide +kernel
theorem d_Mo_come_216 : decode prog_11_method_28_code 216 = .ok (.bastore, 1) := by decide +kernel
theorem d_Mo_come_217 : decode prog_11_method_28_code 217 = .ok (.iinc 3 1, 3) := by decide +kernel
theorem d_Mo_come_220 : decode prog_11_method_28_code 220 = .ok (.goto (-59), 3) := by decide +kernel
theorem d_Mo_come_223 : decode prog_11_method_28_code 223 = .ok (.aload_n 0, 1) := by decide +kernel
theorem d_Mo_come_224 : decode prog_11_method_28_code 224 = .ok (.getfield 32, 3) := by decide +kernel
theorem d_Mo_come_227 : decode prog_11_method_28_code 227 = .ok (.iload_n 1, 1) := by decide +kernel
theorem d_Mo_come_228 : decode prog_11_method_28_code 228 = .ok (.iload_n 2, 1) := by decide +kernel
theorem d_Mo_come_229 : decode prog_11_method_28_code 229 = .ok (.iconst 1, 1) := by decide +kernel
theorem d_Mo_come_230 : decode prog_11_method_28_code 230 = .ok (.iload_n 1, 1) := by decide +kernel
theorem d_Mo_come_231 : decode prog_11_method_28_code 231 = .ok (.ishl, 1) := by decide +kernel
theorem d_Mo_come_232 : decode prog_11_method_28_code 232 = .ok (.ior, 1) := by decide +kernel
theorem d_Mo_come_233 : decode prog_11_method_28_code 233 = .ok (.iastore, 1) := by decide +kernel
theorem d_Mo_come_234 : decode prog_11_method_28_code 234 = .ok (.aload_n 0, 1) := by decide +kernel
theorem d_Mo_come_235 : decode prog_11_method_28_code 235 = .ok (.dup, 1) := by decide +kernel
theorem d_Mo_come_236 : decode prog_11_method_28_code 236 = .ok (.getfield 70, 3) := by decide +kernel
theorem d_Mo_come_239 : decode prog_11_method_28_code 239 = .ok (.iconst 1, 1) := by decide +kernel
theorem d_Mo_come_240 : decode prog_11_method_28_code 240 = .ok (.iadd, 1) := by decide +kernel
theorem d_Mo_come_241 : decode prog_11_method_28_code 241 = .ok (.putfield 70, 3) := by decide +kernel
theorem d_Mo_come_244 : decode prog_11_method_28_code 244 = .ok (.aload_n 0, 1) := by decide +kernel
theorem d_Mo_come_245 : decode prog_11_method_28_code 245 = .ok (.getfield 47, 3) := by decide +kernel
theorem d_Mo_come_248 : decode prog_11_method_28_code 248 = .ok (.iload_n 1, 1) := by decide +kernel
theorem d_Mo_come_249 : decode prog_11_method_28_code 249 = .ok (.baload, 1) := by decide +kernel
theorem d_Mo_come_250 : decode prog_11_method_28_code 250 = .ok (.ifCond .eq 5, 3) := by decide +kernel
theorem d_Mo_come_253 : decode prog_11_method_28_code 253 = .ok (.iconst 1, 1) := by decide +kernel
theorem d_Mo_come_254 : decode prog_11_method_28_code 254 = .ok (.ireturn, 1) := by decide +kernel
theorem d_Mo_come_255 : decode prog_11_method_28_code 255 = .ok (.aload_n 0, 1) := by decide +kernel
theorem d_Mo_come_256 : decode prog_11_method_28_code 256 = .ok (.getfield 73, 3) := by decide +kernel
theorem d_Mo_come_259 : decode prog_11_method_28_code 259 = .ok (.aload_n 0, 1) := by decide +kernel
theorem d_Mo_come_260 : decode prog_11_method_28_code 260 = .ok (.getfield 13, 3) := by decide +kernel
theorem d_Mo_come_263 : decode prog_11_method_28_code 263 = .ok (.aload_n 0, 1) := by decide +kernel
theorem d_Mo_come_264 : decode prog_11_method_28_code 264 = .ok (.getfield 137, 3) := by decide +kernel
theorem d_Mo_come_267 : decode prog_11_method_28_code 267 = .ok (.iaload, 1) := by decide +kernel
theorem d_Mo_come_268 : decode prog_11_method_28_code 268 = .ok (.invokestatic 143, 3) := by decide +kernel
theorem d_Mo_come_271 : decode prog_11_method_28_code 271 = .ok (.iadd, 1) := by decide +kernel
theorem d_Mo_come_272 : decode prog_11_method_28_code 272 = .ok (.bipush 60, 2) := by decide +kernel
theorem d_Mo_come_274 : decode prog_11_method_28_code 274 = .ok (.if_icmp .le 5, 3) := by decide +kernel
theorem d_Mo_come_277 : decode prog_11_method_28_code 277 = .ok (.iconst 0, 1) := by decide +kernel
theorem d_Mo_come_278 : decode prog_11_method_28_code 278 = .ok (.ireturn, 1) := by decide +kernel
theorem d_Mo_come_279 : decode prog_11_method_28_code 279 = .ok (.iconst 0, 1) := by decide +kernel
theorem d_Mo_come_280 : decode prog_11_method_28_code 280 = .ok (.istore_n 3, 1) := by decide +kernel
theorem d_Mo_come_281 : decode prog_11_method_28_code 281 = .ok (.iload_n 3, 1) := by decide +kernel
theorem d_Mo_come_282 : decode prog_11_method_28_code 282 = .ok (.bipush 8, 2) := by decide +kernel
theorem d_Mo_come_284 : decode prog_11_method_28_code 284 = .ok (.if_icmp .ge 38, 3) := by decide +kernel
theorem d_Mo_come_287 : decode prog_11_method_28_code 287 = .ok (.aload_n 0, 1) := by decide +kernel
theorem d_Mo_come_288 : decode prog_11_method_28_code 288 = .ok (.getfield 13, 3) := by decide +kernel
theorem d_Mo_come_291 : decode prog_11_method_28_code 291 = .ok (.aload_n 0, 1) := by decide +kernel
theorem d_Mo_come_292 : decode prog_11_method_28_code 292 = .ok (.getfield 137, 3) := by decide +kernel
theorem d_Mo_come_295 : decode prog_11_method_28_code 295 = .ok (.iaload, 1) := by decide +kernel
theorem d_Mo_come_296 : decode prog_11_method_28_code 296 = .ok (.iload_n 3, 1) := by decide +kernel
theorem d_Mo_come_297 : decode prog_11_method_28_code 297 = .ok (.ishr, 1) := by decide +kernel
theorem d_Mo_come_298 : decode prog_11_method_28_code 298 = .ok (.iconst 1, 1) := by decide +kernel
theorem d_Mo_come_299 : decode prog_11_method_28_code 299 = .ok (.iand, 1) := by decide +kernel
theorem d_Mo_come_300 : decode prog_11_method_28_code 300 = .ok (.iconst 1, 1) := by decide +kernel
theorem d_Mo_come_301 : decode prog_11_method_28_code 301 = .ok (.if_icmp .ne 15, 3) := by decide +kernel
theorem d_Mo_come_304 : decode prog_11_method_28_code 304 = .ok (.aload_n 0, 1) := by decide +kernel
theorem d_Mo_come_305 : decode prog_11_method_28_code 305 = .ok (.iload_n 3, 1) := by decide +kernel
theorem d_Mo_come_306 : decode prog_11_method_28_code 306 = .ok (.iload_n 1, 1) := by decide +kernel
theorem d_Mo_come_307 : decode prog_11_method_28_code 307 = .ok (.aload_n 0, 1) := by decide +kernel
theorem d_Mo_come_308 : decode prog_11_method_28_code 308 = .ok (.getfield 32, 3) := by decide +kernel
theorem d_Mo_come_311 : decode prog_11_method_28_code 311 = .ok (.iload_n 1, 1) := by decide +kernel
theorem d_Mo_come_312 : decode prog_11_method_28_code 312 = .ok (.iaload, 1) := by decide +kernel
theorem d_Mo_come_313 : decode prog_11_method_28_code 313 = .ok (.invokevirtual 170, 3) := by decide +kernel
theorem d_Mo_come_316 : decode prog_11_method_28_code 316 = .ok (.iinc 3 1, 3) := by decide +kernel
theorem d_Mo_come_319 : decode prog_11_method_28_code 319 = .ok (.goto (-38), 3) := by decide +kernel
theorem d_Mo_come_322 : decode prog_11_method_28_code 322 = .ok (.iconst 1, 1) := by decide +kernel
theorem d_Mo_come_323 : decode prog_11_method_28_code 323 = .ok (.ireturn, 1) := by decide +kernel
theorem d_Mo_concurrent_0 : decode prog_11_method_41_code 0 = .ok (.aload_n 0, 1) := by decide +kernel
theorem d_Mo_concurrent_1 : decode prog_11_method_41_code 1 = .ok (.iconst 0, 1) := by decide +kernel
theorem d_Mo_concurrent_2 : decode prog_11_method_41_code 2 = .ok (.putfield 67, 3) := by decide +kernel
theorem d_Mo_concurrent_5 : decode prog_11_method_41_code 5 = .ok (.iload_n 1, 1) := by decide +kernel
theorem d_Mo_concurrent_6 : decode prog_11_method_41_code 6 = .ok (.iconst 0, 1) := by decide +kernel
theorem d_Mo_concurrent_7 : decode prog_11_method_41_code 7 = .ok (.aload_n 0, 1) := by decide +kernel
theorem d_Mo_concurrent_8 : decode prog_11_method_41_code 8 = .ok (.getfield 73, 3) := by decide +kernel
theorem d_Mo_concurrent_11 : decode prog_11_method_41_code 11 = .ok (.iconst 1, 1) := by decide +kernel
theorem d_Mo_concurrent_12 : decode prog_11_method_41_code 12 = .ok (.isub, 1) := by decide +kernel
theorem d_Mo_concurrent_13 : decode prog_11_method_41_code 13 = .ok (.invokestatic 80, 3) := by decide +kernel
theorem d_Mo_concurrent_16 : decode prog_11_method_41_code 16 = .ok (.ifCond .ne 34, 3) := by decide +kernel
theorem d_Mo_concurrent_19 : decode prog_11_method_41_code 19 = .ok (.iload_n 2, 1) := by decide +kernel
theorem d_Mo_concurrent_20 : decode prog_11_method_41_code 20 = .ok (.iconst 0, 1) := by decide +kernel
theorem d_Mo_concurrent_21 : decode prog_11_method_41_code 21 = .ok (.aload_n 0, 1) := by decide +kernel
theorem d_Mo_concurrent_22 : decode prog_11_method_41_code 22 = .ok (.getfield 73, 3) := by decide +kernel
theorem d_Mo_concurrent_25 : decode prog_11_method_41_code 25 = .ok (.iconst 1, 1) := by decide +kernel
theorem d_Mo_concurrent_26 : decode prog_11_method_41_code 26 = .ok (.isub, 1) := by decide +kernel
theorem d_Mo_concurrent_27 : decode prog_11_method_41_code 27 = .ok (.invokestatic 80, 3) := by decide +kernel
theorem d_Mo_concurrent_30 : decode prog_11_method_41_code 30 = .ok (.ifCond .ne 20, 3) := by decide +kernel
theorem d_Mo_concurrent_33 : decode prog_11_method_41_code 33 = .ok (.aload_n 0, 1) := by decide +kernel
theorem d_Mo_concurrent_34 : decode prog_11_method_41_code 34 = .ok (.getfield 25, 3) := by decide +kernel
theorem d_Mo_concurrent_37 : decode prog_11_method_41_code 37 = .ok (.iload_n 1, 1) := by decide +kernel
theorem d_Mo_concurrent_38 : decode prog_11_method_41_code 38 = .ok (.laload, 1) := by decide +kernel
theorem d_Mo_concurrent_39 : decode prog_11_method_41_code 39 = .ok (.iload_n 2, 1) := by decide +kernel
theorem d_Mo_concurrent_40 : decode prog_11_method_41_code 40 = .ok (.invokestatic 93, 3) := by decide +kernel
theorem d_Mo_concurrent_43 : decode prog_11_method_41_code 43 = .ok (.ifCond .eq 7, 3) := by decide +kernel
theorem d_Mo_concurrent_46 : decode prog_11_method_41_code 46 = .ok (.iconst 1, 1) := by decide +kernel
theorem d_Mo_concurrent_47 : decode prog_11_method_41_code 47 = .ok (.goto 4, 3) := by decide +kernel
theorem d_Mo_concurrent_50 : decode prog_11_method_41_code 50 = .ok (.iconst 0, 1) := by decide +kernel
theorem d_Mo_concurrent_51 : decode prog_11_method_41_code 51 = .ok (.ireturn, 1) := by decide +kernel
theorem d_Mo_condition_II_0 : decode prog_11_method_40_code 0 = .ok (.aload_n 0, 1) := by decide +kernel
theorem d_Mo_condition_II_1 : decode prog_11_method_40_code 1 = .ok (.iconst 0, 1) := by decide +kernel
theorem d_Mo_condition_II_2 : decode prog_11_method_40_code 2 = .ok (.putfield 67, 3) := by decide +kernel
theorem d_Mo_condition_II_5 : decode prog_11_method_40_code 5 = .ok (.iload_n 1, 1) := by decide +kernel
theorem d_Mo_condition_II_6 : decode prog_11_method_40_code 6 = .ok (.iconst 0, 1) := by decide +kernel
theorem d_Mo_condition_II_7 : decode prog_11_method_40_code 7 = .ok (.aload_n 0, 1) := by decide +kernel
theorem d_Mo_condition_II_8 : decode prog_11_method_40_code 8 = .ok (.getfield 73, 3) := by decide +kernel
theorem d_Mo_condition_II_11 : decode prog_11_method_40_code 11 = .ok (.iconst 1, 1) := by decide +kernel
theorem d_Mo_condition_II_12 : decode prog_11_method_40_code 12 = .ok (.isub, 1) := by decide +kernel
theorem d_Mo_condition_II_13 : decode prog_11_method_40_code 13 = .ok (.invokestatic 80, 3) := by decide +kernel
theorem d_Mo_condition_II_16 : decode prog_11_method_40_code 16 = .ok (.ifCond .ne 12, 3) := by decide +kernel
theorem d_Mo_condition_II_19 : decode prog_11_method_40_code 19 = .ok (.iload_n 2, 1) := by decide +kernel
theorem d_Mo_condition_II_20 : decode prog_11_method_40_code 20 = .ok (.iconst 0, 1) := by decide +kernel
theorem d_Mo_condition_II_21 : decode prog_11_method_40_code 21 = .ok (.iconst 2, 1) := by decide +kernel
theorem d_Mo_condition_II_22 : decode prog_11_method_40_code 22 = .ok (.invokestatic 80, 3) := by decide +kernel
theorem d_Mo_condition_II_25 : decode prog_11_method_40_code 25 = .ok (.ifCond .eq 5, 3) := by decide +kernel
theorem d_Mo_condition_II_28 : decode prog_11_method_40_code 28 = .ok (.iconst (-1), 1) := by decide +kernel
theorem d_Mo_condition_II_29 : decode prog_11_method_40_code 29 = .ok (.ireturn, 1) := by decide +kernel
theorem d_Mo_condition_II_30 : decode prog_11_method_40_code 30 = .ok (.iconst 0, 1) := by decide +kernel
theorem d_Mo_condition_II_31 : decode prog_11_method_40_code 31 = .ok (.istore_n 3, 1) := by decide +kernel
theorem d_Mo_condition_II_32 : decode prog_11_method_40_code 32 = .ok (.iconst 0, 1) := by decide +kernel
theorem d_Mo_condition_II_33 : decode prog_11_method_40_code 33 = .ok (.istore 4, 2) := by decide +kernel
theorem d_Mo_condition_II_35 : decode prog_11_method_40_code 35 = .ok (.iload 4, 2) := by decide +kernel
theorem d_Mo_condition_II_37 : decode prog_11_method_40_code 37 = .ok (.aload_n 0, 1) := by decide +kernel
theorem d_Mo_condition_II_38 : decode prog_11_method_40_code 38 = .ok (.getfield 70, 3) := by decide +kernel
theorem d_Mo_condition_II_41 : decode prog_11_method_40_code 41 = .ok (.if_icmp .ge 31, 3) := by decide +kernel
theorem d_Mo_condition_II_44 : decode prog_11_method_40_code 44 = .ok (.aload_n 0, 1) := by decide +kernel
theorem d_Mo_condition_II_45 : decode prog_11_method_40_code 45 = .ok (.getfield 35, 3) := by decide +kernel
theorem d_Mo_condition_II_48 : decode prog_11_method_40_code 48 = .ok (.iload 4, 2) := by decide +kernel
theorem d_Mo_condition_II_50 : decode prog_11_method_40_code 50 = .ok (.laload, 1) := by decide +kernel
theorem d_Mo_condition_II_51 : decode prog_11_method_40_code 51 = .ok (.iload_n 1, 1) := by decide +kernel
theorem d_Mo_condition_II_52 : decode prog_11_method_40_code 52 = .ok (.invokestatic 93, 3) := by decide +kernel
theorem d_Mo_condition_II_55 : decode prog_11_method_40_code 55 = .ok (.ifCond .eq 9, 3) := by decide +kernel
theorem d_Mo_condition_II_58 : decode prog_11_method_40_code 58 = .ok (.iload_n 3, 1) := by decide +kernel
theorem d_Mo_condition_II_59 : decode prog_11_method_40_code 59 = .ok (.iconst 1, 1) := by decide +kernel
theorem d_Mo_condition_II_60 : decode prog_11_method_40_code 60 = .ok (.iadd, 1) := by decide +kernel
theorem d_Mo_condition_II_61 : decode prog_11_method_40_code 61 = .ok (.goto 4, 3) := by decide +kernel
theorem d_Mo_condition_II_64 : decode prog_11_method_40_code 64 = .ok (.iload_n 3, 1) := by decide +kernel
theorem d_Mo_condition_II_65 : decode prog_11_method_40_code 65 = .ok (.istore_n 3, 1) := by decide +kernel
theorem d_Mo_condition_II_66 : decode prog_11_method_40_code 66 = .ok (.iinc 4 1, 3) := by decide +kernel
theorem d_Mo_condition_II_69 : decode prog_11_method_40_code 69 = .ok (.goto (-34), 3) := by decide +kernel
theorem d_Mo_condition_II_72 : decode prog_11_method_40_code 72 = .ok (.iload_n 2, 1) := by decide +kernel
theorem d_Mo_condition_II_73 : decode prog_11_method_40_code 73 = .ok (.ifCond .ne 12, 3) := by decide +kernel
theorem d_Mo_condition_II_76 : decode prog_11_method_40_code 76 = .ok (.aload_n 0, 1) := by decide +kernel
theorem d_Mo_condition_II_77 : decode prog_11_method_40_code 77 = .ok (.getfield 16, 3) := by decide +kernel
theorem d_Mo_condition_II_80 : decode prog_11_method_40_code 80 = .ok (.iload_n 1, 1) := by decide +kernel
theorem d_Mo_condition_II_81 : decode prog_11_method_40_code 81 = .ok (.iaload, 1) := by decide +kernel
theorem d_Mo_condition_II_82 : decode prog_11_method_40_code 82 = .ok (.goto 18, 3) := by decide +kernel
theorem d_Mo_condition_II_85 : decode prog_11_method_40_code 85 = .ok (.iload_n 2, 1) := by decide +kernel
theorem d_Mo_condition_II_86 : decode prog_11_method_40_code 86 = .ok (.iconst 1, 1) := by decide +kernel
theorem d_Mo_condition_II_87 : decode prog_11_method_40_code 87 = .ok (.if_icmp .ne 12, 3) := by decide +kernel
theorem d_Mo_condition_II_90 : decode prog_11_method_40_code 90 = .ok (.aload_n 0, 1) := by decide +kernel
theorem d_Mo_condition_II_91 : decode prog_11_method_40_code 91 = .ok (.getfield 19, 3) := by decide +kernel
theorem d_Mo_condition_II_94 : decode prog_11_method_40_code 94 = .ok (.iload_n 1, 1) := by decide +kernel
theorem d_Mo_condition_II_95 : decode prog_11_method_40_code 95 = .ok (.iaload, 1) := by decide +kernel
theorem d_Mo_condition_II_96 : decode prog_11_method_40_code 96 = .ok (.goto 4, 3) := by decide +kernel
theorem d_Mo_condition_II_99 : decode prog_11_method_40_code 99 = .ok (.iload_n 3, 1) := by decide +kernel
theorem d_Mo_condition_II_100 : decode prog_11_method_40_code 100 = .ok (.ireturn, 1) := by decide +kernel
theorem d_Mo_condition_III_0 : decode prog_11_method_14_code 0 = .ok (.aload_n 0, 1) := by decide +kernel
theorem d_Mo_condition_III_1 : decode prog_11_method_14_code 1 = .ok (.getfield 73, 3) := by decide +kernel
theorem d_Mo_condition_III_4 : decode prog_11_method_14_code 4 = .ok (.istore 4, 2) := by decide +kernel
theorem d_Mo_condition_III_6 : decode prog_11_method_14_code 6 = .ok (.aload_n 0, 1) := by decide +kernel
theorem d_Mo_condition_III_7 : decode prog_11_method_14_code 7 = .ok (.getfield 16, 3) := by decide +kernel
theorem d_Mo_condition_III_10 : decode prog_11_method_14_code 10 = .ok (.iload 4, 2) := by decide +kernel
theorem d_Mo_condition_III_12 : decode prog_11_method_14_code 12 = .ok (.iload_n 1, 1) := by decide +kernel
theorem d_Mo_condition_III_13 : decode prog_11_method_14_code 13 = .ok (.iastore, 1) := by decide +kernel
theorem d_Mo_condition_III_14 : decode prog_11_method_14_code 14 = .ok (.aload_n 0, 1) := by decide +kernel
theorem d_Mo_condition_III_15 : decode prog_11_method_14_code 15 = .ok (.getfield 19, 3) := by decide +kernel
theorem d_Mo_condition_III_18 : decode prog_11_method_14_code 18 = .ok (.iload 4, 2) := by decide +kernel
theorem d_Mo_condition_III_20 : decode prog_11_method_14_code 20 = .ok (.iload_n 2, 1) := by decide +kernel
theorem d_Mo_condition_III_21 : decode prog_11_method_14_code 21 = .ok (.iastore, 1) := by decide +kernel
theorem d_Mo_condition_III_22 : decode prog_11_method_14_code 22 = .ok (.aload_n 0, 1) := by decide +kernel
theorem d_Mo_condition_III_23 : decode prog_11_method_14_code 23 = .ok (.getfield 22, 3) := by decide +kernel
theorem d_Mo_condition_III_26 : decode prog_11_method_14_code 26 = .ok (.iload 4, 2) := by decide +kernel
theorem d_Mo_condition_III_28 : decode prog_11_method_14_code 28 = .ok (.iload_n 3, 1) := by decide +kernel
theorem d_Mo_condition_III_29 : decode prog_11_method_14_code 29 = .ok (.iastore, 1) := by decide +kernel
theorem d_Mo_condition_III_30 : decode prog_11_method_14_code 30 = .ok (.aload_n 0, 1) := by decide +kernel
theorem d_Mo_condition_III_31 : decode prog_11_method_14_code 31 = .ok (.getfield 25, 3) := by decide +kernel
theorem d_Mo_condition_III_34 : decode prog_11_method_14_code 34 = .ok (.iload 4, 2) := by decide +kernel
theorem d_Mo_condition_III_36 : decode prog_11_method_14_code 36 = .ok (.lconst 0, 1) := by decide +kernel
theorem d_Mo_condition_III_37 : decode prog_11_method_14_code 37 = .ok (.lastore, 1) := by decide +kernel
theorem d_Mo_condition_III_38 : decode prog_11_method_14_code 38 = .ok (.aload_n 0, 1) := by decide +kernel
theorem d_Mo_condition_III_39 : decode prog_11_method_14_code 39 = .ok (.dup, 1) := by decide +kernel
theorem d_Mo_condition_III_40 : decode prog_11_method_14_code 40 = .ok (.getfield 73, 3) := by decide +kernel
theorem d_Mo_condition_III_43 : decode prog_11_method_14_code 43 = .ok (.iconst 1, 1) := by decide +kernel
theorem d_Mo_condition_III_44 : decode prog_11_method_14_code 44 = .ok (.iadd, 1) := by decide +kernel
theorem d_Mo_condition_III_45 : decode prog_11_method_14_code 45 = .ok (.putfield 73, 3) := by decide +kernel
theorem d_Mo_condition_III_48 : decode prog_11_method_14_code 48 = .ok (.iconst 0, 1) := by decide +kernel
theorem d_Mo_condition_III_49 : decode prog_11_method_14_code 49 = .ok (.istore 5, 2) := by decide +kernel
theorem d_Mo_condition_III_51 : decode prog_11_method_14_code 51 = .ok (.iload 5, 2) := by decide +kernel
theorem d_Mo_condition_III_53 : decode prog_11_method_14_code 53 = .ok (.iload 4, 2) := by decide +kernel
theorem d_Mo_condition_III_55 : decode prog_11_method_14_code 55 = .ok (.if_icmp .ge 48, 3) := by decide +kernel
theorem d_Mo_condition_III_58 : decode prog_11_method_14_code 58 = .ok (.aload_n 0, 1) := by decide +kernel
theorem d_Mo_condition_III_59 : decode prog_11_method_14_code 59 = .ok (.iload 4, 2) := by decide +kernel
theorem d_Mo_condition_III_61 : decode prog_11_method_14_code 61 = .ok (.iload 5, 2) := by decide +kernel
theorem d_Mo_condition_III_63 : decode prog_11_method_14_code 63 = .ok (.invokevirtual 107, 3) := by decide +kernel
theorem d_Mo_condition_III_66 : decode prog_11_method_14_code 66 = .ok (.ifCond .eq 31, 3) := by decide +kernel
theorem d_Mo_condition_III_69 : decode prog_11_method_14_code 69 = .ok (.aload_n 0, 1) := by decide +kernel
theorem d_Mo_condition_III_70 : decode prog_11_method_14_code 70 = .ok (.getfield 25, 3) := by decide +kernel
theorem d_Mo_condition_III_73 : decode prog_11_method_14_code 73 = .ok (.iload 4, 2) := by decide +kernel
theorem d_Mo_condition_III_75 : decode prog_11_method_14_code 75 = .ok (.dup2, 1) := by decide +kernel
theorem d_Mo_condition_III_76 : decode prog_11_method_14_code 76 = .ok (.laload, 1) := by decide +kernel
theorem d_Mo_condition_III_77 : decode prog_11_method_14_code 77 = .ok (.lconst 1, 1) := by decide +kernel
theorem d_Mo_condition_III_78 : decode prog_11_method_14_code 78 = .ok (.iload 5, 2) := by decide +kernel
theorem d_Mo_condition_III_80 : decode prog_11_method_14_code 80 = .ok (.lshl, 1) := by decide +kernel
theorem d_Mo_condition_III_81 : decode prog_11_method_14_code 81 = .ok (.lor, 1) := by decide +kernel
theorem d_Mo_condition_III_82 : decode prog_11_method_14_code 82 = .ok (.lastore, 1) := by decide +kernel
theorem d_Mo_condition_III_83 : decode prog_11_method_14_code 83 = .ok (.aload_n 0, 1) := by decide +kernel
theorem d_Mo_condition_III_84 : decode prog_11_method_14_code 84 = .ok (.getfield 25, 3) := by decide +kernel
theorem d_Mo_condition_III_87 : decode prog_11_method_14_code 87 = .ok (.iload 5, 2) := by decide +kernel
theorem d_Mo_condition_III_89 : decode prog_11_method_14_code 89 = .ok (.dup2, 1) := by decide +kernel
theorem d_Mo_condition_III_90 : decode prog_11_method_14_code 90 = .ok (.laload, 1) := by decide +kernel
theorem d_Mo_condition_III_91 : decode prog_11_method_14_code 91 = .ok (.lconst 1, 1) := by decide +kernel
theorem d_Mo_condition_III_92 : decode prog_11_method_14_code 92 = .ok (.iload 4, 2) := by decide +kernel
theorem d_Mo_condition_III_94 : decode prog_11_method_14_code 94 = .ok (.lshl, 1) := by decide +kernel
theorem d_Mo_condition_III_95 : decode prog_11_method_14_code 95 = .ok (.lor, 1) := by decide +kernel
theorem d_Mo_condition_III_96 : decode prog_11_method_14_code 96 = .ok (.lastore, 1) := by decide +kernel
theorem d_Mo_condition_III_97 : decode prog_11_method_14_code 97 = .ok (.iinc 5 1, 3) := by decide +kernel
theorem d_Mo_condition_III_100 : decode prog_11_method_14_code 100 = .ok (.goto (-49), 3) := by decide +kernel
theorem d_Mo_condition_III_103 : decode prog_11_method_14_code 103 = .ok (.return_, 1) := by decide +kernel
theorem d_Mo_count_0 : decode prog_11_method_37_code 0 = .ok (.aload_n 0, 1) := by decide +kernel
theorem d_Mo_count_1 : decode prog_11_method_37_code 1 = .ok (.iconst 0, 1) := by decide +kernel
theorem d_Mo_count_2 : decode prog_11_method_37_code 2 = .ok (.putfield 67, 3) := by decide +kernel
theorem d_Mo_count_5 : decode prog_11_method_37_code 5 = .ok (.iconst 0, 1) := by decide +kernel
theorem d_Mo_count_6 : decode prog_11_method_37_code 6 = .ok (.istore_n 2, 1) := by decide +kernel
theorem d_Mo_count_7 : decode prog_11_method_37_code 7 = .ok (.iconst 0, 1) := by decide +kernel
theorem d_Mo_count_8 : decode prog_11_method_37_code 8 = .ok (.istore_n 3, 1) := by decide +kernel
theorem d_Mo_count_9 : decode prog_11_method_37_code 9 = .ok (.iload_n 3, 1) := by decide +kernel
theorem d_Mo_count_10 : decode prog_11_method_37_code 10 = .ok (.aload_n 0, 1) := by decide +kernel
theorem d_Mo_count_11 : decode prog_11_method_37_code 11 = .ok (.getfield 70, 3) := by decide +kernel
theorem d_Mo_count_14 : decode prog_11_method_37_code 14 = .ok (.if_icmp .ge 26, 3) := by decide +kernel
theorem d_Mo_count_17 : decode prog_11_method_37_code 17 = .ok (.aload_n 0, 1) := by decide +kernel
theorem d_Mo_count_18 : decode prog_11_method_37_code 18 = .ok (.getfield 47, 3) := by decide +kernel
theorem d_Mo_count_21 : decode prog_11_method_37_code 21 = .ok (.iload_n 3, 1) := by decide +kernel
theorem d_Mo_count_22 : decode prog_11_method_37_code 22 = .ok (.baload, 1) := by decide +kernel
theorem d_Mo_count_23 : decode prog_11_method_37_code 23 = .ok (.ifCond .eq 9, 3) := by decide +kernel
theorem d_Mo_count_26 : decode prog_11_method_37_code 26 = .ok (.iload_n 2, 1) := by decide +kernel
theorem d_Mo_count_27 : decode prog_11_method_37_code 27 = .ok (.iconst 1, 1) := by decide +kernel
theorem d_Mo_count_28 : decode prog_11_method_37_code 28 = .ok (.iadd, 1) := by decide +kernel
theorem d_Mo_count_29 : decode prog_11_method_37_code 29 = .ok (.goto 4, 3) := by decide +kernel
theorem d_Mo_count_32 : decode prog_11_method_37_code 32 = .ok (.iload_n 2, 1) := by decide +kernel
theorem d_Mo_count_33 : decode prog_11_method_37_code 33 = .ok (.istore_n 2, 1) := by decide +kernel
theorem d_Mo_count_34 : decode prog_11_method_37_code 34 = .ok (.iinc 3 1, 3) := by decide +kernel
theorem d_Mo_count_37 : decode prog_11_method_37_code 37 = .ok (.goto (-28), 3) := by decide +kernel
theorem d_Mo_count_40 : decode prog_11_method_37_code 40 = .ok (.iload_n 1, 1) := by decide +kernel
theorem d_Mo_count_41 : decode prog_11_method_37_code 41 = .ok (.ifCond .ne 10, 3) := by decide +kernel
theorem d_Mo_count_44 : decode prog_11_method_37_code 44 = .ok (.aload_n 0, 1) := by decide +kernel
theorem d_Mo_count_45 : decode prog_11_method_37_code 45 = .ok (.getfield 70, 3) := by decide +kernel
theorem d_Mo_count_48 : decode prog_11_method_37_code 48 = .ok (.goto 37, 3) := by decide +kernel
theorem d_Mo_count_51 : decode prog_11_method_37_code 51 = .ok (.iload_n 1, 1) := by decide +kernel
theorem d_Mo_count_52 : decode prog_11_method_37_code 52 = .ok (.iconst 1, 1) := by decide +kernel
theorem d_Mo_count_53 : decode prog_11_method_37_code 53 = .ok (.if_icmp .ne 10, 3) := by decide +kernel
theorem d_Mo_count_56 : decode prog_11_method_37_code 56 = .ok (.aload_n 0, 1) := by decide +kernel
theorem d_Mo_count_57 : decode prog_11_method_37_code 57 = .ok (.getfield 73, 3) := by decide +kernel
theorem d_Mo_count_60 : decode prog_11_method_37_code 60 = .ok (.goto 25, 3) := by decide +kernel
theorem d_Mo_count_63 : decode prog_11_method_37_code 63 = .ok (.iload_n 1, 1) := by decide +kernel
theorem d_Mo_count_64 : decode prog_11_method_37_code 64 = .ok (.iconst 2, 1) := by decide +kernel
theorem d_Mo_count_65 : decode prog_11_method_37_code 65 = .ok (.if_icmp .ne 7, 3) := by decide +kernel
theorem d_Mo_count_68 : decode prog_11_method_37_code 68 = .ok (.iload_n 2, 1) := by decide +kernel
theorem d_Mo_count_69 : decode prog_11_method_37_code 69 = .ok (.goto 16, 3) := by decide +kernel
theorem d_Mo_count_72 : decode prog_11_method_37_code 72 = .ok (.iload_n 1, 1) := by decide +kernel
theorem d_Mo_count_73 : decode prog_11_method_37_code 73 = .ok (.iconst 3, 1) := by decide +kernel
theorem d_Mo_count_74 : decode prog_11_method_37_code 74 = .ok (.if_icmp .ne 10, 3) := by decide +kernel
theorem d_Mo_count_77 : decode prog_11_method_37_code 77 = .ok (.aload_n 0, 1) := by decide +kernel
theorem d_Mo_count_78 : decode prog_11_method_37_code 78 = .ok (.getfield 63, 3) := by decide +kernel
theorem d_Mo_count_81 : decode prog_11_method_37_code 81 = .ok (.goto 4, 3) := by decide +kernel
theorem d_Mo_count_84 : decode prog_11_method_37_code 84 = .ok (.iconst (-1), 1) := by decide +kernel
theorem d_Mo_count_85 : decode prog_11_method_37_code 85 = .ok (.ireturn, 1) := by decide +kernel
theorem d_Mo_deadlock_0 : decode prog_11_method_34_code 0 = .ok (.aload_n 0, 1) := by decide +kernel
theorem d_Mo_deadlock_1 : decode prog_11_method_34_code 1 = .ok (.aload_n 0, 1) := by decide +kernel
theorem d_Mo_deadlock_2 : decode prog_11_method_34_code 2 = .ok (.getfield 76, 3) := by decide +kernel
theorem d_Mo_deadlock_5 : decode prog_11_method_34_code 5 = .ok (.ifCond .eq 7, 3) := by decide +kernel
theorem d_Mo_deadlock_8 : decode prog_11_method_34_code 8 = .ok (.iconst 0, 1) := by decide +kernel
theorem d_Mo_deadlock_9 : decode prog_11_method_34_code 9 = .ok (.goto 4, 3) := by decide +kernel
theorem d_Mo_deadlock_12 : decode prog_11_method_34_code 12 = .ok (.iconst 1, 1) := by decide +kernel
theorem d_Mo_deadlock_13 : decode prog_11_method_34_code 13 = .ok (.putfield 67, 3) := by decide +kernel
theorem d_Mo_deadlock_16 : decode prog_11_method_34_code 16 = .ok (.aload_n 0, 1) := by decide +kernel
theorem d_Mo_deadlock_17 : decode prog_11_method_34_code 17 = .ok (.getfield 67, 3) := by decide +kernel
theorem d_Mo_deadlock_20 : decode prog_11_method_34_code 20 = .ok (.ifCond .eq 7, 3) := by decide +kernel
theorem d_Mo_deadlock_23 : decode prog_11_method_34_code 23 = .ok (.iconst 0, 1) := by decide +kernel
theorem d_Mo_deadlock_24 : decode prog_11_method_34_code 24 = .ok (.goto 8, 3) := by decide +kernel
theorem d_Mo_deadlock_27 : decode prog_11_method_34_code 27 = .ok (.aload_n 0, 1) := by decide +kernel
theorem d_Mo_deadlock_28 : decode prog_11_method_34_code 28 = .ok (.iconst (-1), 1) := by decide +kernel
theorem d_Mo_deadlock_29 : decode prog_11_method_34_code 29 = .ok (.invokevirtual 196, 3) := by decide +kernel
theorem d_Mo_deadlock_32 : decode prog_11_method_34_code 32 = .ok (.ireturn, 1) := by decide +kernel
theorem d_Mo_event_0 : decode prog_11_method_38_code 0 = .ok (.aload_n 0, 1) := by decide +kernel
theorem d_Mo_event_1 : decode prog_11_method_38_code 1 = .ok (.iconst 0, 1) := by decide +kernel
theorem d_Mo_event_2 : decode prog_11_method_38_code 2 = .ok (.putfield 67, 3) := by decide +kernel
theorem d_Mo_event_5 : decode prog_11_method_38_code 5 = .ok (.iload_n 1, 1) := by decide +kernel
theorem d_Mo_event_6 : decode prog_11_method_38_code 6 = .ok (.iconst 0, 1) := by decide +kernel
theorem d_Mo_event_7 : decode prog_11_method_38_code 7 = .ok (.aload_n 0, 1) := by decide +kernel
theorem d_Mo_event_8 : decode prog_11_method_38_code 8 = .ok (.getfield 70, 3) := by decide +kernel
theorem d_Mo_event_11 : decode prog_11_method_38_code 11 = .ok (.iconst 1, 1) := by decide +kernel
theorem d_Mo_event_12 : decode prog_11_method_38_code 12 = .ok (.isub, 1) := by decide +kernel
theorem d_Mo_event_13 : decode prog_11_method_38_code 13 = .ok (.invokestatic 80, 3) := by decide +kernel
theorem d_Mo_event_16 : decode prog_11_method_38_code 16 = .ok (.ifCond .ne 12, 3) := by decide +kernel
theorem d_Mo_event_19 : decode prog_11_method_38_code 19 = .ok (.iload_n 2, 1) := by decide +kernel
theorem d_Mo_event_20 : decode prog_11_method_38_code 20 = .ok (.iconst 0, 1) := by decide +kernel
theorem d_Mo_event_21 : decode prog_11_method_38_code 21 = .ok (.iconst 3, 1) := by decide +kernel
theorem d_Mo_event_22 : decode prog_11_method_38_code 22 = .ok (.invokestatic 80, 3) := by decide +kernel
theorem d_Mo_event_25 : decode prog_11_method_38_code 25 = .ok (.ifCond .eq 5, 3) := by decide +kernel
theorem d_Mo_event_28 : decode prog_11_method_38_code 28 = .ok (.iconst (-1), 1) := by decide +kernel
theorem d_Mo_event_29 : decode prog_11_method_38_code 29 = .ok (.ireturn, 1) := by decide +kernel
theorem d_Mo_event_30 : decode prog_11_method_38_code 30 = .ok (.iload_n 2, 1) := by decide +kernel
theorem d_Mo_event_31 : decode prog_11_method_38_code 31 = .ok (.ifCond .ne 12, 3) := by decide +kernel
theorem d_Mo_event_34 : decode prog_11_method_38_code 34 = .ok (.aload_n 0, 1) := by decide +kernel
theorem d_Mo_event_35 : decode prog_11_method_38_code 35 = .ok (.getfield 29, 3) := by decide +kernel
theorem d_Mo_event_38 : decode prog_11_method_38_code 38 = .ok (.iload_n 1, 1) := by decide +kernel
theorem d_Mo_event_39 : decode prog_11_method_38_code 39 = .ok (.iaload, 1) := by decide +kernel
theorem d_Mo_event_40 : decode prog_11_method_38_code 40 = .ok (.goto 51, 3) := by decide +kernel
theorem d_Mo_event_43 : decode prog_11_method_38_code 43 = .ok (.iload_n 2, 1) := by decide +kernel
theorem d_Mo_event_44 : decode prog_11_method_38_code 44 = .ok (.iconst 1, 1) := by decide +kernel
theorem d_Mo_event_45 : decode prog_11_method_38_code 45 = .ok (.if_icmp .ne 18, 3) := by decide +kernel
theorem d_Mo_event_48 : decode prog_11_method_38_code 48 = .ok (.aload_n 0, 1) := by decide +kernel
theorem d_Mo_event_49 : decode prog_11_method_38_code 49 = .ok (.getfield 41, 3) := by decide +kernel
theorem d_Mo_event_52 : decode prog_11_method_38_code 52 = .ok (.iload_n 1, 1) := by decide +kernel
theorem d_Mo_event_53 : decode prog_11_method_38_code 53 = .ok (.laload, 1) := by decide +kernel
theorem d_Mo_event_54 : decode prog_11_method_38_code 54 = .ok (.bipush 40, 2) := by decide +kernel
theorem d_Mo_event_56 : decode prog_11_method_38_code 56 = .ok (.lshr, 1) := by decide +kernel
theorem d_Mo_event_57 : decode prog_11_method_38_code 57 = .ok (.l2i, 1) := by decide +kernel
theorem d_Mo_event_58 : decode prog_11_method_38_code 58 = .ok (.iconst 1, 1) := by decide +kernel
theorem d_Mo_event_59 : decode prog_11_method_38_code 59 = .ok (.isub, 1) := by decide +kernel
theorem d_Mo_event_60 : decode prog_11_method_38_code 60 = .ok (.goto 31, 3) := by decide +kernel
theorem d_Mo_event_63 : decode prog_11_method_38_code 63 = .ok (.iload_n 2, 1) := by decide +kernel
theorem d_Mo_event_64 : decode prog_11_method_38_code 64 = .ok (.iconst 2, 1) := by decide +kernel
theorem d_Mo_event_65 : decode prog_11_method_38_code 65 = .ok (.if_icmp .ne 12, 3) := by decide +kernel
theorem d_Mo_event_68 : decode prog_11_method_38_code 68 = .ok (.aload_n 0, 1) := by decide +kernel
theorem d_Mo_event_69 : decode prog_11_method_38_code 69 = .ok (.getfield 44, 3) := by decide +kernel
theorem d_Mo_event_72 : decode prog_11_method_38_code 72 = .ok (.iload_n 1, 1) := by decide +kernel
theorem d_Mo_event_73 : decode prog_11_method_38_code 73 = .ok (.iaload, 1) := by decide +kernel
theorem d_Mo_event_74 : decode prog_11_method_38_code 74 = .ok (.goto 17, 3) := by decide +kernel
theorem d_Mo_event_77 : decode prog_11_method_38_code 77 = .ok (.aload_n 0, 1) := by decide +kernel
theorem d_Mo_event_78 : decode prog_11_method_38_code 78 = .ok (.getfield 47, 3) := by decide +kernel
theorem d_Mo_event_81 : decode prog_11_method_38_code 81 = .ok (.iload_n 1, 1) := by decide +kernel
theorem d_Mo_event_82 : decode prog_11_method_38_code 82 = .ok (.baload, 1) := by decide +kernel
theorem d_Mo_event_83 : decode prog_11_method_38_code 83 = .ok (.ifCond .eq 7, 3) := by decide +kernel
theorem d_Mo_event_86 : decode prog_11_method_38_code 86 = .ok (.iconst 1, 1) := by decide +kernel
theorem d_Mo_event_87 : decode prog_11_method_38_code 87 = .ok (.goto 4, 3) := by decide +kernel
theorem d_Mo_event_90 : decode prog_11_method_38_code 90 = .ok (.iconst 0, 1) := by decide +kernel
theorem d_Mo_event_91 : decode prog_11_method_38_code 91 = .ok (.ireturn, 1) := by decide +kernel
theorem d_Mo_fire_0 : decode prog_11_method_12_code 0 = .ok (.iload_n 0, 1) := by decide +kernel
theorem d_Mo_fire_1 : decode prog_11_method_12_code 1 = .ok (.iload_n 1, 1) := by decide +kernel
theorem d_Mo_fire_2 : decode prog_11_method_12_code 2 = .ok (.iconst (-1), 1) := by decide +kernel
theorem d_Mo_fire_3 : decode prog_11_method_12_code 3 = .ok (.ixor, 1) := by decide +kernel
theorem d_Mo_fire_4 : decode prog_11_method_12_code 4 = .ok (.iand, 1) := by decide +kernel
theorem d_Mo_fire_5 : decode prog_11_method_12_code 5 = .ok (.iload_n 2, 1) := by decide +kernel
theorem d_Mo_fire_6 : decode prog_11_method_12_code 6 = .ok (.ior, 1) := by decide +kernel
theorem d_Mo_fire_7 : decode prog_11_method_12_code 7 = .ok (.ireturn, 1) := by decide +kernel
theorem d_Mo_first_0 : decode prog_11_method_8_code 0 = .ok (.aload_n 0, 1) := by decide +kernel
theorem d_Mo_first_1 : decode prog_11_method_8_code 1 = .ok (.iload_n 1, 1) := by decide +kernel
theorem d_Mo_first_2 : decode prog_11_method_8_code 2 = .ok (.iconst 0, 1) := by decide +kernel
theorem d_Mo_first_3 : decode prog_11_method_8_code 3 = .ok (.sipush 255, 3) := by decide +kernel
theorem d_Mo_first_6 : decode prog_11_method_8_code 6 = .ok (.invokestatic 80, 3) := by decide +kernel
theorem d_Mo_first_9 : decode prog_11_method_8_code 9 = .ok (.ifCond .eq 7, 3) := by decide +kernel
theorem d_Mo_first_12 : decode prog_11_method_8_code 12 = .ok (.iconst 1, 1) := by decide +kernel
theorem d_Mo_first_13 : decode prog_11_method_8_code 13 = .ok (.goto 4, 3) := by decide +kernel
theorem d_Mo_first_16 : decode prog_11_method_8_code 16 = .ok (.iconst 0, 1) := by decide +kernel
theorem d_Mo_first_17 : decode prog_11_method_8_code 17 = .ok (.putfield 67, 3) := by decide +kernel
theorem d_Mo_first_20 : decode prog_11_method_8_code 20 = .ok (.aload_n 0, 1) := by decide +kernel
theorem d_Mo_first_21 : decode prog_11_method_8_code 21 = .ok (.getfield 67, 3) := by decide +kernel
theorem d_Mo_first_24 : decode prog_11_method_8_code 24 = .ok (.ifCond .eq 4, 3) := by decide +kernel
theorem d_Mo_first_27 : decode prog_11_method_8_code 27 = .ok (.return_, 1) := by decide +kernel
theorem d_Mo_first_28 : decode prog_11_method_8_code 28 = .ok (.aload_n 0, 1) := by decide +kernel
theorem d_Mo_first_29 : decode prog_11_method_8_code 29 = .ok (.iload_n 1, 1) := by decide +kernel
theorem d_Mo_first_30 : decode prog_11_method_8_code 30 = .ok (.putfield 90, 3) := by decide +kernel
theorem d_Mo_first_33 : decode prog_11_method_8_code 33 = .ok (.aload_n 0, 1) := by decide +kernel
theorem d_Mo_first_34 : decode prog_11_method_8_code 34 = .ok (.invokevirtual 87, 3) := by decide +kernel
theorem d_Mo_first_37 : decode prog_11_method_8_code 37 = .ok (.return_, 1) := by decide +kernel
theorem d_Mo_fits_0 : decode prog_11_method_31_code 0 = .ok (.aload_n 0, 1) := by decide +kernel
theorem d_Mo_fits_1 : decode prog_11_method_31_code 1 = .ok (.getfield 32, 3) := by decide +kernel
theorem d_Mo_fits_4 : decode prog_11_method_31_code 4 = .ok (.iload_n 3, 1) := by decide +kernel
theorem d_Mo_fits_5 : decode prog_11_method_31_code 5 = .ok (.iaload, 1) := by decide +kernel
theorem d_Mo_fits_6 : decode prog_11_method_31_code 6 = .ok (.iconst 1, 1) := by decide +kernel
theorem d_Mo_fits_7 : decode prog_11_method_31_code 7 = .ok (.iload_n 3, 1) := by decide +kernel
theorem d_Mo_fits_8 : decode prog_11_method_31_code 8 = .ok (.ishl, 1) := by decide +kernel
theorem d_Mo_fits_9 : decode prog_11_method_31_code 9 = .ok (.ixor, 1) := by decide +kernel
theorem d_Mo_fits_10 : decode prog_11_method_31_code 10 = .ok (.i2l, 1) := by decide +kernel
theorem d_Mo_fits_11 : decode prog_11_method_31_code 11 = .ok (.lstore 4, 2) := by decide +kernel
theorem d_Mo_fits_13 : decode prog_11_method_31_code 13 = .ok (.aload_n 0, 1) := by decide +kernel
theorem d_Mo_fits_14 : decode prog_11_method_31_code 14 = .ok (.getfield 47, 3) := by decide +kernel
theorem d_Mo_fits_17 : decode prog_11_method_31_code 17 = .ok (.iload_n 3, 1) := by decide +kernel
theorem d_Mo_fits_18 : decode prog_11_method_31_code 18 = .ok (.baload, 1) := by decide +kernel
theorem d_Mo_fits_19 : decode prog_11_method_31_code 19 = .ok (.ifCond .ne 37, 3) := by decide +kernel
theorem d_Mo_fits_22 : decode prog_11_method_31_code 22 = .ok (.lload 4, 2) := by decide +kernel
theorem d_Mo_fits_24 : decode prog_11_method_31_code 24 = .ok (.lload_n 1, 1) := by decide +kernel
theorem d_Mo_fits_25 : decode prog_11_method_31_code 25 = .ok (.ldc2_w 97, 3) := by decide +kernel
theorem d_Mo_fits_28 : decode prog_11_method_31_code 28 = .ok (.lxor, 1) := by decide +kernel
theorem d_Mo_fits_29 : decode prog_11_method_31_code 29 = .ok (.land, 1) := by decide +kernel
theorem d_Mo_fits_30 : decode prog_11_method_31_code 30 = .ok (.lconst 0, 1) := by decide +kernel
theorem d_Mo_fits_31 : decode prog_11_method_31_code 31 = .ok (.lcmp, 1) := by decide +kernel
theorem d_Mo_fits_32 : decode prog_11_method_31_code 32 = .ok (.ifCond .ne 24, 3) := by decide +kernel
theorem d_Mo_fits_35 : decode prog_11_method_31_code 35 = .ok (.aload_n 0, 1) := by decide +kernel
theorem d_Mo_fits_36 : decode prog_11_method_31_code 36 = .ok (.lload_n 1, 1) := by decide +kernel
theorem d_Mo_fits_37 : decode prog_11_method_31_code 37 = .ok (.invokevirtual 99, 3) := by decide +kernel
theorem d_Mo_fits_40 : decode prog_11_method_31_code 40 = .ok (.aload_n 0, 1) := by decide +kernel
theorem d_Mo_fits_41 : decode prog_11_method_31_code 41 = .ok (.getfield 35, 3) := by decide +kernel
theorem d_Mo_fits_44 : decode prog_11_method_31_code 44 = .ok (.iload_n 3, 1) := by decide +kernel
theorem d_Mo_fits_45 : decode prog_11_method_31_code 45 = .ok (.laload, 1) := by decide +kernel
theorem d_Mo_fits_46 : decode prog_11_method_31_code 46 = .ok (.land, 1) := by decide +kernel
theorem d_Mo_fits_47 : decode prog_11_method_31_code 47 = .ok (.lconst 0, 1) := by decide +kernel
theorem d_Mo_fits_48 : decode prog_11_method_31_code 48 = .ok (.lcmp, 1) := by decide +kernel
theorem d_Mo_fits_49 : decode prog_11_method_31_code 49 = .ok (.ifCond .ne 7, 3) := by decide +kernel
theorem d_Mo_fits_52 : decode prog_11_method_31_code 52 = .ok (.iconst 1, 1) := by decide +kernel
theorem d_Mo_fits_53 : decode prog_11_method_31_code 53 = .ok (.goto 4, 3) := by decide +kernel
theorem d_Mo_fits_56 : decode prog_11_method_31_code 56 = .ok (.iconst 0, 1) := by decide +kernel
theorem d_Mo_fits_57 : decode prog_11_method_31_code 57 = .ok (.ireturn, 1) := by decide +kernel
theorem d_Mo_forget_0 : decode prog_11_method_6_code 0 = .ok (.aload_n 0, 1) := by decide +kernel
theorem d_Mo_forget_1 : decode prog_11_method_6_code 1 = .ok (.iconst 0, 1) := by decide +kernel
theorem d_Mo_forget_2 : decode prog_11_method_6_code 2 = .ok (.putfield 70, 3) := by decide +kernel
theorem d_Mo_forget_5 : decode prog_11_method_6_code 5 = .ok (.aload_n 0, 1) := by decide +kernel
theorem d_Mo_forget_6 : decode prog_11_method_6_code 6 = .ok (.iconst 0, 1) := by decide +kernel
theorem d_Mo_forget_7 : decode prog_11_method_6_code 7 = .ok (.putfield 73, 3) := by decide +kernel
theorem d_Mo_forget_10 : decode prog_11_method_6_code 10 = .ok (.aload_n 0, 1) := by decide +kernel
theorem d_Mo_forget_11 : decode prog_11_method_6_code 11 = .ok (.iconst 0, 1) := by decide +kernel
theorem d_Mo_forget_12 : decode prog_11_method_6_code 12 = .ok (.putfield 76, 3) := by decide +kernel
theorem d_Mo_forget_15 : decode prog_11_method_6_code 15 = .ok (.aload_n 0, 1) := by decide +kernel
theorem d_Mo_forget_16 : decode prog_11_method_6_code 16 = .ok (.iconst (-1), 1) := by decide +kernel
theorem d_Mo_forget_17 : decode prog_11_method_6_code 17 = .ok (.putfield 63, 3) := by decide +kernel
theorem d_Mo_forget_20 : decode prog_11_method_6_code 20 = .ok (.return_, 1) := by decide +kernel
theorem d_Mo_found_0 : decode prog_11_method_19_code 0 = .ok (.aload_n 0, 1) := by decide +kernel
theorem d_Mo_found_1 : decode prog_11_method_19_code 1 = .ok (.iload_n 1, 1) := by decide +kernel
theorem d_Mo_found_2 : decode prog_11_method_19_code 2 = .ok (.iload_n 2, 1) := by decide +kernel
theorem d_Mo_found_3 : decode prog_11_method_19_code 3 = .ok (.invokevirtual 119, 3) := by decide +kernel
theorem d_Mo_found_6 : decode prog_11_method_19_code 6 = .ok (.ifCond .eq 4, 3) := by decide +kernel
theorem d_Mo_found_9 : decode prog_11_method_19_code 9 = .ok (.return_, 1) := by decide +kernel
theorem d_Mo_found_10 : decode prog_11_method_19_code 10 = .ok (.aload_n 0, 1) := by decide +kernel
theorem d_Mo_found_11 : decode prog_11_method_19_code 11 = .ok (.dup, 1) := by decide +kernel
theorem d_Mo_found_12 : decode prog_11_method_19_code 12 = .ok (.getfield 122, 3) := by decide +kernel
theorem d_Mo_found_15 : decode prog_11_method_19_code 15 = .ok (.iconst 1, 1) := by decide +kernel
theorem d_Mo_found_16 : decode prog_11_method_19_code 16 = .ok (.iadd, 1) := by decide +kernel
theorem d_Mo_found_17 : decode prog_11_method_19_code 17 = .ok (.putfield 122, 3) := by decide +kernel
theorem d_Mo_found_20 : decode prog_11_method_19_code 20 = .ok (.aload_n 0, 1) := by decide +kernel
theorem d_Mo_found_21 : decode prog_11_method_19_code 21 = .ok (.aload_n 0, 1) := by decide +kernel
theorem d_Mo_found_22 : decode prog_11_method_19_code 22 = .ok (.iload_n 2, 1) := by decide +kernel
theorem d_Mo_found_23 : decode prog_11_method_19_code 23 = .ok (.invokevirtual 125, 3) := by decide +kernel
theorem d_Mo_found_26 : decode prog_11_method_19_code 26 = .ok (.iload_n 1, 1) := by decide +kernel
theorem d_Mo_found_27 : decode prog_11_method_19_code 27 = .ok (.invokevirtual 129, 3) := by decide +kernel
theorem d_Mo_found_30 : decode prog_11_method_19_code 30 = .ok (.lstore_n 3, 1) := by decide +kernel
theorem d_Mo_found_31 : decode prog_11_method_19_code 31 = .ok (.aload_n 0, 1) := by decide +kernel
theorem d_Mo_found_32 : decode prog_11_method_19_code 32 = .ok (.getfield 122, 3) := by decide +kernel
theorem d_Mo_found_35 : decode prog_11_method_19_code 35 = .ok (.iconst 1, 1) := by decide +kernel
theorem d_Mo_found_36 : decode prog_11_method_19_code 36 = .ok (.if_icmp .le 13, 3) := by decide +kernel
theorem d_Mo_found_39 : decode prog_11_method_19_code 39 = .ok (.lload_n 3, 1) := by decide +kernel
theorem d_Mo_found_40 : decode prog_11_method_19_code 40 = .ok (.aload_n 0, 1) := by decide +kernel
theorem d_Mo_found_41 : decode prog_11_method_19_code 41 = .ok (.getfield 133, 3) := by decide +kernel
theorem d_Mo_found_44 : decode prog_11_method_19_code 44 = .ok (.lcmp, 1) := by decide +kernel
theorem d_Mo_found_45 : decode prog_11_method_19_code 45 = .ok (.ifCond .lt 4, 3) := by decide +kernel
theorem d_Mo_found_48 : decode prog_11_method_19_code 48 = .ok (.return_, 1) := by decide +kernel
theorem d_Mo_found_49 : decode prog_11_method_19_code 49 = .ok (.aload_n 0, 1) := by decide +kernel
theorem d_Mo_found_50 : decode prog_11_method_19_code 50 = .ok (.lload_n 3, 1) := by decide +kernel
theorem d_Mo_found_51 : decode prog_11_method_19_code 51 = .ok (.putfield 133, 3) := by decide +kernel
theorem d_Mo_found_54 : decode prog_11_method_19_code 54 = .ok (.aload_n 0, 1) := by decide +kernel
theorem d_Mo_found_55 : decode prog_11_method_19_code 55 = .ok (.iload_n 1, 1) := by decide +kernel
theorem d_Mo_found_56 : decode prog_11_method_19_code 56 = .ok (.putfield 137, 3) := by decide +kernel
theorem d_Mo_found_59 : decode prog_11_method_19_code 59 = .ok (.aload_n 0, 1) := by decide +kernel
theorem d_Mo_found_60 : decode prog_11_method_19_code 60 = .ok (.iload_n 2, 1) := by decide +kernel
theorem d_Mo_found_61 : decode prog_11_method_19_code 61 = .ok (.putfield 140, 3) := by decide +kernel
theorem d_Mo_found_64 : decode prog_11_method_19_code 64 = .ok (.iconst 0, 1) := by decide +kernel
theorem d_Mo_found_65 : decode prog_11_method_19_code 65 = .ok (.istore 5, 2) := by decide +kernel
theorem d_Mo_found_67 : decode prog_11_method_19_code 67 = .ok (.iload 5, 2) := by decide +kernel
theorem d_Mo_found_69 : decode prog_11_method_19_code 69 = .ok (.iload_n 2, 1) := by decide +kernel
theorem d_Mo_found_70 : decode prog_11_method_19_code 70 = .ok (.if_icmp .ge 23, 3) := by decide +kernel
theorem d_Mo_found_73 : decode prog_11_method_19_code 73 = .ok (.aload_n 0, 1) := by decide +kernel
theorem d_Mo_found_74 : decode prog_11_method_19_code 74 = .ok (.getfield 57, 3) := by decide +kernel
theorem d_Mo_found_77 : decode prog_11_method_19_code 77 = .ok (.iload 5, 2) := by decide +kernel
theorem d_Mo_found_79 : decode prog_11_method_19_code 79 = .ok (.aload_n 0, 1) := by decide +kernel
theorem d_Mo_found_80 : decode prog_11_method_19_code 80 = .ok (.getfield 51, 3) := by decide +kernel
theorem d_Mo_found_83 : decode prog_11_method_19_code 83 = .ok (.iload 5, 2) := by decide +kernel
theorem d_Mo_found_85 : decode prog_11_method_19_code 85 = .ok (.iaload, 1) := by decide +kernel
theorem d_Mo_found_86 : decode prog_11_method_19_code 86 = .ok (.iastore, 1) := by decide +kernel
theorem d_Mo_found_87 : decode prog_11_method_19_code 87 = .ok (.iinc 5 1, 3) := by decide +kernel
theorem d_Mo_found_90 : decode prog_11_method_19_code 90 = .ok (.goto (-23), 3) := by decide +kernel
theorem d_Mo_found_93 : decode prog_11_method_19_code 93 = .ok (.return_, 1) := by decide +kernel
theorem d_Mo_further_0 : decode prog_11_method_20_code 0 = .ok (.iload_n 1, 1) := by decide +kernel
theorem d_Mo_further_1 : decode prog_11_method_20_code 1 = .ok (.iconst 1, 1) := by decide +kernel
theorem d_Mo_further_2 : decode prog_11_method_20_code 2 = .ok (.iadd, 1) := by decide +kernel
theorem d_Mo_further_3 : decode prog_11_method_20_code 3 = .ok (.istore 5, 2) := by decide +kernel
theorem d_Mo_further_5 : decode prog_11_method_20_code 5 = .ok (.iload 5, 2) := by decide +kernel
theorem d_Mo_further_7 : decode prog_11_method_20_code 7 = .ok (.aload_n 0, 1) := by decide +kernel
theorem d_Mo_further_8 : decode prog_11_method_20_code 8 = .ok (.getfield 73, 3) := by decide +kernel
theorem d_Mo_further_11 : decode prog_11_method_20_code 11 = .ok (.if_icmp .ge 32, 3) := by decide +kernel
theorem d_Mo_further_14 : decode prog_11_method_20_code 14 = .ok (.aload_n 0, 1) := by decide +kernel
theorem d_Mo_further_15 : decode prog_11_method_20_code 15 = .ok (.getfield 16, 3) := by decide +kernel
theorem d_Mo_further_18 : decode prog_11_method_20_code 18 = .ok (.iload 5, 2) := by decide +kernel
theorem d_Mo_further_20 : decode prog_11_method_20_code 20 = .ok (.iaload, 1) := by decide +kernel
theorem d_Mo_further_21 : decode prog_11_method_20_code 21 = .ok (.iload_n 2, 1) := by decide +kernel
theorem d_Mo_further_22 : decode prog_11_method_20_code 22 = .ok (.if_icmp .ne 15, 3) := by decide +kernel
theorem d_Mo_further_25 : decode prog_11_method_20_code 25 = .ok (.lload_n 3, 1) := by decide +kernel
theorem d_Mo_further_26 : decode prog_11_method_20_code 26 = .ok (.iload 5, 2) := by decide +kernel
theorem d_Mo_further_28 : decode prog_11_method_20_code 28 = .ok (.invokestatic 93, 3) := by decide +kernel
theorem d_Mo_further_31 : decode prog_11_method_20_code 31 = .ok (.ifCond .eq 6, 3) := by decide +kernel
theorem d_Mo_further_34 : decode prog_11_method_20_code 34 = .ok (.iload 5, 2) := by decide +kernel
theorem d_Mo_further_36 : decode prog_11_method_20_code 36 = .ok (.ireturn, 1) := by decide +kernel
theorem d_Mo_further_37 : decode prog_11_method_20_code 37 = .ok (.iinc 5 1, 3) := by decide +kernel
theorem d_Mo_further_40 : decode prog_11_method_20_code 40 = .ok (.goto (-35), 3) := by decide +kernel
theorem d_Mo_further_43 : decode prog_11_method_20_code 43 = .ok (.iconst (-1), 1) := by decide +kernel
theorem d_Mo_further_44 : decode prog_11_method_20_code 44 = .ok (.ireturn, 1) := by decide +kernel
theorem d_Mo_has_0 : decode prog_11_method_5_code 0 = .ok (.lload_n 0, 1) := by decide +kernel
theorem d_Mo_has_1 : decode prog_11_method_5_code 1 = .ok (.iload_n 2, 1) := by decide +kernel
theorem d_Mo_has_2 : decode prog_11_method_5_code 2 = .ok (.lshr, 1) := by decide +kernel
theorem d_Mo_has_3 : decode prog_11_method_5_code 3 = .ok (.lconst 1, 1) := by decide +kernel
theorem d_Mo_has_4 : decode prog_11_method_5_code 4 = .ok (.land, 1) := by decide +kernel
theorem d_Mo_has_5 : decode prog_11_method_5_code 5 = .ok (.lconst 1, 1) := by decide +kernel
theorem d_Mo_has_6 : decode prog_11_method_5_code 6 = .ok (.lcmp, 1) := by decide +kernel
theorem d_Mo_has_7 : decode prog_11_method_5_code 7 = .ok (.ifCond .ne 7, 3) := by decide +kernel
theorem d_Mo_has_10 : decode prog_11_method_5_code 10 = .ok (.iconst 1, 1) := by decide +kernel
theorem d_Mo_has_11 : decode prog_11_method_5_code 11 = .ok (.goto 4, 3) := by decide +kernel
theorem d_Mo_has_14 : decode prog_11_method_5_code 14 = .ok (.iconst 0, 1) := by decide +kernel
theorem d_Mo_has_15 : decode prog_11_method_5_code 15 = .ok (.ireturn, 1) := by decide +kernel
theorem d_Mo_isThere_0 : decode prog_11_method_18_code 0 = .ok (.aload_n 0, 1) := by decide +kernel
theorem d_Mo_isThere_1 : decode prog_11_method_18_code 1 = .ok (.iload_n 2, 1) := by decide +kernel
theorem d_Mo_isThere_2 : decode prog_11_method_18_code 2 = .ok (.invokevirtual 115, 3) := by decide +kernel
theorem d_Mo_isThere_5 : decode prog_11_method_18_code 5 = .ok (.lstore_n 3, 1) := by decide +kernel
theorem d_Mo_isThere_6 : decode prog_11_method_18_code 6 = .ok (.iconst 0, 1) := by decide +kernel
theorem d_Mo_isThere_7 : decode prog_11_method_18_code 7 = .ok (.istore 5, 2) := by decide +kernel
theorem d_Mo_isThere_9 : decode prog_11_method_18_code 9 = .ok (.iconst 0, 1) := by decide +kernel
theorem d_Mo_isThere_10 : decode prog_11_method_18_code 10 = .ok (.istore 6, 2) := by decide +kernel
theorem d_Mo_isThere_12 : decode prog_11_method_18_code 12 = .ok (.iload 6, 2) := by decide +kernel
theorem d_Mo_isThere_14 : decode prog_11_method_18_code 14 = .ok (.aload_n 0, 1) := by decide +kernel
theorem d_Mo_isThere_15 : decode prog_11_method_18_code 15 = .ok (.getfield 70, 3) := by decide +kernel
theorem d_Mo_isThere_18 : decode prog_11_method_18_code 18 = .ok (.if_icmp .ge 44, 3) := by decide +kernel
