theorem d_La_transition_0 : decode method_3_code 0 = .ok (.aload_n 3, 1) := by decide +kernel
theorem d_La_transition_1 : decode method_3_code 1 = .ok (.iconst 0, 1) := by decide +kernel
theorem d_La_transition_2 : decode method_3_code 2 = .ok (.aload_n 0, 1) := by decide +kernel
theorem d_La_transition_3 : decode method_3_code 3 = .ok (.iload_n 1, 1) := by decide +kernel
theorem d_La_transition_4 : decode method_3_code 4 = .ok (.iload_n 2, 1) := by decide +kernel
theorem d_La_transition_5 : decode method_3_code 5 = .ok (.invokevirtual 7, 3) := by decide +kernel
theorem d_La_transition_8 : decode method_3_code 8 = .ok (.i2l, 1) := by decide +kernel
theorem d_La_transition_9 : decode method_3_code 9 = .ok (.lastore, 1) := by decide +kernel
theorem d_La_transition_10 : decode method_3_code 10 = .ok (.goto 11, 3) := by decide +kernel
theorem d_La_transition_13 : decode method_3_code 13 = .ok (.astore 4, 2) := by decide +kernel
theorem d_La_transition_15 : decode method_3_code 15 = .ok (.iconst 1, 1) := by decide +kernel
theorem d_La_transition_16 : decode method_3_code 16 = .ok (.ireturn, 1) := by decide +kernel
theorem d_La_transition_17 : decode method_3_code 17 = .ok (.astore 4, 2) := by decide +kernel
theorem d_La_transition_19 : decode method_3_code 19 = .ok (.iconst 2, 1) := by decide +kernel
theorem d_La_transition_20 : decode method_3_code 20 = .ok (.ireturn, 1) := by decide +kernel
theorem d_La_transition_21 : decode method_3_code 21 = .ok (.iconst 0, 1) := by decide +kernel
theorem d_La_transition_22 : decode method_3_code 22 = .ok (.ireturn, 1) := by decide +kernel
theorem d_La_first_0 : decode method_4_code 0 = .ok (.aload_n 0, 1) := by decide +kernel
theorem d_La_first_1 : decode method_4_code 1 = .ok (.iload_n 1, 1) := by decide +kernel
theorem d_La_first_2 : decode method_4_code 2 = .ok (.invokevirtual 17, 3) := by decide +kernel
theorem d_La_first_5 : decode method_4_code 5 = .ok (.goto 6, 3) := by decide +kernel
theorem d_La_first_8 : decode method_4_code 8 = .ok (.astore_n 2, 1) := by decide +kernel
theorem d_La_first_9 : decode method_4_code 9 = .ok (.iconst 1, 1) := by decide +kernel
theorem d_La_first_10 : decode method_4_code 10 = .ok (.ireturn, 1) := by decide +kernel
theorem d_La_first_11 : decode method_4_code 11 = .ok (.iconst 0, 1) := by decide +kernel
theorem d_La_first_12 : decode method_4_code 12 = .ok (.ireturn, 1) := by decide +kernel
theorem d_La_reach_0 : decode method_5_code 0 = .ok (.aload_n 2, 1) := by decide +kernel
theorem d_La_reach_1 : decode method_5_code 1 = .ok (.iconst 0, 1) := by decide +kernel
theorem d_La_reach_2 : decode method_5_code 2 = .ok (.aload_n 0, 1) := by decide +kernel
theorem d_La_reach_3 : decode method_5_code 3 = .ok (.iload_n 1, 1) := by decide +kernel
theorem d_La_reach_4 : decode method_5_code 4 = .ok (.invokevirtual 21, 3) := by decide +kernel
theorem d_La_reach_7 : decode method_5_code 7 = .ok (.i2l, 1) := by decide +kernel
theorem d_La_reach_8 : decode method_5_code 8 = .ok (.lastore, 1) := by decide +kernel
theorem d_La_reach_9 : decode method_5_code 9 = .ok (.goto 9, 3) := by decide +kernel
theorem d_La_reach_12 : decode method_5_code 12 = .ok (.astore_n 3, 1) := by decide +kernel
theorem d_La_reach_13 : decode method_5_code 13 = .ok (.iconst 1, 1) := by decide +kernel
theorem d_La_reach_14 : decode method_5_code 14 = .ok (.ireturn, 1) := by decide +kernel
theorem d_La_reach_15 : decode method_5_code 15 = .ok (.astore_n 3, 1) := by decide +kernel
theorem d_La_reach_16 : decode method_5_code 16 = .ok (.iconst 2, 1) := by decide +kernel
theorem d_La_reach_17 : decode method_5_code 17 = .ok (.ireturn, 1) := by decide +kernel
theorem d_La_reach_18 : decode method_5_code 18 = .ok (.iconst 0, 1) := by decide +kernel
theorem d_La_reach_19 : decode method_5_code 19 = .ok (.ireturn, 1) := by decide +kernel
theorem d_La_deadlock_0 : decode method_6_code 0 = .ok (.aload_n 1, 1) := by decide +kernel
theorem d_La_deadlock_1 : decode method_6_code 1 = .ok (.iconst 0, 1) := by decide +kernel
theorem d_La_deadlock_2 : decode method_6_code 2 = .ok (.aload_n 0, 1) := by decide +kernel
theorem d_La_deadlock_3 : decode method_6_code 3 = .ok (.invokevirtual 25, 3) := by decide +kernel
theorem d_La_deadlock_6 : decode method_6_code 6 = .ok (.i2l, 1) := by decide +kernel
theorem d_La_deadlock_7 : decode method_6_code 7 = .ok (.lastore, 1) := by decide +kernel
theorem d_La_deadlock_8 : decode method_6_code 8 = .ok (.goto 6, 3) := by decide +kernel
theorem d_La_deadlock_11 : decode method_6_code 11 = .ok (.astore_n 2, 1) := by decide +kernel
theorem d_La_deadlock_12 : decode method_6_code 12 = .ok (.iconst 1, 1) := by decide +kernel
theorem d_La_deadlock_13 : decode method_6_code 13 = .ok (.ireturn, 1) := by decide +kernel
theorem d_La_deadlock_14 : decode method_6_code 14 = .ok (.iconst 0, 1) := by decide +kernel
theorem d_La_deadlock_15 : decode method_6_code 15 = .ok (.ireturn, 1) := by decide +kernel
theorem d_La_play_0 : decode method_7_code 0 = .ok (.aload_n 2, 1) := by decide +kernel
theorem d_La_play_1 : decode method_7_code 1 = .ok (.iconst 0, 1) := by decide +kernel
theorem d_La_play_2 : decode method_7_code 2 = .ok (.aload_n 0, 1) := by decide +kernel
theorem d_La_play_3 : decode method_7_code 3 = .ok (.iload_n 1, 1) := by decide +kernel
theorem d_La_play_4 : decode method_7_code 4 = .ok (.invokevirtual 29, 3) := by decide +kernel
theorem d_La_play_7 : decode method_7_code 7 = .ok (.i2l, 1) := by decide +kernel
theorem d_La_play_8 : decode method_7_code 8 = .ok (.lastore, 1) := by decide +kernel
theorem d_La_play_9 : decode method_7_code 9 = .ok (.goto 9, 3) := by decide +kernel
theorem d_La_play_12 : decode method_7_code 12 = .ok (.astore_n 3, 1) := by decide +kernel
theorem d_La_play_13 : decode method_7_code 13 = .ok (.iconst 1, 1) := by decide +kernel
theorem d_La_play_14 : decode method_7_code 14 = .ok (.ireturn, 1) := by decide +kernel
theorem d_La_play_15 : decode method_7_code 15 = .ok (.astore_n 3, 1) := by decide +kernel
theorem d_La_play_16 : decode method_7_code 16 = .ok (.iconst 2, 1) := by decide +kernel
theorem d_La_play_17 : decode method_7_code 17 = .ok (.ireturn, 1) := by decide +kernel
theorem d_La_play_18 : decode method_7_code 18 = .ok (.iconst 0, 1) := by decide +kernel
theorem d_La_play_19 : decode method_7_code 19 = .ok (.ireturn, 1) := by decide +kernel
theorem d_La_law_0 : decode code 0 = .ok (.new 8, 3) := by decide +kernel
theorem d_La_law_3 : decode code 3 = .ok (.dup, 1) := by decide +kernel
theorem d_La_law_4 : decode code 4 = .ok (.invokespecial 32, 3) := by decide +kernel
theorem d_La_law_7 : decode code 7 = .ok (.astore_n 1, 1) := by decide +kernel
theorem d_La_law_8 : decode code 8 = .ok (.new 33, 3) := by decide +kernel
theorem d_La_law_11 : decode code 11 = .ok (.dup, 1) := by decide +kernel
theorem d_La_law_12 : decode code 12 = .ok (.invokespecial 35, 3) := by decide +kernel
theorem d_La_law_15 : decode code 15 = .ok (.astore_n 2, 1) := by decide +kernel
theorem d_La_law_16 : decode code 16 = .ok (.iconst 1, 1) := by decide +kernel
theorem d_La_law_17 : decode code 17 = .ok (.newarray .long, 2) := by decide +kernel
theorem d_La_law_19 : decode code 19 = .ok (.astore_n 3, 1) := by decide +kernel
theorem d_La_law_20 : decode code 20 = .ok (.iconst 0, 1) := by decide +kernel
theorem d_La_law_21 : decode code 21 = .ok (.istore 4, 2) := by decide +kernel
theorem d_La_law_23 : decode code 23 = .ok (.iload 4, 2) := by decide +kernel
theorem d_La_law_25 : decode code 25 = .ok (.aload_n 0, 1) := by decide +kernel
theorem d_La_law_26 : decode code 26 = .ok (.arraylength, 1) := by decide +kernel
theorem d_La_law_27 : decode code 27 = .ok (.iconst 3, 1) := by decide +kernel
theorem d_La_law_28 : decode code 28 = .ok (.isub, 1) := by decide +kernel
theorem d_La_law_29 : decode code 29 = .ok (.if_icmp .gt 563, 3) := by decide +kernel
theorem d_La_law_32 : decode code 32 = .ok (.aload_n 0, 1) := by decide +kernel
theorem d_La_law_33 : decode code 33 = .ok (.iload 4, 2) := by decide +kernel
theorem d_La_law_35 : decode code 35 = .ok (.iaload, 1) := by decide +kernel
theorem d_La_law_36 : decode code 36 = .ok (.bipush 15, 2) := by decide +kernel
theorem d_La_law_38 : decode code 38 = .ok (.iand, 1) := by decide +kernel
theorem d_La_law_39 : decode code 39 = .ok (.tableswitch 547 0 12 #[65, 133, 169, 180, 193, 249, 293, 318, 374, 399, 436, 473, 510], 65) := by decide +kernel
theorem d_La_law_104 : decode code 104 = .ok (.aload_n 1, 1) := by decide +kernel
theorem d_La_law_105 : decode code 105 = .ok (.aload_n 0, 1) := by decide +kernel
theorem d_La_law_106 : decode code 106 = .ok (.iload 4, 2) := by decide +kernel
theorem d_La_law_108 : decode code 108 = .ok (.iconst 1, 1) := by decide +kernel
theorem d_La_law_109 : decode code 109 = .ok (.iadd, 1) := by decide +kernel
theorem d_La_law_110 : decode code 110 = .ok (.iaload, 1) := by decide +kernel
theorem d_La_law_111 : decode code 111 = .ok (.aload_n 0, 1) := by decide +kernel
theorem d_La_law_112 : decode code 112 = .ok (.iload 4, 2) := by decide +kernel
theorem d_La_law_114 : decode code 114 = .ok (.iconst 2, 1) := by decide +kernel
theorem d_La_law_115 : decode code 115 = .ok (.iadd, 1) := by decide +kernel
theorem d_La_law_116 : decode code 116 = .ok (.iaload, 1) := by decide +kernel
theorem d_La_law_117 : decode code 117 = .ok (.aload_n 3, 1) := by decide +kernel
theorem d_La_law_118 : decode code 118 = .ok (.invokestatic 36, 3) := by decide +kernel
theorem d_La_law_121 : decode code 121 = .ok (.istore 5, 2) := by decide +kernel
theorem d_La_law_123 : decode code 123 = .ok (.aload_n 2, 1) := by decide +kernel
theorem d_La_law_124 : decode code 124 = .ok (.aload_n 0, 1) := by decide +kernel
theorem d_La_law_125 : decode code 125 = .ok (.iload 4, 2) := by decide +kernel
theorem d_La_law_127 : decode code 127 = .ok (.iconst 1, 1) := by decide +kernel
theorem d_La_law_128 : decode code 128 = .ok (.iadd, 1) := by decide +kernel
theorem d_La_law_129 : decode code 129 = .ok (.iaload, 1) := by decide +kernel
theorem d_La_law_130 : decode code 130 = .ok (.aload_n 0, 1) := by decide +kernel
theorem d_La_law_131 : decode code 131 = .ok (.iload 4, 2) := by decide +kernel
theorem d_La_law_133 : decode code 133 = .ok (.iconst 2, 1) := by decide +kernel
theorem d_La_law_134 : decode code 134 = .ok (.iadd, 1) := by decide +kernel
theorem d_La_law_135 : decode code 135 = .ok (.iaload, 1) := by decide +kernel
theorem d_La_law_136 : decode code 136 = .ok (.invokevirtual 41, 3) := by decide +kernel
theorem d_La_law_139 : decode code 139 = .ok (.istore 6, 2) := by decide +kernel
theorem d_La_law_141 : decode code 141 = .ok (.aload_n 2, 1) := by decide +kernel
theorem d_La_law_142 : decode code 142 = .ok (.invokevirtual 42, 3) := by decide +kernel
theorem d_La_law_145 : decode code 145 = .ok (.iload 5, 2) := by decide +kernel
theorem d_La_law_147 : decode code 147 = .ok (.if_icmp .eq 5, 3) := by decide +kernel
theorem d_La_law_150 : decode code 150 = .ok (.iconst 0, 1) := by decide +kernel
theorem d_La_law_151 : decode code 151 = .ok (.ireturn, 1) := by decide +kernel
theorem d_La_law_152 : decode code 152 = .ok (.iload 5, 2) := by decide +kernel
theorem d_La_law_154 : decode code 154 = .ok (.ifCond .ne 15, 3) := by decide +kernel
theorem d_La_law_157 : decode code 157 = .ok (.aload_n 3, 1) := by decide +kernel
theorem d_La_law_158 : decode code 158 = .ok (.iconst 0, 1) := by decide +kernel
theorem d_La_law_159 : decode code 159 = .ok (.laload, 1) := by decide +kernel
theorem d_La_law_160 : decode code 160 = .ok (.iload 6, 2) := by decide +kernel
theorem d_La_law_162 : decode code 162 = .ok (.i2l, 1) := by decide +kernel
theorem d_La_law_163 : decode code 163 = .ok (.lcmp, 1) := by decide +kernel
theorem d_La_law_164 : decode code 164 = .ok (.ifCond .eq 5, 3) := by decide +kernel
theorem d_La_law_167 : decode code 167 = .ok (.iconst 0, 1) := by decide +kernel
theorem d_La_law_168 : decode code 168 = .ok (.ireturn, 1) := by decide +kernel
theorem d_La_law_169 : decode code 169 = .ok (.goto 417, 3) := by decide +kernel
theorem d_La_law_172 : decode code 172 = .ok (.aload_n 1, 1) := by decide +kernel
theorem d_La_law_173 : decode code 173 = .ok (.aload_n 0, 1) := by decide +kernel
theorem d_La_law_174 : decode code 174 = .ok (.iload 4, 2) := by decide +kernel
theorem d_La_law_176 : decode code 176 = .ok (.iconst 1, 1) := by decide +kernel
theorem d_La_law_177 : decode code 177 = .ok (.iadd, 1) := by decide +kernel
theorem d_La_law_178 : decode code 178 = .ok (.iaload, 1) := by decide +kernel
theorem d_La_law_179 : decode code 179 = .ok (.invokestatic 45, 3) := by decide +kernel
theorem d_La_law_182 : decode code 182 = .ok (.istore 5, 2) := by decide +kernel
theorem d_La_law_184 : decode code 184 = .ok (.aload_n 2, 1) := by decide +kernel
theorem d_La_law_185 : decode code 185 = .ok (.aload_n 0, 1) := by decide +kernel
theorem d_La_law_186 : decode code 186 = .ok (.iload 4, 2) := by decide +kernel
theorem d_La_law_188 : decode code 188 = .ok (.iconst 1, 1) := by decide +kernel
theorem d_La_law_189 : decode code 189 = .ok (.iadd, 1) := by decide +kernel
theorem d_La_law_190 : decode code 190 = .ok (.iaload, 1) := by decide +kernel
theorem d_La_law_191 : decode code 191 = .ok (.invokevirtual 48, 3) := by decide +kernel
theorem d_La_law_194 : decode code 194 = .ok (.aload_n 2, 1) := by decide +kernel
theorem d_La_law_195 : decode code 195 = .ok (.invokevirtual 42, 3) := by decide +kernel
theorem d_La_law_198 : decode code 198 = .ok (.iload 5, 2) := by decide +kernel
theorem d_La_law_200 : decode code 200 = .ok (.if_icmp .eq 5, 3) := by decide +kernel
theorem d_La_law_203 : decode code 203 = .ok (.iconst 0, 1) := by decide +kernel
theorem d_La_law_204 : decode code 204 = .ok (.ireturn, 1) := by decide +kernel
theorem d_La_law_205 : decode code 205 = .ok (.goto 381, 3) := by decide +kernel
theorem d_La_law_208 : decode code 208 = .ok (.aload_n 1, 1) := by decide +kernel
theorem d_La_law_209 : decode code 209 = .ok (.invokevirtual 49, 3) := by decide +kernel
theorem d_La_law_212 : decode code 212 = .ok (.aload_n 2, 1) := by decide +kernel
theorem d_La_law_213 : decode code 213 = .ok (.invokevirtual 52, 3) := by decide +kernel
theorem d_La_law_216 : decode code 216 = .ok (.goto 370, 3) := by decide +kernel
theorem d_La_law_219 : decode code 219 = .ok (.aload_n 1, 1) := by decide +kernel
theorem d_La_law_220 : decode code 220 = .ok (.invokevirtual 53, 3) := by decide +kernel
theorem d_La_law_223 : decode code 223 = .ok (.aload_n 2, 1) := by decide +kernel
theorem d_La_law_224 : decode code 224 = .ok (.invokevirtual 56, 3) := by decide +kernel
theorem d_La_law_227 : decode code 227 = .ok (.if_icmp .eq 359, 3) := by decide +kernel
theorem d_La_law_230 : decode code 230 = .ok (.iconst 0, 1) := by decide +kernel
theorem d_La_law_231 : decode code 231 = .ok (.ireturn, 1) := by decide +kernel
theorem d_La_law_232 : decode code 232 = .ok (.aload_n 1, 1) := by decide +kernel
theorem d_La_law_233 : decode code 233 = .ok (.aload_n 0, 1) := by decide +kernel
theorem d_La_law_234 : decode code 234 = .ok (.iload 4, 2) := by decide +kernel
theorem d_La_law_236 : decode code 236 = .ok (.iconst 1, 1) := by decide +kernel
theorem d_La_law_237 : decode code 237 = .ok (.iadd, 1) := by decide +kernel
theorem d_La_law_238 : decode code 238 = .ok (.iaload, 1) := by decide +kernel
theorem d_La_law_239 : decode code 239 = .ok (.aload_n 3, 1) := by decide +kernel
theorem d_La_law_240 : decode code 240 = .ok (.invokestatic 57, 3) := by decide +kernel
theorem d_La_law_243 : decode code 243 = .ok (.istore 5, 2) := by decide +kernel
theorem d_La_law_245 : decode code 245 = .ok (.aload_n 2, 1) := by decide +kernel
theorem d_La_law_246 : decode code 246 = .ok (.aload_n 0, 1) := by decide +kernel
theorem d_La_law_247 : decode code 247 = .ok (.iload 4, 2) := by decide +kernel
theorem d_La_law_249 : decode code 249 = .ok (.iconst 1, 1) := by decide +kernel
theorem d_La_law_250 : decode code 250 = .ok (.iadd, 1) := by decide +kernel
theorem d_La_law_251 : decode code 251 = .ok (.iaload, 1) := by decide +kernel
theorem d_La_law_252 : decode code 252 = .ok (.invokevirtual 60, 3) := by decide +kernel
theorem d_La_law_255 : decode code 255 = .ok (.istore 6, 2) := by decide +kernel
theorem d_La_law_257 : decode code 257 = .ok (.aload_n 2, 1) := by decide +kernel
theorem d_La_law_258 : decode code 258 = .ok (.invokevirtual 42, 3) := by decide +kernel
theorem d_La_law_261 : decode code 261 = .ok (.iload 5, 2) := by decide +kernel
theorem d_La_law_263 : decode code 263 = .ok (.if_icmp .eq 5, 3) := by decide +kernel
theorem d_La_law_266 : decode code 266 = .ok (.iconst 0, 1) := by decide +kernel
theorem d_La_law_267 : decode code 267 = .ok (.ireturn, 1) := by decide +kernel
theorem d_La_law_268 : decode code 268 = .ok (.iload 5, 2) := by decide +kernel
theorem d_La_law_270 : decode code 270 = .ok (.ifCond .ne 15, 3) := by decide +kernel
theorem d_La_law_273 : decode code 273 = .ok (.aload_n 3, 1) := by decide +kernel
theorem d_La_law_274 : decode code 274 = .ok (.iconst 0, 1) := by decide +kernel
theorem d_La_law_275 : decode code 275 = .ok (.laload, 1) := by decide +kernel
theorem d_La_law_276 : decode code 276 = .ok (.iload 6, 2) := by decide +kernel
theorem d_La_law_278 : decode code 278 = .ok (.i2l, 1) := by decide +kernel
theorem d_La_law_279 : decode code 279 = .ok (.lcmp, 1) := by decide +kernel
theorem d_La_law_280 : decode code 280 = .ok (.ifCond .eq 5, 3) := by decide +kernel
theorem d_La_law_283 : decode code 283 = .ok (.iconst 0, 1) := by decide +kernel
theorem d_La_law_284 : decode code 284 = .ok (.ireturn, 1) := by decide +kernel
theorem d_La_law_285 : decode code 285 = .ok (.goto 301, 3) := by decide +kernel
theorem d_La_law_288 : decode code 288 = .ok (.aload_n 1, 1) := by decide +kernel
theorem d_La_law_289 : decode code 289 = .ok (.aload_n 3, 1) := by decide +kernel
theorem d_La_law_290 : decode code 290 = .ok (.invokestatic 61, 3) := by decide +kernel
theorem d_La_law_293 : decode code 293 = .ok (.istore 5, 2) := by decide +kernel
theorem d_La_law_295 : decode code 295 = .ok (.aload_n 2, 1) := by decide +kernel
theorem d_La_law_296 : decode code 296 = .ok (.invokevirtual 64, 3) := by decide +kernel
theorem d_La_law_299 : decode code 299 = .ok (.istore 6, 2) := by decide +kernel
theorem d_La_law_301 : decode code 301 = .ok (.aload_n 2, 1) := by decide +kernel
theorem d_La_law_302 : decode code 302 = .ok (.invokevirtual 42, 3) := by decide +kernel
theorem d_La_law_305 : decode code 305 = .ok (.iload 5, 2) := by decide +kernel
theorem d_La_law_307 : decode code 307 = .ok (.if_icmp .eq 5, 3) := by decide +kernel
theorem d_La_law_310 : decode code 310 = .ok (.iconst 0, 1) := by decide +kernel
theorem d_La_law_311 : decode code 311 = .ok (.ireturn, 1) := by decide +kernel
theorem d_La_law_312 : decode code 312 = .ok (.iload 5, 2) := by decide +kernel
theorem d_La_law_314 : decode code 314 = .ok (.ifCond .ne 15, 3) := by decide +kernel
theorem d_La_law_317 : decode code 317 = .ok (.aload_n 3, 1) := by decide +kernel
theorem d_La_law_318 : decode code 318 = .ok (.iconst 0, 1) := by decide +kernel
theorem d_La_law_319 : decode code 319 = .ok (.laload, 1) := by decide +kernel
theorem d_La_law_320 : decode code 320 = .ok (.iload 6, 2) := by decide +kernel
theorem d_La_law_322 : decode code 322 = .ok (.i2l, 1) := by decide +kernel
theorem d_La_law_323 : decode code 323 = .ok (.lcmp, 1) := by decide +kernel
theorem d_La_law_324 : decode code 324 = .ok (.ifCond .eq 5, 3) := by decide +kernel
theorem d_La_law_327 : decode code 327 = .ok (.iconst 0, 1) := by decide +kernel
theorem d_La_law_328 : decode code 328 = .ok (.ireturn, 1) := by decide +kernel
theorem d_La_law_329 : decode code 329 = .ok (.goto 257, 3) := by decide +kernel
theorem d_La_law_332 : decode code 332 = .ok (.aload_n 1, 1) := by decide +kernel
theorem d_La_law_333 : decode code 333 = .ok (.aload_n 0, 1) := by decide +kernel
theorem d_La_law_334 : decode code 334 = .ok (.iload 4, 2) := by decide +kernel
theorem d_La_law_336 : decode code 336 = .ok (.iconst 1, 1) := by decide +kernel
theorem d_La_law_337 : decode code 337 = .ok (.iadd, 1) := by decide +kernel
theorem d_La_law_338 : decode code 338 = .ok (.iaload, 1) := by decide +kernel
theorem d_La_law_339 : decode code 339 = .ok (.invokevirtual 65, 3) := by decide +kernel
theorem d_La_law_342 : decode code 342 = .ok (.aload_n 2, 1) := by decide +kernel
theorem d_La_law_343 : decode code 343 = .ok (.aload_n 0, 1) := by decide +kernel
theorem d_La_law_344 : decode code 344 = .ok (.iload 4, 2) := by decide +kernel
theorem d_La_law_346 : decode code 346 = .ok (.iconst 1, 1) := by decide +kernel
theorem d_La_law_347 : decode code 347 = .ok (.iadd, 1) := by decide +kernel
theorem d_La_law_348 : decode code 348 = .ok (.iaload, 1) := by decide +kernel
theorem d_La_law_349 : decode code 349 = .ok (.invokevirtual 68, 3) := by decide +kernel
theorem d_La_law_352 : decode code 352 = .ok (.if_icmp .eq 234, 3) := by decide +kernel
theorem d_La_law_355 : decode code 355 = .ok (.iconst 0, 1) := by decide +kernel
theorem d_La_law_356 : decode code 356 = .ok (.ireturn, 1) := by decide +kernel
theorem d_La_law_357 : decode code 357 = .ok (.aload_n 1, 1) := by decide +kernel
theorem d_La_law_358 : decode code 358 = .ok (.aload_n 0, 1) := by decide +kernel
theorem d_La_law_359 : decode code 359 = .ok (.iload 4, 2) := by decide +kernel
theorem d_La_law_361 : decode code 361 = .ok (.iconst 1, 1) := by decide +kernel
theorem d_La_law_362 : decode code 362 = .ok (.iadd, 1) := by decide +kernel
theorem d_La_law_363 : decode code 363 = .ok (.iaload, 1) := by decide +kernel
theorem d_La_law_364 : decode code 364 = .ok (.aload_n 3, 1) := by decide +kernel
theorem d_La_law_365 : decode code 365 = .ok (.invokestatic 69, 3) := by decide +kernel
theorem d_La_law_368 : decode code 368 = .ok (.istore 5, 2) := by decide +kernel
theorem d_La_law_370 : decode code 370 = .ok (.aload_n 2, 1) := by decide +kernel
theorem d_La_law_371 : decode code 371 = .ok (.aload_n 0, 1) := by decide +kernel
theorem d_La_law_372 : decode code 372 = .ok (.iload 4, 2) := by decide +kernel
theorem d_La_law_374 : decode code 374 = .ok (.iconst 1, 1) := by decide +kernel
theorem d_La_law_375 : decode code 375 = .ok (.iadd, 1) := by decide +kernel
theorem d_La_law_376 : decode code 376 = .ok (.iaload, 1) := by decide +kernel
theorem d_La_law_377 : decode code 377 = .ok (.invokevirtual 71, 3) := by decide +kernel
theorem d_La_law_380 : decode code 380 = .ok (.istore 6, 2) := by decide +kernel
theorem d_La_law_382 : decode code 382 = .ok (.aload_n 2, 1) := by decide +kernel
theorem d_La_law_383 : decode code 383 = .ok (.invokevirtual 42, 3) := by decide +kernel
theorem d_La_law_386 : decode code 386 = .ok (.iload 5, 2) := by decide +kernel
theorem d_La_law_388 : decode code 388 = .ok (.if_icmp .eq 5, 3) := by decide +kernel
theorem d_La_law_391 : decode code 391 = .ok (.iconst 0, 1) := by decide +kernel
theorem d_La_law_392 : decode code 392 = .ok (.ireturn, 1) := by decide +kernel
theorem d_La_law_393 : decode code 393 = .ok (.iload 5, 2) := by decide +kernel
theorem d_La_law_395 : decode code 395 = .ok (.ifCond .ne 15, 3) := by decide +kernel
theorem d_La_law_398 : decode code 398 = .ok (.aload_n 3, 1) := by decide +kernel
theorem d_La_law_399 : decode code 399 = .ok (.iconst 0, 1) := by decide +kernel
theorem d_La_law_400 : decode code 400 = .ok (.laload, 1) := by decide +kernel
theorem d_La_law_401 : decode code 401 = .ok (.iload 6, 2) := by decide +kernel
theorem d_La_law_403 : decode code 403 = .ok (.i2l, 1) := by decide +kernel
theorem d_La_law_404 : decode code 404 = .ok (.lcmp, 1) := by decide +kernel
theorem d_La_law_405 : decode code 405 = .ok (.ifCond .eq 5, 3) := by decide +kernel
theorem d_La_law_408 : decode code 408 = .ok (.iconst 0, 1) := by decide +kernel
theorem d_La_law_409 : decode code 409 = .ok (.ireturn, 1) := by decide +kernel
theorem d_La_law_410 : decode code 410 = .ok (.goto 176, 3) := by decide +kernel
theorem d_La_law_413 : decode code 413 = .ok (.aload_n 1, 1) := by decide +kernel
theorem d_La_law_414 : decode code 414 = .ok (.aload_n 0, 1) := by decide +kernel
theorem d_La_law_415 : decode code 415 = .ok (.iload 4, 2) := by decide +kernel
theorem d_La_law_417 : decode code 417 = .ok (.iconst 1, 1) := by decide +kernel
theorem d_La_law_418 : decode code 418 = .ok (.iadd, 1) := by decide +kernel
theorem d_La_law_419 : decode code 419 = .ok (.iaload, 1) := by decide +kernel
theorem d_La_law_420 : decode code 420 = .ok (.invokevirtual 72, 3) := by decide +kernel
theorem d_La_law_423 : decode code 423 = .ok (.aload_n 2, 1) := by decide +kernel
theorem d_La_law_424 : decode code 424 = .ok (.aload_n 0, 1) := by decide +kernel
theorem d_La_law_425 : decode code 425 = .ok (.iload 4, 2) := by decide +kernel
theorem d_La_law_427 : decode code 427 = .ok (.iconst 1, 1) := by decide +kernel
theorem d_La_law_428 : decode code 428 = .ok (.iadd, 1) := by decide +kernel
theorem d_La_law_429 : decode code 429 = .ok (.iaload, 1) := by decide +kernel
theorem d_La_law_430 : decode code 430 = .ok (.invokevirtual 75, 3) := by decide +kernel
theorem d_La_law_433 : decode code 433 = .ok (.if_icmp .eq 153, 3) := by decide +kernel
theorem d_La_law_436 : decode code 436 = .ok (.iconst 0, 1) := by decide +kernel
theorem d_La_law_437 : decode code 437 = .ok (.ireturn, 1) := by decide +kernel
theorem d_La_law_438 : decode code 438 = .ok (.aload_n 1, 1) := by decide +kernel
theorem d_La_law_439 : decode code 439 = .ok (.aload_n 0, 1) := by decide +kernel
theorem d_La_law_440 : decode code 440 = .ok (.iload 4, 2) := by decide +kernel
theorem d_La_law_442 : decode code 442 = .ok (.iconst 1, 1) := by decide +kernel
theorem d_La_law_443 : decode code 443 = .ok (.iadd, 1) := by decide +kernel
theorem d_La_law_444 : decode code 444 = .ok (.iaload, 1) := by decide +kernel
theorem d_La_law_445 : decode code 445 = .ok (.aload_n 0, 1) := by decide +kernel
theorem d_La_law_446 : decode code 446 = .ok (.iload 4, 2) := by decide +kernel
theorem d_La_law_448 : decode code 448 = .ok (.iconst 2, 1) := by decide +kernel
theorem d_La_law_449 : decode code 449 = .ok (.iadd, 1) := by decide +kernel
theorem d_La_law_450 : decode code 450 = .ok (.iaload, 1) := by decide +kernel
theorem d_La_law_451 : decode code 451 = .ok (.invokevirtual 76, 3) := by decide +kernel
theorem d_La_law_454 : decode code 454 = .ok (.aload_n 2, 1) := by decide +kernel
theorem d_La_law_455 : decode code 455 = .ok (.aload_n 0, 1) := by decide +kernel
theorem d_La_law_456 : decode code 456 = .ok (.iload 4, 2) := by decide +kernel
theorem d_La_law_458 : decode code 458 = .ok (.iconst 1, 1) := by decide +kernel
theorem d_La_law_459 : decode code 459 = .ok (.iadd, 1) := by decide +kernel
theorem d_La_law_460 : decode code 460 = .ok (.iaload, 1) := by decide +kernel
theorem d_La_law_461 : decode code 461 = .ok (.aload_n 0, 1) := by decide +kernel
theorem d_La_law_462 : decode code 462 = .ok (.iload 4, 2) := by decide +kernel
theorem d_La_law_464 : decode code 464 = .ok (.iconst 2, 1) := by decide +kernel
theorem d_La_law_465 : decode code 465 = .ok (.iadd, 1) := by decide +kernel
theorem d_La_law_466 : decode code 466 = .ok (.iaload, 1) := by decide +kernel
theorem d_La_law_467 : decode code 467 = .ok (.invokevirtual 79, 3) := by decide +kernel
theorem d_La_law_470 : decode code 470 = .ok (.if_icmp .eq 116, 3) := by decide +kernel
theorem d_La_law_473 : decode code 473 = .ok (.iconst 0, 1) := by decide +kernel
theorem d_La_law_474 : decode code 474 = .ok (.ireturn, 1) := by decide +kernel
theorem d_La_law_475 : decode code 475 = .ok (.aload_n 1, 1) := by decide +kernel
theorem d_La_law_476 : decode code 476 = .ok (.aload_n 0, 1) := by decide +kernel
theorem d_La_law_477 : decode code 477 = .ok (.iload 4, 2) := by decide +kernel
theorem d_La_law_479 : decode code 479 = .ok (.iconst 1, 1) := by decide +kernel
theorem d_La_law_480 : decode code 480 = .ok (.iadd, 1) := by decide +kernel
theorem d_La_law_481 : decode code 481 = .ok (.iaload, 1) := by decide +kernel
theorem d_La_law_482 : decode code 482 = .ok (.aload_n 0, 1) := by decide +kernel
theorem d_La_law_483 : decode code 483 = .ok (.iload 4, 2) := by decide +kernel
theorem d_La_law_485 : decode code 485 = .ok (.iconst 2, 1) := by decide +kernel
theorem d_La_law_486 : decode code 486 = .ok (.iadd, 1) := by decide +kernel
theorem d_La_law_487 : decode code 487 = .ok (.iaload, 1) := by decide +kernel
theorem d_La_law_488 : decode code 488 = .ok (.invokevirtual 80, 3) := by decide +kernel
theorem d_La_law_491 : decode code 491 = .ok (.aload_n 2, 1) := by decide +kernel
theorem d_La_law_492 : decode code 492 = .ok (.aload_n 0, 1) := by decide +kernel
theorem d_La_law_493 : decode code 493 = .ok (.iload 4, 2) := by decide +kernel
theorem d_La_law_495 : decode code 495 = .ok (.iconst 1, 1) := by decide +kernel
theorem d_La_law_496 : decode code 496 = .ok (.iadd, 1) := by decide +kernel
theorem d_La_law_497 : decode code 497 = .ok (.iaload, 1) := by decide +kernel
theorem d_La_law_498 : decode code 498 = .ok (.aload_n 0, 1) := by decide +kernel
theorem d_La_law_499 : decode code 499 = .ok (.iload 4, 2) := by decide +kernel
theorem d_La_law_501 : decode code 501 = .ok (.iconst 2, 1) := by decide +kernel
theorem d_La_law_502 : decode code 502 = .ok (.iadd, 1) := by decide +kernel
theorem d_La_law_503 : decode code 503 = .ok (.iaload, 1) := by decide +kernel
theorem d_La_law_504 : decode code 504 = .ok (.invokevirtual 83, 3) := by decide +kernel
theorem d_La_law_507 : decode code 507 = .ok (.if_icmp .eq 79, 3) := by decide +kernel
theorem d_La_law_510 : decode code 510 = .ok (.iconst 0, 1) := by decide +kernel
theorem d_La_law_511 : decode code 511 = .ok (.ireturn, 1) := by decide +kernel
theorem d_La_law_512 : decode code 512 = .ok (.aload_n 1, 1) := by decide +kernel
theorem d_La_law_513 : decode code 513 = .ok (.aload_n 0, 1) := by decide +kernel
theorem d_La_law_514 : decode code 514 = .ok (.iload 4, 2) := by decide +kernel
theorem d_La_law_516 : decode code 516 = .ok (.iconst 1, 1) := by decide +kernel
theorem d_La_law_517 : decode code 517 = .ok (.iadd, 1) := by decide +kernel
theorem d_La_law_518 : decode code 518 = .ok (.iaload, 1) := by decide +kernel
theorem d_La_law_519 : decode code 519 = .ok (.aload_n 0, 1) := by decide +kernel
theorem d_La_law_520 : decode code 520 = .ok (.iload 4, 2) := by decide +kernel
theorem d_La_law_522 : decode code 522 = .ok (.iconst 2, 1) := by decide +kernel
theorem d_La_law_523 : decode code 523 = .ok (.iadd, 1) := by decide +kernel
theorem d_La_law_524 : decode code 524 = .ok (.iaload, 1) := by decide +kernel
theorem d_La_law_525 : decode code 525 = .ok (.invokevirtual 84, 3) := by decide +kernel
theorem d_La_law_528 : decode code 528 = .ok (.aload_n 2, 1) := by decide +kernel
theorem d_La_law_529 : decode code 529 = .ok (.aload_n 0, 1) := by decide +kernel
theorem d_La_law_530 : decode code 530 = .ok (.iload 4, 2) := by decide +kernel
theorem d_La_law_532 : decode code 532 = .ok (.iconst 1, 1) := by decide +kernel
theorem d_La_law_533 : decode code 533 = .ok (.iadd, 1) := by decide +kernel
theorem d_La_law_534 : decode code 534 = .ok (.iaload, 1) := by decide +kernel
theorem d_La_law_535 : decode code 535 = .ok (.aload_n 0, 1) := by decide +kernel
theorem d_La_law_536 : decode code 536 = .ok (.iload 4, 2) := by decide +kernel
theorem d_La_law_538 : decode code 538 = .ok (.iconst 2, 1) := by decide +kernel
theorem d_La_law_539 : decode code 539 = .ok (.iadd, 1) := by decide +kernel
theorem d_La_law_540 : decode code 540 = .ok (.iaload, 1) := by decide +kernel
theorem d_La_law_541 : decode code 541 = .ok (.invokevirtual 87, 3) := by decide +kernel
theorem d_La_law_544 : decode code 544 = .ok (.if_icmp .eq 42, 3) := by decide +kernel
theorem d_La_law_547 : decode code 547 = .ok (.iconst 0, 1) := by decide +kernel
theorem d_La_law_548 : decode code 548 = .ok (.ireturn, 1) := by decide +kernel
theorem d_La_law_549 : decode code 549 = .ok (.aload_n 1, 1) := by decide +kernel
theorem d_La_law_550 : decode code 550 = .ok (.aload_n 0, 1) := by decide +kernel
theorem d_La_law_551 : decode code 551 = .ok (.iload 4, 2) := by decide +kernel
theorem d_La_law_553 : decode code 553 = .ok (.iconst 1, 1) := by decide +kernel
theorem d_La_law_554 : decode code 554 = .ok (.iadd, 1) := by decide +kernel
theorem d_La_law_555 : decode code 555 = .ok (.iaload, 1) := by decide +kernel
theorem d_La_law_556 : decode code 556 = .ok (.aload_n 0, 1) := by decide +kernel
theorem d_La_law_557 : decode code 557 = .ok (.iload 4, 2) := by decide +kernel
theorem d_La_law_559 : decode code 559 = .ok (.iconst 2, 1) := by decide +kernel
theorem d_La_law_560 : decode code 560 = .ok (.iadd, 1) := by decide +kernel
theorem d_La_law_561 : decode code 561 = .ok (.iaload, 1) := by decide +kernel
theorem d_La_law_562 : decode code 562 = .ok (.invokevirtual 88, 3) := by decide +kernel
theorem d_La_law_565 : decode code 565 = .ok (.aload_n 2, 1) := by decide +kernel
theorem d_La_law_566 : decode code 566 = .ok (.aload_n 0, 1) := by decide +kernel
theorem d_La_law_567 : decode code 567 = .ok (.iload 4, 2) := by decide +kernel
theorem d_La_law_569 : decode code 569 = .ok (.iconst 1, 1) := by decide +kernel
