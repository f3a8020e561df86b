/-! The law: its instructions, and rows for its loop. -/
theorem d_La_law_0 : decode code 0 = .ok (.new 8, 3) := by decide +kernel
theorem d_La_law_3 : decode code 3 = .ok (.dup, 1) := by decide +kernel
theorem d_La_law_4 : decode code 4 = .ok (.invokespecial 32, 3) := by decide +kernel
theorem d_La_law_7 : decode code 7 = .ok (.astore_n 1, 1) := by decide +kernel
theorem d_La_law_8 : decode code 8 = .ok (.new 33, 3) := by decide +kernel
theorem d_La_law_11 : decode code 11 = .ok (.dup, 1) := by decide +kernel
theorem d_La_law_12 : decode code 12 = .ok (.invokespecial 35, 3) := by decide +kernel
theorem d_La_law_15 : decode code 15 = .ok (.astore_n 2, 1) := by decide +kernel
theorem d_La_law_16 : decode code 16 = .ok (.iconst 1, 1) := by decide +kernel
theorem d_La_law_17 : decode code 17 = .ok (.newarray .long, 2) := by decide +kernel
theorem d_La_law_19 : decode code 19 = .ok (.astore_n 3, 1) := by decide +kernel
theorem d_La_law_20 : decode code 20 = .ok (.iconst 0, 1) := by decide +kernel
theorem d_La_law_21 : decode code 21 = .ok (.istore 4, 2) := by decide +kernel
theorem d_La_law_23 : decode code 23 = .ok (.iload 4, 2) := by decide +kernel
theorem d_La_law_25 : decode code 25 = .ok (.aload_n 0, 1) := by decide +kernel
theorem d_La_law_26 : decode code 26 = .ok (.arraylength, 1) := by decide +kernel
theorem d_La_law_27 : decode code 27 = .ok (.iconst 3, 1) := by decide +kernel
theorem d_La_law_28 : decode code 28 = .ok (.isub, 1) := by decide +kernel
theorem d_La_law_29 : decode code 29 = .ok (.if_icmp .gt 440, 3) := by decide +kernel
theorem d_La_law_32 : decode code 32 = .ok (.aload_n 0, 1) := by decide +kernel
theorem d_La_law_33 : decode code 33 = .ok (.iload 4, 2) := by decide +kernel
theorem d_La_law_35 : decode code 35 = .ok (.iaload, 1) := by decide +kernel
theorem d_La_law_36 : decode code 36 = .ok (.bipush 15, 2) := by decide +kernel
theorem d_La_law_38 : decode code 38 = .ok (.iand, 1) := by decide +kernel
theorem d_La_law_39 : decode code 39 = .ok (.tableswitch 424 0 12 #[65, 105, 130, 141, 154, 182, 198, 223, 251, 276, 313, 350, 387], 65) := by decide +kernel
theorem d_La_law_104 : decode code 104 = .ok (.aload_n 1, 1) := by decide +kernel
theorem d_La_law_105 : decode code 105 = .ok (.aload_n 0, 1) := by decide +kernel
theorem d_La_law_106 : decode code 106 = .ok (.iload 4, 2) := by decide +kernel
theorem d_La_law_108 : decode code 108 = .ok (.iconst 1, 1) := by decide +kernel
theorem d_La_law_109 : decode code 109 = .ok (.iadd, 1) := by decide +kernel
theorem d_La_law_110 : decode code 110 = .ok (.iaload, 1) := by decide +kernel
theorem d_La_law_111 : decode code 111 = .ok (.aload_n 0, 1) := by decide +kernel
theorem d_La_law_112 : decode code 112 = .ok (.iload 4, 2) := by decide +kernel
theorem d_La_law_114 : decode code 114 = .ok (.iconst 2, 1) := by decide +kernel
theorem d_La_law_115 : decode code 115 = .ok (.iadd, 1) := by decide +kernel
theorem d_La_law_116 : decode code 116 = .ok (.iaload, 1) := by decide +kernel
theorem d_La_law_117 : decode code 117 = .ok (.aload_n 3, 1) := by decide +kernel
theorem d_La_law_118 : decode code 118 = .ok (.invokestatic 36, 3) := by decide +kernel
theorem d_La_law_121 : decode code 121 = .ok (.istore 5, 2) := by decide +kernel
theorem d_La_law_123 : decode code 123 = .ok (.aload_n 2, 1) := by decide +kernel
theorem d_La_law_124 : decode code 124 = .ok (.aload_n 0, 1) := by decide +kernel
theorem d_La_law_125 : decode code 125 = .ok (.iload 4, 2) := by decide +kernel
theorem d_La_law_127 : decode code 127 = .ok (.iconst 1, 1) := by decide +kernel
theorem d_La_law_128 : decode code 128 = .ok (.iadd, 1) := by decide +kernel
theorem d_La_law_129 : decode code 129 = .ok (.iaload, 1) := by decide +kernel
theorem d_La_law_130 : decode code 130 = .ok (.aload_n 0, 1) := by decide +kernel
theorem d_La_law_131 : decode code 131 = .ok (.iload 4, 2) := by decide +kernel
theorem d_La_law_133 : decode code 133 = .ok (.iconst 2, 1) := by decide +kernel
theorem d_La_law_134 : decode code 134 = .ok (.iadd, 1) := by decide +kernel
theorem d_La_law_135 : decode code 135 = .ok (.iaload, 1) := by decide +kernel
theorem d_La_law_136 : decode code 136 = .ok (.invokevirtual 41, 3) := by decide +kernel
theorem d_La_law_139 : decode code 139 = .ok (.istore 6, 2) := by decide +kernel
theorem d_La_law_141 : decode code 141 = .ok (.goto 322, 3) := by decide +kernel
theorem d_La_law_144 : decode code 144 = .ok (.aload_n 1, 1) := by decide +kernel
theorem d_La_law_145 : decode code 145 = .ok (.aload_n 0, 1) := by decide +kernel
theorem d_La_law_146 : decode code 146 = .ok (.iload 4, 2) := by decide +kernel
theorem d_La_law_148 : decode code 148 = .ok (.iconst 1, 1) := by decide +kernel
theorem d_La_law_149 : decode code 149 = .ok (.iadd, 1) := by decide +kernel
theorem d_La_law_150 : decode code 150 = .ok (.iaload, 1) := by decide +kernel
theorem d_La_law_151 : decode code 151 = .ok (.invokestatic 42, 3) := by decide +kernel
theorem d_La_law_154 : decode code 154 = .ok (.istore 5, 2) := by decide +kernel
theorem d_La_law_156 : decode code 156 = .ok (.aload_n 2, 1) := by decide +kernel
theorem d_La_law_157 : decode code 157 = .ok (.aload_n 0, 1) := by decide +kernel
theorem d_La_law_158 : decode code 158 = .ok (.iload 4, 2) := by decide +kernel
theorem d_La_law_160 : decode code 160 = .ok (.iconst 1, 1) := by decide +kernel
theorem d_La_law_161 : decode code 161 = .ok (.iadd, 1) := by decide +kernel
theorem d_La_law_162 : decode code 162 = .ok (.iaload, 1) := by decide +kernel
theorem d_La_law_163 : decode code 163 = .ok (.invokevirtual 45, 3) := by decide +kernel
theorem d_La_law_166 : decode code 166 = .ok (.goto 297, 3) := by decide +kernel
theorem d_La_law_169 : decode code 169 = .ok (.aload_n 1, 1) := by decide +kernel
theorem d_La_law_170 : decode code 170 = .ok (.invokevirtual 46, 3) := by decide +kernel
theorem d_La_law_173 : decode code 173 = .ok (.aload_n 2, 1) := by decide +kernel
theorem d_La_law_174 : decode code 174 = .ok (.invokevirtual 49, 3) := by decide +kernel
theorem d_La_law_177 : decode code 177 = .ok (.goto 286, 3) := by decide +kernel
theorem d_La_law_180 : decode code 180 = .ok (.aload_n 1, 1) := by decide +kernel
theorem d_La_law_181 : decode code 181 = .ok (.invokevirtual 50, 3) := by decide +kernel
theorem d_La_law_184 : decode code 184 = .ok (.pop, 1) := by decide +kernel
theorem d_La_law_185 : decode code 185 = .ok (.aload_n 2, 1) := by decide +kernel
theorem d_La_law_186 : decode code 186 = .ok (.invokevirtual 53, 3) := by decide +kernel
theorem d_La_law_189 : decode code 189 = .ok (.pop, 1) := by decide +kernel
theorem d_La_law_190 : decode code 190 = .ok (.goto 273, 3) := by decide +kernel
theorem d_La_law_193 : decode code 193 = .ok (.aload_n 1, 1) := by decide +kernel
theorem d_La_law_194 : decode code 194 = .ok (.aload_n 0, 1) := by decide +kernel
theorem d_La_law_195 : decode code 195 = .ok (.iload 4, 2) := by decide +kernel
theorem d_La_law_197 : decode code 197 = .ok (.iconst 1, 1) := by decide +kernel
theorem d_La_law_198 : decode code 198 = .ok (.iadd, 1) := by decide +kernel
theorem d_La_law_199 : decode code 199 = .ok (.iaload, 1) := by decide +kernel
theorem d_La_law_200 : decode code 200 = .ok (.aload_n 3, 1) := by decide +kernel
theorem d_La_law_201 : decode code 201 = .ok (.invokestatic 54, 3) := by decide +kernel
theorem d_La_law_204 : decode code 204 = .ok (.istore 5, 2) := by decide +kernel
theorem d_La_law_206 : decode code 206 = .ok (.aload_n 2, 1) := by decide +kernel
theorem d_La_law_207 : decode code 207 = .ok (.aload_n 0, 1) := by decide +kernel
theorem d_La_law_208 : decode code 208 = .ok (.iload 4, 2) := by decide +kernel
theorem d_La_law_210 : decode code 210 = .ok (.iconst 1, 1) := by decide +kernel
theorem d_La_law_211 : decode code 211 = .ok (.iadd, 1) := by decide +kernel
theorem d_La_law_212 : decode code 212 = .ok (.iaload, 1) := by decide +kernel
theorem d_La_law_213 : decode code 213 = .ok (.invokevirtual 57, 3) := by decide +kernel
theorem d_La_law_216 : decode code 216 = .ok (.istore 6, 2) := by decide +kernel
theorem d_La_law_218 : decode code 218 = .ok (.goto 245, 3) := by decide +kernel
theorem d_La_law_221 : decode code 221 = .ok (.aload_n 1, 1) := by decide +kernel
theorem d_La_law_222 : decode code 222 = .ok (.aload_n 3, 1) := by decide +kernel
theorem d_La_law_223 : decode code 223 = .ok (.invokestatic 58, 3) := by decide +kernel
theorem d_La_law_226 : decode code 226 = .ok (.istore 5, 2) := by decide +kernel
theorem d_La_law_228 : decode code 228 = .ok (.aload_n 2, 1) := by decide +kernel
theorem d_La_law_229 : decode code 229 = .ok (.invokevirtual 61, 3) := by decide +kernel
theorem d_La_law_232 : decode code 232 = .ok (.istore 6, 2) := by decide +kernel
theorem d_La_law_234 : decode code 234 = .ok (.goto 229, 3) := by decide +kernel
theorem d_La_law_237 : decode code 237 = .ok (.aload_n 1, 1) := by decide +kernel
theorem d_La_law_238 : decode code 238 = .ok (.aload_n 0, 1) := by decide +kernel
theorem d_La_law_239 : decode code 239 = .ok (.iload 4, 2) := by decide +kernel
theorem d_La_law_241 : decode code 241 = .ok (.iconst 1, 1) := by decide +kernel
theorem d_La_law_242 : decode code 242 = .ok (.iadd, 1) := by decide +kernel
theorem d_La_law_243 : decode code 243 = .ok (.iaload, 1) := by decide +kernel
theorem d_La_law_244 : decode code 244 = .ok (.invokevirtual 62, 3) := by decide +kernel
theorem d_La_law_247 : decode code 247 = .ok (.pop, 1) := by decide +kernel
theorem d_La_law_248 : decode code 248 = .ok (.aload_n 2, 1) := by decide +kernel
theorem d_La_law_249 : decode code 249 = .ok (.aload_n 0, 1) := by decide +kernel
theorem d_La_law_250 : decode code 250 = .ok (.iload 4, 2) := by decide +kernel
theorem d_La_law_252 : decode code 252 = .ok (.iconst 1, 1) := by decide +kernel
theorem d_La_law_253 : decode code 253 = .ok (.iadd, 1) := by decide +kernel
theorem d_La_law_254 : decode code 254 = .ok (.iaload, 1) := by decide +kernel
theorem d_La_law_255 : decode code 255 = .ok (.invokevirtual 65, 3) := by decide +kernel
theorem d_La_law_258 : decode code 258 = .ok (.pop, 1) := by decide +kernel
theorem d_La_law_259 : decode code 259 = .ok (.goto 204, 3) := by decide +kernel
theorem d_La_law_262 : decode code 262 = .ok (.aload_n 1, 1) := by decide +kernel
theorem d_La_law_263 : decode code 263 = .ok (.aload_n 0, 1) := by decide +kernel
theorem d_La_law_264 : decode code 264 = .ok (.iload 4, 2) := by decide +kernel
theorem d_La_law_266 : decode code 266 = .ok (.iconst 1, 1) := by decide +kernel
theorem d_La_law_267 : decode code 267 = .ok (.iadd, 1) := by decide +kernel
theorem d_La_law_268 : decode code 268 = .ok (.iaload, 1) := by decide +kernel
theorem d_La_law_269 : decode code 269 = .ok (.aload_n 3, 1) := by decide +kernel
theorem d_La_law_270 : decode code 270 = .ok (.invokestatic 66, 3) := by decide +kernel
theorem d_La_law_273 : decode code 273 = .ok (.istore 5, 2) := by decide +kernel
theorem d_La_law_275 : decode code 275 = .ok (.aload_n 2, 1) := by decide +kernel
theorem d_La_law_276 : decode code 276 = .ok (.aload_n 0, 1) := by decide +kernel
theorem d_La_law_277 : decode code 277 = .ok (.iload 4, 2) := by decide +kernel
theorem d_La_law_279 : decode code 279 = .ok (.iconst 1, 1) := by decide +kernel
theorem d_La_law_280 : decode code 280 = .ok (.iadd, 1) := by decide +kernel
theorem d_La_law_281 : decode code 281 = .ok (.iaload, 1) := by decide +kernel
theorem d_La_law_282 : decode code 282 = .ok (.invokevirtual 68, 3) := by decide +kernel
theorem d_La_law_285 : decode code 285 = .ok (.istore 6, 2) := by decide +kernel
theorem d_La_law_287 : decode code 287 = .ok (.goto 176, 3) := by decide +kernel
theorem d_La_law_290 : decode code 290 = .ok (.aload_n 1, 1) := by decide +kernel
theorem d_La_law_291 : decode code 291 = .ok (.aload_n 0, 1) := by decide +kernel
theorem d_La_law_292 : decode code 292 = .ok (.iload 4, 2) := by decide +kernel
theorem d_La_law_294 : decode code 294 = .ok (.iconst 1, 1) := by decide +kernel
theorem d_La_law_295 : decode code 295 = .ok (.iadd, 1) := by decide +kernel
theorem d_La_law_296 : decode code 296 = .ok (.iaload, 1) := by decide +kernel
theorem d_La_law_297 : decode code 297 = .ok (.invokevirtual 69, 3) := by decide +kernel
theorem d_La_law_300 : decode code 300 = .ok (.pop, 1) := by decide +kernel
theorem d_La_law_301 : decode code 301 = .ok (.aload_n 2, 1) := by decide +kernel
theorem d_La_law_302 : decode code 302 = .ok (.aload_n 0, 1) := by decide +kernel
theorem d_La_law_303 : decode code 303 = .ok (.iload 4, 2) := by decide +kernel
theorem d_La_law_305 : decode code 305 = .ok (.iconst 1, 1) := by decide +kernel
theorem d_La_law_306 : decode code 306 = .ok (.iadd, 1) := by decide +kernel
theorem d_La_law_307 : decode code 307 = .ok (.iaload, 1) := by decide +kernel
theorem d_La_law_308 : decode code 308 = .ok (.invokevirtual 72, 3) := by decide +kernel
theorem d_La_law_311 : decode code 311 = .ok (.pop, 1) := by decide +kernel
theorem d_La_law_312 : decode code 312 = .ok (.goto 151, 3) := by decide +kernel
theorem d_La_law_315 : decode code 315 = .ok (.aload_n 1, 1) := by decide +kernel
theorem d_La_law_316 : decode code 316 = .ok (.aload_n 0, 1) := by decide +kernel
theorem d_La_law_317 : decode code 317 = .ok (.iload 4, 2) := by decide +kernel
theorem d_La_law_319 : decode code 319 = .ok (.iconst 1, 1) := by decide +kernel
theorem d_La_law_320 : decode code 320 = .ok (.iadd, 1) := by decide +kernel
theorem d_La_law_321 : decode code 321 = .ok (.iaload, 1) := by decide +kernel
theorem d_La_law_322 : decode code 322 = .ok (.aload_n 0, 1) := by decide +kernel
theorem d_La_law_323 : decode code 323 = .ok (.iload 4, 2) := by decide +kernel
theorem d_La_law_325 : decode code 325 = .ok (.iconst 2, 1) := by decide +kernel
theorem d_La_law_326 : decode code 326 = .ok (.iadd, 1) := by decide +kernel
theorem d_La_law_327 : decode code 327 = .ok (.iaload, 1) := by decide +kernel
theorem d_La_law_328 : decode code 328 = .ok (.invokevirtual 73, 3) := by decide +kernel
theorem d_La_law_331 : decode code 331 = .ok (.pop, 1) := by decide +kernel
theorem d_La_law_332 : decode code 332 = .ok (.aload_n 2, 1) := by decide +kernel
theorem d_La_law_333 : decode code 333 = .ok (.aload_n 0, 1) := by decide +kernel
theorem d_La_law_334 : decode code 334 = .ok (.iload 4, 2) := by decide +kernel
theorem d_La_law_336 : decode code 336 = .ok (.iconst 1, 1) := by decide +kernel
theorem d_La_law_337 : decode code 337 = .ok (.iadd, 1) := by decide +kernel
theorem d_La_law_338 : decode code 338 = .ok (.iaload, 1) := by decide +kernel
theorem d_La_law_339 : decode code 339 = .ok (.aload_n 0, 1) := by decide +kernel
theorem d_La_law_340 : decode code 340 = .ok (.iload 4, 2) := by decide +kernel
theorem d_La_law_342 : decode code 342 = .ok (.iconst 2, 1) := by decide +kernel
theorem d_La_law_343 : decode code 343 = .ok (.iadd, 1) := by decide +kernel
theorem d_La_law_344 : decode code 344 = .ok (.iaload, 1) := by decide +kernel
theorem d_La_law_345 : decode code 345 = .ok (.invokevirtual 76, 3) := by decide +kernel
theorem d_La_law_348 : decode code 348 = .ok (.pop, 1) := by decide +kernel
theorem d_La_law_349 : decode code 349 = .ok (.goto 114, 3) := by decide +kernel
theorem d_La_law_352 : decode code 352 = .ok (.aload_n 1, 1) := by decide +kernel
theorem d_La_law_353 : decode code 353 = .ok (.aload_n 0, 1) := by decide +kernel
theorem d_La_law_354 : decode code 354 = .ok (.iload 4, 2) := by decide +kernel
theorem d_La_law_356 : decode code 356 = .ok (.iconst 1, 1) := by decide +kernel
theorem d_La_law_357 : decode code 357 = .ok (.iadd, 1) := by decide +kernel
theorem d_La_law_358 : decode code 358 = .ok (.iaload, 1) := by decide +kernel
theorem d_La_law_359 : decode code 359 = .ok (.aload_n 0, 1) := by decide +kernel
theorem d_La_law_360 : decode code 360 = .ok (.iload 4, 2) := by decide +kernel
theorem d_La_law_362 : decode code 362 = .ok (.iconst 2, 1) := by decide +kernel
theorem d_La_law_363 : decode code 363 = .ok (.iadd, 1) := by decide +kernel
theorem d_La_law_364 : decode code 364 = .ok (.iaload, 1) := by decide +kernel
theorem d_La_law_365 : decode code 365 = .ok (.invokevirtual 77, 3) := by decide +kernel
theorem d_La_law_368 : decode code 368 = .ok (.aload_n 2, 1) := by decide +kernel
theorem d_La_law_369 : decode code 369 = .ok (.aload_n 0, 1) := by decide +kernel
theorem d_La_law_370 : decode code 370 = .ok (.iload 4, 2) := by decide +kernel
theorem d_La_law_372 : decode code 372 = .ok (.iconst 1, 1) := by decide +kernel
theorem d_La_law_373 : decode code 373 = .ok (.iadd, 1) := by decide +kernel
theorem d_La_law_374 : decode code 374 = .ok (.iaload, 1) := by decide +kernel
theorem d_La_law_375 : decode code 375 = .ok (.aload_n 0, 1) := by decide +kernel
theorem d_La_law_376 : decode code 376 = .ok (.iload 4, 2) := by decide +kernel
theorem d_La_law_378 : decode code 378 = .ok (.iconst 2, 1) := by decide +kernel
theorem d_La_law_379 : decode code 379 = .ok (.iadd, 1) := by decide +kernel
theorem d_La_law_380 : decode code 380 = .ok (.iaload, 1) := by decide +kernel
theorem d_La_law_381 : decode code 381 = .ok (.invokevirtual 80, 3) := by decide +kernel
theorem d_La_law_384 : decode code 384 = .ok (.if_icmp .eq 79, 3) := by decide +kernel
theorem d_La_law_387 : decode code 387 = .ok (.iconst 0, 1) := by decide +kernel
theorem d_La_law_388 : decode code 388 = .ok (.ireturn, 1) := by decide +kernel
theorem d_La_law_389 : decode code 389 = .ok (.aload_n 1, 1) := by decide +kernel
theorem d_La_law_390 : decode code 390 = .ok (.aload_n 0, 1) := by decide +kernel
theorem d_La_law_391 : decode code 391 = .ok (.iload 4, 2) := by decide +kernel
theorem d_La_law_393 : decode code 393 = .ok (.iconst 1, 1) := by decide +kernel
theorem d_La_law_394 : decode code 394 = .ok (.iadd, 1) := by decide +kernel
theorem d_La_law_395 : decode code 395 = .ok (.iaload, 1) := by decide +kernel
theorem d_La_law_396 : decode code 396 = .ok (.aload_n 0, 1) := by decide +kernel
theorem d_La_law_397 : decode code 397 = .ok (.iload 4, 2) := by decide +kernel
theorem d_La_law_399 : decode code 399 = .ok (.iconst 2, 1) := by decide +kernel
theorem d_La_law_400 : decode code 400 = .ok (.iadd, 1) := by decide +kernel
theorem d_La_law_401 : decode code 401 = .ok (.iaload, 1) := by decide +kernel
theorem d_La_law_402 : decode code 402 = .ok (.invokevirtual 81, 3) := by decide +kernel
theorem d_La_law_405 : decode code 405 = .ok (.pop, 1) := by decide +kernel
theorem d_La_law_406 : decode code 406 = .ok (.aload_n 2, 1) := by decide +kernel
theorem d_La_law_407 : decode code 407 = .ok (.aload_n 0, 1) := by decide +kernel
theorem d_La_law_408 : decode code 408 = .ok (.iload 4, 2) := by decide +kernel
theorem d_La_law_410 : decode code 410 = .ok (.iconst 1, 1) := by decide +kernel
theorem d_La_law_411 : decode code 411 = .ok (.iadd, 1) := by decide +kernel
theorem d_La_law_412 : decode code 412 = .ok (.iaload, 1) := by decide +kernel
theorem d_La_law_413 : decode code 413 = .ok (.aload_n 0, 1) := by decide +kernel
theorem d_La_law_414 : decode code 414 = .ok (.iload 4, 2) := by decide +kernel
theorem d_La_law_416 : decode code 416 = .ok (.iconst 2, 1) := by decide +kernel
theorem d_La_law_417 : decode code 417 = .ok (.iadd, 1) := by decide +kernel
theorem d_La_law_418 : decode code 418 = .ok (.iaload, 1) := by decide +kernel
theorem d_La_law_419 : decode code 419 = .ok (.invokevirtual 84, 3) := by decide +kernel
theorem d_La_law_422 : decode code 422 = .ok (.pop, 1) := by decide +kernel
theorem d_La_law_423 : decode code 423 = .ok (.goto 40, 3) := by decide +kernel
theorem d_La_law_426 : decode code 426 = .ok (.aload_n 1, 1) := by decide +kernel
theorem d_La_law_427 : decode code 427 = .ok (.aload_n 0, 1) := by decide +kernel
theorem d_La_law_428 : decode code 428 = .ok (.iload 4, 2) := by decide +kernel
theorem d_La_law_430 : decode code 430 = .ok (.iconst 1, 1) := by decide +kernel
theorem d_La_law_431 : decode code 431 = .ok (.iadd, 1) := by decide +kernel
theorem d_La_law_432 : decode code 432 = .ok (.iaload, 1) := by decide +kernel
theorem d_La_law_433 : decode code 433 = .ok (.aload_n 0, 1) := by decide +kernel
theorem d_La_law_434 : decode code 434 = .ok (.iload 4, 2) := by decide +kernel
theorem d_La_law_436 : decode code 436 = .ok (.iconst 2, 1) := by decide +kernel
theorem d_La_law_437 : decode code 437 = .ok (.iadd, 1) := by decide +kernel
theorem d_La_law_438 : decode code 438 = .ok (.iaload, 1) := by decide +kernel
theorem d_La_law_439 : decode code 439 = .ok (.invokevirtual 85, 3) := by decide +kernel
theorem d_La_law_442 : decode code 442 = .ok (.pop, 1) := by decide +kernel
theorem d_La_law_443 : decode code 443 = .ok (.aload_n 2, 1) := by decide +kernel
theorem d_La_law_444 : decode code 444 = .ok (.aload_n 0, 1) := by decide +kernel
theorem d_La_law_445 : decode code 445 = .ok (.iload 4, 2) := by decide +kernel
theorem d_La_law_447 : decode code 447 = .ok (.iconst 1, 1) := by decide +kernel
theorem d_La_law_448 : decode code 448 = .ok (.iadd, 1) := by decide +kernel
theorem d_La_law_449 : decode code 449 = .ok (.iaload, 1) := by decide +kernel
theorem d_La_law_450 : decode code 450 = .ok (.aload_n 0, 1) := by decide +kernel
theorem d_La_law_451 : decode code 451 = .ok (.iload 4, 2) := by decide +kernel
theorem d_La_law_453 : decode code 453 = .ok (.iconst 2, 1) := by decide +kernel
theorem d_La_law_454 : decode code 454 = .ok (.iadd, 1) := by decide +kernel
theorem d_La_law_455 : decode code 455 = .ok (.iaload, 1) := by decide +kernel
theorem d_La_law_456 : decode code 456 = .ok (.invokevirtual 89, 3) := by decide +kernel
theorem d_La_law_459 : decode code 459 = .ok (.pop, 1) := by decide +kernel
theorem d_La_law_460 : decode code 460 = .ok (.goto 3, 3) := by decide +kernel
theorem d_La_law_463 : decode code 463 = .ok (.iinc 4 3, 3) := by decide +kernel
theorem d_La_law_466 : decode code 466 = .ok (.goto (-443), 3) := by decide +kernel
theorem d_La_law_469 : decode code 469 = .ok (.iconst 1, 1) := by decide +kernel
theorem d_La_law_470 : decode code 470 = .ok (.ireturn, 1) := by decide +kernel
section LR
variable {p : Program} {l : Launch} {e : Env} {R : Room} {s : State} {m : MethodId} {args : Array Value} {below : List Frame} {meth : Method} {c : Code} {H : Heap} {locs : List Loc} {cells slots : Nat} {Q : State → Prop} {pc : Nat} {ls : Array Slot} {rest : List Value} {cc : ByteArray} {A : Nat → Prop} {H0 : Heap}
theorem na_sld (hexec : p.tables.exec = Jvm.exec) (hb : c.code = cc) {b L k : Nat} {xs : Nat → Int32} (hX : va_X b L xs s H0) (hbl : b < H0.size) (hbA : ¬ A b) (hS : va_S A H0 H locs) (hk : k < L) (hn : L < 2 ^ 31) (hdg : decode cc pc = .ok (.iaload, 1))
    (kk : W p l e R s m args below meth c H locs cells slots Q (F0 m (pc + 1) ls (.int (xs k) :: rest))) : W p l e R s m args below meth c H locs cells slots Q (F0 m pc ls (.int (nI k) :: .ref b :: rest)) := by
  refine va_sld hexec hb hX hbl hbA hS (vp_in_nI hk hn) hdg ?_
  rw [nI_clamp (by omega)]
  exact kk
end LR
theorem nI_p3 (i : Nat) : nI i + Int32.ofInt 3 = nI (i + 3) := cv_add i 3
theorem law_ix {i L : Nat} (hL : L ≤ 1536) (hi : i ≤ 1536) (h : ¬ (nI L - 3) < nI i) : i + 3 ≤ L := by
  by_cases e : L < 3
  · exfalso
    apply h
    rw [Int32.lt_iff_toInt_lt, nI_toInt (by omega)]
    have : ∀ k, k < 3 → (nI k - 3).toInt < 0 := by decide
    have := this L e
    omega
  · have e1 : nI L - 3 = nI (L - 3) := cv_sub (b := 3) (by omega)
    rw [e1, nI_ltI (by omega) (by omega)] at h
    omega
theorem fst_eq {x y z : Int32} (h1 : (isMv x = 0 ∧ y = 1) ∨ (¬ isMv x = 0 ∧ y = 0)) (h2 : (isMv x = 0 ∧ z = 1) ∨ (¬ isMv x = 0 ∧ z = 0)) : y = z := by
  rcases h1 with ⟨h, rfl⟩ | ⟨h, rfl⟩ <;> rcases h2 with ⟨h', rfl⟩ | ⟨h', rfl⟩
  · rfl
  · exact absurd h h'
  · exact absurd h' h
  · rfl
theorem tr_nm {x y : Int32} {nz mt nz1 mt1 : Nat} {P : Prop} (h1 : (trv x y nz = 0 ∧ nz1 = nz + 1 ∧ P) ∨ (¬ trv x y nz = 0 ∧ nz1 = nz)) (h2 : (trv x y mt = 0 ∧ mt1 = mt + 1) ∨ (¬ trv x y mt = 0 ∧ mt1 = mt)) (h : nz = mt) : nz1 = mt1 := by
  subst h
  rcases h1 with ⟨a, b, -⟩ | ⟨a, b⟩ <;> rcases h2 with ⟨a', b'⟩ | ⟨a', b'⟩
  · omega
  · exact absurd a a'
  · exact absurd a' a
  · omega
theorem tr_th {x y r v : Int32} {nz mt : Nat} (h : nz = mt) (h1 : r = trv x y nz) (h2 : v = trv x y mt) : v = r := by rw [h1, h2, h]
theorem tr_out {x y r v : Int32} {nz mt nz1 : Nat} {z : Nat → Int64} (h : nz = mt) (h1 : r = trv x y nz) (h0 : r = 0) (h2 : (trv x y nz = 0 ∧ nz1 = nz + 1 ∧ z 0 = Int32.toInt64 (nI nz)) ∨ (¬ trv x y nz = 0 ∧ nz1 = nz)) (h3 : trv x y mt = 0 → v = nI mt) : lg_cmp (z 0) (Int32.toInt64 v) = 0 := by
  have e : trv x y nz = 0 := by rw [← h1, h0]
  rcases h2 with ⟨-, -, q⟩ | ⟨q, -⟩
  · rw [q, h3 (h ▸ e), h]
    exact (lg_cmp_eq _ _).mpr rfl
  · exact absurd e q
theorem AllLt.zeros {n b : Nat} (h : 0 < b) : AllLt (fun _ => 0) n b := fun _ _ => ⟨0, h, rfl⟩
theorem AllN.zeros {n b : Nat} (h : 0 < b) : AllN (fun _ => 0) n b := fun _ _ => Or.inr ⟨0, h, rfl⟩
theorem AllM.zeros {n : Nat} : AllM (fun _ => 0) n := fun _ _ => M38.zero
