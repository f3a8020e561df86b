/-! The law: its instructions, and rows for its loop. -/
theorem d_La_law_0 : decode code 0 = .ok (.new 8, 3) := by decide +kernel
theorem d_La_law_3 : decode code 3 = .ok (.dup, 1) := by decide +kernel
theorem d_La_law_4 : decode code 4 = .ok (.invokespecial 32, 3) := by decide +kernel
theorem d_La_law_7 : decode code 7 = .ok (.astore_n 1, 1) := by decide +kernel
theorem d_La_law_8 : decode code 8 = .ok (.new 33, 3) := by decide +kernel
theorem d_La_law_11 : decode code 11 = .ok (.dup, 1) := by decide +kernel
theorem d_La_law_12 : decode code 12 = .ok (.invokespecial 35, 3) := by decide +kernel
theorem d_La_law_15 : decode code 15 = .ok (.astore_n 2, 1) := by decide +kernel
theorem d_La_law_16 : decode code 16 = .ok (.iconst 1, 1) := by decide +kernel
theorem d_La_law_17 : decode code 17 = .ok (.newarray .long, 2) := by decide +kernel
theorem d_La_law_19 : decode code 19 = .ok (.astore_n 3, 1) := by decide +kernel
theorem d_La_law_20 : decode code 20 = .ok (.iconst 0, 1) := by decide +kernel
theorem d_La_law_21 : decode code 21 = .ok (.istore 4, 2) := by decide +kernel
theorem d_La_law_23 : decode code 23 = .ok (.iload 4, 2) := by decide +kernel
theorem d_La_law_25 : decode code 25 = .ok (.aload_n 0, 1) := by decide +kernel
theorem d_La_law_26 : decode code 26 = .ok (.arraylength, 1) := by decide +kernel
theorem d_La_law_27 : decode code 27 = .ok (.iconst 3, 1) := by decide +kernel
theorem d_La_law_28 : decode code 28 = .ok (.isub, 1) := by decide +kernel
theorem d_La_law_29 : decode code 29 = .ok (.if_icmp .gt 468, 3) := by decide +kernel
theorem d_La_law_32 : decode code 32 = .ok (.aload_n 0, 1) := by decide +kernel
theorem d_La_law_33 : decode code 33 = .ok (.iload 4, 2) := by decide +kernel
theorem d_La_law_35 : decode code 35 = .ok (.iaload, 1) := by decide +kernel
theorem d_La_law_36 : decode code 36 = .ok (.bipush 15, 2) := by decide +kernel
theorem d_La_law_38 : decode code 38 = .ok (.iand, 1) := by decide +kernel
theorem d_La_law_39 : decode code 39 = .ok (.tableswitch 452 0 12 #[65, 133, 158, 169, 182, 210, 226, 251, 279, 304, 341, 378, 415], 65) := by decide +kernel
theorem d_La_law_104 : decode code 104 = .ok (.aload_n 1, 1) := by decide +kernel
theorem d_La_law_105 : decode code 105 = .ok (.aload_n 0, 1) := by decide +kernel
theorem d_La_law_106 : decode code 106 = .ok (.iload 4, 2) := by decide +kernel
theorem d_La_law_108 : decode code 108 = .ok (.iconst 1, 1) := by decide +kernel
theorem d_La_law_109 : decode code 109 = .ok (.iadd, 1) := by decide +kernel
theorem d_La_law_110 : decode code 110 = .ok (.iaload, 1) := by decide +kernel
theorem d_La_law_111 : decode code 111 = .ok (.aload_n 0, 1) := by decide +kernel
theorem d_La_law_112 : decode code 112 = .ok (.iload 4, 2) := by decide +kernel
theorem d_La_law_114 : decode code 114 = .ok (.iconst 2, 1) := by decide +kernel
theorem d_La_law_115 : decode code 115 = .ok (.iadd, 1) := by decide +kernel
theorem d_La_law_116 : decode code 116 = .ok (.iaload, 1) := by decide +kernel
theorem d_La_law_117 : decode code 117 = .ok (.aload_n 3, 1) := by decide +kernel
theorem d_La_law_118 : decode code 118 = .ok (.invokestatic 36, 3) := by decide +kernel
theorem d_La_law_121 : decode code 121 = .ok (.istore 5, 2) := by decide +kernel
theorem d_La_law_123 : decode code 123 = .ok (.aload_n 2, 1) := by decide +kernel
theorem d_La_law_124 : decode code 124 = .ok (.aload_n 0, 1) := by decide +kernel
theorem d_La_law_125 : decode code 125 = .ok (.iload 4, 2) := by decide +kernel
theorem d_La_law_127 : decode code 127 = .ok (.iconst 1, 1) := by decide +kernel
theorem d_La_law_128 : decode code 128 = .ok (.iadd, 1) := by decide +kernel
theorem d_La_law_129 : decode code 129 = .ok (.iaload, 1) := by decide +kernel
theorem d_La_law_130 : decode code 130 = .ok (.aload_n 0, 1) := by decide +kernel
theorem d_La_law_131 : decode code 131 = .ok (.iload 4, 2) := by decide +kernel
theorem d_La_law_133 : decode code 133 = .ok (.iconst 2, 1) := by decide +kernel
theorem d_La_law_134 : decode code 134 = .ok (.iadd, 1) := by decide +kernel
theorem d_La_law_135 : decode code 135 = .ok (.iaload, 1) := by decide +kernel
theorem d_La_law_136 : decode code 136 = .ok (.invokevirtual 41, 3) := by decide +kernel
theorem d_La_law_139 : decode code 139 = .ok (.istore 6, 2) := by decide +kernel
theorem d_La_law_141 : decode code 141 = .ok (.aload_n 2, 1) := by decide +kernel
theorem d_La_law_142 : decode code 142 = .ok (.invokevirtual 42, 3) := by decide +kernel
theorem d_La_law_145 : decode code 145 = .ok (.iload 5, 2) := by decide +kernel
theorem d_La_law_147 : decode code 147 = .ok (.if_icmp .eq 5, 3) := by decide +kernel
theorem d_La_law_150 : decode code 150 = .ok (.iconst 0, 1) := by decide +kernel
theorem d_La_law_151 : decode code 151 = .ok (.ireturn, 1) := by decide +kernel
theorem d_La_law_152 : decode code 152 = .ok (.iload 5, 2) := by decide +kernel
theorem d_La_law_154 : decode code 154 = .ok (.ifCond .ne 15, 3) := by decide +kernel
theorem d_La_law_157 : decode code 157 = .ok (.aload_n 3, 1) := by decide +kernel
theorem d_La_law_158 : decode code 158 = .ok (.iconst 0, 1) := by decide +kernel
theorem d_La_law_159 : decode code 159 = .ok (.laload, 1) := by decide +kernel
theorem d_La_law_160 : decode code 160 = .ok (.iload 6, 2) := by decide +kernel
theorem d_La_law_162 : decode code 162 = .ok (.i2l, 1) := by decide +kernel
theorem d_La_law_163 : decode code 163 = .ok (.lcmp, 1) := by decide +kernel
theorem d_La_law_164 : decode code 164 = .ok (.ifCond .eq 5, 3) := by decide +kernel
theorem d_La_law_167 : decode code 167 = .ok (.iconst 0, 1) := by decide +kernel
theorem d_La_law_168 : decode code 168 = .ok (.ireturn, 1) := by decide +kernel
theorem d_La_law_169 : decode code 169 = .ok (.goto 322, 3) := by decide +kernel
theorem d_La_law_172 : decode code 172 = .ok (.aload_n 1, 1) := by decide +kernel
theorem d_La_law_173 : decode code 173 = .ok (.aload_n 0, 1) := by decide +kernel
theorem d_La_law_174 : decode code 174 = .ok (.iload 4, 2) := by decide +kernel
theorem d_La_law_176 : decode code 176 = .ok (.iconst 1, 1) := by decide +kernel
theorem d_La_law_177 : decode code 177 = .ok (.iadd, 1) := by decide +kernel
theorem d_La_law_178 : decode code 178 = .ok (.iaload, 1) := by decide +kernel
theorem d_La_law_179 : decode code 179 = .ok (.invokestatic 45, 3) := by decide +kernel
theorem d_La_law_182 : decode code 182 = .ok (.istore 5, 2) := by decide +kernel
theorem d_La_law_184 : decode code 184 = .ok (.aload_n 2, 1) := by decide +kernel
theorem d_La_law_185 : decode code 185 = .ok (.aload_n 0, 1) := by decide +kernel
theorem d_La_law_186 : decode code 186 = .ok (.iload 4, 2) := by decide +kernel
theorem d_La_law_188 : decode code 188 = .ok (.iconst 1, 1) := by decide +kernel
theorem d_La_law_189 : decode code 189 = .ok (.iadd, 1) := by decide +kernel
theorem d_La_law_190 : decode code 190 = .ok (.iaload, 1) := by decide +kernel
theorem d_La_law_191 : decode code 191 = .ok (.invokevirtual 48, 3) := by decide +kernel
theorem d_La_law_194 : decode code 194 = .ok (.goto 297, 3) := by decide +kernel
theorem d_La_law_197 : decode code 197 = .ok (.aload_n 1, 1) := by decide +kernel
theorem d_La_law_198 : decode code 198 = .ok (.invokevirtual 49, 3) := by decide +kernel
theorem d_La_law_201 : decode code 201 = .ok (.aload_n 2, 1) := by decide +kernel
theorem d_La_law_202 : decode code 202 = .ok (.invokevirtual 52, 3) := by decide +kernel
theorem d_La_law_205 : decode code 205 = .ok (.goto 286, 3) := by decide +kernel
theorem d_La_law_208 : decode code 208 = .ok (.aload_n 1, 1) := by decide +kernel
theorem d_La_law_209 : decode code 209 = .ok (.invokevirtual 53, 3) := by decide +kernel
theorem d_La_law_212 : decode code 212 = .ok (.pop, 1) := by decide +kernel
theorem d_La_law_213 : decode code 213 = .ok (.aload_n 2, 1) := by decide +kernel
theorem d_La_law_214 : decode code 214 = .ok (.invokevirtual 56, 3) := by decide +kernel
theorem d_La_law_217 : decode code 217 = .ok (.pop, 1) := by decide +kernel
theorem d_La_law_218 : decode code 218 = .ok (.goto 273, 3) := by decide +kernel
theorem d_La_law_221 : decode code 221 = .ok (.aload_n 1, 1) := by decide +kernel
theorem d_La_law_222 : decode code 222 = .ok (.aload_n 0, 1) := by decide +kernel
theorem d_La_law_223 : decode code 223 = .ok (.iload 4, 2) := by decide +kernel
theorem d_La_law_225 : decode code 225 = .ok (.iconst 1, 1) := by decide +kernel
theorem d_La_law_226 : decode code 226 = .ok (.iadd, 1) := by decide +kernel
theorem d_La_law_227 : decode code 227 = .ok (.iaload, 1) := by decide +kernel
theorem d_La_law_228 : decode code 228 = .ok (.aload_n 3, 1) := by decide +kernel
theorem d_La_law_229 : decode code 229 = .ok (.invokestatic 57, 3) := by decide +kernel
theorem d_La_law_232 : decode code 232 = .ok (.istore 5, 2) := by decide +kernel
theorem d_La_law_234 : decode code 234 = .ok (.aload_n 2, 1) := by decide +kernel
theorem d_La_law_235 : decode code 235 = .ok (.aload_n 0, 1) := by decide +kernel
theorem d_La_law_236 : decode code 236 = .ok (.iload 4, 2) := by decide +kernel
theorem d_La_law_238 : decode code 238 = .ok (.iconst 1, 1) := by decide +kernel
theorem d_La_law_239 : decode code 239 = .ok (.iadd, 1) := by decide +kernel
theorem d_La_law_240 : decode code 240 = .ok (.iaload, 1) := by decide +kernel
theorem d_La_law_241 : decode code 241 = .ok (.invokevirtual 60, 3) := by decide +kernel
theorem d_La_law_244 : decode code 244 = .ok (.istore 6, 2) := by decide +kernel
theorem d_La_law_246 : decode code 246 = .ok (.goto 245, 3) := by decide +kernel
theorem d_La_law_249 : decode code 249 = .ok (.aload_n 1, 1) := by decide +kernel
theorem d_La_law_250 : decode code 250 = .ok (.aload_n 3, 1) := by decide +kernel
theorem d_La_law_251 : decode code 251 = .ok (.invokestatic 61, 3) := by decide +kernel
theorem d_La_law_254 : decode code 254 = .ok (.istore 5, 2) := by decide +kernel
theorem d_La_law_256 : decode code 256 = .ok (.aload_n 2, 1) := by decide +kernel
theorem d_La_law_257 : decode code 257 = .ok (.invokevirtual 64, 3) := by decide +kernel
theorem d_La_law_260 : decode code 260 = .ok (.istore 6, 2) := by decide +kernel
theorem d_La_law_262 : decode code 262 = .ok (.goto 229, 3) := by decide +kernel
theorem d_La_law_265 : decode code 265 = .ok (.aload_n 1, 1) := by decide +kernel
theorem d_La_law_266 : decode code 266 = .ok (.aload_n 0, 1) := by decide +kernel
theorem d_La_law_267 : decode code 267 = .ok (.iload 4, 2) := by decide +kernel
theorem d_La_law_269 : decode code 269 = .ok (.iconst 1, 1) := by decide +kernel
theorem d_La_law_270 : decode code 270 = .ok (.iadd, 1) := by decide +kernel
theorem d_La_law_271 : decode code 271 = .ok (.iaload, 1) := by decide +kernel
theorem d_La_law_272 : decode code 272 = .ok (.invokevirtual 65, 3) := by decide +kernel
theorem d_La_law_275 : decode code 275 = .ok (.pop, 1) := by decide +kernel
theorem d_La_law_276 : decode code 276 = .ok (.aload_n 2, 1) := by decide +kernel
theorem d_La_law_277 : decode code 277 = .ok (.aload_n 0, 1) := by decide +kernel
theorem d_La_law_278 : decode code 278 = .ok (.iload 4, 2) := by decide +kernel
theorem d_La_law_280 : decode code 280 = .ok (.iconst 1, 1) := by decide +kernel
theorem d_La_law_281 : decode code 281 = .ok (.iadd, 1) := by decide +kernel
theorem d_La_law_282 : decode code 282 = .ok (.iaload, 1) := by decide +kernel
theorem d_La_law_283 : decode code 283 = .ok (.invokevirtual 68, 3) := by decide +kernel
theorem d_La_law_286 : decode code 286 = .ok (.pop, 1) := by decide +kernel
theorem d_La_law_287 : decode code 287 = .ok (.goto 204, 3) := by decide +kernel
theorem d_La_law_290 : decode code 290 = .ok (.aload_n 1, 1) := by decide +kernel
theorem d_La_law_291 : decode code 291 = .ok (.aload_n 0, 1) := by decide +kernel
theorem d_La_law_292 : decode code 292 = .ok (.iload 4, 2) := by decide +kernel
theorem d_La_law_294 : decode code 294 = .ok (.iconst 1, 1) := by decide +kernel
theorem d_La_law_295 : decode code 295 = .ok (.iadd, 1) := by decide +kernel
theorem d_La_law_296 : decode code 296 = .ok (.iaload, 1) := by decide +kernel
theorem d_La_law_297 : decode code 297 = .ok (.aload_n 3, 1) := by decide +kernel
theorem d_La_law_298 : decode code 298 = .ok (.invokestatic 69, 3) := by decide +kernel
theorem d_La_law_301 : decode code 301 = .ok (.istore 5, 2) := by decide +kernel
theorem d_La_law_303 : decode code 303 = .ok (.aload_n 2, 1) := by decide +kernel
theorem d_La_law_304 : decode code 304 = .ok (.aload_n 0, 1) := by decide +kernel
theorem d_La_law_305 : decode code 305 = .ok (.iload 4, 2) := by decide +kernel
theorem d_La_law_307 : decode code 307 = .ok (.iconst 1, 1) := by decide +kernel
theorem d_La_law_308 : decode code 308 = .ok (.iadd, 1) := by decide +kernel
theorem d_La_law_309 : decode code 309 = .ok (.iaload, 1) := by decide +kernel
theorem d_La_law_310 : decode code 310 = .ok (.invokevirtual 71, 3) := by decide +kernel
theorem d_La_law_313 : decode code 313 = .ok (.istore 6, 2) := by decide +kernel
theorem d_La_law_315 : decode code 315 = .ok (.goto 176, 3) := by decide +kernel
theorem d_La_law_318 : decode code 318 = .ok (.aload_n 1, 1) := by decide +kernel
theorem d_La_law_319 : decode code 319 = .ok (.aload_n 0, 1) := by decide +kernel
theorem d_La_law_320 : decode code 320 = .ok (.iload 4, 2) := by decide +kernel
theorem d_La_law_322 : decode code 322 = .ok (.iconst 1, 1) := by decide +kernel
theorem d_La_law_323 : decode code 323 = .ok (.iadd, 1) := by decide +kernel
theorem d_La_law_324 : decode code 324 = .ok (.iaload, 1) := by decide +kernel
theorem d_La_law_325 : decode code 325 = .ok (.invokevirtual 72, 3) := by decide +kernel
theorem d_La_law_328 : decode code 328 = .ok (.pop, 1) := by decide +kernel
theorem d_La_law_329 : decode code 329 = .ok (.aload_n 2, 1) := by decide +kernel
theorem d_La_law_330 : decode code 330 = .ok (.aload_n 0, 1) := by decide +kernel
theorem d_La_law_331 : decode code 331 = .ok (.iload 4, 2) := by decide +kernel
theorem d_La_law_333 : decode code 333 = .ok (.iconst 1, 1) := by decide +kernel
theorem d_La_law_334 : decode code 334 = .ok (.iadd, 1) := by decide +kernel
theorem d_La_law_335 : decode code 335 = .ok (.iaload, 1) := by decide +kernel
theorem d_La_law_336 : decode code 336 = .ok (.invokevirtual 75, 3) := by decide +kernel
theorem d_La_law_339 : decode code 339 = .ok (.pop, 1) := by decide +kernel
theorem d_La_law_340 : decode code 340 = .ok (.goto 151, 3) := by decide +kernel
theorem d_La_law_343 : decode code 343 = .ok (.aload_n 1, 1) := by decide +kernel
theorem d_La_law_344 : decode code 344 = .ok (.aload_n 0, 1) := by decide +kernel
theorem d_La_law_345 : decode code 345 = .ok (.iload 4, 2) := by decide +kernel
theorem d_La_law_347 : decode code 347 = .ok (.iconst 1, 1) := by decide +kernel
theorem d_La_law_348 : decode code 348 = .ok (.iadd, 1) := by decide +kernel
theorem d_La_law_349 : decode code 349 = .ok (.iaload, 1) := by decide +kernel
theorem d_La_law_350 : decode code 350 = .ok (.aload_n 0, 1) := by decide +kernel
theorem d_La_law_351 : decode code 351 = .ok (.iload 4, 2) := by decide +kernel
theorem d_La_law_353 : decode code 353 = .ok (.iconst 2, 1) := by decide +kernel
theorem d_La_law_354 : decode code 354 = .ok (.iadd, 1) := by decide +kernel
theorem d_La_law_355 : decode code 355 = .ok (.iaload, 1) := by decide +kernel
theorem d_La_law_356 : decode code 356 = .ok (.invokevirtual 76, 3) := by decide +kernel
theorem d_La_law_359 : decode code 359 = .ok (.pop, 1) := by decide +kernel
theorem d_La_law_360 : decode code 360 = .ok (.aload_n 2, 1) := by decide +kernel
theorem d_La_law_361 : decode code 361 = .ok (.aload_n 0, 1) := by decide +kernel
theorem d_La_law_362 : decode code 362 = .ok (.iload 4, 2) := by decide +kernel
theorem d_La_law_364 : decode code 364 = .ok (.iconst 1, 1) := by decide +kernel
theorem d_La_law_365 : decode code 365 = .ok (.iadd, 1) := by decide +kernel
theorem d_La_law_366 : decode code 366 = .ok (.iaload, 1) := by decide +kernel
theorem d_La_law_367 : decode code 367 = .ok (.aload_n 0, 1) := by decide +kernel
theorem d_La_law_368 : decode code 368 = .ok (.iload 4, 2) := by decide +kernel
theorem d_La_law_370 : decode code 370 = .ok (.iconst 2, 1) := by decide +kernel
theorem d_La_law_371 : decode code 371 = .ok (.iadd, 1) := by decide +kernel
theorem d_La_law_372 : decode code 372 = .ok (.iaload, 1) := by decide +kernel
theorem d_La_law_373 : decode code 373 = .ok (.invokevirtual 79, 3) := by decide +kernel
theorem d_La_law_376 : decode code 376 = .ok (.pop, 1) := by decide +kernel
theorem d_La_law_377 : decode code 377 = .ok (.goto 114, 3) := by decide +kernel
theorem d_La_law_380 : decode code 380 = .ok (.aload_n 1, 1) := by decide +kernel
theorem d_La_law_381 : decode code 381 = .ok (.aload_n 0, 1) := by decide +kernel
theorem d_La_law_382 : decode code 382 = .ok (.iload 4, 2) := by decide +kernel
theorem d_La_law_384 : decode code 384 = .ok (.iconst 1, 1) := by decide +kernel
theorem d_La_law_385 : decode code 385 = .ok (.iadd, 1) := by decide +kernel
theorem d_La_law_386 : decode code 386 = .ok (.iaload, 1) := by decide +kernel
theorem d_La_law_387 : decode code 387 = .ok (.aload_n 0, 1) := by decide +kernel
theorem d_La_law_388 : decode code 388 = .ok (.iload 4, 2) := by decide +kernel
theorem d_La_law_390 : decode code 390 = .ok (.iconst 2, 1) := by decide +kernel
theorem d_La_law_391 : decode code 391 = .ok (.iadd, 1) := by decide +kernel
theorem d_La_law_392 : decode code 392 = .ok (.iaload, 1) := by decide +kernel
theorem d_La_law_393 : decode code 393 = .ok (.invokevirtual 80, 3) := by decide +kernel
theorem d_La_law_396 : decode code 396 = .ok (.pop, 1) := by decide +kernel
theorem d_La_law_397 : decode code 397 = .ok (.aload_n 2, 1) := by decide +kernel
theorem d_La_law_398 : decode code 398 = .ok (.aload_n 0, 1) := by decide +kernel
theorem d_La_law_399 : decode code 399 = .ok (.iload 4, 2) := by decide +kernel
theorem d_La_law_401 : decode code 401 = .ok (.iconst 1, 1) := by decide +kernel
theorem d_La_law_402 : decode code 402 = .ok (.iadd, 1) := by decide +kernel
theorem d_La_law_403 : decode code 403 = .ok (.iaload, 1) := by decide +kernel
theorem d_La_law_404 : decode code 404 = .ok (.aload_n 0, 1) := by decide +kernel
theorem d_La_law_405 : decode code 405 = .ok (.iload 4, 2) := by decide +kernel
theorem d_La_law_407 : decode code 407 = .ok (.iconst 2, 1) := by decide +kernel
theorem d_La_law_408 : decode code 408 = .ok (.iadd, 1) := by decide +kernel
theorem d_La_law_409 : decode code 409 = .ok (.iaload, 1) := by decide +kernel
theorem d_La_law_410 : decode code 410 = .ok (.invokevirtual 83, 3) := by decide +kernel
theorem d_La_law_413 : decode code 413 = .ok (.pop, 1) := by decide +kernel
theorem d_La_law_414 : decode code 414 = .ok (.goto 77, 3) := by decide +kernel
theorem d_La_law_417 : decode code 417 = .ok (.aload_n 1, 1) := by decide +kernel
theorem d_La_law_418 : decode code 418 = .ok (.aload_n 0, 1) := by decide +kernel
theorem d_La_law_419 : decode code 419 = .ok (.iload 4, 2) := by decide +kernel
theorem d_La_law_421 : decode code 421 = .ok (.iconst 1, 1) := by decide +kernel
theorem d_La_law_422 : decode code 422 = .ok (.iadd, 1) := by decide +kernel
theorem d_La_law_423 : decode code 423 = .ok (.iaload, 1) := by decide +kernel
theorem d_La_law_424 : decode code 424 = .ok (.aload_n 0, 1) := by decide +kernel
theorem d_La_law_425 : decode code 425 = .ok (.iload 4, 2) := by decide +kernel
theorem d_La_law_427 : decode code 427 = .ok (.iconst 2, 1) := by decide +kernel
theorem d_La_law_428 : decode code 428 = .ok (.iadd, 1) := by decide +kernel
theorem d_La_law_429 : decode code 429 = .ok (.iaload, 1) := by decide +kernel
theorem d_La_law_430 : decode code 430 = .ok (.invokevirtual 84, 3) := by decide +kernel
theorem d_La_law_433 : decode code 433 = .ok (.pop, 1) := by decide +kernel
theorem d_La_law_434 : decode code 434 = .ok (.aload_n 2, 1) := by decide +kernel
theorem d_La_law_435 : decode code 435 = .ok (.aload_n 0, 1) := by decide +kernel
theorem d_La_law_436 : decode code 436 = .ok (.iload 4, 2) := by decide +kernel
theorem d_La_law_438 : decode code 438 = .ok (.iconst 1, 1) := by decide +kernel
theorem d_La_law_439 : decode code 439 = .ok (.iadd, 1) := by decide +kernel
theorem d_La_law_440 : decode code 440 = .ok (.iaload, 1) := by decide +kernel
theorem d_La_law_441 : decode code 441 = .ok (.aload_n 0, 1) := by decide +kernel
theorem d_La_law_442 : decode code 442 = .ok (.iload 4, 2) := by decide +kernel
theorem d_La_law_444 : decode code 444 = .ok (.iconst 2, 1) := by decide +kernel
theorem d_La_law_445 : decode code 445 = .ok (.iadd, 1) := by decide +kernel
theorem d_La_law_446 : decode code 446 = .ok (.iaload, 1) := by decide +kernel
theorem d_La_law_447 : decode code 447 = .ok (.invokevirtual 87, 3) := by decide +kernel
theorem d_La_law_450 : decode code 450 = .ok (.pop, 1) := by decide +kernel
theorem d_La_law_451 : decode code 451 = .ok (.goto 40, 3) := by decide +kernel
theorem d_La_law_454 : decode code 454 = .ok (.aload_n 1, 1) := by decide +kernel
theorem d_La_law_455 : decode code 455 = .ok (.aload_n 0, 1) := by decide +kernel
theorem d_La_law_456 : decode code 456 = .ok (.iload 4, 2) := by decide +kernel
theorem d_La_law_458 : decode code 458 = .ok (.iconst 1, 1) := by decide +kernel
theorem d_La_law_459 : decode code 459 = .ok (.iadd, 1) := by decide +kernel
theorem d_La_law_460 : decode code 460 = .ok (.iaload, 1) := by decide +kernel
theorem d_La_law_461 : decode code 461 = .ok (.aload_n 0, 1) := by decide +kernel
theorem d_La_law_462 : decode code 462 = .ok (.iload 4, 2) := by decide +kernel
theorem d_La_law_464 : decode code 464 = .ok (.iconst 2, 1) := by decide +kernel
theorem d_La_law_465 : decode code 465 = .ok (.iadd, 1) := by decide +kernel
theorem d_La_law_466 : decode code 466 = .ok (.iaload, 1) := by decide +kernel
theorem d_La_law_467 : decode code 467 = .ok (.invokevirtual 88, 3) := by decide +kernel
theorem d_La_law_470 : decode code 470 = .ok (.pop, 1) := by decide +kernel
theorem d_La_law_471 : decode code 471 = .ok (.aload_n 2, 1) := by decide +kernel
theorem d_La_law_472 : decode code 472 = .ok (.aload_n 0, 1) := by decide +kernel
theorem d_La_law_473 : decode code 473 = .ok (.iload 4, 2) := by decide +kernel
theorem d_La_law_475 : decode code 475 = .ok (.iconst 1, 1) := by decide +kernel
theorem d_La_law_476 : decode code 476 = .ok (.iadd, 1) := by decide +kernel
theorem d_La_law_477 : decode code 477 = .ok (.iaload, 1) := by decide +kernel
theorem d_La_law_478 : decode code 478 = .ok (.aload_n 0, 1) := by decide +kernel
theorem d_La_law_479 : decode code 479 = .ok (.iload 4, 2) := by decide +kernel
theorem d_La_law_481 : decode code 481 = .ok (.iconst 2, 1) := by decide +kernel
theorem d_La_law_482 : decode code 482 = .ok (.iadd, 1) := by decide +kernel
theorem d_La_law_483 : decode code 483 = .ok (.iaload, 1) := by decide +kernel
theorem d_La_law_484 : decode code 484 = .ok (.invokevirtual 92, 3) := by decide +kernel
theorem d_La_law_487 : decode code 487 = .ok (.pop, 1) := by decide +kernel
theorem d_La_law_488 : decode code 488 = .ok (.goto 3, 3) := by decide +kernel
theorem d_La_law_491 : decode code 491 = .ok (.iinc 4 3, 3) := by decide +kernel
theorem d_La_law_494 : decode code 494 = .ok (.goto (-471), 3) := by decide +kernel
theorem d_La_law_497 : decode code 497 = .ok (.iconst 1, 1) := by decide +kernel
theorem d_La_law_498 : decode code 498 = .ok (.ireturn, 1) := by decide +kernel
section LR
variable {p : Program} {l : Launch} {e : Env} {R : Room} {s : State} {m : MethodId} {args : Array Value} {below : List Frame} {meth : Method} {c : Code} {H : Heap} {locs : List Loc} {cells slots : Nat} {Q : State → Prop} {pc : Nat} {ls : Array Slot} {rest : List Value} {cc : ByteArray} {A : Nat → Prop} {H0 : Heap}
theorem na_sld (hexec : p.tables.exec = Jvm.exec) (hb : c.code = cc) {b L k : Nat} {xs : Nat → Int32} (hX : va_X b L xs s H0) (hbl : b < H0.size) (hbA : ¬ A b) (hS : va_S A H0 H locs) (hk : k < L) (hn : L < 2 ^ 31) (hdg : decode cc pc = .ok (.iaload, 1))
    (kk : W p l e R s m args below meth c H locs cells slots Q (F0 m (pc + 1) ls (.int (xs k) :: rest))) : W p l e R s m args below meth c H locs cells slots Q (F0 m pc ls (.int (nI k) :: .ref b :: rest)) := by
  refine va_sld hexec hb hX hbl hbA hS (vp_in_nI hk hn) hdg ?_
  rw [nI_clamp (by omega)]
  exact kk
end LR
theorem nI_p3 (i : Nat) : nI i + Int32.ofInt 3 = nI (i + 3) := cv_add i 3
theorem law_ix {i L : Nat} (hL : L ≤ 1536) (hi : i ≤ 1536) (h : ¬ (nI L - 3) < nI i) : i + 3 ≤ L := by
  by_cases e : L < 3
  · exfalso
    apply h
    rw [Int32.lt_iff_toInt_lt, nI_toInt (by omega)]
    have : ∀ k, k < 3 → (nI k - 3).toInt < 0 := by decide
    have := this L e
    omega
  · have e1 : nI L - 3 = nI (L - 3) := cv_sub (b := 3) (by omega)
    rw [e1, nI_ltI (by omega) (by omega)] at h
    omega
theorem fst_eq {x y z : Int32} (h1 : (isMv x = 0 ∧ y = 1) ∨ (¬ isMv x = 0 ∧ y = 0)) (h2 : (isMv x = 0 ∧ z = 1) ∨ (¬ isMv x = 0 ∧ z = 0)) : y = z := by
  rcases h1 with ⟨h, rfl⟩ | ⟨h, rfl⟩ <;> rcases h2 with ⟨h', rfl⟩ | ⟨h', rfl⟩
  · rfl
  · exact absurd h h'
  · exact absurd h' h
  · rfl
theorem tr_nm {x y : Int32} {nz mt nz1 mt1 : Nat} {P : Prop} (h1 : (trv x y nz = 0 ∧ nz1 = nz + 1 ∧ P) ∨ (¬ trv x y nz = 0 ∧ nz1 = nz)) (h2 : (trv x y mt = 0 ∧ mt1 = mt + 1) ∨ (¬ trv x y mt = 0 ∧ mt1 = mt)) (h : nz = mt) : nz1 = mt1 := by
  subst h
  rcases h1 with ⟨a, b, -⟩ | ⟨a, b⟩ <;> rcases h2 with ⟨a', b'⟩ | ⟨a', b'⟩
  · omega
  · exact absurd a a'
  · exact absurd a' a
  · omega
theorem tr_th {x y r v : Int32} {nz mt : Nat} (h : nz = mt) (h1 : r = trv x y nz) (h2 : v = trv x y mt) : v = r := by rw [h1, h2, h]
theorem tr_out {x y r v : Int32} {nz mt nz1 : Nat} {z : Nat → Int64} (h : nz = mt) (h1 : r = trv x y nz) (h0 : r = 0) (h2 : (trv x y nz = 0 ∧ nz1 = nz + 1 ∧ z 0 = Int32.toInt64 (nI nz)) ∨ (¬ trv x y nz = 0 ∧ nz1 = nz)) (h3 : trv x y mt = 0 → v = nI mt) : lg_cmp (z 0) (Int32.toInt64 v) = 0 := by
  have e : trv x y nz = 0 := by rw [← h1, h0]
  rcases h2 with ⟨-, -, q⟩ | ⟨q, -⟩
  · rw [q, h3 (h ▸ e), h]
    exact (lg_cmp_eq _ _).mpr rfl
  · exact absurd e q
theorem AllLt.zeros {n b : Nat} (h : 0 < b) : AllLt (fun _ => 0) n b := fun _ _ => ⟨0, h, rfl⟩
theorem AllN.zeros {n b : Nat} (h : 0 < b) : AllN (fun _ => 0) n b := fun _ _ => Or.inr ⟨0, h, rfl⟩
theorem AllM.zeros {n : Nat} : AllM (fun _ => 0) n := fun _ _ => M38.zero
