theorem dL_begun_0 : decode cL_begun 0 = .ok (.iconst 5, 1) := by decide +kernel
theorem dL_begun_1 : decode cL_begun 1 = .ok (.aload_n 1, 1) := by decide +kernel
theorem dL_begun_2 : decode cL_begun 2 = .ok (.iconst 0, 1) := by decide +kernel
theorem dL_begun_3 : decode cL_begun 3 = .ok (.bipush 30, 2) := by decide +kernel
theorem dL_begun_5 : decode cL_begun 5 = .ok (.invokestatic 27, 3) := by decide +kernel
theorem dL_begun_8 : decode cL_begun 8 = .ok (.iadd, 1) := by decide +kernel
theorem dL_begun_9 : decode cL_begun 9 = .ok (.istore_n 2, 1) := by decide +kernel
theorem dL_begun_10 : decode cL_begun 10 = .ok (.iconst 1, 1) := by decide +kernel
theorem dL_begun_11 : decode cL_begun 11 = .ok (.aload_n 1, 1) := by decide +kernel
theorem dL_begun_12 : decode cL_begun 12 = .ok (.iconst 1, 1) := by decide +kernel
theorem dL_begun_13 : decode cL_begun 13 = .ok (.iload_n 2, 1) := by decide +kernel
theorem dL_begun_14 : decode cL_begun 14 = .ok (.invokestatic 27, 3) := by decide +kernel
theorem dL_begun_17 : decode cL_begun 17 = .ok (.iadd, 1) := by decide +kernel
theorem dL_begun_18 : decode cL_begun 18 = .ok (.istore_n 3, 1) := by decide +kernel
theorem dL_begun_19 : decode cL_begun 19 = .ok (.iconst 1, 1) := by decide +kernel
theorem dL_begun_20 : decode cL_begun 20 = .ok (.aload_n 1, 1) := by decide +kernel
theorem dL_begun_21 : decode cL_begun 21 = .ok (.iconst 2, 1) := by decide +kernel
theorem dL_begun_22 : decode cL_begun 22 = .ok (.iconst 4, 1) := by decide +kernel
theorem dL_begun_23 : decode cL_begun 23 = .ok (.invokestatic 27, 3) := by decide +kernel
theorem dL_begun_26 : decode cL_begun 26 = .ok (.iadd, 1) := by decide +kernel
theorem dL_begun_27 : decode cL_begun 27 = .ok (.istore 4, 2) := by decide +kernel
theorem dL_begun_29 : decode cL_begun 29 = .ok (.aload_n 1, 1) := by decide +kernel
theorem dL_begun_30 : decode cL_begun 30 = .ok (.iconst 3, 1) := by decide +kernel
theorem dL_begun_31 : decode cL_begun 31 = .ok (.bipush 51, 2) := by decide +kernel
theorem dL_begun_33 : decode cL_begun 33 = .ok (.invokestatic 27, 3) := by decide +kernel
theorem dL_begun_36 : decode cL_begun 36 = .ok (.istore 5, 2) := by decide +kernel
theorem dL_begun_38 : decode cL_begun 38 = .ok (.iconst 1, 1) := by decide +kernel
theorem dL_begun_39 : decode cL_begun 39 = .ok (.aload_n 1, 1) := by decide +kernel
theorem dL_begun_40 : decode cL_begun 40 = .ok (.iconst 4, 1) := by decide +kernel
theorem dL_begun_41 : decode cL_begun 41 = .ok (.iconst 4, 1) := by decide +kernel
theorem dL_begun_42 : decode cL_begun 42 = .ok (.invokestatic 27, 3) := by decide +kernel
theorem dL_begun_45 : decode cL_begun 45 = .ok (.iadd, 1) := by decide +kernel
theorem dL_begun_46 : decode cL_begun 46 = .ok (.istore 6, 2) := by decide +kernel
theorem dL_begun_48 : decode cL_begun 48 = .ok (.aload_n 1, 1) := by decide +kernel
theorem dL_begun_49 : decode cL_begun 49 = .ok (.iconst 5, 1) := by decide +kernel
theorem dL_begun_50 : decode cL_begun 50 = .ok (.bipush 6, 2) := by decide +kernel
theorem dL_begun_52 : decode cL_begun 52 = .ok (.invokestatic 27, 3) := by decide +kernel
theorem dL_begun_55 : decode cL_begun 55 = .ok (.istore 7, 2) := by decide +kernel
theorem dL_begun_57 : decode cL_begun 57 = .ok (.new 33, 3) := by decide +kernel
theorem dL_begun_60 : decode cL_begun 60 = .ok (.dup, 1) := by decide +kernel
theorem dL_begun_61 : decode cL_begun 61 = .ok (.invokespecial 35, 3) := by decide +kernel
theorem dL_begun_64 : decode cL_begun 64 = .ok (.ldc 36, 2) := by decide +kernel
theorem dL_begun_66 : decode cL_begun 66 = .ok (.invokevirtual 38, 3) := by decide +kernel
theorem dL_begun_69 : decode cL_begun 69 = .ok (.iload_n 2, 1) := by decide +kernel
theorem dL_begun_70 : decode cL_begun 70 = .ok (.invokevirtual 41, 3) := by decide +kernel
theorem dL_begun_73 : decode cL_begun 73 = .ok (.ldc 44, 2) := by decide +kernel
theorem dL_begun_75 : decode cL_begun 75 = .ok (.invokevirtual 38, 3) := by decide +kernel
theorem dL_begun_78 : decode cL_begun 78 = .ok (.iload_n 3, 1) := by decide +kernel
theorem dL_begun_79 : decode cL_begun 79 = .ok (.invokevirtual 41, 3) := by decide +kernel
theorem dL_begun_82 : decode cL_begun 82 = .ok (.ldc 44, 2) := by decide +kernel
theorem dL_begun_84 : decode cL_begun 84 = .ok (.invokevirtual 38, 3) := by decide +kernel
theorem dL_begun_87 : decode cL_begun 87 = .ok (.iload 4, 2) := by decide +kernel
theorem dL_begun_89 : decode cL_begun 89 = .ok (.invokevirtual 41, 3) := by decide +kernel
theorem dL_begun_92 : decode cL_begun 92 = .ok (.ldc 44, 2) := by decide +kernel
theorem dL_begun_94 : decode cL_begun 94 = .ok (.invokevirtual 38, 3) := by decide +kernel
theorem dL_begun_97 : decode cL_begun 97 = .ok (.iconst 1, 1) := by decide +kernel
theorem dL_begun_98 : decode cL_begun 98 = .ok (.aload_n 1, 1) := by decide +kernel
theorem dL_begun_99 : decode cL_begun 99 = .ok (.bipush 6, 2) := by decide +kernel
theorem dL_begun_101 : decode cL_begun 101 = .ok (.bipush 30, 2) := by decide +kernel
theorem dL_begun_103 : decode cL_begun 103 = .ok (.invokestatic 27, 3) := by decide +kernel
theorem dL_begun_106 : decode cL_begun 106 = .ok (.iadd, 1) := by decide +kernel
theorem dL_begun_107 : decode cL_begun 107 = .ok (.invokevirtual 41, 3) := by decide +kernel
theorem dL_begun_110 : decode cL_begun 110 = .ok (.ldc 44, 2) := by decide +kernel
theorem dL_begun_112 : decode cL_begun 112 = .ok (.invokevirtual 38, 3) := by decide +kernel
theorem dL_begun_115 : decode cL_begun 115 = .ok (.iload 5, 2) := by decide +kernel
theorem dL_begun_117 : decode cL_begun 117 = .ok (.invokevirtual 41, 3) := by decide +kernel
theorem dL_begun_120 : decode cL_begun 120 = .ok (.ldc 46, 2) := by decide +kernel
theorem dL_begun_122 : decode cL_begun 122 = .ok (.invokevirtual 38, 3) := by decide +kernel
theorem dL_begun_125 : decode cL_begun 125 = .ok (.invokevirtual 48, 3) := by decide +kernel
theorem dL_begun_128 : decode cL_begun 128 = .ok (.astore 8, 2) := by decide +kernel
theorem dL_begun_130 : decode cL_begun 130 = .ok (.iconst 0, 1) := by decide +kernel
theorem dL_begun_131 : decode cL_begun 131 = .ok (.istore 9, 2) := by decide +kernel
theorem dL_begun_133 : decode cL_begun 133 = .ok (.iload 9, 2) := by decide +kernel
theorem dL_begun_135 : decode cL_begun 135 = .ok (.iload 6, 2) := by decide +kernel
theorem dL_begun_137 : decode cL_begun 137 = .ok (.if_icmp .ge 91, 3) := by decide +kernel
theorem dL_begun_140 : decode cL_begun 140 = .ok (.new 33, 3) := by decide +kernel
theorem dL_begun_143 : decode cL_begun 143 = .ok (.dup, 1) := by decide +kernel
theorem dL_begun_144 : decode cL_begun 144 = .ok (.invokespecial 35, 3) := by decide +kernel
theorem dL_begun_147 : decode cL_begun 147 = .ok (.aload 8, 2) := by decide +kernel
theorem dL_begun_149 : decode cL_begun 149 = .ok (.invokevirtual 38, 3) := by decide +kernel
theorem dL_begun_152 : decode cL_begun 152 = .ok (.ldc 52, 2) := by decide +kernel
theorem dL_begun_154 : decode cL_begun 154 = .ok (.invokevirtual 38, 3) := by decide +kernel
theorem dL_begun_157 : decode cL_begun 157 = .ok (.aload_n 1, 1) := by decide +kernel
theorem dL_begun_158 : decode cL_begun 158 = .ok (.bipush 7, 2) := by decide +kernel
theorem dL_begun_160 : decode cL_begun 160 = .ok (.iload 9, 2) := by decide +kernel
theorem dL_begun_162 : decode cL_begun 162 = .ok (.iadd, 1) := by decide +kernel
theorem dL_begun_163 : decode cL_begun 163 = .ok (.sipush 900, 3) := by decide +kernel
theorem dL_begun_166 : decode cL_begun 166 = .ok (.invokestatic 27, 3) := by decide +kernel
theorem dL_begun_169 : decode cL_begun 169 = .ok (.invokevirtual 41, 3) := by decide +kernel
theorem dL_begun_172 : decode cL_begun 172 = .ok (.ldc 44, 2) := by decide +kernel
theorem dL_begun_174 : decode cL_begun 174 = .ok (.invokevirtual 38, 3) := by decide +kernel
theorem dL_begun_177 : decode cL_begun 177 = .ok (.aload_n 1, 1) := by decide +kernel
theorem dL_begun_178 : decode cL_begun 178 = .ok (.bipush 11, 2) := by decide +kernel
theorem dL_begun_180 : decode cL_begun 180 = .ok (.iload 9, 2) := by decide +kernel
theorem dL_begun_182 : decode cL_begun 182 = .ok (.iadd, 1) := by decide +kernel
theorem dL_begun_183 : decode cL_begun 183 = .ok (.iconst 5, 1) := by decide +kernel
theorem dL_begun_184 : decode cL_begun 184 = .ok (.invokestatic 27, 3) := by decide +kernel
theorem dL_begun_187 : decode cL_begun 187 = .ok (.invokevirtual 41, 3) := by decide +kernel
theorem dL_begun_190 : decode cL_begun 190 = .ok (.ldc 44, 2) := by decide +kernel
theorem dL_begun_192 : decode cL_begun 192 = .ok (.invokevirtual 38, 3) := by decide +kernel
theorem dL_begun_195 : decode cL_begun 195 = .ok (.iconst 1, 1) := by decide +kernel
theorem dL_begun_196 : decode cL_begun 196 = .ok (.aload_n 1, 1) := by decide +kernel
theorem dL_begun_197 : decode cL_begun 197 = .ok (.bipush 15, 2) := by decide +kernel
theorem dL_begun_199 : decode cL_begun 199 = .ok (.iload 9, 2) := by decide +kernel
theorem dL_begun_201 : decode cL_begun 201 = .ok (.iadd, 1) := by decide +kernel
theorem dL_begun_202 : decode cL_begun 202 = .ok (.sipush 150, 3) := by decide +kernel
theorem dL_begun_205 : decode cL_begun 205 = .ok (.invokestatic 27, 3) := by decide +kernel
theorem dL_begun_208 : decode cL_begun 208 = .ok (.iadd, 1) := by decide +kernel
theorem dL_begun_209 : decode cL_begun 209 = .ok (.invokevirtual 41, 3) := by decide +kernel
theorem dL_begun_212 : decode cL_begun 212 = .ok (.ldc 46, 2) := by decide +kernel
theorem dL_begun_214 : decode cL_begun 214 = .ok (.invokevirtual 38, 3) := by decide +kernel
theorem dL_begun_217 : decode cL_begun 217 = .ok (.invokevirtual 48, 3) := by decide +kernel
theorem dL_begun_220 : decode cL_begun 220 = .ok (.astore 8, 2) := by decide +kernel
theorem dL_begun_222 : decode cL_begun 222 = .ok (.iinc 9 1, 3) := by decide +kernel
theorem dL_begun_225 : decode cL_begun 225 = .ok (.goto (-92), 3) := by decide +kernel
theorem dL_begun_228 : decode cL_begun 228 = .ok (.iconst 0, 1) := by decide +kernel
theorem dL_begun_229 : decode cL_begun 229 = .ok (.istore 9, 2) := by decide +kernel
theorem dL_begun_231 : decode cL_begun 231 = .ok (.iload 9, 2) := by decide +kernel
theorem dL_begun_233 : decode cL_begun 233 = .ok (.iload 7, 2) := by decide +kernel
theorem dL_begun_235 : decode cL_begun 235 = .ok (.if_icmp .ge 138, 3) := by decide +kernel
theorem dL_begun_238 : decode cL_begun 238 = .ok (.new 33, 3) := by decide +kernel
theorem dL_begun_241 : decode cL_begun 241 = .ok (.dup, 1) := by decide +kernel
theorem dL_begun_242 : decode cL_begun 242 = .ok (.invokespecial 35, 3) := by decide +kernel
theorem dL_begun_245 : decode cL_begun 245 = .ok (.aload 8, 2) := by decide +kernel
theorem dL_begun_247 : decode cL_begun 247 = .ok (.invokevirtual 38, 3) := by decide +kernel
theorem dL_begun_250 : decode cL_begun 250 = .ok (.ldc 54, 2) := by decide +kernel
theorem dL_begun_252 : decode cL_begun 252 = .ok (.invokevirtual 38, 3) := by decide +kernel
theorem dL_begun_255 : decode cL_begun 255 = .ok (.iconst 1, 1) := by decide +kernel
theorem dL_begun_256 : decode cL_begun 256 = .ok (.aload_n 1, 1) := by decide +kernel
theorem dL_begun_257 : decode cL_begun 257 = .ok (.bipush 19, 2) := by decide +kernel
theorem dL_begun_259 : decode cL_begun 259 = .ok (.iload 9, 2) := by decide +kernel
theorem dL_begun_261 : decode cL_begun 261 = .ok (.iadd, 1) := by decide +kernel
theorem dL_begun_262 : decode cL_begun 262 = .ok (.bipush 120, 2) := by decide +kernel
theorem dL_begun_264 : decode cL_begun 264 = .ok (.invokestatic 27, 3) := by decide +kernel
theorem dL_begun_267 : decode cL_begun 267 = .ok (.iadd, 1) := by decide +kernel
theorem dL_begun_268 : decode cL_begun 268 = .ok (.invokevirtual 41, 3) := by decide +kernel
theorem dL_begun_271 : decode cL_begun 271 = .ok (.invokevirtual 48, 3) := by decide +kernel
theorem dL_begun_274 : decode cL_begun 274 = .ok (.astore 8, 2) := by decide +kernel
theorem dL_begun_276 : decode cL_begun 276 = .ok (.aload_n 1, 1) := by decide +kernel
theorem dL_begun_277 : decode cL_begun 277 = .ok (.bipush 25, 2) := by decide +kernel
theorem dL_begun_279 : decode cL_begun 279 = .ok (.iload 9, 2) := by decide +kernel
theorem dL_begun_281 : decode cL_begun 281 = .ok (.iadd, 1) := by decide +kernel
theorem dL_begun_282 : decode cL_begun 282 = .ok (.iconst 5, 1) := by decide +kernel
theorem dL_begun_283 : decode cL_begun 283 = .ok (.invokestatic 27, 3) := by decide +kernel
theorem dL_begun_286 : decode cL_begun 286 = .ok (.istore 10, 2) := by decide +kernel
theorem dL_begun_288 : decode cL_begun 288 = .ok (.iload 10, 2) := by decide +kernel
theorem dL_begun_290 : decode cL_begun 290 = .ok (.ifCond .lt 55, 3) := by decide +kernel
theorem dL_begun_293 : decode cL_begun 293 = .ok (.new 33, 3) := by decide +kernel
theorem dL_begun_296 : decode cL_begun 296 = .ok (.dup, 1) := by decide +kernel
theorem dL_begun_297 : decode cL_begun 297 = .ok (.invokespecial 35, 3) := by decide +kernel
theorem dL_begun_300 : decode cL_begun 300 = .ok (.aload 8, 2) := by decide +kernel
theorem dL_begun_302 : decode cL_begun 302 = .ok (.invokevirtual 38, 3) := by decide +kernel
theorem dL_begun_305 : decode cL_begun 305 = .ok (.ldc 44, 2) := by decide +kernel
theorem dL_begun_307 : decode cL_begun 307 = .ok (.invokevirtual 38, 3) := by decide +kernel
theorem dL_begun_310 : decode cL_begun 310 = .ok (.bipush 10, 2) := by decide +kernel
theorem dL_begun_312 : decode cL_begun 312 = .ok (.aload_n 1, 1) := by decide +kernel
theorem dL_begun_313 : decode cL_begun 313 = .ok (.bipush 31, 2) := by decide +kernel
theorem dL_begun_315 : decode cL_begun 315 = .ok (.iload 9, 2) := by decide +kernel
theorem dL_begun_317 : decode cL_begun 317 = .ok (.iadd, 1) := by decide +kernel
theorem dL_begun_318 : decode cL_begun 318 = .ok (.bipush 7, 2) := by decide +kernel
theorem dL_begun_320 : decode cL_begun 320 = .ok (.iload 10, 2) := by decide +kernel
theorem dL_begun_322 : decode cL_begun 322 = .ok (.imul, 1) := by decide +kernel
theorem dL_begun_323 : decode cL_begun 323 = .ok (.iadd, 1) := by decide +kernel
theorem dL_begun_324 : decode cL_begun 324 = .ok (.sipush 141, 3) := by decide +kernel
theorem dL_begun_327 : decode cL_begun 327 = .ok (.invokestatic 27, 3) := by decide +kernel
theorem dL_begun_330 : decode cL_begun 330 = .ok (.iadd, 1) := by decide +kernel
theorem dL_begun_331 : decode cL_begun 331 = .ok (.invokevirtual 41, 3) := by decide +kernel
theorem dL_begun_334 : decode cL_begun 334 = .ok (.invokevirtual 48, 3) := by decide +kernel
theorem dL_begun_337 : decode cL_begun 337 = .ok (.astore 8, 2) := by decide +kernel
theorem dL_begun_339 : decode cL_begun 339 = .ok (.iinc 10 (-1), 3) := by decide +kernel
theorem dL_begun_342 : decode cL_begun 342 = .ok (.goto (-54), 3) := by decide +kernel
theorem dL_begun_345 : decode cL_begun 345 = .ok (.new 33, 3) := by decide +kernel
theorem dL_begun_348 : decode cL_begun 348 = .ok (.dup, 1) := by decide +kernel
theorem dL_begun_349 : decode cL_begun 349 = .ok (.invokespecial 35, 3) := by decide +kernel
theorem dL_begun_352 : decode cL_begun 352 = .ok (.aload 8, 2) := by decide +kernel
theorem dL_begun_354 : decode cL_begun 354 = .ok (.invokevirtual 38, 3) := by decide +kernel
theorem dL_begun_357 : decode cL_begun 357 = .ok (.ldc 46, 2) := by decide +kernel
theorem dL_begun_359 : decode cL_begun 359 = .ok (.invokevirtual 38, 3) := by decide +kernel
theorem dL_begun_362 : decode cL_begun 362 = .ok (.invokevirtual 48, 3) := by decide +kernel
theorem dL_begun_365 : decode cL_begun 365 = .ok (.astore 8, 2) := by decide +kernel
theorem dL_begun_367 : decode cL_begun 367 = .ok (.iinc 9 1, 3) := by decide +kernel
theorem dL_begun_370 : decode cL_begun 370 = .ok (.goto (-139), 3) := by decide +kernel
theorem dL_begun_373 : decode cL_begun 373 = .ok (.aload_n 0, 1) := by decide +kernel
theorem dL_begun_374 : decode cL_begun 374 = .ok (.aload 8, 2) := by decide +kernel
theorem dL_begun_376 : decode cL_begun 376 = .ok (.invokestatic 56, 3) := by decide +kernel
theorem dL_begun_379 : decode cL_begun 379 = .ok (.aload_n 0, 1) := by decide +kernel
theorem dL_begun_380 : decode cL_begun 380 = .ok (.invokevirtual 60, 3) := by decide +kernel
theorem dL_begun_383 : decode cL_begun 383 = .ok (.iload 7, 2) := by decide +kernel
theorem dL_begun_385 : decode cL_begun 385 = .ok (.if_icmp .ne 67, 3) := by decide +kernel
theorem dL_begun_388 : decode cL_begun 388 = .ok (.aload_n 0, 1) := by decide +kernel
theorem dL_begun_389 : decode cL_begun 389 = .ok (.invokevirtual 63, 3) := by decide +kernel
theorem dL_begun_392 : decode cL_begun 392 = .ok (.iload 6, 2) := by decide +kernel
theorem dL_begun_394 : decode cL_begun 394 = .ok (.if_icmp .ne 58, 3) := by decide +kernel
theorem dL_begun_397 : decode cL_begun 397 = .ok (.aload_n 0, 1) := by decide +kernel
theorem dL_begun_398 : decode cL_begun 398 = .ok (.invokevirtual 66, 3) := by decide +kernel
theorem dL_begun_401 : decode cL_begun 401 = .ok (.iload 7, 2) := by decide +kernel
theorem dL_begun_403 : decode cL_begun 403 = .ok (.if_icmp .ne 49, 3) := by decide +kernel
theorem dL_begun_406 : decode cL_begun 406 = .ok (.aload_n 0, 1) := by decide +kernel
theorem dL_begun_407 : decode cL_begun 407 = .ok (.invokevirtual 69, 3) := by decide +kernel
theorem dL_begun_410 : decode cL_begun 410 = .ok (.ifCond .ne 42, 3) := by decide +kernel
theorem dL_begun_413 : decode cL_begun 413 = .ok (.aload_n 0, 1) := by decide +kernel
theorem dL_begun_414 : decode cL_begun 414 = .ok (.invokevirtual 72, 3) := by decide +kernel
theorem dL_begun_417 : decode cL_begun 417 = .ok (.iconst (-1), 1) := by decide +kernel
theorem dL_begun_418 : decode cL_begun 418 = .ok (.if_icmp .ne 34, 3) := by decide +kernel
theorem dL_begun_421 : decode cL_begun 421 = .ok (.aload_n 0, 1) := by decide +kernel
theorem dL_begun_422 : decode cL_begun 422 = .ok (.invokevirtual 75, 3) := by decide +kernel
theorem dL_begun_425 : decode cL_begun 425 = .ok (.ifCond .eq 27, 3) := by decide +kernel
theorem dL_begun_428 : decode cL_begun 428 = .ok (.iconst 4, 1) := by decide +kernel
theorem dL_begun_429 : decode cL_begun 429 = .ok (.newarray .int, 2) := by decide +kernel
theorem dL_begun_431 : decode cL_begun 431 = .ok (.dup, 1) := by decide +kernel
theorem dL_begun_432 : decode cL_begun 432 = .ok (.iconst 0, 1) := by decide +kernel
theorem dL_begun_433 : decode cL_begun 433 = .ok (.iload_n 2, 1) := by decide +kernel
theorem dL_begun_434 : decode cL_begun 434 = .ok (.iastore, 1) := by decide +kernel
theorem dL_begun_435 : decode cL_begun 435 = .ok (.dup, 1) := by decide +kernel
theorem dL_begun_436 : decode cL_begun 436 = .ok (.iconst 1, 1) := by decide +kernel
theorem dL_begun_437 : decode cL_begun 437 = .ok (.iload_n 3, 1) := by decide +kernel
theorem dL_begun_438 : decode cL_begun 438 = .ok (.iastore, 1) := by decide +kernel
theorem dL_begun_439 : decode cL_begun 439 = .ok (.dup, 1) := by decide +kernel
theorem dL_begun_440 : decode cL_begun 440 = .ok (.iconst 2, 1) := by decide +kernel
theorem dL_begun_441 : decode cL_begun 441 = .ok (.iload 4, 2) := by decide +kernel
theorem dL_begun_443 : decode cL_begun 443 = .ok (.iastore, 1) := by decide +kernel
theorem dL_begun_444 : decode cL_begun 444 = .ok (.dup, 1) := by decide +kernel
theorem dL_begun_445 : decode cL_begun 445 = .ok (.iconst 3, 1) := by decide +kernel
theorem dL_begun_446 : decode cL_begun 446 = .ok (.iload 5, 2) := by decide +kernel
theorem dL_begun_448 : decode cL_begun 448 = .ok (.iastore, 1) := by decide +kernel
theorem dL_begun_449 : decode cL_begun 449 = .ok (.goto 4, 3) := by decide +kernel
theorem dL_begun_452 : decode cL_begun 452 = .ok (.aconst_null, 1) := by decide +kernel
theorem dL_begun_453 : decode cL_begun 453 = .ok (.areturn, 1) := by decide +kernel
theorem lk_120_56 : ow_lt RX120 56 yL_input cL_input 5 none 2 := ⟨ow_T_in 763 (by decide +kernel) (by decide +kernel), ow_T_in 764 (by decide +kernel) (by decide +kernel), ow_T_in 0 (by decide +kernel) (by decide +kernel), ow_T_in 765 (by decide +kernel) (by decide +kernel), ⟨by decide +kernel, by decide +kernel, by decide +kernel⟩⟩
theorem lk_120_60 : ow_lv RX120 60 yX10_loadSetup cX10_loadSetup 2 (some .int) 0 := ⟨ow_T_in 866 (by decide +kernel) (by decide +kernel), ow_T_in 867 (by decide +kernel) (by decide +kernel), ow_T_in 868 (by decide +kernel) (by decide +kernel), ow_T_in 1 (by decide +kernel) (by decide +kernel), ow_T_in 869 (by decide +kernel) (by decide +kernel), ⟨by decide +kernel, by decide +kernel, by decide +kernel⟩⟩
/-- the text -/
def tM (w : Nat → Nat → Nat) : List Nat := [] ++ gl_tx 3 ++ dl (5 + w 0 30) ++ gl_tx 4 ++ dl (1 + w 1 (5 + w 0 30)) ++ gl_tx 4 ++ dl (1 + w 2 4) ++ gl_tx 4 ++ dl (1 + w 6 30) ++ gl_tx 4 ++ dl (w 3 51) ++ gl_tx 5
def tY (w : Nat → Nat → Nat) : Nat → List Nat
  | 0 => tM w
  | i + 1 => [] ++ tY w i ++ gl_tx 6 ++ dl (w (7 + i) 900) ++ gl_tx 4 ++ dl (w (11 + i) 5) ++ gl_tx 4 ++ dl (1 + w (15 + i) 150) ++ gl_tx 5
def tJ (w : Nat → Nat → Nat) (k : Nat) : Nat → List Nat → List Nat
  | 0, s => s
  | j + 1, s => tJ w k j ([] ++ s ++ gl_tx 4 ++ dl (10 + w (31 + k + 7 * j) 141))
def tS (w : Nat → Nat → Nat) (k : Nat) (s : List Nat) : List Nat := [] ++ s ++ gl_tx 7 ++ dl (1 + w (19 + k) 120)
def tB (w : Nat → Nat → Nat) : Nat → List Nat
  | 0 => tY w (1 + w 4 4)
  | k + 1 => [] ++ tJ w k (w (25 + k) 5 + 1) (tS w k (tB w k)) ++ gl_tx 5
theorem ok_n : ∀ c ∈ ([] : List Nat), c < 128 := fun c h => absurd h List.not_mem_nil
theorem ok_a {L M : List Nat} (h : ∀ c ∈ L, c < 128) (k : ∀ c ∈ M, c < 128) : ∀ c ∈ L ++ M, c < 128 := fun c hc => by
  rcases List.mem_append.mp hc with q | q
  · exact h c q
  · exact k c q
theorem ok_g (i : Nat) (hi : i < 10) : ∀ c ∈ gl_tx i, c < 128 := (by decide +kernel : ∀ i, i < 10 → ∀ c ∈ gl_tx i, c < 128) i hi
theorem tl_3 : (gl_tx 3).length = 7 := rfl
theorem tl_4 : (gl_tx 4).length = 1 := rfl
theorem tl_5 : (gl_tx 5).length = 1 := rfl
theorem tl_6 : (gl_tx 6).length = 6 := rfl
theorem tl_7 : (gl_tx 7).length = 7 := rfl
section TXT
variable {w : Nat → Nat → Nat} {Z : Nat → Nat}
theorem tM_l (hw : w = pkf Z) : (tM w).length ≤ 27 ∧ ∀ c ∈ tM w, c < 128 := by
  have p0 := pw hw 0 (n := 30) (by decide)
  have p1 := pw hw 1 (n := 5 + w 0 30) (by omega)
  have p2 := pw hw 2 (n := 4) (by decide)
  have p3 := pw hw 3 (n := 51) (by decide)
  have p6 := pw hw 6 (n := 30) (by decide)
  have e1 := (dl_len (v := 5 + w 0 30) (by omega)).2
  have e2 := (dl_len (v := 1 + w 1 (5 + w 0 30)) (by omega)).2
  have e3 := (dl_len (v := 1 + w 2 4) (by omega)).2
  have e4 := (dl_len (v := 1 + w 6 30) (by omega)).2
  have e5 := (dl_len (v := w 3 51) (by omega)).2
  constructor
  · unfold tM
    simp only [List.length_append, List.length_nil, tl_3, tl_4, tl_5]
    omega
  · unfold tM
    exact ok_a (ok_a (ok_a (ok_a (ok_a (ok_a (ok_a (ok_a (ok_a (ok_a (ok_a ok_n (ok_g 3 (by decide))) (dl_128 _ (by omega))) (ok_g 4 (by decide))) (dl_128 _ (by omega))) (ok_g 4 (by decide))) (dl_128 _ (by omega))) (ok_g 4 (by decide))) (dl_128 _ (by omega))) (ok_g 4 (by decide))) (dl_128 _ (by omega))) (ok_g 5 (by decide))
theorem tY_l (hw : w = pkf Z) : ∀ i, (tY w i).length ≤ 27 + 18 * i ∧ ∀ c ∈ tY w i, c < 128 := by
  intro i
  induction i with
  | zero => exact tM_l hw
  | succ i ih =>
    have p1 := pw hw (7 + i) (n := 900) (by decide)
    have p2 := pw hw (11 + i) (n := 5) (by decide)
    have p3 := pw hw (15 + i) (n := 150) (by decide)
    have e1 := (dl_len (v := w (7 + i) 900) (by omega)).2
    have e2 := (dl_len (v := w (11 + i) 5) (by omega)).2
    have e3 := (dl_len (v := 1 + w (15 + i) 150) (by omega)).2
    constructor
    · simp only [tY, List.length_append, List.length_nil, tl_6, tl_4, tl_5]
      omega
    · simp only [tY]
      exact ok_a (ok_a (ok_a (ok_a (ok_a (ok_a (ok_a (ok_a ok_n ih.2) (ok_g 6 (by decide))) (dl_128 _ (by omega))) (ok_g 4 (by decide))) (dl_128 _ (by omega))) (ok_g 4 (by decide))) (dl_128 _ (by omega))) (ok_g 5 (by decide))
theorem tJ_l (hw : w = pkf Z) (k : Nat) : ∀ j (s : List Nat), (∀ c ∈ s, c < 128) → (tJ w k j s).length ≤ s.length + 4 * j ∧ ∀ c ∈ tJ w k j s, c < 128 := by
  intro j
  induction j with
  | zero => intro s h; exact ⟨Nat.le_refl _, h⟩
  | succ j ih =>
    intro s h
    have p1 := pw hw (31 + k + 7 * j) (n := 141) (by decide)
    have e1 := (dl_len (v := 10 + w (31 + k + 7 * j) 141) (by omega)).2
    have := ih ([] ++ s ++ gl_tx 4 ++ dl (10 + w (31 + k + 7 * j) 141)) (ok_a (ok_a (ok_a ok_n h) (ok_g 4 (by decide))) (dl_128 _ (by omega)))
    simp only [tJ]
    refine ⟨?_, this.2⟩
    have h1 := this.1
    simp only [List.length_append, List.length_nil, tl_4] at h1
    omega
theorem tS_l (hw : w = pkf Z) (k : Nat) {s : List Nat} (h : ∀ c ∈ s, c < 128) : (tS w k s).length ≤ s.length + 10 ∧ ∀ c ∈ tS w k s, c < 128 := by
  have p1 := pw hw (19 + k) (n := 120) (by decide)
  have e1 := (dl_len (v := 1 + w (19 + k) 120) (by omega)).2
  constructor
  · simp only [tS, List.length_append, List.length_nil, tl_7]
    omega
  · exact ok_a (ok_a (ok_a ok_n h) (ok_g 7 (by decide))) (dl_128 _ (by omega))
theorem tB_l (hw : w = pkf Z) : ∀ k, (tB w k).length ≤ 99 + 31 * k ∧ ∀ c ∈ tB w k, c < 128 := by
  intro k
  induction k with
  | zero =>
    have p1 := pw hw 4 (n := 4) (by decide)
    have := tY_l hw (1 + w 4 4)
    exact ⟨by show (tY w (1 + w 4 4)).length ≤ _; omega, this.2⟩
  | succ k ih =>
    have p1 := pw hw (25 + k) (n := 5) (by decide)
    have e1 := tS_l hw k ih.2
    have e2 := tJ_l hw k (w (25 + k) 5 + 1) _ e1.2
    constructor
    · simp only [tB, List.length_append, List.length_nil, tl_5]
      omega
    · simp only [tB]
      exact ok_a (ok_a ok_n e2.2) (ok_g 5 (by decide))
end TXT
def jm (j : Nat) : Int32 := if j = 0 then -1 else nI (j - 1)
theorem jm_d (j : Nat) (h : j < 1000) : nI j + Int32.ofInt (-1) = jm j := by
  cases j with
  | zero => decide
  | succ j =>
    show nI (j + 1) + -1 = nI j
    rw [← nI_add]
    show nI j + 1 + -1 = nI j
    rw [Int32.add_assoc, show (1 : Int32) + -1 = 0 from rfl, Int32.add_zero]
/-- what the class holds after it read the text -/
def begQ (x : Nat) (w : Nat → Nat → Nat) (J : ow_I) : Prop := (Q_readSetup (x + 515) (x + 52) J).1 = true ∧ (A_loadSetup x J).1 = nI (w 5 6) ∧ A_buyerCount x (A_loadSetup x J).2 = nI (1 + w 4 4) ∧ A_queueLength x (A_loadSetup x J).2 = nI (w 5 6) ∧ A_minute x (A_loadSetup x J).2 = 0 ∧ A_openBarrel x (A_loadSetup x J).2 = -1 ∧ A_isOpen x (A_loadSetup x J).2 = true
/-- the text stands in the input, all else as it was -/
def begJ (x : Nat) (w : Nat → Nat → Nat) (I J : ow_I) : Prop := J (x + 515 + 1) 1 = nI (tB w (w 5 6)).length ∧ (∀ i, i < (tB w (w 5 6)).length → J (x + 515 + 1 + 1) i = nI (lx (tB w (w 5 6)) i)) ∧ (∀ k, k ≠ 1 → J (x + 515 + 1) k = I (x + 515 + 1) k) ∧ ∀ a, a < x + 666 → a ≠ x + 515 + 1 → a ≠ x + 515 + 1 + 1 → J a = I a
def begK (x : Nat) (w : Nat → Nat → Nat) (S : Nat → Option ow_Sh) (I : ow_I) (V : Nat → Nat → Value) (z : Nat) : Nat → Option Value → ow_H → Prop := fun c r h1 => c = 0 ∧ ∃ (J J3 : ow_I) (q z' : Nat), r = some (.ref q) ∧ z ≤ q ∧ q < z' ∧ h1 = (iA S q 4, J3, V, z') ∧ begJ x w I J ∧ (∀ a, a < q → J3 a = (A_loadSetup x J).2 a) ∧ J3 q 0 = nI (5 + w 0 30) ∧ J3 q 1 = nI (1 + w 1 (5 + w 0 30)) ∧ J3 q 2 = nI (1 + w 2 4) ∧ J3 q 3 = nI (w 3 51)
set_option maxRecDepth 100000 in
set_option maxHeartbeats 4000000 in
theorem tL_begun {Z : Nat → Nat} {S : Nat → Option ow_Sh} {I : ow_I} {V : Nat → Nat → Value} {z x : Nat} {w : Nat → Nat → Nat} (h_x : au_S S x) (hX : au_V x I) (hxz : x + 666 ≤ z) (hSz : ∀ (a : Nat) (sh : ow_Sh), S a = some sh → a < z) (hw : w = pkf Z) (hP : ∀ J : ow_I, begJ x w I J → begQ x w J) : ow_Cx Z yL_begun cL_begun 11 (some (.array .int)) 10 400 100000 [.ref x, .ref (Z 34)] (S, I, V, z) (begK x w S I V z) := by
  refine ow_Cx.of rfl (Nat.le_of_ble_eq_true rfl) (fun X E G F => ?_)
  have E : ow_E X RX120 cL_begun 11 (ow_rm 10 400 100000) := E
  have p0 := pw hw 0 (n := 30) (by decide)
  have p1 := pw hw 1 (n := 5 + w 0 30) (by omega)
  have p2 := pw hw 2 (n := 4) (by decide)
  have p3 := pw hw 3 (n := 51) (by decide)
  have p4 := pw hw 4 (n := 4) (by decide)
  have p5 := pw hw 5 (n := 6) (by decide)
  have p6 := pw hw 6 (n := 30) (by decide)
  have t3 := tl_3
  have t4 := tl_4
  have t5 := tl_5
  have t6 := tl_6
  have t7 := tl_7
  obtain ⟨h0, hh0⟩ : ∃ h0 : ow_H, h0 = (S, I, V, z) := ⟨_, rfl⟩
  have g0 : gw h0 (S, I, V, z) := by rw [hh0]; exact ⟨Nat.le_refl _, bl.rf, bl.rf, bl.rf⟩
  have hz0 : h0.2.2.2 = z := by rw [hh0]
  refine or_lv [(0, .ref x), (1, .ref (Z 34))] rfl ?_
  have A373 : ∀ (h : ow_H) (a : Nat), gw h0 h → tf a (tB w (w 5 6)).length (lx (tB w (w 5 6))) h → z ≤ a → ow_W X 303 99046 h 373 [(0, .ref x), (1, .ref (Z 34)), (2, .int (nI (5 + w 0 30))), (3, .int (nI (1 + w 1 (5 + w 0 30)))), (4, .int (nI (1 + w 2 4))), (5, .int (nI (w 3 51))), (6, .int (nI (1 + w 4 4))), (7, .int (nI (w 5 6))), (8, .ref a)] [] := by
    intro h a hg hf ha
    obtain ⟨S1, I1, V1, z1⟩ := h
    rw [hh0] at hg
    obtain ⟨g1, g2, g3, g4⟩ := hg
    dsimp only at g1 g2 g3 g4
    refine or_ltz (fun hlt => ?_)
    have hS1 := au_bl g2 h_x hxz
    have hX1 := auV_eq hX (fun b hb => g3 b (by omega))
    have ha1 : a + 1 < z1 := hlt _ _ hf.2.2.1
    refine or_aload_n E rfl dL_begun_373 ?_
    refine or_aload E rfl dL_begun_374 ?_
    refine or_kT2 (tL_input (Z := Z) hS1 hX1 hf (by omega) ha1) E G F lk_120_56 dL_begun_376 (by decide) (by decide) ⟨by decide, by decide⟩ (Nat.le_of_ble_eq_true rfl) (fun r h1 q => ?_) (fun c' h1 hc' q => absurd q.1 (Nat.pos_iff_ne_zero.mp hc'))
    obtain ⟨-, rfl, J, z2, hz2, rfl, j1, j2, j3, j4⟩ := q
    have hJ : begJ x w I J := ⟨j1, j3, fun k hk => (j2 k hk).trans (congrFun (g3 _ (by omega)) k), fun b hb h1 h2 => (j4 b h1 h2).trans (g3 b (by omega))⟩
    obtain ⟨b1, b2, b3, b4, b5, b6, b7⟩ := hP J hJ
    refine or_fg (S := S) (I := J) (V := V) (fun b sh hs => by
      have hb := hSz b sh hs
      exact ⟨(g2 b hb).trans hs, fun k => rfl, fun k => by rw [g4 b hb]⟩) ?_
    have hXJ : au_V x J := by
      have hm := (tB_l hw (w 5 6)).1
      have ht : tn (J (x + 515 + 1) 1) = (tB w (w 5 6)).length := by rw [j1, tn_nI (by omega)]
      obtain ⟨u1, u2, u3, u4, u5, u6⟩ := hX
      obtain ⟨-, -, k3, k4⟩ := hJ
      refine ⟨kV_eq u1 (fun b g1 g2 => k4 b (by omega) (by omega) (by omega)), kV_eq u2 (fun b g1 g2 => k4 b (by omega) (by omega) (by omega)), fun i hi => kV_eq (u3 i hi) (fun b g1 g2 => k4 b (by omega) (by omega) (by omega)), fun i hi => kV_eq (u4 i hi) (fun b g1 g2 => k4 b (by omega) (by omega) (by omega)), ?_, ?_, ?_, ?_⟩
      · rw [k4 (x + 103) (by omega) (by omega) (by omega)]; exact u5
      · rw [ht, j1]; exact ⟨nI_ge0 (by omega), by omega⟩
      · rw [k3 3 (by decide)]; exact u6.2.1
      · rw [k3 4 (by decide)]; exact u6.2.2
    refine or_aload_n E rfl dL_begun_379 ?_
    refine or_fV0r (cA_loadSetup (Z := Z) h_x hXJ b1) E G F lk_120_60 dL_begun_380 h_x.1 rfl rfl (by decide) (by decide) ⟨by decide, by decide⟩ (Nat.le_of_ble_eq_true rfl) (fun _ => ?_) (fun h => absurd h (Nat.lt_irrefl 0))
    refine or_iload E rfl dL_begun_383 ?_
    refine or_icmp_ne 452 E dL_begun_385 rfl (fun q => absurd b2 q) (fun _ => ?_)
    refine or_aload_n E rfl dL_begun_388 ?_
    refine or_fV0r (cA_buyerCount (Z := Z) h_x) E G F lk_120_63 dL_begun_389 h_x.1 rfl rfl (by decide) (by decide) ⟨by decide, by decide⟩ (Nat.le_of_ble_eq_true rfl) (fun _ => ?_) (fun h => absurd h (Nat.lt_irrefl 0))
    refine or_iload E rfl dL_begun_392 ?_
    refine or_icmp_ne 452 E dL_begun_394 rfl (fun q => absurd b3 q) (fun _ => ?_)
    refine or_aload_n E rfl dL_begun_397 ?_
    refine or_fV0r (cA_queueLength (Z := Z) h_x) E G F lk_120_66 dL_begun_398 h_x.1 rfl rfl (by decide) (by decide) ⟨by decide, by decide⟩ (Nat.le_of_ble_eq_true rfl) (fun _ => ?_) (fun h => absurd h (Nat.lt_irrefl 0))
    refine or_iload E rfl dL_begun_401 ?_
    refine or_icmp_ne 452 E dL_begun_403 rfl (fun q => absurd b4 q) (fun _ => ?_)
    refine or_aload_n E rfl dL_begun_406 ?_
    refine or_fV0r (cA_minute (Z := Z) h_x) E G F lk_120_69 dL_begun_407 h_x.1 rfl rfl (by decide) (by decide) ⟨by decide, by decide⟩ (Nat.le_of_ble_eq_true rfl) (fun _ => ?_) (fun h => absurd h (Nat.lt_irrefl 0))
    refine or_if_ne 452 E dL_begun_410 rfl (fun q => absurd b5 q) (fun _ => ?_)
    refine or_aload_n E rfl dL_begun_413 ?_
    refine or_fV0r (cA_openBarrel (Z := Z) h_x) E G F lk_120_72 dL_begun_414 h_x.1 rfl rfl (by decide) (by decide) ⟨by decide, by decide⟩ (Nat.le_of_ble_eq_true rfl) (fun _ => ?_) (fun h => absurd h (Nat.lt_irrefl 0))
    refine or_iconst (v := -1) E rfl dL_begun_417 ?_
    refine or_icmp_ne 452 E dL_begun_418 rfl (fun q => absurd b6 q) (fun _ => ?_)
    refine or_aload_n E rfl dL_begun_421 ?_
    refine or_fV0r (cA_isOpen (Z := Z) h_x) E G F lk_120_75 dL_begun_422 h_x.1 rfl rfl (by decide) (by decide) ⟨by decide, by decide⟩ (Nat.le_of_ble_eq_true rfl) (fun _ => ?_) (fun h => absurd h (Nat.lt_irrefl 0))
    refine or_if_eqZ 452 E dL_begun_425 rfl (fun q => absurd b7 (by rw [q]; decide)) (fun _ => ?_)
    refine or_iconst (v := nI 4) E rfl dL_begun_428 ?_
    refine or_newa (atype := .int) (κ := ow_n) E (ow_T_in 97 (by decide +kernel) (by decide +kernel)) rfl (fun _ => rfl) dL_begun_429 (by decide) (by decide) (by decide) (by decide) ?_
    have hS4 : (iA S z2 4) z2 = some (.inr (.int, 4, ow_n)) := ow_nS_s _ _ _
    refine or_dup E rfl dL_begun_431 ?_
    refine or_iconst (v := nI 0) E rfl dL_begun_432 ?_
    refine or_iload_n E rfl dL_begun_433 ?_
    refine ot_iast (j := 0) E dL_begun_434 hS4 rfl rfl (by decide) (by decide) ?_
    refine or_dup E rfl dL_begun_435 ?_
    refine or_iconst (v := nI 1) E rfl dL_begun_436 ?_
    refine or_iload_n E rfl dL_begun_437 ?_
    refine ot_iast (j := 1) E dL_begun_438 hS4 rfl rfl (by decide) (by decide) ?_
    refine or_dup E rfl dL_begun_439 ?_
    refine or_iconst (v := nI 2) E rfl dL_begun_440 ?_
    refine or_iload E rfl dL_begun_441 ?_
    refine ot_iast (j := 2) E dL_begun_443 hS4 rfl rfl (by decide) (by decide) ?_
    refine or_dup E rfl dL_begun_444 ?_
    refine or_iconst (v := nI 3) E rfl dL_begun_445 ?_
    refine or_iload E rfl dL_begun_446 ?_
    refine ot_iast (j := 3) E dL_begun_448 hS4 rfl rfl (by decide) (by decide) ?_
    refine or_goto 453 E dL_begun_449 rfl ?_
    refine or_xr E F (fun X' E' F' => or_aret E' F' (Or.inr ⟨_, rfl⟩) (Or.inr ⟨_, rfl⟩) dL_begun_453 (by decide) (by decide) ?_)
    refine ⟨rfl, J, _, z2, z2 + 1, rfl, by omega, by omega, rfl, hJ, fun b hb => ?_, ?_, ?_, ?_, ?_⟩
    · funext k
      rw [ow_u_a _ _ _ _ (by omega), ow_u_a _ _ _ _ (by omega), ow_u_a _ _ _ _ (by omega), ow_u_a _ _ _ _ (by omega), ow_nI_o _ (by omega)]
    · rw [ow_u_k _ _ _ _ (by decide), ow_u_k _ _ _ _ (by decide), ow_u_k _ _ _ _ (by decide), ow_u_s]
    · rw [ow_u_k _ _ _ _ (by decide), ow_u_k _ _ _ _ (by decide), ow_u_s]
    · rw [ow_u_k _ _ _ _ (by decide), ow_u_s]
    · rw [ow_u_s]
  have L231 : ∀ (n k : Nat) (h : ow_H) (a : Nat), k ≤ w 5 6 → gw h0 h → tf a (tB w k).length (lx (tB w k)) h → z ≤ a → w 5 6 - k < n → ow_W X (63 + 48 * k) (27506 + 14308 * k) h 231 [(0, .ref x), (1, .ref (Z 34)), (2, .int (nI (5 + w 0 30))), (3, .int (nI (1 + w 1 (5 + w 0 30)))), (4, .int (nI (1 + w 2 4))), (5, .int (nI (w 3 51))), (6, .int (nI (1 + w 4 4))), (7, .int (nI (w 5 6))), (8, .ref a), (9, .int (nI k))] [] := by
    intro n
    induction n with
    | zero => intro k h a h1 h2 h3 h4 h5; omega
    | succ n ih =>
      intro k h a hk hg hf ha hn
      refine or_iload E rfl dL_begun_231 ?_
      refine or_iload E rfl dL_begun_233 ?_
      refine or_icmp_geN 373 E dL_begun_235 rfl (by omega) (by omega) (fun q235 => ?_) (fun q235 => ?_)
      · obtain rfl : k = w 5 6 := by omega
        exact or_wd (by omega) (by omega) (or_lv _ rfl (A373 h a hg hf ha))
      have hB := tB_l hw k
      have u1 := pw hw (19 + k) (n := 120) (by decide)
      have u2 := pw hw (25 + k) (n := 5) (by decide)
      have L288 : ∀ (j : Nat) (s : List Nat) (h : ow_H) (a : Nat), j ≤ 5 → gw h0 h → tf a s.length (lx s) h → z ≤ a → s.length + 4 * j ≤ 290 → (∀ c ∈ s, c < 128) → tB w (k + 1) = [] ++ tJ w k j s ++ gl_tx 5 → ow_W X (63 + 48 * k + 7 + 7 * (5 - j)) (27506 + 14308 * k + 2130 + 2130 * (5 - j)) h 288 [(0, .ref x), (1, .ref (Z 34)), (2, .int (nI (5 + w 0 30))), (3, .int (nI (1 + w 1 (5 + w 0 30)))), (4, .int (nI (1 + w 2 4))), (5, .int (nI (w 3 51))), (6, .int (nI (1 + w 4 4))), (7, .int (nI (w 5 6))), (8, .ref a), (9, .int (nI k)), (10, .int (jm j))] [] := by
        intro j
        induction j with
        | zero =>
          intro s h a hj hg hf ha hl hs eB
          obtain ⟨S9, I9, V9, z9⟩ := h
          refine or_iload E rfl dL_begun_288 ?_
          refine or_if_lt 345 E dL_begun_290 rfl (fun _ => ?_) (fun q => absurd (by decide) q)
          refine or_b0 E G F dL_begun_345 dL_begun_348 dL_begun_349 hg (Or.inr hf) (by decide) (by omega) (by omega) (fun h1 o1 b1 q1 => ?_)
          obtain ⟨S1, I1, V1, z1⟩ := h1
          refine or_aload E rfl dL_begun_352 ?_
          refine or_bC E G F dL_begun_354 q1 (by simp only [List.length_append, List.length_nil]; omega) (by decide) (by omega) (by omega) (fun h1 b2 q2 => ?_)
          obtain ⟨S2, I2, V2, z2⟩ := h1
          refine or_ldcS E (og_12 G 6 rfl) dL_begun_357 ?_
          refine or_bS E G F dL_begun_359 q2 (by decide) (by simp only [List.length_append, List.length_nil]; omega) (by decide) (by omega) (by omega) (fun h1 b3 q3 => ?_)
          obtain ⟨S3, I3, V3, z3⟩ := h1
          refine or_bT E G F dL_begun_362 q3 (by simp only [List.length_append, List.length_nil]; omega) (ok_a (ok_a ok_n hs) (ok_g 5 (by decide))) (by decide) (by omega) (by omega) (fun h1 a4 g4 f4 l4 => ?_)
          obtain ⟨S4, I4, V4, z4⟩ := h1
          refine or_astore E dL_begun_365 (by decide) ?_
          refine or_iincN (c := 1) E dL_begun_367 rfl rfl (by decide) ?_
          refine or_goto 231 E dL_begun_370 rfl ?_
          exact or_wd (by omega) (by omega) (or_lv _ rfl (ih (k + 1) _ a4 (by omega) g4 (by rw [eB]; exact f4) (by rw [← hz0]; exact l4) (by omega)))
        | succ j ih2 =>
          intro s h a hj hg hf ha hl hs eB
          obtain ⟨S9, I9, V9, z9⟩ := h
          have u3 := pw hw (31 + k + 7 * j) (n := 141) (by decide)
          refine or_iload E rfl dL_begun_288 ?_
          have hjm : jm (j + 1) = nI j := rfl
          refine or_if_lt 345 E dL_begun_290 rfl (fun q => absurd q (Int32.not_lt.mpr (by rw [hjm]; exact nI_ge0 (by omega)))) (fun _ => ?_)
          refine or_lv [(0, .ref x), (1, .ref (Z 34)), (2, .int (nI (5 + w 0 30))), (3, .int (nI (1 + w 1 (5 + w 0 30)))), (4, .int (nI (1 + w 2 4))), (5, .int (nI (w 3 51))), (6, .int (nI (1 + w 4 4))), (7, .int (nI (w 5 6))), (8, .ref a), (9, .int (nI k)), (10, .int (nI j))] rfl ?_
          refine or_b0 E G F dL_begun_293 dL_begun_296 dL_begun_297 hg (Or.inr hf) (by decide) (by omega) (by omega) (fun h1 o5 b5 q5 => ?_)
          obtain ⟨S5, I5, V5, z5⟩ := h1
          refine or_aload E rfl dL_begun_300 ?_
          refine or_bC E G F dL_begun_302 q5 (by simp only [List.length_append, List.length_nil]; omega) (by decide) (by omega) (by omega) (fun h1 b6 q6 => ?_)
          obtain ⟨S6, I6, V6, z6⟩ := h1
          refine or_ldcS E (og_12 G 5 rfl) dL_begun_305 ?_
          refine or_bS E G F dL_begun_307 q6 (by decide) (by simp only [List.length_append, List.length_nil]; omega) (by decide) (by omega) (by omega) (fun h1 b7 q7 => ?_)
          obtain ⟨S7, I7, V7, z7⟩ := h1
          refine or_bipush (v := nI 10) E rfl dL_begun_310 ?_
          refine or_aload_n E rfl dL_begun_312 ?_
          refine or_bipush (v := nI 31) E rfl dL_begun_313 ?_
          refine or_iload E rfl dL_begun_315 ?_
          refine or_iaddN E dL_begun_317 ?_
          refine or_bipush (v := nI 7) E rfl dL_begun_318 ?_
          refine or_iload E rfl dL_begun_320 ?_
          refine or_imulN E dL_begun_322 ?_
          refine or_iaddN E dL_begun_323 ?_
          refine or_sipush (v := nI 141) E rfl dL_begun_324 ?_
          refine or_fT3r (tL_pick (Z := Z) (k := 31 + k + (7 * j)) (n := 141) (by omega) (by omega) (by omega)) E G F lk_120_27 dL_begun_327 (by decide) (by decide) ⟨by omega, by omega⟩ (Nat.le_of_ble_eq_true rfl) (fun _ => ?_) (fun h => absurd h (Nat.lt_irrefl 0))
          refine or_top (y := nI (w (31 + k + (7 * j)) 141)) (by rw [hw]) ?_
          refine or_iaddN E dL_begun_330 ?_
          have dl_8 := (dl_len (v := 10 + (w (31 + k + (7 * j)) 141)) (by omega)).2
          refine or_bI E G F dL_begun_331 q7 (by omega) (by simp only [List.length_append, List.length_nil]; omega) (by decide) (by omega) (by omega) (fun h1 b8 q8 => ?_)
          obtain ⟨S8, I8, V8, z8⟩ := h1
          refine or_bT E G F dL_begun_334 q8 (by simp only [List.length_append, List.length_nil]; omega) (ok_a (ok_a (ok_a ok_n hs) (ok_g 4 (by decide))) (dl_128 _ (by omega))) (by decide) (by omega) (by omega) (fun h1 a9 g9 f9 l9 => ?_)
          obtain ⟨S9, I9, V9, z9⟩ := h1
          refine or_astore E dL_begun_337 (by decide) ?_
          refine or_iinc E dL_begun_339 rfl (by decide) ?_
          refine or_goto 288 E dL_begun_342 rfl ?_
          rw [jm_d j (by omega)]
          exact or_wd (by omega) (by omega) (or_lv _ rfl (ih2 _ _ a9 (by omega) g9 f9 (by rw [← hz0]; exact l9) (by simp only [List.length_append, List.length_nil]; omega) (ok_a (ok_a (ok_a ok_n hs) (ok_g 4 (by decide))) (dl_128 _ (by omega))) eB))
      obtain ⟨S9, I9, V9, z9⟩ := h
      refine or_b0 E G F dL_begun_238 dL_begun_241 dL_begun_242 hg (Or.inr hf) (by decide) (by omega) (by omega) (fun h1 o10 b10 q10 => ?_)
      obtain ⟨S10, I10, V10, z10⟩ := h1
      refine or_aload E rfl dL_begun_245 ?_
      refine or_bC E G F dL_begun_247 q10 (by simp only [List.length_append, List.length_nil]; omega) (by decide) (by omega) (by omega) (fun h1 b11 q11 => ?_)
      obtain ⟨S11, I11, V11, z11⟩ := h1
      refine or_ldcS E (og_12 G 8 rfl) dL_begun_250 ?_
      refine or_bS E G F dL_begun_252 q11 (by decide) (by simp only [List.length_append, List.length_nil]; omega) (by decide) (by omega) (by omega) (fun h1 b12 q12 => ?_)
      obtain ⟨S12, I12, V12, z12⟩ := h1
      refine or_iconst (v := nI 1) E rfl dL_begun_255 ?_
      refine or_aload_n E rfl dL_begun_256 ?_
      refine or_bipush (v := nI 19) E rfl dL_begun_257 ?_
      refine or_iload E rfl dL_begun_259 ?_
      refine or_iaddN E dL_begun_261 ?_
      refine or_bipush (v := nI 120) E rfl dL_begun_262 ?_
      refine or_fT3r (tL_pick (Z := Z) (k := 19 + k) (n := 120) (by omega) (by omega) (by omega)) E G F lk_120_27 dL_begun_264 (by decide) (by decide) ⟨by omega, by omega⟩ (Nat.le_of_ble_eq_true rfl) (fun _ => ?_) (fun h => absurd h (Nat.lt_irrefl 0))
      refine or_top (y := nI (w (19 + k) 120)) (by rw [hw]) ?_
      refine or_iaddN E dL_begun_267 ?_
      have dl_13 := (dl_len (v := 1 + (w (19 + k) 120)) (by omega)).2
      refine or_bI E G F dL_begun_268 q12 (by omega) (by simp only [List.length_append, List.length_nil]; omega) (by decide) (by omega) (by omega) (fun h1 b13 q13 => ?_)
      obtain ⟨S13, I13, V13, z13⟩ := h1
      refine or_bT E G F dL_begun_271 q13 (by simp only [List.length_append, List.length_nil]; omega) (ok_a (ok_a (ok_a ok_n hB.2) (ok_g 7 (by decide))) (dl_128 _ (by omega))) (by decide) (by omega) (by omega) (fun h1 a14 g14 f14 l14 => ?_)
      obtain ⟨S14, I14, V14, z14⟩ := h1
      refine or_astore E dL_begun_274 (by decide) ?_
      refine or_aload_n E rfl dL_begun_276 ?_
      refine or_bipush (v := nI 25) E rfl dL_begun_277 ?_
      refine or_iload E rfl dL_begun_279 ?_
      refine or_iaddN E dL_begun_281 ?_
      refine or_iconst (v := nI 5) E rfl dL_begun_282 ?_
      refine or_fT3r (tL_pick (Z := Z) (k := 25 + k) (n := 5) (by omega) (by omega) (by omega)) E G F lk_120_27 dL_begun_283 (by decide) (by decide) ⟨by omega, by omega⟩ (Nat.le_of_ble_eq_true rfl) (fun _ => ?_) (fun h => absurd h (Nat.lt_irrefl 0))
      refine or_top (y := nI (w (25 + k) 5)) (by rw [hw]) ?_
      refine or_istore E dL_begun_286 (by decide) ?_
      have hS := tS_l hw k hB.2
      exact or_wd (by omega) (by omega) (or_lv _ rfl (L288 (w (25 + k) 5 + 1) (tS w k (tB w k)) _ a14 (by omega) g14 f14 (by rw [← hz0]; exact l14) (by omega) hS.2 rfl))
  have L133 : ∀ (n i : Nat) (h : ow_H) (a : Nat), i ≤ 1 + w 4 4 → gw h0 h → tf a (tY w i).length (lx (tY w i)) h → z ≤ a → 1 + w 4 4 - i < n → ow_W X (15 + 12 * i) (6946 + 5140 * i) h 133 [(0, .ref x), (1, .ref (Z 34)), (2, .int (nI (5 + w 0 30))), (3, .int (nI (1 + w 1 (5 + w 0 30)))), (4, .int (nI (1 + w 2 4))), (5, .int (nI (w 3 51))), (6, .int (nI (1 + w 4 4))), (7, .int (nI (w 5 6))), (8, .ref a), (9, .int (nI i))] [] := by
    intro n
    induction n with
    | zero => intro k h a h1 h2 h3 h4 h5; omega
    | succ n ih =>
      intro i h a hi hg hf ha hn
      refine or_iload E rfl dL_begun_133 ?_
      refine or_iload E rfl dL_begun_135 ?_
      refine or_icmp_geN 228 E dL_begun_137 rfl (by omega) (by omega) (fun q137 => ?_) (fun q137 => ?_)
      · obtain rfl : i = 1 + w 4 4 := by omega
        refine or_iconst (v := nI 0) E rfl dL_begun_228 ?_
        refine or_istore E dL_begun_229 (by decide) ?_
        exact or_wd (by omega) (by omega) (or_lv _ rfl (L231 7 0 h a (by omega) hg hf ha (by omega)))
      have hY := tY_l hw i
      have u1 := pw hw (7 + i) (n := 900) (by decide)
      have u2 := pw hw (11 + i) (n := 5) (by decide)
      have u3 := pw hw (15 + i) (n := 150) (by decide)
      obtain ⟨S9, I9, V9, z9⟩ := h
      refine or_b0 E G F dL_begun_140 dL_begun_143 dL_begun_144 hg (Or.inr hf) (by decide) (by omega) (by omega) (fun h1 o15 b15 q15 => ?_)
      obtain ⟨S15, I15, V15, z15⟩ := h1
      refine or_aload E rfl dL_begun_147 ?_
      refine or_bC E G F dL_begun_149 q15 (by simp only [List.length_append, List.length_nil]; omega) (by decide) (by omega) (by omega) (fun h1 b16 q16 => ?_)
      obtain ⟨S16, I16, V16, z16⟩ := h1
      refine or_ldcS E (og_12 G 7 rfl) dL_begun_152 ?_
      refine or_bS E G F dL_begun_154 q16 (by decide) (by simp only [List.length_append, List.length_nil]; omega) (by decide) (by omega) (by omega) (fun h1 b17 q17 => ?_)
      obtain ⟨S17, I17, V17, z17⟩ := h1
      refine or_aload_n E rfl dL_begun_157 ?_
      refine or_bipush (v := nI 7) E rfl dL_begun_158 ?_
      refine or_iload E rfl dL_begun_160 ?_
      refine or_iaddN E dL_begun_162 ?_
      refine or_sipush (v := nI 900) E rfl dL_begun_163 ?_
      refine or_fT3r (tL_pick (Z := Z) (k := 7 + i) (n := 900) (by omega) (by omega) (by omega)) E G F lk_120_27 dL_begun_166 (by decide) (by decide) ⟨by omega, by omega⟩ (Nat.le_of_ble_eq_true rfl) (fun _ => ?_) (fun h => absurd h (Nat.lt_irrefl 0))
      refine or_top (y := nI (w (7 + i) 900)) (by rw [hw]) ?_
      have dl_18 := (dl_len (v := w (7 + i) 900) (by omega)).2
      refine or_bI E G F dL_begun_169 q17 (by omega) (by simp only [List.length_append, List.length_nil]; omega) (by decide) (by omega) (by omega) (fun h1 b18 q18 => ?_)
      obtain ⟨S18, I18, V18, z18⟩ := h1
      refine or_ldcS E (og_12 G 5 rfl) dL_begun_172 ?_
      refine or_bS E G F dL_begun_174 q18 (by decide) (by simp only [List.length_append, List.length_nil]; omega) (by decide) (by omega) (by omega) (fun h1 b19 q19 => ?_)
      obtain ⟨S19, I19, V19, z19⟩ := h1
      refine or_aload_n E rfl dL_begun_177 ?_
      refine or_bipush (v := nI 11) E rfl dL_begun_178 ?_
      refine or_iload E rfl dL_begun_180 ?_
      refine or_iaddN E dL_begun_182 ?_
      refine or_iconst (v := nI 5) E rfl dL_begun_183 ?_
      refine or_fT3r (tL_pick (Z := Z) (k := 11 + i) (n := 5) (by omega) (by omega) (by omega)) E G F lk_120_27 dL_begun_184 (by decide) (by decide) ⟨by omega, by omega⟩ (Nat.le_of_ble_eq_true rfl) (fun _ => ?_) (fun h => absurd h (Nat.lt_irrefl 0))
      refine or_top (y := nI (w (11 + i) 5)) (by rw [hw]) ?_
      have dl_20 := (dl_len (v := w (11 + i) 5) (by omega)).2
      refine or_bI E G F dL_begun_187 q19 (by omega) (by simp only [List.length_append, List.length_nil]; omega) (by decide) (by omega) (by omega) (fun h1 b20 q20 => ?_)
      obtain ⟨S20, I20, V20, z20⟩ := h1
      refine or_ldcS E (og_12 G 5 rfl) dL_begun_190 ?_
      refine or_bS E G F dL_begun_192 q20 (by decide) (by simp only [List.length_append, List.length_nil]; omega) (by decide) (by omega) (by omega) (fun h1 b21 q21 => ?_)
      obtain ⟨S21, I21, V21, z21⟩ := h1
      refine or_iconst (v := nI 1) E rfl dL_begun_195 ?_
      refine or_aload_n E rfl dL_begun_196 ?_
      refine or_bipush (v := nI 15) E rfl dL_begun_197 ?_
      refine or_iload E rfl dL_begun_199 ?_
      refine or_iaddN E dL_begun_201 ?_
      refine or_sipush (v := nI 150) E rfl dL_begun_202 ?_
      refine or_fT3r (tL_pick (Z := Z) (k := 15 + i) (n := 150) (by omega) (by omega) (by omega)) E G F lk_120_27 dL_begun_205 (by decide) (by decide) ⟨by omega, by omega⟩ (Nat.le_of_ble_eq_true rfl) (fun _ => ?_) (fun h => absurd h (Nat.lt_irrefl 0))
      refine or_top (y := nI (w (15 + i) 150)) (by rw [hw]) ?_
      refine or_iaddN E dL_begun_208 ?_
      have dl_22 := (dl_len (v := 1 + (w (15 + i) 150)) (by omega)).2
      refine or_bI E G F dL_begun_209 q21 (by omega) (by simp only [List.length_append, List.length_nil]; omega) (by decide) (by omega) (by omega) (fun h1 b22 q22 => ?_)
      obtain ⟨S22, I22, V22, z22⟩ := h1
      refine or_ldcS E (og_12 G 6 rfl) dL_begun_212 ?_
      refine or_bS E G F dL_begun_214 q22 (by decide) (by simp only [List.length_append, List.length_nil]; omega) (by decide) (by omega) (by omega) (fun h1 b23 q23 => ?_)
      obtain ⟨S23, I23, V23, z23⟩ := h1
      refine or_bT E G F dL_begun_217 q23 (by simp only [List.length_append, List.length_nil]; omega) (ok_a (ok_a (ok_a (ok_a (ok_a (ok_a (ok_a (ok_a ok_n hY.2) (ok_g 6 (by decide))) (dl_128 _ (by omega))) (ok_g 4 (by decide))) (dl_128 _ (by omega))) (ok_g 4 (by decide))) (dl_128 _ (by omega))) (ok_g 5 (by decide))) (by decide) (by omega) (by omega) (fun h1 a24 g24 f24 l24 => ?_)
      obtain ⟨S24, I24, V24, z24⟩ := h1
      refine or_astore E dL_begun_220 (by decide) ?_
      refine or_iincN (c := 1) E dL_begun_222 rfl rfl (by decide) ?_
      refine or_goto 133 E dL_begun_225 rfl ?_
      exact or_wd (by omega) (by omega) (or_lv _ rfl (ih (i + 1) _ a24 (by omega) g24 f24 (by rw [← hz0]; exact l24) (by omega)))
  refine or_iconst (v := nI 5) E rfl dL_begun_0 ?_
  refine or_aload_n E rfl dL_begun_1 ?_
  refine or_iconst (v := nI 0) E rfl dL_begun_2 ?_
  refine or_bipush (v := nI 30) E rfl dL_begun_3 ?_
  refine or_fT3r (tL_pick (Z := Z) (k := 0) (n := 30) (by omega) (by omega) (by omega)) E G F lk_120_27 dL_begun_5 (by decide) (by decide) ⟨by omega, by omega⟩ (Nat.le_of_ble_eq_true rfl) (fun _ => ?_) (fun h => absurd h (Nat.lt_irrefl 0))
  refine or_top (y := nI (w 0 30)) (by rw [hw]) ?_
  refine or_iaddN E dL_begun_8 ?_
  refine or_istore_n E dL_begun_9 (by decide) ?_
  refine or_iconst (v := nI 1) E rfl dL_begun_10 ?_
  refine or_aload_n E rfl dL_begun_11 ?_
  refine or_iconst (v := nI 1) E rfl dL_begun_12 ?_
  refine or_iload_n E rfl dL_begun_13 ?_
  refine or_fT3r (tL_pick (Z := Z) (k := 1) (n := 5 + (w 0 30)) (by omega) (by omega) (by omega)) E G F lk_120_27 dL_begun_14 (by decide) (by decide) ⟨by omega, by omega⟩ (Nat.le_of_ble_eq_true rfl) (fun _ => ?_) (fun h => absurd h (Nat.lt_irrefl 0))
  refine or_top (y := nI (w 1 (5 + (w 0 30)))) (by rw [hw]) ?_
  refine or_iaddN E dL_begun_17 ?_
  refine or_istore_n E dL_begun_18 (by decide) ?_
  refine or_iconst (v := nI 1) E rfl dL_begun_19 ?_
  refine or_aload_n E rfl dL_begun_20 ?_
  refine or_iconst (v := nI 2) E rfl dL_begun_21 ?_
  refine or_iconst (v := nI 4) E rfl dL_begun_22 ?_
  refine or_fT3r (tL_pick (Z := Z) (k := 2) (n := 4) (by omega) (by omega) (by omega)) E G F lk_120_27 dL_begun_23 (by decide) (by decide) ⟨by omega, by omega⟩ (Nat.le_of_ble_eq_true rfl) (fun _ => ?_) (fun h => absurd h (Nat.lt_irrefl 0))
  refine or_top (y := nI (w 2 4)) (by rw [hw]) ?_
  refine or_iaddN E dL_begun_26 ?_
  refine or_istore E dL_begun_27 (by decide) ?_
  refine or_aload_n E rfl dL_begun_29 ?_
  refine or_iconst (v := nI 3) E rfl dL_begun_30 ?_
  refine or_bipush (v := nI 51) E rfl dL_begun_31 ?_
  refine or_fT3r (tL_pick (Z := Z) (k := 3) (n := 51) (by omega) (by omega) (by omega)) E G F lk_120_27 dL_begun_33 (by decide) (by decide) ⟨by omega, by omega⟩ (Nat.le_of_ble_eq_true rfl) (fun _ => ?_) (fun h => absurd h (Nat.lt_irrefl 0))
  refine or_top (y := nI (w 3 51)) (by rw [hw]) ?_
  refine or_istore E dL_begun_36 (by decide) ?_
  refine or_iconst (v := nI 1) E rfl dL_begun_38 ?_
  refine or_aload_n E rfl dL_begun_39 ?_
  refine or_iconst (v := nI 4) E rfl dL_begun_40 ?_
  refine or_iconst (v := nI 4) E rfl dL_begun_41 ?_
  refine or_fT3r (tL_pick (Z := Z) (k := 4) (n := 4) (by omega) (by omega) (by omega)) E G F lk_120_27 dL_begun_42 (by decide) (by decide) ⟨by omega, by omega⟩ (Nat.le_of_ble_eq_true rfl) (fun _ => ?_) (fun h => absurd h (Nat.lt_irrefl 0))
  refine or_top (y := nI (w 4 4)) (by rw [hw]) ?_
  refine or_iaddN E dL_begun_45 ?_
  refine or_istore E dL_begun_46 (by decide) ?_
  refine or_aload_n E rfl dL_begun_48 ?_
  refine or_iconst (v := nI 5) E rfl dL_begun_49 ?_
  refine or_bipush (v := nI 6) E rfl dL_begun_50 ?_
  refine or_fT3r (tL_pick (Z := Z) (k := 5) (n := 6) (by omega) (by omega) (by omega)) E G F lk_120_27 dL_begun_52 (by decide) (by decide) ⟨by omega, by omega⟩ (Nat.le_of_ble_eq_true rfl) (fun _ => ?_) (fun h => absurd h (Nat.lt_irrefl 0))
  refine or_top (y := nI (w 5 6)) (by rw [hw]) ?_
  refine or_istore E dL_begun_55 (by decide) ?_
  refine or_b0 E G F dL_begun_57 dL_begun_60 dL_begun_61 g0 (a := Z 4) (La := gl_tx 4) (Or.inl ⟨4, by decide, rfl, rfl, rfl⟩) (by decide) (by omega) (by omega) (fun h1 o25 b25 q25 => ?_)
  obtain ⟨S25, I25, V25, z25⟩ := h1
  refine or_ldcS E (og_12 G 4 rfl) dL_begun_64 ?_
  refine or_bS E G F dL_begun_66 q25 (by decide) (by simp only [List.length_append, List.length_nil]; omega) (by decide) (by omega) (by omega) (fun h1 b26 q26 => ?_)
  obtain ⟨S26, I26, V26, z26⟩ := h1
  refine or_iload_n E rfl dL_begun_69 ?_
  have dl_27 := (dl_len (v := 5 + (w 0 30)) (by omega)).2
  refine or_bI E G F dL_begun_70 q26 (by omega) (by simp only [List.length_append, List.length_nil]; omega) (by decide) (by omega) (by omega) (fun h1 b27 q27 => ?_)
  obtain ⟨S27, I27, V27, z27⟩ := h1
  refine or_ldcS E (og_12 G 5 rfl) dL_begun_73 ?_
  refine or_bS E G F dL_begun_75 q27 (by decide) (by simp only [List.length_append, List.length_nil]; omega) (by decide) (by omega) (by omega) (fun h1 b28 q28 => ?_)
  obtain ⟨S28, I28, V28, z28⟩ := h1
  refine or_iload_n E rfl dL_begun_78 ?_
  have dl_29 := (dl_len (v := 1 + (w 1 (5 + (w 0 30)))) (by omega)).2
  refine or_bI E G F dL_begun_79 q28 (by omega) (by simp only [List.length_append, List.length_nil]; omega) (by decide) (by omega) (by omega) (fun h1 b29 q29 => ?_)
  obtain ⟨S29, I29, V29, z29⟩ := h1
  refine or_ldcS E (og_12 G 5 rfl) dL_begun_82 ?_
  refine or_bS E G F dL_begun_84 q29 (by decide) (by simp only [List.length_append, List.length_nil]; omega) (by decide) (by omega) (by omega) (fun h1 b30 q30 => ?_)
  obtain ⟨S30, I30, V30, z30⟩ := h1
  refine or_iload E rfl dL_begun_87 ?_
  have dl_31 := (dl_len (v := 1 + (w 2 4)) (by omega)).2
  refine or_bI E G F dL_begun_89 q30 (by omega) (by simp only [List.length_append, List.length_nil]; omega) (by decide) (by omega) (by omega) (fun h1 b31 q31 => ?_)
  obtain ⟨S31, I31, V31, z31⟩ := h1
  refine or_ldcS E (og_12 G 5 rfl) dL_begun_92 ?_
  refine or_bS E G F dL_begun_94 q31 (by decide) (by simp only [List.length_append, List.length_nil]; omega) (by decide) (by omega) (by omega) (fun h1 b32 q32 => ?_)
  obtain ⟨S32, I32, V32, z32⟩ := h1
  refine or_iconst (v := nI 1) E rfl dL_begun_97 ?_
  refine or_aload_n E rfl dL_begun_98 ?_
  refine or_bipush (v := nI 6) E rfl dL_begun_99 ?_
  refine or_bipush (v := nI 30) E rfl dL_begun_101 ?_
  refine or_fT3r (tL_pick (Z := Z) (k := 6) (n := 30) (by omega) (by omega) (by omega)) E G F lk_120_27 dL_begun_103 (by decide) (by decide) ⟨by omega, by omega⟩ (Nat.le_of_ble_eq_true rfl) (fun _ => ?_) (fun h => absurd h (Nat.lt_irrefl 0))
  refine or_top (y := nI (w 6 30)) (by rw [hw]) ?_
  refine or_iaddN E dL_begun_106 ?_
  have dl_33 := (dl_len (v := 1 + (w 6 30)) (by omega)).2
  refine or_bI E G F dL_begun_107 q32 (by omega) (by simp only [List.length_append, List.length_nil]; omega) (by decide) (by omega) (by omega) (fun h1 b33 q33 => ?_)
  obtain ⟨S33, I33, V33, z33⟩ := h1
  refine or_ldcS E (og_12 G 5 rfl) dL_begun_110 ?_
  refine or_bS E G F dL_begun_112 q33 (by decide) (by simp only [List.length_append, List.length_nil]; omega) (by decide) (by omega) (by omega) (fun h1 b34 q34 => ?_)
  obtain ⟨S34, I34, V34, z34⟩ := h1
  refine or_iload E rfl dL_begun_115 ?_
  have dl_35 := (dl_len (v := w 3 51) (by omega)).2
  refine or_bI E G F dL_begun_117 q34 (by omega) (by simp only [List.length_append, List.length_nil]; omega) (by decide) (by omega) (by omega) (fun h1 b35 q35 => ?_)
  obtain ⟨S35, I35, V35, z35⟩ := h1
  refine or_ldcS E (og_12 G 6 rfl) dL_begun_120 ?_
  refine or_bS E G F dL_begun_122 q35 (by decide) (by simp only [List.length_append, List.length_nil]; omega) (by decide) (by omega) (by omega) (fun h1 b36 q36 => ?_)
  obtain ⟨S36, I36, V36, z36⟩ := h1
  refine or_bT E G F dL_begun_125 q36 (by simp only [List.length_append, List.length_nil]; omega) (ok_a (ok_a (ok_a (ok_a (ok_a (ok_a (ok_a (ok_a (ok_a (ok_a (ok_a ok_n (ok_g 3 (by decide))) (dl_128 _ (by omega))) (ok_g 4 (by decide))) (dl_128 _ (by omega))) (ok_g 4 (by decide))) (dl_128 _ (by omega))) (ok_g 4 (by decide))) (dl_128 _ (by omega))) (ok_g 4 (by decide))) (dl_128 _ (by omega))) (ok_g 5 (by decide))) (by decide) (by omega) (by omega) (fun h1 a37 g37 f37 l37 => ?_)
  obtain ⟨S37, I37, V37, z37⟩ := h1
  refine or_astore E dL_begun_128 (by decide) ?_
  refine or_iconst (v := nI 0) E rfl dL_begun_130 ?_
  refine or_istore E dL_begun_131 (by decide) ?_
  exact or_wd (by omega) (by omega) (or_lv _ rfl (L133 (w 4 4 + 2) 0 _ a37 (by omega) g37 f37 (by rw [← hz0]; exact l37) (by omega)))
