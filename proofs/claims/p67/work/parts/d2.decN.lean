theorem dL_acted_0 : decode cL_acted 0 = .ok (.aload_n 0, 1) := by decide +kernel
theorem dL_acted_1 : decode cL_acted 1 = .ok (.invokevirtual 177, 3) := by decide +kernel
theorem dL_acted_4 : decode cL_acted 4 = .ok (.istore 4, 2) := by decide +kernel
theorem dL_acted_6 : decode cL_acted 6 = .ok (.aload_n 2, 1) := by decide +kernel
theorem dL_acted_7 : decode cL_acted 7 = .ok (.iload_n 3, 1) := by decide +kernel
theorem dL_acted_8 : decode cL_acted 8 = .ok (.iconst 1, 1) := by decide +kernel
theorem dL_acted_9 : decode cL_acted 9 = .ok (.iadd, 1) := by decide +kernel
theorem dL_acted_10 : decode cL_acted 10 = .ok (.aload_n 0, 1) := by decide +kernel
theorem dL_acted_11 : decode cL_acted 11 = .ok (.invokevirtual 63, 3) := by decide +kernel
theorem dL_acted_14 : decode cL_acted 14 = .ok (.invokestatic 27, 3) := by decide +kernel
theorem dL_acted_17 : decode cL_acted 17 = .ok (.istore 5, 2) := by decide +kernel
theorem dL_acted_19 : decode cL_acted 19 = .ok (.iload 4, 2) := by decide +kernel
theorem dL_acted_21 : decode cL_acted 21 = .ok (.ifCond .ne 7, 3) := by decide +kernel
theorem dL_acted_24 : decode cL_acted 24 = .ok (.iconst (-1), 1) := by decide +kernel
theorem dL_acted_25 : decode cL_acted 25 = .ok (.goto 12, 3) := by decide +kernel
theorem dL_acted_28 : decode cL_acted 28 = .ok (.aload_n 2, 1) := by decide +kernel
theorem dL_acted_29 : decode cL_acted 29 = .ok (.iload_n 3, 1) := by decide +kernel
theorem dL_acted_30 : decode cL_acted 30 = .ok (.iconst 2, 1) := by decide +kernel
theorem dL_acted_31 : decode cL_acted 31 = .ok (.iadd, 1) := by decide +kernel
theorem dL_acted_32 : decode cL_acted 32 = .ok (.iload 4, 2) := by decide +kernel
theorem dL_acted_34 : decode cL_acted 34 = .ok (.invokestatic 27, 3) := by decide +kernel
theorem dL_acted_37 : decode cL_acted 37 = .ok (.istore 6, 2) := by decide +kernel
theorem dL_acted_39 : decode cL_acted 39 = .ok (.aload_n 2, 1) := by decide +kernel
theorem dL_acted_40 : decode cL_acted 40 = .ok (.iload_n 3, 1) := by decide +kernel
theorem dL_acted_41 : decode cL_acted 41 = .ok (.bipush 14, 2) := by decide +kernel
theorem dL_acted_43 : decode cL_acted 43 = .ok (.invokestatic 27, 3) := by decide +kernel
theorem dL_acted_46 : decode cL_acted 46 = .ok (.istore 7, 2) := by decide +kernel
theorem dL_acted_48 : decode cL_acted 48 = .ok (.iload 6, 2) := by decide +kernel
theorem dL_acted_50 : decode cL_acted 50 = .ok (.ifCond .lt 8, 3) := by decide +kernel
theorem dL_acted_53 : decode cL_acted 53 = .ok (.iload 7, 2) := by decide +kernel
theorem dL_acted_55 : decode cL_acted 55 = .ok (.ifCond .ne 115, 3) := by decide +kernel
theorem dL_acted_58 : decode cL_acted 58 = .ok (.iload 4, 2) := by decide +kernel
theorem dL_acted_60 : decode cL_acted 60 = .ok (.bipush 20, 2) := by decide +kernel
theorem dL_acted_62 : decode cL_acted 62 = .ok (.if_icmp .ne 5, 3) := by decide +kernel
theorem dL_acted_65 : decode cL_acted 65 = .ok (.iconst 1, 1) := by decide +kernel
theorem dL_acted_66 : decode cL_acted 66 = .ok (.ireturn, 1) := by decide +kernel
theorem dL_acted_67 : decode cL_acted 67 = .ok (.iconst 1, 1) := by decide +kernel
theorem dL_acted_68 : decode cL_acted 68 = .ok (.aload_n 2, 1) := by decide +kernel
theorem dL_acted_69 : decode cL_acted 69 = .ok (.iload_n 3, 1) := by decide +kernel
theorem dL_acted_70 : decode cL_acted 70 = .ok (.iconst 1, 1) := by decide +kernel
theorem dL_acted_71 : decode cL_acted 71 = .ok (.iadd, 1) := by decide +kernel
theorem dL_acted_72 : decode cL_acted 72 = .ok (.bipush 9, 2) := by decide +kernel
theorem dL_acted_74 : decode cL_acted 74 = .ok (.invokestatic 27, 3) := by decide +kernel
theorem dL_acted_77 : decode cL_acted 77 = .ok (.iadd, 1) := by decide +kernel
theorem dL_acted_78 : decode cL_acted 78 = .ok (.istore 8, 2) := by decide +kernel
theorem dL_acted_80 : decode cL_acted 80 = .ok (.bipush 10, 2) := by decide +kernel
theorem dL_acted_82 : decode cL_acted 82 = .ok (.aload_n 2, 1) := by decide +kernel
theorem dL_acted_83 : decode cL_acted 83 = .ok (.iload_n 3, 1) := by decide +kernel
theorem dL_acted_84 : decode cL_acted 84 = .ok (.iconst 2, 1) := by decide +kernel
theorem dL_acted_85 : decode cL_acted 85 = .ok (.iadd, 1) := by decide +kernel
theorem dL_acted_86 : decode cL_acted 86 = .ok (.sipush 141, 3) := by decide +kernel
theorem dL_acted_89 : decode cL_acted 89 = .ok (.invokestatic 27, 3) := by decide +kernel
theorem dL_acted_92 : decode cL_acted 92 = .ok (.iadd, 1) := by decide +kernel
theorem dL_acted_93 : decode cL_acted 93 = .ok (.istore 9, 2) := by decide +kernel
theorem dL_acted_95 : decode cL_acted 95 = .ok (.aload_n 0, 1) := by decide +kernel
theorem dL_acted_96 : decode cL_acted 96 = .ok (.iconst 1, 1) := by decide +kernel
theorem dL_acted_97 : decode cL_acted 97 = .ok (.aload_n 2, 1) := by decide +kernel
theorem dL_acted_98 : decode cL_acted 98 = .ok (.iload_n 3, 1) := by decide +kernel
theorem dL_acted_99 : decode cL_acted 99 = .ok (.iconst 1, 1) := by decide +kernel
theorem dL_acted_100 : decode cL_acted 100 = .ok (.iadd, 1) := by decide +kernel
theorem dL_acted_101 : decode cL_acted 101 = .ok (.bipush 90, 2) := by decide +kernel
theorem dL_acted_103 : decode cL_acted 103 = .ok (.invokestatic 27, 3) := by decide +kernel
theorem dL_acted_106 : decode cL_acted 106 = .ok (.iadd, 1) := by decide +kernel
theorem dL_acted_107 : decode cL_acted 107 = .ok (.iload 8, 2) := by decide +kernel
theorem dL_acted_109 : decode cL_acted 109 = .ok (.iload 9, 2) := by decide +kernel
theorem dL_acted_111 : decode cL_acted 111 = .ok (.invokevirtual 186, 3) := by decide +kernel
theorem dL_acted_114 : decode cL_acted 114 = .ok (.iload 4, 2) := by decide +kernel
theorem dL_acted_116 : decode cL_acted 116 = .ok (.if_icmp .ne 52, 3) := by decide +kernel
theorem dL_acted_119 : decode cL_acted 119 = .ok (.aload_n 0, 1) := by decide +kernel
theorem dL_acted_120 : decode cL_acted 120 = .ok (.iload 4, 2) := by decide +kernel
theorem dL_acted_122 : decode cL_acted 122 = .ok (.invokevirtual 79, 3) := by decide +kernel
theorem dL_acted_125 : decode cL_acted 125 = .ok (.iload 8, 2) := by decide +kernel
theorem dL_acted_127 : decode cL_acted 127 = .ok (.if_icmp .ne 41, 3) := by decide +kernel
theorem dL_acted_130 : decode cL_acted 130 = .ok (.aload_n 0, 1) := by decide +kernel
theorem dL_acted_131 : decode cL_acted 131 = .ok (.iload 4, 2) := by decide +kernel
theorem dL_acted_133 : decode cL_acted 133 = .ok (.invokevirtual 180, 3) := by decide +kernel
theorem dL_acted_136 : decode cL_acted 136 = .ok (.iload 8, 2) := by decide +kernel
theorem dL_acted_138 : decode cL_acted 138 = .ok (.iload 9, 2) := by decide +kernel
theorem dL_acted_140 : decode cL_acted 140 = .ok (.imul, 1) := by decide +kernel
theorem dL_acted_141 : decode cL_acted 141 = .ok (.if_icmp .ne 27, 3) := by decide +kernel
theorem dL_acted_144 : decode cL_acted 144 = .ok (.aload_n 0, 1) := by decide +kernel
theorem dL_acted_145 : decode cL_acted 145 = .ok (.iload 4, 2) := by decide +kernel
theorem dL_acted_147 : decode cL_acted 147 = .ok (.invokevirtual 190, 3) := by decide +kernel
theorem dL_acted_150 : decode cL_acted 150 = .ok (.iload 9, 2) := by decide +kernel
theorem dL_acted_152 : decode cL_acted 152 = .ok (.if_icmp .ne 16, 3) := by decide +kernel
theorem dL_acted_155 : decode cL_acted 155 = .ok (.aload_n 0, 1) := by decide +kernel
theorem dL_acted_156 : decode cL_acted 156 = .ok (.iload 4, 2) := by decide +kernel
theorem dL_acted_158 : decode cL_acted 158 = .ok (.invokevirtual 157, 3) := by decide +kernel
theorem dL_acted_161 : decode cL_acted 161 = .ok (.ifCond .ne 7, 3) := by decide +kernel
theorem dL_acted_164 : decode cL_acted 164 = .ok (.iconst 1, 1) := by decide +kernel
theorem dL_acted_165 : decode cL_acted 165 = .ok (.goto 4, 3) := by decide +kernel
theorem dL_acted_168 : decode cL_acted 168 = .ok (.iconst 0, 1) := by decide +kernel
theorem dL_acted_169 : decode cL_acted 169 = .ok (.ireturn, 1) := by decide +kernel
theorem dL_acted_170 : decode cL_acted 170 = .ok (.iload 7, 2) := by decide +kernel
theorem dL_acted_172 : decode cL_acted 172 = .ok (.tableswitch 370 1 6 #[40, 40, 164, 182, 248, 299], 40) := by decide +kernel
theorem dL_acted_212 : decode cL_acted 212 = .ok (.aload_n 0, 1) := by decide +kernel
theorem dL_acted_213 : decode cL_acted 213 = .ok (.aload_n 1, 1) := by decide +kernel
theorem dL_acted_214 : decode cL_acted 214 = .ok (.iload 5, 2) := by decide +kernel
theorem dL_acted_216 : decode cL_acted 216 = .ok (.invokestatic 125, 3) := by decide +kernel
theorem dL_acted_219 : decode cL_acted 219 = .ok (.istore 8, 2) := by decide +kernel
theorem dL_acted_221 : decode cL_acted 221 = .ok (.aload_n 0, 1) := by decide +kernel
theorem dL_acted_222 : decode cL_acted 222 = .ok (.invokevirtual 133, 3) := by decide +kernel
theorem dL_acted_225 : decode cL_acted 225 = .ok (.istore 9, 2) := by decide +kernel
theorem dL_acted_227 : decode cL_acted 227 = .ok (.aload_n 0, 1) := by decide +kernel
theorem dL_acted_228 : decode cL_acted 228 = .ok (.iload 5, 2) := by decide +kernel
theorem dL_acted_230 : decode cL_acted 230 = .ok (.invokevirtual 193, 3) := by decide +kernel
theorem dL_acted_233 : decode cL_acted 233 = .ok (.istore 10, 2) := by decide +kernel
theorem dL_acted_235 : decode cL_acted 235 = .ok (.aload_n 0, 1) := by decide +kernel
theorem dL_acted_236 : decode cL_acted 236 = .ok (.iload 5, 2) := by decide +kernel
theorem dL_acted_238 : decode cL_acted 238 = .ok (.invokevirtual 196, 3) := by decide +kernel
theorem dL_acted_241 : decode cL_acted 241 = .ok (.iload 8, 2) := by decide +kernel
theorem dL_acted_243 : decode cL_acted 243 = .ok (.if_icmp .eq 5, 3) := by decide +kernel
theorem dL_acted_246 : decode cL_acted 246 = .ok (.iconst 0, 1) := by decide +kernel
theorem dL_acted_247 : decode cL_acted 247 = .ok (.ireturn, 1) := by decide +kernel
theorem dL_acted_248 : decode cL_acted 248 = .ok (.iload 8, 2) := by decide +kernel
theorem dL_acted_250 : decode cL_acted 250 = .ok (.ifCond .le 31, 3) := by decide +kernel
theorem dL_acted_253 : decode cL_acted 253 = .ok (.aload_n 0, 1) := by decide +kernel
theorem dL_acted_254 : decode cL_acted 254 = .ok (.iload 5, 2) := by decide +kernel
theorem dL_acted_256 : decode cL_acted 256 = .ok (.invokestatic 199, 3) := by decide +kernel
theorem dL_acted_259 : decode cL_acted 259 = .ok (.bipush (-100), 2) := by decide +kernel
theorem dL_acted_261 : decode cL_acted 261 = .ok (.if_icmp .ne 18, 3) := by decide +kernel
theorem dL_acted_264 : decode cL_acted 264 = .ok (.aload_n 0, 1) := by decide +kernel
theorem dL_acted_265 : decode cL_acted 265 = .ok (.iload 5, 2) := by decide +kernel
theorem dL_acted_267 : decode cL_acted 267 = .ok (.invokevirtual 193, 3) := by decide +kernel
theorem dL_acted_270 : decode cL_acted 270 = .ok (.iload 10, 2) := by decide +kernel
theorem dL_acted_272 : decode cL_acted 272 = .ok (.if_icmp .ne 7, 3) := by decide +kernel
theorem dL_acted_275 : decode cL_acted 275 = .ok (.iconst 1, 1) := by decide +kernel
theorem dL_acted_276 : decode cL_acted 276 = .ok (.goto 4, 3) := by decide +kernel
theorem dL_acted_279 : decode cL_acted 279 = .ok (.iconst 0, 1) := by decide +kernel
theorem dL_acted_280 : decode cL_acted 280 = .ok (.ireturn, 1) := by decide +kernel
theorem dL_acted_281 : decode cL_acted 281 = .ok (.aload_n 0, 1) := by decide +kernel
theorem dL_acted_282 : decode cL_acted 282 = .ok (.iload 5, 2) := by decide +kernel
theorem dL_acted_284 : decode cL_acted 284 = .ok (.invokestatic 199, 3) := by decide +kernel
theorem dL_acted_287 : decode cL_acted 287 = .ok (.iload 9, 2) := by decide +kernel
theorem dL_acted_289 : decode cL_acted 289 = .ok (.if_icmp .ne 45, 3) := by decide +kernel
theorem dL_acted_292 : decode cL_acted 292 = .ok (.aload_n 0, 1) := by decide +kernel
theorem dL_acted_293 : decode cL_acted 293 = .ok (.invokevirtual 106, 3) := by decide +kernel
theorem dL_acted_296 : decode cL_acted 296 = .ok (.iload 5, 2) := by decide +kernel
theorem dL_acted_298 : decode cL_acted 298 = .ok (.if_icmp .ne 36, 3) := by decide +kernel
theorem dL_acted_301 : decode cL_acted 301 = .ok (.aload_n 0, 1) := by decide +kernel
theorem dL_acted_302 : decode cL_acted 302 = .ok (.invokevirtual 112, 3) := by decide +kernel
theorem dL_acted_305 : decode cL_acted 305 = .ok (.iload 9, 2) := by decide +kernel
theorem dL_acted_307 : decode cL_acted 307 = .ok (.if_icmp .ne 27, 3) := by decide +kernel
theorem dL_acted_310 : decode cL_acted 310 = .ok (.aload_n 0, 1) := by decide +kernel
theorem dL_acted_311 : decode cL_acted 311 = .ok (.invokevirtual 136, 3) := by decide +kernel
theorem dL_acted_314 : decode cL_acted 314 = .ok (.ifCond .ne 20, 3) := by decide +kernel
theorem dL_acted_317 : decode cL_acted 317 = .ok (.aload_n 0, 1) := by decide +kernel
theorem dL_acted_318 : decode cL_acted 318 = .ok (.iload 5, 2) := by decide +kernel
theorem dL_acted_320 : decode cL_acted 320 = .ok (.invokevirtual 193, 3) := by decide +kernel
theorem dL_acted_323 : decode cL_acted 323 = .ok (.iload 10, 2) := by decide +kernel
theorem dL_acted_325 : decode cL_acted 325 = .ok (.iconst 1, 1) := by decide +kernel
theorem dL_acted_326 : decode cL_acted 326 = .ok (.iadd, 1) := by decide +kernel
theorem dL_acted_327 : decode cL_acted 327 = .ok (.if_icmp .ne 7, 3) := by decide +kernel
theorem dL_acted_330 : decode cL_acted 330 = .ok (.iconst 1, 1) := by decide +kernel
theorem dL_acted_331 : decode cL_acted 331 = .ok (.goto 4, 3) := by decide +kernel
theorem dL_acted_334 : decode cL_acted 334 = .ok (.iconst 0, 1) := by decide +kernel
theorem dL_acted_335 : decode cL_acted 335 = .ok (.ireturn, 1) := by decide +kernel
theorem dL_acted_336 : decode cL_acted 336 = .ok (.aload_n 0, 1) := by decide +kernel
theorem dL_acted_337 : decode cL_acted 337 = .ok (.iload 6, 2) := by decide +kernel
theorem dL_acted_339 : decode cL_acted 339 = .ok (.iconst 1, 1) := by decide +kernel
theorem dL_acted_340 : decode cL_acted 340 = .ok (.aload_n 2, 1) := by decide +kernel
theorem dL_acted_341 : decode cL_acted 341 = .ok (.iload_n 3, 1) := by decide +kernel
theorem dL_acted_342 : decode cL_acted 342 = .ok (.iconst 1, 1) := by decide +kernel
theorem dL_acted_343 : decode cL_acted 343 = .ok (.iadd, 1) := by decide +kernel
theorem dL_acted_344 : decode cL_acted 344 = .ok (.bipush 8, 2) := by decide +kernel
theorem dL_acted_346 : decode cL_acted 346 = .ok (.invokestatic 27, 3) := by decide +kernel
theorem dL_acted_349 : decode cL_acted 349 = .ok (.iadd, 1) := by decide +kernel
theorem dL_acted_350 : decode cL_acted 350 = .ok (.invokestatic 202, 3) := by decide +kernel
theorem dL_acted_353 : decode cL_acted 353 = .ok (.ireturn, 1) := by decide +kernel
theorem dL_acted_354 : decode cL_acted 354 = .ok (.aload_n 0, 1) := by decide +kernel
theorem dL_acted_355 : decode cL_acted 355 = .ok (.iload 6, 2) := by decide +kernel
theorem dL_acted_357 : decode cL_acted 357 = .ok (.invokevirtual 157, 3) := by decide +kernel
theorem dL_acted_360 : decode cL_acted 360 = .ok (.ifCond .ne 7, 3) := by decide +kernel
theorem dL_acted_363 : decode cL_acted 363 = .ok (.iconst 1, 1) := by decide +kernel
theorem dL_acted_364 : decode cL_acted 364 = .ok (.goto 4, 3) := by decide +kernel
theorem dL_acted_367 : decode cL_acted 367 = .ok (.iconst 0, 1) := by decide +kernel
theorem dL_acted_368 : decode cL_acted 368 = .ok (.istore 11, 2) := by decide +kernel
theorem dL_acted_370 : decode cL_acted 370 = .ok (.aload_n 0, 1) := by decide +kernel
theorem dL_acted_371 : decode cL_acted 371 = .ok (.invokevirtual 66, 3) := by decide +kernel
theorem dL_acted_374 : decode cL_acted 374 = .ok (.istore 12, 2) := by decide +kernel
theorem dL_acted_376 : decode cL_acted 376 = .ok (.aload_n 0, 1) := by decide +kernel
theorem dL_acted_377 : decode cL_acted 377 = .ok (.iload 6, 2) := by decide +kernel
theorem dL_acted_379 : decode cL_acted 379 = .ok (.invokestatic 206, 3) := by decide +kernel
theorem dL_acted_382 : decode cL_acted 382 = .ok (.iload 11, 2) := by decide +kernel
theorem dL_acted_384 : decode cL_acted 384 = .ok (.ifCond .eq 10, 3) := by decide +kernel
theorem dL_acted_387 : decode cL_acted 387 = .ok (.iload 12, 2) := by decide +kernel
theorem dL_acted_389 : decode cL_acted 389 = .ok (.iconst 1, 1) := by decide +kernel
theorem dL_acted_390 : decode cL_acted 390 = .ok (.isub, 1) := by decide +kernel
theorem dL_acted_391 : decode cL_acted 391 = .ok (.goto 5, 3) := by decide +kernel
theorem dL_acted_394 : decode cL_acted 394 = .ok (.bipush (-100), 2) := by decide +kernel
theorem dL_acted_396 : decode cL_acted 396 = .ok (.if_icmp .ne 22, 3) := by decide +kernel
theorem dL_acted_399 : decode cL_acted 399 = .ok (.iload 11, 2) := by decide +kernel
theorem dL_acted_401 : decode cL_acted 401 = .ok (.ifCond .eq 13, 3) := by decide +kernel
theorem dL_acted_404 : decode cL_acted 404 = .ok (.aload_n 0, 1) := by decide +kernel
theorem dL_acted_405 : decode cL_acted 405 = .ok (.iload 6, 2) := by decide +kernel
theorem dL_acted_407 : decode cL_acted 407 = .ok (.invokevirtual 157, 3) := by decide +kernel
theorem dL_acted_410 : decode cL_acted 410 = .ok (.iconst 3, 1) := by decide +kernel
theorem dL_acted_411 : decode cL_acted 411 = .ok (.if_icmp .ne 7, 3) := by decide +kernel
theorem dL_acted_414 : decode cL_acted 414 = .ok (.iconst 1, 1) := by decide +kernel
theorem dL_acted_415 : decode cL_acted 415 = .ok (.goto 4, 3) := by decide +kernel
theorem dL_acted_418 : decode cL_acted 418 = .ok (.iconst 0, 1) := by decide +kernel
theorem dL_acted_419 : decode cL_acted 419 = .ok (.ireturn, 1) := by decide +kernel
theorem dL_acted_420 : decode cL_acted 420 = .ok (.aload_n 0, 1) := by decide +kernel
theorem dL_acted_421 : decode cL_acted 421 = .ok (.iload 5, 2) := by decide +kernel
theorem dL_acted_423 : decode cL_acted 423 = .ok (.invokevirtual 118, 3) := by decide +kernel
theorem dL_acted_426 : decode cL_acted 426 = .ok (.istore 13, 2) := by decide +kernel
theorem dL_acted_428 : decode cL_acted 428 = .ok (.iconst 1, 1) := by decide +kernel
theorem dL_acted_429 : decode cL_acted 429 = .ok (.aload_n 2, 1) := by decide +kernel
theorem dL_acted_430 : decode cL_acted 430 = .ok (.iload_n 3, 1) := by decide +kernel
theorem dL_acted_431 : decode cL_acted 431 = .ok (.iconst 2, 1) := by decide +kernel
theorem dL_acted_432 : decode cL_acted 432 = .ok (.iadd, 1) := by decide +kernel
theorem dL_acted_433 : decode cL_acted 433 = .ok (.sipush 300, 3) := by decide +kernel
theorem dL_acted_436 : decode cL_acted 436 = .ok (.invokestatic 27, 3) := by decide +kernel
theorem dL_acted_439 : decode cL_acted 439 = .ok (.iadd, 1) := by decide +kernel
theorem dL_acted_440 : decode cL_acted 440 = .ok (.istore 14, 2) := by decide +kernel
theorem dL_acted_442 : decode cL_acted 442 = .ok (.aload_n 0, 1) := by decide +kernel
theorem dL_acted_443 : decode cL_acted 443 = .ok (.iload 5, 2) := by decide +kernel
theorem dL_acted_445 : decode cL_acted 445 = .ok (.iload 14, 2) := by decide +kernel
theorem dL_acted_447 : decode cL_acted 447 = .ok (.invokevirtual 208, 3) := by decide +kernel
theorem dL_acted_450 : decode cL_acted 450 = .ok (.iload 13, 2) := by decide +kernel
theorem dL_acted_452 : decode cL_acted 452 = .ok (.iload 14, 2) := by decide +kernel
theorem dL_acted_454 : decode cL_acted 454 = .ok (.iadd, 1) := by decide +kernel
theorem dL_acted_455 : decode cL_acted 455 = .ok (.if_icmp .ne 14, 3) := by decide +kernel
theorem dL_acted_458 : decode cL_acted 458 = .ok (.aload_n 0, 1) := by decide +kernel
theorem dL_acted_459 : decode cL_acted 459 = .ok (.invokevirtual 211, 3) := by decide +kernel
theorem dL_acted_462 : decode cL_acted 462 = .ok (.ifCond .ne 7, 3) := by decide +kernel
theorem dL_acted_465 : decode cL_acted 465 = .ok (.iconst 1, 1) := by decide +kernel
theorem dL_acted_466 : decode cL_acted 466 = .ok (.goto 4, 3) := by decide +kernel
theorem dL_acted_469 : decode cL_acted 469 = .ok (.iconst 0, 1) := by decide +kernel
theorem dL_acted_470 : decode cL_acted 470 = .ok (.ireturn, 1) := by decide +kernel
theorem dL_acted_471 : decode cL_acted 471 = .ok (.aload_n 0, 1) := by decide +kernel
theorem dL_acted_472 : decode cL_acted 472 = .ok (.invokevirtual 115, 3) := by decide +kernel
theorem dL_acted_475 : decode cL_acted 475 = .ok (.istore 15, 2) := by decide +kernel
theorem dL_acted_477 : decode cL_acted 477 = .ok (.aload_n 0, 1) := by decide +kernel
theorem dL_acted_478 : decode cL_acted 478 = .ok (.iload 5, 2) := by decide +kernel
theorem dL_acted_480 : decode cL_acted 480 = .ok (.invokevirtual 93, 3) := by decide +kernel
theorem dL_acted_483 : decode cL_acted 483 = .ok (.istore 16, 2) := by decide +kernel
theorem dL_acted_485 : decode cL_acted 485 = .ok (.aload_n 0, 1) := by decide +kernel
theorem dL_acted_486 : decode cL_acted 486 = .ok (.iconst 1, 1) := by decide +kernel
theorem dL_acted_487 : decode cL_acted 487 = .ok (.aload_n 2, 1) := by decide +kernel
theorem dL_acted_488 : decode cL_acted 488 = .ok (.iload_n 3, 1) := by decide +kernel
theorem dL_acted_489 : decode cL_acted 489 = .ok (.iconst 2, 1) := by decide +kernel
theorem dL_acted_490 : decode cL_acted 490 = .ok (.iadd, 1) := by decide +kernel
theorem dL_acted_491 : decode cL_acted 491 = .ok (.bipush 50, 2) := by decide +kernel
theorem dL_acted_493 : decode cL_acted 493 = .ok (.invokestatic 27, 3) := by decide +kernel
theorem dL_acted_496 : decode cL_acted 496 = .ok (.iadd, 1) := by decide +kernel
theorem dL_acted_497 : decode cL_acted 497 = .ok (.invokevirtual 214, 3) := by decide +kernel
theorem dL_acted_500 : decode cL_acted 500 = .ok (.iload 15, 2) := by decide +kernel
theorem dL_acted_502 : decode cL_acted 502 = .ok (.if_icmp .ne 38, 3) := by decide +kernel
theorem dL_acted_505 : decode cL_acted 505 = .ok (.aload_n 0, 1) := by decide +kernel
theorem dL_acted_506 : decode cL_acted 506 = .ok (.iload 5, 2) := by decide +kernel
theorem dL_acted_508 : decode cL_acted 508 = .ok (.aload_n 2, 1) := by decide +kernel
theorem dL_acted_509 : decode cL_acted 509 = .ok (.iload_n 3, 1) := by decide +kernel
theorem dL_acted_510 : decode cL_acted 510 = .ok (.iconst 1, 1) := by decide +kernel
theorem dL_acted_511 : decode cL_acted 511 = .ok (.iadd, 1) := by decide +kernel
theorem dL_acted_512 : decode cL_acted 512 = .ok (.iconst 5, 1) := by decide +kernel
theorem dL_acted_513 : decode cL_acted 513 = .ok (.invokestatic 27, 3) := by decide +kernel
theorem dL_acted_516 : decode cL_acted 516 = .ok (.iconst 1, 1) := by decide +kernel
theorem dL_acted_517 : decode cL_acted 517 = .ok (.aload_n 2, 1) := by decide +kernel
theorem dL_acted_518 : decode cL_acted 518 = .ok (.iload_n 3, 1) := by decide +kernel
theorem dL_acted_519 : decode cL_acted 519 = .ok (.iconst 2, 1) := by decide +kernel
theorem dL_acted_520 : decode cL_acted 520 = .ok (.iadd, 1) := by decide +kernel
theorem dL_acted_521 : decode cL_acted 521 = .ok (.sipush 200, 3) := by decide +kernel
theorem dL_acted_524 : decode cL_acted 524 = .ok (.invokestatic 27, 3) := by decide +kernel
theorem dL_acted_527 : decode cL_acted 527 = .ok (.iadd, 1) := by decide +kernel
theorem dL_acted_528 : decode cL_acted 528 = .ok (.invokevirtual 217, 3) := by decide +kernel
theorem dL_acted_531 : decode cL_acted 531 = .ok (.iload 16, 2) := by decide +kernel
theorem dL_acted_533 : decode cL_acted 533 = .ok (.if_icmp .ne 7, 3) := by decide +kernel
theorem dL_acted_536 : decode cL_acted 536 = .ok (.iconst 1, 1) := by decide +kernel
theorem dL_acted_537 : decode cL_acted 537 = .ok (.goto 4, 3) := by decide +kernel
theorem dL_acted_540 : decode cL_acted 540 = .ok (.iconst 0, 1) := by decide +kernel
theorem dL_acted_541 : decode cL_acted 541 = .ok (.ireturn, 1) := by decide +kernel
theorem dL_acted_542 : decode cL_acted 542 = .ok (.aload_n 2, 1) := by decide +kernel
theorem dL_acted_543 : decode cL_acted 543 = .ok (.iload_n 3, 1) := by decide +kernel
theorem dL_acted_544 : decode cL_acted 544 = .ok (.iconst 2, 1) := by decide +kernel
theorem dL_acted_545 : decode cL_acted 545 = .ok (.iadd, 1) := by decide +kernel
theorem dL_acted_546 : decode cL_acted 546 = .ok (.bipush 8, 2) := by decide +kernel
theorem dL_acted_548 : decode cL_acted 548 = .ok (.invokestatic 27, 3) := by decide +kernel
theorem dL_acted_551 : decode cL_acted 551 = .ok (.istore 17, 2) := by decide +kernel
theorem dL_acted_553 : decode cL_acted 553 = .ok (.iload 17, 2) := by decide +kernel
theorem dL_acted_555 : decode cL_acted 555 = .ok (.ifCond .lt 19, 3) := by decide +kernel
theorem dL_acted_558 : decode cL_acted 558 = .ok (.aload_n 0, 1) := by decide +kernel
theorem dL_acted_559 : decode cL_acted 559 = .ok (.aload_n 1, 1) := by decide +kernel
theorem dL_acted_560 : decode cL_acted 560 = .ok (.invokestatic 220, 3) := by decide +kernel
theorem dL_acted_563 : decode cL_acted 563 = .ok (.ifCond .ne 5, 3) := by decide +kernel
theorem dL_acted_566 : decode cL_acted 566 = .ok (.iconst 0, 1) := by decide +kernel
theorem dL_acted_567 : decode cL_acted 567 = .ok (.ireturn, 1) := by decide +kernel
theorem dL_acted_568 : decode cL_acted 568 = .ok (.iinc 17 (-1), 3) := by decide +kernel
theorem dL_acted_571 : decode cL_acted 571 = .ok (.goto (-18), 3) := by decide +kernel
theorem dL_acted_574 : decode cL_acted 574 = .ok (.aload_n 0, 1) := by decide +kernel
theorem dL_acted_575 : decode cL_acted 575 = .ok (.invokevirtual 223, 3) := by decide +kernel
theorem dL_acted_578 : decode cL_acted 578 = .ok (.aload_n 0, 1) := by decide +kernel
theorem dL_acted_579 : decode cL_acted 579 = .ok (.aload_n 1, 1) := by decide +kernel
theorem dL_acted_580 : decode cL_acted 580 = .ok (.invokestatic 226, 3) := by decide +kernel
theorem dL_acted_583 : decode cL_acted 583 = .ok (.if_icmp .ne 14, 3) := by decide +kernel
theorem dL_acted_586 : decode cL_acted 586 = .ok (.aload_n 0, 1) := by decide +kernel
theorem dL_acted_587 : decode cL_acted 587 = .ok (.invokevirtual 211, 3) := by decide +kernel
theorem dL_acted_590 : decode cL_acted 590 = .ok (.ifCond .ne 7, 3) := by decide +kernel
theorem dL_acted_593 : decode cL_acted 593 = .ok (.iconst 1, 1) := by decide +kernel
theorem dL_acted_594 : decode cL_acted 594 = .ok (.goto 4, 3) := by decide +kernel
theorem dL_acted_597 : decode cL_acted 597 = .ok (.iconst 0, 1) := by decide +kernel
theorem dL_acted_598 : decode cL_acted 598 = .ok (.ireturn, 1) := by decide +kernel
theorem dL_seen_0 : decode cL_seen 0 = .ok (.iconst 0, 1) := by decide +kernel
theorem dL_seen_1 : decode cL_seen 1 = .ok (.istore_n 1, 1) := by decide +kernel
theorem dL_seen_2 : decode cL_seen 2 = .ok (.iconst 0, 1) := by decide +kernel
theorem dL_seen_3 : decode cL_seen 3 = .ok (.istore_n 2, 1) := by decide +kernel
theorem dL_seen_4 : decode cL_seen 4 = .ok (.iconst 0, 1) := by decide +kernel
theorem dL_seen_5 : decode cL_seen 5 = .ok (.istore_n 3, 1) := by decide +kernel
theorem dL_seen_6 : decode cL_seen 6 = .ok (.iconst 0, 1) := by decide +kernel
theorem dL_seen_7 : decode cL_seen 7 = .ok (.istore 4, 2) := by decide +kernel
theorem dL_seen_9 : decode cL_seen 9 = .ok (.aload_n 0, 1) := by decide +kernel
theorem dL_seen_10 : decode cL_seen 10 = .ok (.invokevirtual 63, 3) := by decide +kernel
theorem dL_seen_13 : decode cL_seen 13 = .ok (.newarray .int, 2) := by decide +kernel
theorem dL_seen_15 : decode cL_seen 15 = .ok (.astore 5, 2) := by decide +kernel
theorem dL_seen_17 : decode cL_seen 17 = .ok (.iconst 0, 1) := by decide +kernel
theorem dL_seen_18 : decode cL_seen 18 = .ok (.istore 6, 2) := by decide +kernel
theorem dL_seen_20 : decode cL_seen 20 = .ok (.iload 6, 2) := by decide +kernel
theorem dL_seen_22 : decode cL_seen 22 = .ok (.aload_n 0, 1) := by decide +kernel
theorem dL_seen_23 : decode cL_seen 23 = .ok (.invokevirtual 177, 3) := by decide +kernel
theorem dL_seen_26 : decode cL_seen 26 = .ok (.if_icmp .ge 339, 3) := by decide +kernel
theorem dL_seen_29 : decode cL_seen 29 = .ok (.iconst 0, 1) := by decide +kernel
theorem dL_seen_30 : decode cL_seen 30 = .ok (.istore 7, 2) := by decide +kernel
theorem dL_seen_32 : decode cL_seen 32 = .ok (.aload_n 0, 1) := by decide +kernel
theorem dL_seen_33 : decode cL_seen 33 = .ok (.iload 6, 2) := by decide +kernel
theorem dL_seen_35 : decode cL_seen 35 = .ok (.invokevirtual 79, 3) := by decide +kernel
theorem dL_seen_38 : decode cL_seen 38 = .ok (.istore 8, 2) := by decide +kernel
theorem dL_seen_40 : decode cL_seen 40 = .ok (.iload 8, 2) := by decide +kernel
theorem dL_seen_42 : decode cL_seen 42 = .ok (.newarray .int, 2) := by decide +kernel
theorem dL_seen_44 : decode cL_seen 44 = .ok (.astore 9, 2) := by decide +kernel
theorem dL_seen_46 : decode cL_seen 46 = .ok (.iconst 0, 1) := by decide +kernel
theorem dL_seen_47 : decode cL_seen 47 = .ok (.istore 10, 2) := by decide +kernel
theorem dL_seen_49 : decode cL_seen 49 = .ok (.iload 10, 2) := by decide +kernel
theorem dL_seen_51 : decode cL_seen 51 = .ok (.iload 8, 2) := by decide +kernel
theorem dL_seen_53 : decode cL_seen 53 = .ok (.if_icmp .ge 78, 3) := by decide +kernel
theorem dL_seen_56 : decode cL_seen 56 = .ok (.iload 10, 2) := by decide +kernel
theorem dL_seen_58 : decode cL_seen 58 = .ok (.istore 11, 2) := by decide +kernel
theorem dL_seen_60 : decode cL_seen 60 = .ok (.iload 11, 2) := by decide +kernel
theorem dL_seen_62 : decode cL_seen 62 = .ok (.ifCond .le 39, 3) := by decide +kernel
theorem dL_seen_65 : decode cL_seen 65 = .ok (.aload 9, 2) := by decide +kernel
theorem dL_seen_67 : decode cL_seen 67 = .ok (.iload 11, 2) := by decide +kernel
theorem dL_seen_69 : decode cL_seen 69 = .ok (.iconst 1, 1) := by decide +kernel
theorem dL_seen_70 : decode cL_seen 70 = .ok (.isub, 1) := by decide +kernel
theorem dL_seen_71 : decode cL_seen 71 = .ok (.iaload, 1) := by decide +kernel
theorem dL_seen_72 : decode cL_seen 72 = .ok (.aload_n 0, 1) := by decide +kernel
theorem dL_seen_73 : decode cL_seen 73 = .ok (.iload 6, 2) := by decide +kernel
theorem dL_seen_75 : decode cL_seen 75 = .ok (.iload 10, 2) := by decide +kernel
theorem dL_seen_77 : decode cL_seen 77 = .ok (.invokevirtual 82, 3) := by decide +kernel
theorem dL_seen_80 : decode cL_seen 80 = .ok (.if_icmp .le 21, 3) := by decide +kernel
theorem dL_seen_83 : decode cL_seen 83 = .ok (.aload 9, 2) := by decide +kernel
theorem dL_seen_85 : decode cL_seen 85 = .ok (.iload 11, 2) := by decide +kernel
theorem dL_seen_87 : decode cL_seen 87 = .ok (.aload 9, 2) := by decide +kernel
theorem dL_seen_89 : decode cL_seen 89 = .ok (.iload 11, 2) := by decide +kernel
theorem dL_seen_91 : decode cL_seen 91 = .ok (.iconst 1, 1) := by decide +kernel
theorem dL_seen_92 : decode cL_seen 92 = .ok (.isub, 1) := by decide +kernel
theorem dL_seen_93 : decode cL_seen 93 = .ok (.iaload, 1) := by decide +kernel
theorem dL_seen_94 : decode cL_seen 94 = .ok (.iastore, 1) := by decide +kernel
theorem dL_seen_95 : decode cL_seen 95 = .ok (.iinc 11 (-1), 3) := by decide +kernel
theorem dL_seen_98 : decode cL_seen 98 = .ok (.goto (-38), 3) := by decide +kernel
theorem dL_seen_101 : decode cL_seen 101 = .ok (.aload 9, 2) := by decide +kernel
theorem dL_seen_103 : decode cL_seen 103 = .ok (.iload 11, 2) := by decide +kernel
theorem dL_seen_105 : decode cL_seen 105 = .ok (.aload_n 0, 1) := by decide +kernel
theorem dL_seen_106 : decode cL_seen 106 = .ok (.iload 6, 2) := by decide +kernel
theorem dL_seen_108 : decode cL_seen 108 = .ok (.iload 10, 2) := by decide +kernel
theorem dL_seen_110 : decode cL_seen 110 = .ok (.invokevirtual 82, 3) := by decide +kernel
theorem dL_seen_113 : decode cL_seen 113 = .ok (.iastore, 1) := by decide +kernel
theorem dL_seen_114 : decode cL_seen 114 = .ok (.iload_n 2, 1) := by decide +kernel
theorem dL_seen_115 : decode cL_seen 115 = .ok (.aload_n 0, 1) := by decide +kernel
theorem dL_seen_116 : decode cL_seen 116 = .ok (.iload 6, 2) := by decide +kernel
theorem dL_seen_118 : decode cL_seen 118 = .ok (.iload 10, 2) := by decide +kernel
theorem dL_seen_120 : decode cL_seen 120 = .ok (.invokevirtual 82, 3) := by decide +kernel
theorem dL_seen_123 : decode cL_seen 123 = .ok (.iadd, 1) := by decide +kernel
theorem dL_seen_124 : decode cL_seen 124 = .ok (.istore_n 2, 1) := by decide +kernel
theorem dL_seen_125 : decode cL_seen 125 = .ok (.iinc 10 1, 3) := by decide +kernel
theorem dL_seen_128 : decode cL_seen 128 = .ok (.goto (-79), 3) := by decide +kernel
theorem dL_seen_131 : decode cL_seen 131 = .ok (.iload_n 1, 1) := by decide +kernel
theorem dL_seen_132 : decode cL_seen 132 = .ok (.iload 8, 2) := by decide +kernel
theorem dL_seen_134 : decode cL_seen 134 = .ok (.iadd, 1) := by decide +kernel
theorem dL_seen_135 : decode cL_seen 135 = .ok (.istore_n 1, 1) := by decide +kernel
theorem dL_seen_136 : decode cL_seen 136 = .ok (.aload_n 0, 1) := by decide +kernel
theorem dL_seen_137 : decode cL_seen 137 = .ok (.iload 6, 2) := by decide +kernel
theorem dL_seen_139 : decode cL_seen 139 = .ok (.invokevirtual 190, 3) := by decide +kernel
theorem dL_seen_142 : decode cL_seen 142 = .ok (.aload 9, 2) := by decide +kernel
theorem dL_seen_144 : decode cL_seen 144 = .ok (.iload 8, 2) := by decide +kernel
theorem dL_seen_146 : decode cL_seen 146 = .ok (.iconst 1, 1) := by decide +kernel
theorem dL_seen_147 : decode cL_seen 147 = .ok (.isub, 1) := by decide +kernel
theorem dL_seen_148 : decode cL_seen 148 = .ok (.iconst 2, 1) := by decide +kernel
theorem dL_seen_149 : decode cL_seen 149 = .ok (.idiv, 1) := by decide +kernel
theorem dL_seen_150 : decode cL_seen 150 = .ok (.iaload, 1) := by decide +kernel
theorem dL_seen_151 : decode cL_seen 151 = .ok (.if_icmp .ne 19, 3) := by decide +kernel
theorem dL_seen_154 : decode cL_seen 154 = .ok (.aload_n 0, 1) := by decide +kernel
theorem dL_seen_155 : decode cL_seen 155 = .ok (.iload 6, 2) := by decide +kernel
theorem dL_seen_157 : decode cL_seen 157 = .ok (.invokevirtual 230, 3) := by decide +kernel
theorem dL_seen_160 : decode cL_seen 160 = .ok (.aload 9, 2) := by decide +kernel
theorem dL_seen_162 : decode cL_seen 162 = .ok (.iload 8, 2) := by decide +kernel
theorem dL_seen_164 : decode cL_seen 164 = .ok (.iconst 1, 1) := by decide +kernel
theorem dL_seen_165 : decode cL_seen 165 = .ok (.isub, 1) := by decide +kernel
theorem dL_seen_166 : decode cL_seen 166 = .ok (.iaload, 1) := by decide +kernel
theorem dL_seen_167 : decode cL_seen 167 = .ok (.if_icmp .eq 5, 3) := by decide +kernel
theorem dL_seen_170 : decode cL_seen 170 = .ok (.iconst 0, 1) := by decide +kernel
theorem dL_seen_171 : decode cL_seen 171 = .ok (.ireturn, 1) := by decide +kernel
theorem dL_seen_172 : decode cL_seen 172 = .ok (.iconst 0, 1) := by decide +kernel
theorem dL_seen_173 : decode cL_seen 173 = .ok (.istore 10, 2) := by decide +kernel
theorem dL_seen_175 : decode cL_seen 175 = .ok (.iload 10, 2) := by decide +kernel
theorem dL_seen_177 : decode cL_seen 177 = .ok (.aload_n 0, 1) := by decide +kernel
theorem dL_seen_178 : decode cL_seen 178 = .ok (.invokevirtual 63, 3) := by decide +kernel
theorem dL_seen_181 : decode cL_seen 181 = .ok (.if_icmp .ge 55, 3) := by decide +kernel
theorem dL_seen_184 : decode cL_seen 184 = .ok (.aload_n 0, 1) := by decide +kernel
theorem dL_seen_185 : decode cL_seen 185 = .ok (.iload 10, 2) := by decide +kernel
theorem dL_seen_187 : decode cL_seen 187 = .ok (.iload 6, 2) := by decide +kernel
theorem dL_seen_189 : decode cL_seen 189 = .ok (.invokevirtual 233, 3) := by decide +kernel
theorem dL_seen_192 : decode cL_seen 192 = .ok (.aload_n 0, 1) := by decide +kernel
theorem dL_seen_193 : decode cL_seen 193 = .ok (.iload 10, 2) := by decide +kernel
theorem dL_seen_195 : decode cL_seen 195 = .ok (.iload 6, 2) := by decide +kernel
theorem dL_seen_197 : decode cL_seen 197 = .ok (.invokestatic 129, 3) := by decide +kernel
theorem dL_seen_200 : decode cL_seen 200 = .ok (.dcmp .l, 1) := by decide +kernel
theorem dL_seen_201 : decode cL_seen 201 = .ok (.ifCond .eq 5, 3) := by decide +kernel
theorem dL_seen_204 : decode cL_seen 204 = .ok (.iconst 0, 1) := by decide +kernel
theorem dL_seen_205 : decode cL_seen 205 = .ok (.ireturn, 1) := by decide +kernel
theorem dL_seen_206 : decode cL_seen 206 = .ok (.aload_n 0, 1) := by decide +kernel
theorem dL_seen_207 : decode cL_seen 207 = .ok (.iload 10, 2) := by decide +kernel
theorem dL_seen_209 : decode cL_seen 209 = .ok (.iload 6, 2) := by decide +kernel
theorem dL_seen_211 : decode cL_seen 211 = .ok (.invokestatic 129, 3) := by decide +kernel
theorem dL_seen_214 : decode cL_seen 214 = .ok (.aload_n 0, 1) := by decide +kernel
theorem dL_seen_215 : decode cL_seen 215 = .ok (.iload 7, 2) := by decide +kernel
theorem dL_seen_217 : decode cL_seen 217 = .ok (.iload 6, 2) := by decide +kernel
theorem dL_seen_219 : decode cL_seen 219 = .ok (.invokestatic 129, 3) := by decide +kernel
theorem dL_seen_222 : decode cL_seen 222 = .ok (.dcmp .l, 1) := by decide +kernel
theorem dL_seen_223 : decode cL_seen 223 = .ok (.ifCond .le 7, 3) := by decide +kernel
theorem dL_seen_226 : decode cL_seen 226 = .ok (.iload 10, 2) := by decide +kernel
theorem dL_seen_228 : decode cL_seen 228 = .ok (.istore 7, 2) := by decide +kernel
theorem dL_seen_230 : decode cL_seen 230 = .ok (.iinc 10 1, 3) := by decide +kernel
theorem dL_seen_233 : decode cL_seen 233 = .ok (.goto (-58), 3) := by decide +kernel
theorem dL_seen_236 : decode cL_seen 236 = .ok (.aload_n 0, 1) := by decide +kernel
theorem dL_seen_237 : decode cL_seen 237 = .ok (.iload 6, 2) := by decide +kernel
theorem dL_seen_239 : decode cL_seen 239 = .ok (.invokevirtual 236, 3) := by decide +kernel
theorem dL_seen_242 : decode cL_seen 242 = .ok (.iload 7, 2) := by decide +kernel
theorem dL_seen_244 : decode cL_seen 244 = .ok (.if_icmp .eq 5, 3) := by decide +kernel
theorem dL_seen_247 : decode cL_seen 247 = .ok (.iconst 0, 1) := by decide +kernel
theorem dL_seen_248 : decode cL_seen 248 = .ok (.ireturn, 1) := by decide +kernel
theorem dL_seen_249 : decode cL_seen 249 = .ok (.aload_n 0, 1) := by decide +kernel
theorem dL_seen_250 : decode cL_seen 250 = .ok (.iload 6, 2) := by decide +kernel
theorem dL_seen_252 : decode cL_seen 252 = .ok (.invokevirtual 157, 3) := by decide +kernel
theorem dL_seen_255 : decode cL_seen 255 = .ok (.iconst 2, 1) := by decide +kernel
theorem dL_seen_256 : decode cL_seen 256 = .ok (.if_icmp .ne 7, 3) := by decide +kernel
theorem dL_seen_259 : decode cL_seen 259 = .ok (.iconst 1, 1) := by decide +kernel
theorem dL_seen_260 : decode cL_seen 260 = .ok (.goto 4, 3) := by decide +kernel
theorem dL_seen_263 : decode cL_seen 263 = .ok (.iconst 0, 1) := by decide +kernel
theorem dL_seen_264 : decode cL_seen 264 = .ok (.istore 10, 2) := by decide +kernel
theorem dL_seen_266 : decode cL_seen 266 = .ok (.iload 10, 2) := by decide +kernel
theorem dL_seen_268 : decode cL_seen 268 = .ok (.ifCond .eq 33, 3) := by decide +kernel
theorem dL_seen_271 : decode cL_seen 271 = .ok (.iinc 3 1, 3) := by decide +kernel
theorem dL_seen_274 : decode cL_seen 274 = .ok (.iload 4, 2) := by decide +kernel
theorem dL_seen_276 : decode cL_seen 276 = .ok (.aload_n 0, 1) := by decide +kernel
theorem dL_seen_277 : decode cL_seen 277 = .ok (.iload 6, 2) := by decide +kernel
theorem dL_seen_279 : decode cL_seen 279 = .ok (.invokevirtual 163, 3) := by decide +kernel
theorem dL_seen_282 : decode cL_seen 282 = .ok (.iadd, 1) := by decide +kernel
theorem dL_seen_283 : decode cL_seen 283 = .ok (.istore 4, 2) := by decide +kernel
theorem dL_seen_285 : decode cL_seen 285 = .ok (.aload 5, 2) := by decide +kernel
theorem dL_seen_287 : decode cL_seen 287 = .ok (.aload_n 0, 1) := by decide +kernel
theorem dL_seen_288 : decode cL_seen 288 = .ok (.iload 6, 2) := by decide +kernel
theorem dL_seen_290 : decode cL_seen 290 = .ok (.invokevirtual 160, 3) := by decide +kernel
theorem dL_seen_293 : decode cL_seen 293 = .ok (.dup2, 1) := by decide +kernel
theorem dL_seen_294 : decode cL_seen 294 = .ok (.iaload, 1) := by decide +kernel
theorem dL_seen_295 : decode cL_seen 295 = .ok (.iconst 1, 1) := by decide +kernel
theorem dL_seen_296 : decode cL_seen 296 = .ok (.iadd, 1) := by decide +kernel
theorem dL_seen_297 : decode cL_seen 297 = .ok (.iastore, 1) := by decide +kernel
theorem dL_seen_298 : decode cL_seen 298 = .ok (.goto 25, 3) := by decide +kernel
theorem dL_seen_301 : decode cL_seen 301 = .ok (.aload_n 0, 1) := by decide +kernel
theorem dL_seen_302 : decode cL_seen 302 = .ok (.iload 6, 2) := by decide +kernel
theorem dL_seen_304 : decode cL_seen 304 = .ok (.invokevirtual 160, 3) := by decide +kernel
theorem dL_seen_307 : decode cL_seen 307 = .ok (.iconst (-1), 1) := by decide +kernel
theorem dL_seen_308 : decode cL_seen 308 = .ok (.if_icmp .ne 13, 3) := by decide +kernel
theorem dL_seen_311 : decode cL_seen 311 = .ok (.aload_n 0, 1) := by decide +kernel
theorem dL_seen_312 : decode cL_seen 312 = .ok (.iload 6, 2) := by decide +kernel
theorem dL_seen_314 : decode cL_seen 314 = .ok (.invokevirtual 163, 3) := by decide +kernel
theorem dL_seen_317 : decode cL_seen 317 = .ok (.iconst (-1), 1) := by decide +kernel
theorem dL_seen_318 : decode cL_seen 318 = .ok (.if_icmp .eq 5, 3) := by decide +kernel
theorem dL_seen_321 : decode cL_seen 321 = .ok (.iconst 0, 1) := by decide +kernel
theorem dL_seen_322 : decode cL_seen 322 = .ok (.ireturn, 1) := by decide +kernel
theorem dL_seen_323 : decode cL_seen 323 = .ok (.aload_n 0, 1) := by decide +kernel
theorem dL_seen_324 : decode cL_seen 324 = .ok (.iload 6, 2) := by decide +kernel
theorem dL_seen_326 : decode cL_seen 326 = .ok (.invokevirtual 239, 3) := by decide +kernel
theorem dL_seen_329 : decode cL_seen 329 = .ok (.iload 10, 2) := by decide +kernel
theorem dL_seen_331 : decode cL_seen 331 = .ok (.ifCond .eq 21, 3) := by decide +kernel
theorem dL_seen_334 : decode cL_seen 334 = .ok (.aload_n 0, 1) := by decide +kernel
theorem dL_seen_335 : decode cL_seen 335 = .ok (.iload 6, 2) := by decide +kernel
theorem dL_seen_337 : decode cL_seen 337 = .ok (.invokevirtual 163, 3) := by decide +kernel
theorem dL_seen_340 : decode cL_seen 340 = .ok (.i2f, 1) := by decide +kernel
theorem dL_seen_341 : decode cL_seen 341 = .ok (.aload_n 0, 1) := by decide +kernel
theorem dL_seen_342 : decode cL_seen 342 = .ok (.iload 6, 2) := by decide +kernel
theorem dL_seen_344 : decode cL_seen 344 = .ok (.invokevirtual 180, 3) := by decide +kernel
theorem dL_seen_347 : decode cL_seen 347 = .ok (.i2f, 1) := by decide +kernel
theorem dL_seen_348 : decode cL_seen 348 = .ok (.fdiv, 1) := by decide +kernel
theorem dL_seen_349 : decode cL_seen 349 = .ok (.goto 4, 3) := by decide +kernel
theorem dL_seen_352 : decode cL_seen 352 = .ok (.fconst 0, 1) := by decide +kernel
theorem dL_seen_353 : decode cL_seen 353 = .ok (.fcmp .l, 1) := by decide +kernel
theorem dL_seen_354 : decode cL_seen 354 = .ok (.ifCond .eq 5, 3) := by decide +kernel
theorem dL_seen_357 : decode cL_seen 357 = .ok (.iconst 0, 1) := by decide +kernel
theorem dL_seen_358 : decode cL_seen 358 = .ok (.ireturn, 1) := by decide +kernel
theorem dL_seen_359 : decode cL_seen 359 = .ok (.iinc 6 1, 3) := by decide +kernel
theorem dL_seen_362 : decode cL_seen 362 = .ok (.goto (-342), 3) := by decide +kernel
theorem dL_seen_365 : decode cL_seen 365 = .ok (.iconst 0, 1) := by decide +kernel
theorem dL_seen_366 : decode cL_seen 366 = .ok (.istore 6, 2) := by decide +kernel
theorem dL_seen_368 : decode cL_seen 368 = .ok (.iload 6, 2) := by decide +kernel
theorem dL_seen_370 : decode cL_seen 370 = .ok (.aload 5, 2) := by decide +kernel
theorem dL_seen_372 : decode cL_seen 372 = .ok (.arraylength, 1) := by decide +kernel
theorem dL_seen_373 : decode cL_seen 373 = .ok (.if_icmp .ge 25, 3) := by decide +kernel
theorem dL_seen_376 : decode cL_seen 376 = .ok (.aload_n 0, 1) := by decide +kernel
theorem dL_seen_377 : decode cL_seen 377 = .ok (.iload 6, 2) := by decide +kernel
theorem dL_seen_379 : decode cL_seen 379 = .ok (.invokevirtual 243, 3) := by decide +kernel
theorem dL_seen_382 : decode cL_seen 382 = .ok (.aload 5, 2) := by decide +kernel
theorem dL_seen_384 : decode cL_seen 384 = .ok (.iload 6, 2) := by decide +kernel
theorem dL_seen_386 : decode cL_seen 386 = .ok (.iaload, 1) := by decide +kernel
theorem dL_seen_387 : decode cL_seen 387 = .ok (.if_icmp .eq 5, 3) := by decide +kernel
theorem dL_seen_390 : decode cL_seen 390 = .ok (.iconst 0, 1) := by decide +kernel
theorem dL_seen_391 : decode cL_seen 391 = .ok (.ireturn, 1) := by decide +kernel
theorem dL_seen_392 : decode cL_seen 392 = .ok (.iinc 6 1, 3) := by decide +kernel
theorem dL_seen_395 : decode cL_seen 395 = .ok (.goto (-27), 3) := by decide +kernel
theorem dL_seen_398 : decode cL_seen 398 = .ok (.aload_n 0, 1) := by decide +kernel
theorem dL_seen_399 : decode cL_seen 399 = .ok (.invokevirtual 177, 3) := by decide +kernel
theorem dL_seen_402 : decode cL_seen 402 = .ok (.istore 6, 2) := by decide +kernel
theorem dL_seen_404 : decode cL_seen 404 = .ok (.aload_n 0, 1) := by decide +kernel
theorem dL_seen_405 : decode cL_seen 405 = .ok (.invokevirtual 142, 3) := by decide +kernel
theorem dL_seen_408 : decode cL_seen 408 = .ok (.iload 4, 2) := by decide +kernel
theorem dL_seen_410 : decode cL_seen 410 = .ok (.if_icmp .ne 51, 3) := by decide +kernel
theorem dL_seen_413 : decode cL_seen 413 = .ok (.aload_n 0, 1) := by decide +kernel
theorem dL_seen_414 : decode cL_seen 414 = .ok (.invokevirtual 246, 3) := by decide +kernel
theorem dL_seen_417 : decode cL_seen 417 = .ok (.iload_n 1, 1) := by decide +kernel
theorem dL_seen_418 : decode cL_seen 418 = .ok (.ifCond .ne 7, 3) := by decide +kernel
theorem dL_seen_421 : decode cL_seen 421 = .ok (.dconst 0, 1) := by decide +kernel
theorem dL_seen_422 : decode cL_seen 422 = .ok (.goto 8, 3) := by decide +kernel
theorem dL_seen_425 : decode cL_seen 425 = .ok (.iload_n 2, 1) := by decide +kernel
theorem dL_seen_426 : decode cL_seen 426 = .ok (.i2d, 1) := by decide +kernel
theorem dL_seen_427 : decode cL_seen 427 = .ok (.iload_n 1, 1) := by decide +kernel
theorem dL_seen_428 : decode cL_seen 428 = .ok (.i2d, 1) := by decide +kernel
theorem dL_seen_429 : decode cL_seen 429 = .ok (.ddiv, 1) := by decide +kernel
theorem dL_seen_430 : decode cL_seen 430 = .ok (.dcmp .l, 1) := by decide +kernel
theorem dL_seen_431 : decode cL_seen 431 = .ok (.ifCond .ne 30, 3) := by decide +kernel
theorem dL_seen_434 : decode cL_seen 434 = .ok (.aload_n 0, 1) := by decide +kernel
theorem dL_seen_435 : decode cL_seen 435 = .ok (.invokevirtual 250, 3) := by decide +kernel
theorem dL_seen_438 : decode cL_seen 438 = .ok (.iload 6, 2) := by decide +kernel
theorem dL_seen_440 : decode cL_seen 440 = .ok (.ifCond .ne 7, 3) := by decide +kernel
theorem dL_seen_443 : decode cL_seen 443 = .ok (.fconst 0, 1) := by decide +kernel
theorem dL_seen_444 : decode cL_seen 444 = .ok (.goto 9, 3) := by decide +kernel
theorem dL_seen_447 : decode cL_seen 447 = .ok (.iload_n 3, 1) := by decide +kernel
theorem dL_seen_448 : decode cL_seen 448 = .ok (.i2f, 1) := by decide +kernel
theorem dL_seen_449 : decode cL_seen 449 = .ok (.iload 6, 2) := by decide +kernel
theorem dL_seen_451 : decode cL_seen 451 = .ok (.i2f, 1) := by decide +kernel
theorem dL_seen_452 : decode cL_seen 452 = .ok (.fdiv, 1) := by decide +kernel
theorem dL_seen_453 : decode cL_seen 453 = .ok (.fcmp .l, 1) := by decide +kernel
theorem dL_seen_454 : decode cL_seen 454 = .ok (.ifCond .ne 7, 3) := by decide +kernel
theorem dL_seen_457 : decode cL_seen 457 = .ok (.iconst 1, 1) := by decide +kernel
theorem dL_seen_458 : decode cL_seen 458 = .ok (.goto 4, 3) := by decide +kernel
theorem dL_seen_461 : decode cL_seen 461 = .ok (.iconst 0, 1) := by decide +kernel
theorem dL_seen_462 : decode cL_seen 462 = .ok (.ireturn, 1) := by decide +kernel
