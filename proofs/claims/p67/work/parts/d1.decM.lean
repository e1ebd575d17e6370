theorem dL_minute_0 : decode cL_minute 0 = .ok (.aload_n 0, 1) := by decide +kernel
theorem dL_minute_1 : decode cL_minute 1 = .ok (.invokevirtual 69, 3) := by decide +kernel
theorem dL_minute_4 : decode cL_minute 4 = .ok (.iconst 1, 1) := by decide +kernel
theorem dL_minute_5 : decode cL_minute 5 = .ok (.iadd, 1) := by decide +kernel
theorem dL_minute_6 : decode cL_minute 6 = .ok (.istore_n 2, 1) := by decide +kernel
theorem dL_minute_7 : decode cL_minute 7 = .ok (.aload_n 0, 1) := by decide +kernel
theorem dL_minute_8 : decode cL_minute 8 = .ok (.invokevirtual 72, 3) := by decide +kernel
theorem dL_minute_11 : decode cL_minute 11 = .ok (.istore_n 3, 1) := by decide +kernel
theorem dL_minute_12 : decode cL_minute 12 = .ok (.aload_n 0, 1) := by decide +kernel
theorem dL_minute_13 : decode cL_minute 13 = .ok (.invokevirtual 106, 3) := by decide +kernel
theorem dL_minute_16 : decode cL_minute 16 = .ok (.istore 4, 2) := by decide +kernel
theorem dL_minute_18 : decode cL_minute 18 = .ok (.aload_n 0, 1) := by decide +kernel
theorem dL_minute_19 : decode cL_minute 19 = .ok (.invokevirtual 112, 3) := by decide +kernel
theorem dL_minute_22 : decode cL_minute 22 = .ok (.istore 5, 2) := by decide +kernel
theorem dL_minute_24 : decode cL_minute 24 = .ok (.aload_n 0, 1) := by decide +kernel
theorem dL_minute_25 : decode cL_minute 25 = .ok (.invokevirtual 136, 3) := by decide +kernel
theorem dL_minute_28 : decode cL_minute 28 = .ok (.istore 6, 2) := by decide +kernel
theorem dL_minute_30 : decode cL_minute 30 = .ok (.aload_n 0, 1) := by decide +kernel
theorem dL_minute_31 : decode cL_minute 31 = .ok (.invokevirtual 66, 3) := by decide +kernel
theorem dL_minute_34 : decode cL_minute 34 = .ok (.istore 7, 2) := by decide +kernel
theorem dL_minute_36 : decode cL_minute 36 = .ok (.aload_n 0, 1) := by decide +kernel
theorem dL_minute_37 : decode cL_minute 37 = .ok (.iconst 0, 1) := by decide +kernel
theorem dL_minute_38 : decode cL_minute 38 = .ok (.invokevirtual 139, 3) := by decide +kernel
theorem dL_minute_41 : decode cL_minute 41 = .ok (.istore 8, 2) := by decide +kernel
theorem dL_minute_43 : decode cL_minute 43 = .ok (.aload_n 0, 1) := by decide +kernel
theorem dL_minute_44 : decode cL_minute 44 = .ok (.invokevirtual 142, 3) := by decide +kernel
theorem dL_minute_47 : decode cL_minute 47 = .ok (.istore 9, 2) := by decide +kernel
theorem dL_minute_49 : decode cL_minute 49 = .ok (.aload_n 0, 1) := by decide +kernel
theorem dL_minute_50 : decode cL_minute 50 = .ok (.invokevirtual 145, 3) := by decide +kernel
theorem dL_minute_53 : decode cL_minute 53 = .ok (.istore 10, 2) := by decide +kernel
theorem dL_minute_55 : decode cL_minute 55 = .ok (.aload_n 1, 1) := by decide +kernel
theorem dL_minute_56 : decode cL_minute 56 = .ok (.iload_n 2, 1) := by decide +kernel
theorem dL_minute_57 : decode cL_minute 57 = .ok (.invokestatic 102, 3) := by decide +kernel
theorem dL_minute_60 : decode cL_minute 60 = .ok (.ifCond .ne 17, 3) := by decide +kernel
theorem dL_minute_63 : decode cL_minute 63 = .ok (.aload_n 1, 1) := by decide +kernel
theorem dL_minute_64 : decode cL_minute 64 = .ok (.iload_n 2, 1) := by decide +kernel
theorem dL_minute_65 : decode cL_minute 65 = .ok (.iconst 1, 1) := by decide +kernel
theorem dL_minute_66 : decode cL_minute 66 = .ok (.isub, 1) := by decide +kernel
theorem dL_minute_67 : decode cL_minute 67 = .ok (.invokestatic 102, 3) := by decide +kernel
theorem dL_minute_70 : decode cL_minute 70 = .ok (.ifCond .eq 7, 3) := by decide +kernel
theorem dL_minute_73 : decode cL_minute 73 = .ok (.iconst 1, 1) := by decide +kernel
theorem dL_minute_74 : decode cL_minute 74 = .ok (.goto 4, 3) := by decide +kernel
theorem dL_minute_77 : decode cL_minute 77 = .ok (.iconst 0, 1) := by decide +kernel
theorem dL_minute_78 : decode cL_minute 78 = .ok (.istore 11, 2) := by decide +kernel
theorem dL_minute_80 : decode cL_minute 80 = .ok (.iload 11, 2) := by decide +kernel
theorem dL_minute_82 : decode cL_minute 82 = .ok (.ifCond .eq 11, 3) := by decide +kernel
theorem dL_minute_85 : decode cL_minute 85 = .ok (.iload_n 3, 1) := by decide +kernel
theorem dL_minute_86 : decode cL_minute 86 = .ok (.ifCond .lt 7, 3) := by decide +kernel
theorem dL_minute_89 : decode cL_minute 89 = .ok (.iconst 1, 1) := by decide +kernel
theorem dL_minute_90 : decode cL_minute 90 = .ok (.goto 4, 3) := by decide +kernel
theorem dL_minute_93 : decode cL_minute 93 = .ok (.iconst 0, 1) := by decide +kernel
theorem dL_minute_94 : decode cL_minute 94 = .ok (.istore 12, 2) := by decide +kernel
theorem dL_minute_96 : decode cL_minute 96 = .ok (.aload_n 0, 1) := by decide +kernel
theorem dL_minute_97 : decode cL_minute 97 = .ok (.invokevirtual 148, 3) := by decide +kernel
theorem dL_minute_100 : decode cL_minute 100 = .ok (.iconst 1, 1) := by decide +kernel
theorem dL_minute_101 : decode cL_minute 101 = .ok (.if_icmp .ne 7, 3) := by decide +kernel
theorem dL_minute_104 : decode cL_minute 104 = .ok (.iconst 1, 1) := by decide +kernel
theorem dL_minute_105 : decode cL_minute 105 = .ok (.goto 4, 3) := by decide +kernel
theorem dL_minute_108 : decode cL_minute 108 = .ok (.iconst 0, 1) := by decide +kernel
theorem dL_minute_109 : decode cL_minute 109 = .ok (.iload 11, 2) := by decide +kernel
theorem dL_minute_111 : decode cL_minute 111 = .ok (.if_icmp .eq 5, 3) := by decide +kernel
theorem dL_minute_114 : decode cL_minute 114 = .ok (.iconst 0, 1) := by decide +kernel
theorem dL_minute_115 : decode cL_minute 115 = .ok (.ireturn, 1) := by decide +kernel
theorem dL_minute_116 : decode cL_minute 116 = .ok (.iconst (-1), 1) := by decide +kernel
theorem dL_minute_117 : decode cL_minute 117 = .ok (.istore 13, 2) := by decide +kernel
theorem dL_minute_119 : decode cL_minute 119 = .ok (.aload_n 1, 1) := by decide +kernel
theorem dL_minute_120 : decode cL_minute 120 = .ok (.iload_n 2, 1) := by decide +kernel
theorem dL_minute_121 : decode cL_minute 121 = .ok (.invokestatic 102, 3) := by decide +kernel
theorem dL_minute_124 : decode cL_minute 124 = .ok (.ifCond .eq 120, 3) := by decide +kernel
theorem dL_minute_127 : decode cL_minute 127 = .ok (.iload_n 3, 1) := by decide +kernel
theorem dL_minute_128 : decode cL_minute 128 = .ok (.ifCond .lt 116, 3) := by decide +kernel
theorem dL_minute_131 : decode cL_minute 131 = .ok (.iconst 0, 1) := by decide +kernel
theorem dL_minute_132 : decode cL_minute 132 = .ok (.istore 14, 2) := by decide +kernel
theorem dL_minute_134 : decode cL_minute 134 = .ok (.iload 14, 2) := by decide +kernel
theorem dL_minute_136 : decode cL_minute 136 = .ok (.aload_n 0, 1) := by decide +kernel
theorem dL_minute_137 : decode cL_minute 137 = .ok (.invokevirtual 63, 3) := by decide +kernel
theorem dL_minute_140 : decode cL_minute 140 = .ok (.if_icmp .ge 82, 3) := by decide +kernel
theorem dL_minute_143 : decode cL_minute 143 = .ok (.iload 13, 2) := by decide +kernel
theorem dL_minute_145 : decode cL_minute 145 = .ok (.ifCond .ge 77, 3) := by decide +kernel
theorem dL_minute_148 : decode cL_minute 148 = .ok (.iload 4, 2) := by decide +kernel
theorem dL_minute_150 : decode cL_minute 150 = .ok (.ifCond .ge 8, 3) := by decide +kernel
theorem dL_minute_153 : decode cL_minute 153 = .ok (.iload 14, 2) := by decide +kernel
theorem dL_minute_155 : decode cL_minute 155 = .ok (.goto 15, 3) := by decide +kernel
theorem dL_minute_158 : decode cL_minute 158 = .ok (.iload 4, 2) := by decide +kernel
theorem dL_minute_160 : decode cL_minute 160 = .ok (.iconst 1, 1) := by decide +kernel
theorem dL_minute_161 : decode cL_minute 161 = .ok (.iadd, 1) := by decide +kernel
theorem dL_minute_162 : decode cL_minute 162 = .ok (.iload 14, 2) := by decide +kernel
theorem dL_minute_164 : decode cL_minute 164 = .ok (.iadd, 1) := by decide +kernel
theorem dL_minute_165 : decode cL_minute 165 = .ok (.aload_n 0, 1) := by decide +kernel
theorem dL_minute_166 : decode cL_minute 166 = .ok (.invokevirtual 63, 3) := by decide +kernel
theorem dL_minute_169 : decode cL_minute 169 = .ok (.irem, 1) := by decide +kernel
theorem dL_minute_170 : decode cL_minute 170 = .ok (.istore 15, 2) := by decide +kernel
theorem dL_minute_172 : decode cL_minute 172 = .ok (.iload 15, 2) := by decide +kernel
theorem dL_minute_174 : decode cL_minute 174 = .ok (.iload 4, 2) := by decide +kernel
theorem dL_minute_176 : decode cL_minute 176 = .ok (.if_icmp .eq 40, 3) := by decide +kernel
theorem dL_minute_179 : decode cL_minute 179 = .ok (.aload_n 0, 1) := by decide +kernel
theorem dL_minute_180 : decode cL_minute 180 = .ok (.iload 15, 2) := by decide +kernel
theorem dL_minute_182 : decode cL_minute 182 = .ok (.invokevirtual 118, 3) := by decide +kernel
theorem dL_minute_185 : decode cL_minute 185 = .ok (.aload_n 1, 1) := by decide +kernel
theorem dL_minute_186 : decode cL_minute 186 = .ok (.aload_n 0, 1) := by decide +kernel
theorem dL_minute_187 : decode cL_minute 187 = .ok (.invokevirtual 133, 3) := by decide +kernel
theorem dL_minute_190 : decode cL_minute 190 = .ok (.invokestatic 121, 3) := by decide +kernel
theorem dL_minute_193 : decode cL_minute 193 = .ok (.if_icmp .lt 23, 3) := by decide +kernel
theorem dL_minute_196 : decode cL_minute 196 = .ok (.aload_n 0, 1) := by decide +kernel
theorem dL_minute_197 : decode cL_minute 197 = .ok (.iload 15, 2) := by decide +kernel
theorem dL_minute_199 : decode cL_minute 199 = .ok (.iload_n 3, 1) := by decide +kernel
theorem dL_minute_200 : decode cL_minute 200 = .ok (.invokestatic 129, 3) := by decide +kernel
theorem dL_minute_203 : decode cL_minute 203 = .ok (.aload_n 0, 1) := by decide +kernel
theorem dL_minute_204 : decode cL_minute 204 = .ok (.invokevirtual 133, 3) := by decide +kernel
theorem dL_minute_207 : decode cL_minute 207 = .ok (.i2d, 1) := by decide +kernel
theorem dL_minute_208 : decode cL_minute 208 = .ok (.dcmp .l, 1) := by decide +kernel
theorem dL_minute_209 : decode cL_minute 209 = .ok (.ifCond .lt 7, 3) := by decide +kernel
theorem dL_minute_212 : decode cL_minute 212 = .ok (.iload 15, 2) := by decide +kernel
theorem dL_minute_214 : decode cL_minute 214 = .ok (.istore 13, 2) := by decide +kernel
theorem dL_minute_216 : decode cL_minute 216 = .ok (.iinc 14 1, 3) := by decide +kernel
theorem dL_minute_219 : decode cL_minute 219 = .ok (.goto (-85), 3) := by decide +kernel
theorem dL_minute_222 : decode cL_minute 222 = .ok (.iload 13, 2) := by decide +kernel
theorem dL_minute_224 : decode cL_minute 224 = .ok (.ifCond .ge 17, 3) := by decide +kernel
theorem dL_minute_227 : decode cL_minute 227 = .ok (.iload 6, 2) := by decide +kernel
theorem dL_minute_229 : decode cL_minute 229 = .ok (.iconst 1, 1) := by decide +kernel
theorem dL_minute_230 : decode cL_minute 230 = .ok (.iadd, 1) := by decide +kernel
theorem dL_minute_231 : decode cL_minute 231 = .ok (.aload_n 1, 1) := by decide +kernel
theorem dL_minute_232 : decode cL_minute 232 = .ok (.iconst 2, 1) := by decide +kernel
theorem dL_minute_233 : decode cL_minute 233 = .ok (.iaload, 1) := by decide +kernel
theorem dL_minute_234 : decode cL_minute 234 = .ok (.if_icmp .lt 7, 3) := by decide +kernel
theorem dL_minute_237 : decode cL_minute 237 = .ok (.iconst 1, 1) := by decide +kernel
theorem dL_minute_238 : decode cL_minute 238 = .ok (.goto 4, 3) := by decide +kernel
theorem dL_minute_241 : decode cL_minute 241 = .ok (.iconst 0, 1) := by decide +kernel
theorem dL_minute_242 : decode cL_minute 242 = .ok (.istore 12, 2) := by decide +kernel
theorem dL_minute_244 : decode cL_minute 244 = .ok (.iload 13, 2) := by decide +kernel
theorem dL_minute_246 : decode cL_minute 246 = .ok (.ifCond .lt 10, 3) := by decide +kernel
theorem dL_minute_249 : decode cL_minute 249 = .ok (.aload_n 0, 1) := by decide +kernel
theorem dL_minute_250 : decode cL_minute 250 = .ok (.invokevirtual 133, 3) := by decide +kernel
theorem dL_minute_253 : decode cL_minute 253 = .ok (.goto 5, 3) := by decide +kernel
theorem dL_minute_256 : decode cL_minute 256 = .ok (.iload 5, 2) := by decide +kernel
theorem dL_minute_258 : decode cL_minute 258 = .ok (.istore 14, 2) := by decide +kernel
theorem dL_minute_260 : decode cL_minute 260 = .ok (.iload 4, 2) := by decide +kernel
theorem dL_minute_262 : decode cL_minute 262 = .ok (.ifCond .ge 7, 3) := by decide +kernel
theorem dL_minute_265 : decode cL_minute 265 = .ok (.iconst 0, 1) := by decide +kernel
theorem dL_minute_266 : decode cL_minute 266 = .ok (.goto 9, 3) := by decide +kernel
theorem dL_minute_269 : decode cL_minute 269 = .ok (.aload_n 0, 1) := by decide +kernel
theorem dL_minute_270 : decode cL_minute 270 = .ok (.iload 4, 2) := by decide +kernel
theorem dL_minute_272 : decode cL_minute 272 = .ok (.invokevirtual 118, 3) := by decide +kernel
theorem dL_minute_275 : decode cL_minute 275 = .ok (.istore 15, 2) := by decide +kernel
theorem dL_minute_277 : decode cL_minute 277 = .ok (.iload_n 3, 1) := by decide +kernel
theorem dL_minute_278 : decode cL_minute 278 = .ok (.ifCond .ge 7, 3) := by decide +kernel
theorem dL_minute_281 : decode cL_minute 281 = .ok (.iconst 0, 1) := by decide +kernel
theorem dL_minute_282 : decode cL_minute 282 = .ok (.goto 8, 3) := by decide +kernel
theorem dL_minute_285 : decode cL_minute 285 = .ok (.aload_n 0, 1) := by decide +kernel
theorem dL_minute_286 : decode cL_minute 286 = .ok (.iload_n 3, 1) := by decide +kernel
theorem dL_minute_287 : decode cL_minute 287 = .ok (.invokevirtual 151, 3) := by decide +kernel
theorem dL_minute_290 : decode cL_minute 290 = .ok (.istore 16, 2) := by decide +kernel
theorem dL_minute_292 : decode cL_minute 292 = .ok (.iload 12, 2) := by decide +kernel
theorem dL_minute_294 : decode cL_minute 294 = .ok (.ifCond .eq 12, 3) := by decide +kernel
theorem dL_minute_297 : decode cL_minute 297 = .ok (.iload 4, 2) := by decide +kernel
theorem dL_minute_299 : decode cL_minute 299 = .ok (.ifCond .lt 7, 3) := by decide +kernel
theorem dL_minute_302 : decode cL_minute 302 = .ok (.iconst 1, 1) := by decide +kernel
theorem dL_minute_303 : decode cL_minute 303 = .ok (.goto 4, 3) := by decide +kernel
theorem dL_minute_306 : decode cL_minute 306 = .ok (.iconst 0, 1) := by decide +kernel
theorem dL_minute_307 : decode cL_minute 307 = .ok (.istore 17, 2) := by decide +kernel
theorem dL_minute_309 : decode cL_minute 309 = .ok (.aload_n 0, 1) := by decide +kernel
theorem dL_minute_310 : decode cL_minute 310 = .ok (.iconst 1, 1) := by decide +kernel
theorem dL_minute_311 : decode cL_minute 311 = .ok (.invokevirtual 154, 3) := by decide +kernel
theorem dL_minute_314 : decode cL_minute 314 = .ok (.iload 17, 2) := by decide +kernel
theorem dL_minute_316 : decode cL_minute 316 = .ok (.ifCond .eq 7, 3) := by decide +kernel
theorem dL_minute_319 : decode cL_minute 319 = .ok (.iconst 1, 1) := by decide +kernel
theorem dL_minute_320 : decode cL_minute 320 = .ok (.goto 4, 3) := by decide +kernel
theorem dL_minute_323 : decode cL_minute 323 = .ok (.iconst 0, 1) := by decide +kernel
theorem dL_minute_324 : decode cL_minute 324 = .ok (.if_icmp .ne 23, 3) := by decide +kernel
theorem dL_minute_327 : decode cL_minute 327 = .ok (.aload_n 0, 1) := by decide +kernel
theorem dL_minute_328 : decode cL_minute 328 = .ok (.invokevirtual 69, 3) := by decide +kernel
theorem dL_minute_331 : decode cL_minute 331 = .ok (.iload_n 2, 1) := by decide +kernel
theorem dL_minute_332 : decode cL_minute 332 = .ok (.if_icmp .ne 15, 3) := by decide +kernel
theorem dL_minute_335 : decode cL_minute 335 = .ok (.aload_n 0, 1) := by decide +kernel
theorem dL_minute_336 : decode cL_minute 336 = .ok (.invokevirtual 75, 3) := by decide +kernel
theorem dL_minute_339 : decode cL_minute 339 = .ok (.aload_n 1, 1) := by decide +kernel
theorem dL_minute_340 : decode cL_minute 340 = .ok (.iload_n 2, 1) := by decide +kernel
theorem dL_minute_341 : decode cL_minute 341 = .ok (.invokestatic 102, 3) := by decide +kernel
theorem dL_minute_344 : decode cL_minute 344 = .ok (.if_icmp .eq 5, 3) := by decide +kernel
theorem dL_minute_347 : decode cL_minute 347 = .ok (.iconst 0, 1) := by decide +kernel
theorem dL_minute_348 : decode cL_minute 348 = .ok (.ireturn, 1) := by decide +kernel
theorem dL_minute_349 : decode cL_minute 349 = .ok (.iload 17, 2) := by decide +kernel
theorem dL_minute_351 : decode cL_minute 351 = .ok (.ifCond .eq 83, 3) := by decide +kernel
theorem dL_minute_354 : decode cL_minute 354 = .ok (.aload_n 0, 1) := by decide +kernel
theorem dL_minute_355 : decode cL_minute 355 = .ok (.iload_n 3, 1) := by decide +kernel
theorem dL_minute_356 : decode cL_minute 356 = .ok (.invokevirtual 157, 3) := by decide +kernel
theorem dL_minute_359 : decode cL_minute 359 = .ok (.iconst 2, 1) := by decide +kernel
theorem dL_minute_360 : decode cL_minute 360 = .ok (.if_icmp .ne 72, 3) := by decide +kernel
theorem dL_minute_363 : decode cL_minute 363 = .ok (.aload_n 0, 1) := by decide +kernel
theorem dL_minute_364 : decode cL_minute 364 = .ok (.iload_n 3, 1) := by decide +kernel
theorem dL_minute_365 : decode cL_minute 365 = .ok (.invokevirtual 160, 3) := by decide +kernel
theorem dL_minute_368 : decode cL_minute 368 = .ok (.iload 4, 2) := by decide +kernel
theorem dL_minute_370 : decode cL_minute 370 = .ok (.if_icmp .ne 62, 3) := by decide +kernel
theorem dL_minute_373 : decode cL_minute 373 = .ok (.aload_n 0, 1) := by decide +kernel
theorem dL_minute_374 : decode cL_minute 374 = .ok (.iload_n 3, 1) := by decide +kernel
theorem dL_minute_375 : decode cL_minute 375 = .ok (.invokevirtual 163, 3) := by decide +kernel
theorem dL_minute_378 : decode cL_minute 378 = .ok (.iload 5, 2) := by decide +kernel
theorem dL_minute_380 : decode cL_minute 380 = .ok (.if_icmp .ne 52, 3) := by decide +kernel
theorem dL_minute_383 : decode cL_minute 383 = .ok (.aload_n 0, 1) := by decide +kernel
theorem dL_minute_384 : decode cL_minute 384 = .ok (.iload 4, 2) := by decide +kernel
theorem dL_minute_386 : decode cL_minute 386 = .ok (.invokevirtual 118, 3) := by decide +kernel
theorem dL_minute_389 : decode cL_minute 389 = .ok (.iload 15, 2) := by decide +kernel
theorem dL_minute_391 : decode cL_minute 391 = .ok (.aload_n 1, 1) := by decide +kernel
theorem dL_minute_392 : decode cL_minute 392 = .ok (.iload 5, 2) := by decide +kernel
theorem dL_minute_394 : decode cL_minute 394 = .ok (.invokestatic 121, 3) := by decide +kernel
theorem dL_minute_397 : decode cL_minute 397 = .ok (.isub, 1) := by decide +kernel
theorem dL_minute_398 : decode cL_minute 398 = .ok (.if_icmp .ne 34, 3) := by decide +kernel
theorem dL_minute_401 : decode cL_minute 401 = .ok (.aload_n 0, 1) := by decide +kernel
theorem dL_minute_402 : decode cL_minute 402 = .ok (.invokevirtual 142, 3) := by decide +kernel
theorem dL_minute_405 : decode cL_minute 405 = .ok (.iload 9, 2) := by decide +kernel
theorem dL_minute_407 : decode cL_minute 407 = .ok (.iload 5, 2) := by decide +kernel
theorem dL_minute_409 : decode cL_minute 409 = .ok (.iadd, 1) := by decide +kernel
theorem dL_minute_410 : decode cL_minute 410 = .ok (.if_icmp .ne 22, 3) := by decide +kernel
theorem dL_minute_413 : decode cL_minute 413 = .ok (.aload_n 0, 1) := by decide +kernel
theorem dL_minute_414 : decode cL_minute 414 = .ok (.invokevirtual 145, 3) := by decide +kernel
theorem dL_minute_417 : decode cL_minute 417 = .ok (.iload 10, 2) := by decide +kernel
theorem dL_minute_419 : decode cL_minute 419 = .ok (.aload_n 1, 1) := by decide +kernel
theorem dL_minute_420 : decode cL_minute 420 = .ok (.iload 5, 2) := by decide +kernel
theorem dL_minute_422 : decode cL_minute 422 = .ok (.invokestatic 121, 3) := by decide +kernel
theorem dL_minute_425 : decode cL_minute 425 = .ok (.iadd, 1) := by decide +kernel
theorem dL_minute_426 : decode cL_minute 426 = .ok (.iload 5, 2) := by decide +kernel
theorem dL_minute_428 : decode cL_minute 428 = .ok (.isub, 1) := by decide +kernel
theorem dL_minute_429 : decode cL_minute 429 = .ok (.if_icmp .eq 5, 3) := by decide +kernel
theorem dL_minute_432 : decode cL_minute 432 = .ok (.iconst 0, 1) := by decide +kernel
theorem dL_minute_433 : decode cL_minute 433 = .ok (.ireturn, 1) := by decide +kernel
theorem dL_minute_434 : decode cL_minute 434 = .ok (.iload 17, 2) := by decide +kernel
theorem dL_minute_436 : decode cL_minute 436 = .ok (.ifCond .ne 23, 3) := by decide +kernel
theorem dL_minute_439 : decode cL_minute 439 = .ok (.aload_n 0, 1) := by decide +kernel
theorem dL_minute_440 : decode cL_minute 440 = .ok (.invokevirtual 142, 3) := by decide +kernel
theorem dL_minute_443 : decode cL_minute 443 = .ok (.iload 9, 2) := by decide +kernel
theorem dL_minute_445 : decode cL_minute 445 = .ok (.if_icmp .ne 12, 3) := by decide +kernel
theorem dL_minute_448 : decode cL_minute 448 = .ok (.aload_n 0, 1) := by decide +kernel
theorem dL_minute_449 : decode cL_minute 449 = .ok (.invokevirtual 145, 3) := by decide +kernel
theorem dL_minute_452 : decode cL_minute 452 = .ok (.iload 10, 2) := by decide +kernel
theorem dL_minute_454 : decode cL_minute 454 = .ok (.if_icmp .eq 5, 3) := by decide +kernel
theorem dL_minute_457 : decode cL_minute 457 = .ok (.iconst 0, 1) := by decide +kernel
theorem dL_minute_458 : decode cL_minute 458 = .ok (.ireturn, 1) := by decide +kernel
theorem dL_minute_459 : decode cL_minute 459 = .ok (.iload 12, 2) := by decide +kernel
theorem dL_minute_461 : decode cL_minute 461 = .ok (.ifCond .eq 18, 3) := by decide +kernel
theorem dL_minute_464 : decode cL_minute 464 = .ok (.iload 4, 2) := by decide +kernel
theorem dL_minute_466 : decode cL_minute 466 = .ok (.ifCond .ge 13, 3) := by decide +kernel
theorem dL_minute_469 : decode cL_minute 469 = .ok (.iload 16, 2) := by decide +kernel
theorem dL_minute_471 : decode cL_minute 471 = .ok (.iconst 2, 1) := by decide +kernel
theorem dL_minute_472 : decode cL_minute 472 = .ok (.if_icmp .ge 7, 3) := by decide +kernel
theorem dL_minute_475 : decode cL_minute 475 = .ok (.iconst 1, 1) := by decide +kernel
theorem dL_minute_476 : decode cL_minute 476 = .ok (.goto 4, 3) := by decide +kernel
theorem dL_minute_479 : decode cL_minute 479 = .ok (.iconst 0, 1) := by decide +kernel
theorem dL_minute_480 : decode cL_minute 480 = .ok (.istore 18, 2) := by decide +kernel
theorem dL_minute_482 : decode cL_minute 482 = .ok (.iload 12, 2) := by decide +kernel
theorem dL_minute_484 : decode cL_minute 484 = .ok (.ifCond .eq 40, 3) := by decide +kernel
theorem dL_minute_487 : decode cL_minute 487 = .ok (.iload 4, 2) := by decide +kernel
theorem dL_minute_489 : decode cL_minute 489 = .ok (.ifCond .ge 35, 3) := by decide +kernel
theorem dL_minute_492 : decode cL_minute 492 = .ok (.aload_n 0, 1) := by decide +kernel
theorem dL_minute_493 : decode cL_minute 493 = .ok (.iload_n 3, 1) := by decide +kernel
theorem dL_minute_494 : decode cL_minute 494 = .ok (.invokevirtual 151, 3) := by decide +kernel
theorem dL_minute_497 : decode cL_minute 497 = .ok (.iload 16, 2) := by decide +kernel
theorem dL_minute_499 : decode cL_minute 499 = .ok (.iconst 1, 1) := by decide +kernel
theorem dL_minute_500 : decode cL_minute 500 = .ok (.iadd, 1) := by decide +kernel
theorem dL_minute_501 : decode cL_minute 501 = .ok (.if_icmp .ne 21, 3) := by decide +kernel
theorem dL_minute_504 : decode cL_minute 504 = .ok (.aload_n 0, 1) := by decide +kernel
theorem dL_minute_505 : decode cL_minute 505 = .ok (.iload_n 3, 1) := by decide +kernel
theorem dL_minute_506 : decode cL_minute 506 = .ok (.invokevirtual 157, 3) := by decide +kernel
theorem dL_minute_509 : decode cL_minute 509 = .ok (.iload 18, 2) := by decide +kernel
theorem dL_minute_511 : decode cL_minute 511 = .ok (.ifCond .eq 7, 3) := by decide +kernel
theorem dL_minute_514 : decode cL_minute 514 = .ok (.iconst 0, 1) := by decide +kernel
theorem dL_minute_515 : decode cL_minute 515 = .ok (.goto 4, 3) := by decide +kernel
theorem dL_minute_518 : decode cL_minute 518 = .ok (.iconst 3, 1) := by decide +kernel
theorem dL_minute_519 : decode cL_minute 519 = .ok (.if_icmp .eq 5, 3) := by decide +kernel
theorem dL_minute_522 : decode cL_minute 522 = .ok (.iconst 0, 1) := by decide +kernel
theorem dL_minute_523 : decode cL_minute 523 = .ok (.ireturn, 1) := by decide +kernel
theorem dL_minute_524 : decode cL_minute 524 = .ok (.aload_n 1, 1) := by decide +kernel
theorem dL_minute_525 : decode cL_minute 525 = .ok (.iload_n 2, 1) := by decide +kernel
theorem dL_minute_526 : decode cL_minute 526 = .ok (.invokestatic 102, 3) := by decide +kernel
theorem dL_minute_529 : decode cL_minute 529 = .ok (.ifCond .eq 78, 3) := by decide +kernel
theorem dL_minute_532 : decode cL_minute 532 = .ok (.iload_n 3, 1) := by decide +kernel
theorem dL_minute_533 : decode cL_minute 533 = .ok (.ifCond .ge 74, 3) := by decide +kernel
theorem dL_minute_536 : decode cL_minute 536 = .ok (.aload_n 0, 1) := by decide +kernel
theorem dL_minute_537 : decode cL_minute 537 = .ok (.invokevirtual 72, 3) := by decide +kernel
theorem dL_minute_540 : decode cL_minute 540 = .ok (.iload 8, 2) := by decide +kernel
theorem dL_minute_542 : decode cL_minute 542 = .ok (.if_icmp .ne 63, 3) := by decide +kernel
theorem dL_minute_545 : decode cL_minute 545 = .ok (.iload 8, 2) := by decide +kernel
theorem dL_minute_547 : decode cL_minute 547 = .ok (.ifCond .lt 39, 3) := by decide +kernel
theorem dL_minute_550 : decode cL_minute 550 = .ok (.aload_n 0, 1) := by decide +kernel
theorem dL_minute_551 : decode cL_minute 551 = .ok (.invokevirtual 136, 3) := by decide +kernel
theorem dL_minute_554 : decode cL_minute 554 = .ok (.ifCond .ne 51, 3) := by decide +kernel
theorem dL_minute_557 : decode cL_minute 557 = .ok (.aload_n 0, 1) := by decide +kernel
theorem dL_minute_558 : decode cL_minute 558 = .ok (.invokevirtual 106, 3) := by decide +kernel
theorem dL_minute_561 : decode cL_minute 561 = .ok (.iconst (-1), 1) := by decide +kernel
theorem dL_minute_562 : decode cL_minute 562 = .ok (.if_icmp .ne 43, 3) := by decide +kernel
theorem dL_minute_565 : decode cL_minute 565 = .ok (.aload_n 0, 1) := by decide +kernel
theorem dL_minute_566 : decode cL_minute 566 = .ok (.invokevirtual 112, 3) := by decide +kernel
theorem dL_minute_569 : decode cL_minute 569 = .ok (.iconst (-1), 1) := by decide +kernel
theorem dL_minute_570 : decode cL_minute 570 = .ok (.if_icmp .ne 35, 3) := by decide +kernel
theorem dL_minute_573 : decode cL_minute 573 = .ok (.aload_n 0, 1) := by decide +kernel
theorem dL_minute_574 : decode cL_minute 574 = .ok (.invokevirtual 133, 3) := by decide +kernel
theorem dL_minute_577 : decode cL_minute 577 = .ok (.aload_n 0, 1) := by decide +kernel
theorem dL_minute_578 : decode cL_minute 578 = .ok (.iload 8, 2) := by decide +kernel
theorem dL_minute_580 : decode cL_minute 580 = .ok (.invokevirtual 109, 3) := by decide +kernel
theorem dL_minute_583 : decode cL_minute 583 = .ok (.if_icmp .ne 22, 3) := by decide +kernel
theorem dL_minute_586 : decode cL_minute 586 = .ok (.aload_n 0, 1) := by decide +kernel
theorem dL_minute_587 : decode cL_minute 587 = .ok (.invokevirtual 66, 3) := by decide +kernel
theorem dL_minute_590 : decode cL_minute 590 = .ok (.iconst 0, 1) := by decide +kernel
theorem dL_minute_591 : decode cL_minute 591 = .ok (.iload 7, 2) := by decide +kernel
theorem dL_minute_593 : decode cL_minute 593 = .ok (.iconst 1, 1) := by decide +kernel
theorem dL_minute_594 : decode cL_minute 594 = .ok (.isub, 1) := by decide +kernel
theorem dL_minute_595 : decode cL_minute 595 = .ok (.invokestatic 85, 3) := by decide +kernel
theorem dL_minute_598 : decode cL_minute 598 = .ok (.if_icmp .ne 7, 3) := by decide +kernel
theorem dL_minute_601 : decode cL_minute 601 = .ok (.iconst 1, 1) := by decide +kernel
theorem dL_minute_602 : decode cL_minute 602 = .ok (.goto 4, 3) := by decide +kernel
theorem dL_minute_605 : decode cL_minute 605 = .ok (.iconst 0, 1) := by decide +kernel
theorem dL_minute_606 : decode cL_minute 606 = .ok (.ireturn, 1) := by decide +kernel
theorem dL_minute_607 : decode cL_minute 607 = .ok (.iload 12, 2) := by decide +kernel
theorem dL_minute_609 : decode cL_minute 609 = .ok (.ifCond .eq 52, 3) := by decide +kernel
theorem dL_minute_612 : decode cL_minute 612 = .ok (.aload_n 0, 1) := by decide +kernel
theorem dL_minute_613 : decode cL_minute 613 = .ok (.invokevirtual 72, 3) := by decide +kernel
theorem dL_minute_616 : decode cL_minute 616 = .ok (.iconst (-1), 1) := by decide +kernel
theorem dL_minute_617 : decode cL_minute 617 = .ok (.if_icmp .ne 42, 3) := by decide +kernel
theorem dL_minute_620 : decode cL_minute 620 = .ok (.aload_n 0, 1) := by decide +kernel
theorem dL_minute_621 : decode cL_minute 621 = .ok (.invokevirtual 66, 3) := by decide +kernel
theorem dL_minute_624 : decode cL_minute 624 = .ok (.iload 7, 2) := by decide +kernel
theorem dL_minute_626 : decode cL_minute 626 = .ok (.iload 18, 2) := by decide +kernel
theorem dL_minute_628 : decode cL_minute 628 = .ok (.ifCond .eq 7, 3) := by decide +kernel
theorem dL_minute_631 : decode cL_minute 631 = .ok (.iconst 1, 1) := by decide +kernel
theorem dL_minute_632 : decode cL_minute 632 = .ok (.goto 4, 3) := by decide +kernel
theorem dL_minute_635 : decode cL_minute 635 = .ok (.iconst 0, 1) := by decide +kernel
theorem dL_minute_636 : decode cL_minute 636 = .ok (.iadd, 1) := by decide +kernel
theorem dL_minute_637 : decode cL_minute 637 = .ok (.if_icmp .ne 22, 3) := by decide +kernel
theorem dL_minute_640 : decode cL_minute 640 = .ok (.iload 18, 2) := by decide +kernel
theorem dL_minute_642 : decode cL_minute 642 = .ok (.ifCond .eq 13, 3) := by decide +kernel
theorem dL_minute_645 : decode cL_minute 645 = .ok (.aload_n 0, 1) := by decide +kernel
theorem dL_minute_646 : decode cL_minute 646 = .ok (.iload 7, 2) := by decide +kernel
theorem dL_minute_648 : decode cL_minute 648 = .ok (.invokevirtual 139, 3) := by decide +kernel
theorem dL_minute_651 : decode cL_minute 651 = .ok (.iload_n 3, 1) := by decide +kernel
theorem dL_minute_652 : decode cL_minute 652 = .ok (.if_icmp .ne 7, 3) := by decide +kernel
theorem dL_minute_655 : decode cL_minute 655 = .ok (.iconst 1, 1) := by decide +kernel
theorem dL_minute_656 : decode cL_minute 656 = .ok (.goto 4, 3) := by decide +kernel
theorem dL_minute_659 : decode cL_minute 659 = .ok (.iconst 0, 1) := by decide +kernel
theorem dL_minute_660 : decode cL_minute 660 = .ok (.ireturn, 1) := by decide +kernel
theorem dL_minute_661 : decode cL_minute 661 = .ok (.aload_n 0, 1) := by decide +kernel
theorem dL_minute_662 : decode cL_minute 662 = .ok (.invokevirtual 72, 3) := by decide +kernel
theorem dL_minute_665 : decode cL_minute 665 = .ok (.iload_n 3, 1) := by decide +kernel
theorem dL_minute_666 : decode cL_minute 666 = .ok (.if_icmp .ne 12, 3) := by decide +kernel
theorem dL_minute_669 : decode cL_minute 669 = .ok (.aload_n 0, 1) := by decide +kernel
theorem dL_minute_670 : decode cL_minute 670 = .ok (.invokevirtual 66, 3) := by decide +kernel
theorem dL_minute_673 : decode cL_minute 673 = .ok (.iload 7, 2) := by decide +kernel
theorem dL_minute_675 : decode cL_minute 675 = .ok (.if_icmp .eq 5, 3) := by decide +kernel
theorem dL_minute_678 : decode cL_minute 678 = .ok (.iconst 0, 1) := by decide +kernel
theorem dL_minute_679 : decode cL_minute 679 = .ok (.ireturn, 1) := by decide +kernel
theorem dL_minute_680 : decode cL_minute 680 = .ok (.iload_n 3, 1) := by decide +kernel
theorem dL_minute_681 : decode cL_minute 681 = .ok (.ifCond .lt 51, 3) := by decide +kernel
theorem dL_minute_684 : decode cL_minute 684 = .ok (.aload_n 0, 1) := by decide +kernel
theorem dL_minute_685 : decode cL_minute 685 = .ok (.invokevirtual 112, 3) := by decide +kernel
theorem dL_minute_688 : decode cL_minute 688 = .ok (.iload 14, 2) := by decide +kernel
theorem dL_minute_690 : decode cL_minute 690 = .ok (.if_icmp .ne 46, 3) := by decide +kernel
theorem dL_minute_693 : decode cL_minute 693 = .ok (.aload_n 0, 1) := by decide +kernel
theorem dL_minute_694 : decode cL_minute 694 = .ok (.invokevirtual 106, 3) := by decide +kernel
theorem dL_minute_697 : decode cL_minute 697 = .ok (.iload 13, 2) := by decide +kernel
theorem dL_minute_699 : decode cL_minute 699 = .ok (.ifCond .lt 8, 3) := by decide +kernel
theorem dL_minute_702 : decode cL_minute 702 = .ok (.iload 13, 2) := by decide +kernel
theorem dL_minute_704 : decode cL_minute 704 = .ok (.goto 5, 3) := by decide +kernel
theorem dL_minute_707 : decode cL_minute 707 = .ok (.iload 4, 2) := by decide +kernel
theorem dL_minute_709 : decode cL_minute 709 = .ok (.if_icmp .ne 27, 3) := by decide +kernel
theorem dL_minute_712 : decode cL_minute 712 = .ok (.aload_n 0, 1) := by decide +kernel
theorem dL_minute_713 : decode cL_minute 713 = .ok (.invokevirtual 136, 3) := by decide +kernel
theorem dL_minute_716 : decode cL_minute 716 = .ok (.iload 13, 2) := by decide +kernel
theorem dL_minute_718 : decode cL_minute 718 = .ok (.ifCond .lt 7, 3) := by decide +kernel
theorem dL_minute_721 : decode cL_minute 721 = .ok (.iconst 0, 1) := by decide +kernel
theorem dL_minute_722 : decode cL_minute 722 = .ok (.goto 7, 3) := by decide +kernel
theorem dL_minute_725 : decode cL_minute 725 = .ok (.iload 6, 2) := by decide +kernel
theorem dL_minute_727 : decode cL_minute 727 = .ok (.iconst 1, 1) := by decide +kernel
theorem dL_minute_728 : decode cL_minute 728 = .ok (.iadd, 1) := by decide +kernel
theorem dL_minute_729 : decode cL_minute 729 = .ok (.if_icmp .ne 7, 3) := by decide +kernel
theorem dL_minute_732 : decode cL_minute 732 = .ok (.iconst 1, 1) := by decide +kernel
theorem dL_minute_733 : decode cL_minute 733 = .ok (.goto 4, 3) := by decide +kernel
theorem dL_minute_736 : decode cL_minute 736 = .ok (.iconst 0, 1) := by decide +kernel
theorem dL_minute_737 : decode cL_minute 737 = .ok (.ireturn, 1) := by decide +kernel
theorem dL_cut_0 : decode cL_cut 0 = .ok (.aload_n 0, 1) := by decide +kernel
theorem dL_cut_1 : decode cL_cut 1 = .ok (.invokevirtual 177, 3) := by decide +kernel
theorem dL_cut_4 : decode cL_cut 4 = .ok (.istore_n 3, 1) := by decide +kernel
theorem dL_cut_5 : decode cL_cut 5 = .ok (.aload_n 0, 1) := by decide +kernel
theorem dL_cut_6 : decode cL_cut 6 = .ok (.iload_n 1, 1) := by decide +kernel
theorem dL_cut_7 : decode cL_cut 7 = .ok (.invokevirtual 79, 3) := by decide +kernel
theorem dL_cut_10 : decode cL_cut 10 = .ok (.istore 4, 2) := by decide +kernel
theorem dL_cut_12 : decode cL_cut 12 = .ok (.aload_n 0, 1) := by decide +kernel
theorem dL_cut_13 : decode cL_cut 13 = .ok (.iload_n 1, 1) := by decide +kernel
theorem dL_cut_14 : decode cL_cut 14 = .ok (.invokevirtual 180, 3) := by decide +kernel
theorem dL_cut_17 : decode cL_cut 17 = .ok (.istore 5, 2) := by decide +kernel
theorem dL_cut_19 : decode cL_cut 19 = .ok (.aload_n 0, 1) := by decide +kernel
theorem dL_cut_20 : decode cL_cut 20 = .ok (.iload_n 1, 1) := by decide +kernel
theorem dL_cut_21 : decode cL_cut 21 = .ok (.invokevirtual 109, 3) := by decide +kernel
theorem dL_cut_24 : decode cL_cut 24 = .ok (.istore 6, 2) := by decide +kernel
theorem dL_cut_26 : decode cL_cut 26 = .ok (.aload_n 0, 1) := by decide +kernel
theorem dL_cut_27 : decode cL_cut 27 = .ok (.invokevirtual 66, 3) := by decide +kernel
theorem dL_cut_30 : decode cL_cut 30 = .ok (.istore 7, 2) := by decide +kernel
theorem dL_cut_32 : decode cL_cut 32 = .ok (.aload_n 0, 1) := by decide +kernel
theorem dL_cut_33 : decode cL_cut 33 = .ok (.iload_n 1, 1) := by decide +kernel
theorem dL_cut_34 : decode cL_cut 34 = .ok (.iload_n 2, 1) := by decide +kernel
theorem dL_cut_35 : decode cL_cut 35 = .ok (.invokestatic 183, 3) := by decide +kernel
theorem dL_cut_38 : decode cL_cut 38 = .ok (.istore 8, 2) := by decide +kernel
theorem dL_cut_40 : decode cL_cut 40 = .ok (.iload_n 3, 1) := by decide +kernel
theorem dL_cut_41 : decode cL_cut 41 = .ok (.bipush 20, 2) := by decide +kernel
theorem dL_cut_43 : decode cL_cut 43 = .ok (.if_icmp .eq 17, 3) := by decide +kernel
theorem dL_cut_46 : decode cL_cut 46 = .ok (.iload 4, 2) := by decide +kernel
theorem dL_cut_48 : decode cL_cut 48 = .ok (.iload_n 2, 1) := by decide +kernel
theorem dL_cut_49 : decode cL_cut 49 = .ok (.if_icmp .le 11, 3) := by decide +kernel
theorem dL_cut_52 : decode cL_cut 52 = .ok (.aload_n 0, 1) := by decide +kernel
theorem dL_cut_53 : decode cL_cut 53 = .ok (.iload_n 1, 1) := by decide +kernel
theorem dL_cut_54 : decode cL_cut 54 = .ok (.invokevirtual 157, 3) := by decide +kernel
theorem dL_cut_57 : decode cL_cut 57 = .ok (.ifCond .eq 34, 3) := by decide +kernel
theorem dL_cut_60 : decode cL_cut 60 = .ok (.iload 8, 2) := by decide +kernel
theorem dL_cut_62 : decode cL_cut 62 = .ok (.bipush (-100), 2) := by decide +kernel
theorem dL_cut_64 : decode cL_cut 64 = .ok (.if_icmp .ne 25, 3) := by decide +kernel
theorem dL_cut_67 : decode cL_cut 67 = .ok (.aload_n 0, 1) := by decide +kernel
theorem dL_cut_68 : decode cL_cut 68 = .ok (.invokevirtual 177, 3) := by decide +kernel
theorem dL_cut_71 : decode cL_cut 71 = .ok (.iload_n 3, 1) := by decide +kernel
theorem dL_cut_72 : decode cL_cut 72 = .ok (.if_icmp .ne 17, 3) := by decide +kernel
theorem dL_cut_75 : decode cL_cut 75 = .ok (.aload_n 0, 1) := by decide +kernel
theorem dL_cut_76 : decode cL_cut 76 = .ok (.iload_n 1, 1) := by decide +kernel
theorem dL_cut_77 : decode cL_cut 77 = .ok (.invokevirtual 79, 3) := by decide +kernel
theorem dL_cut_80 : decode cL_cut 80 = .ok (.iload 4, 2) := by decide +kernel
theorem dL_cut_82 : decode cL_cut 82 = .ok (.if_icmp .ne 7, 3) := by decide +kernel
theorem dL_cut_85 : decode cL_cut 85 = .ok (.iconst 1, 1) := by decide +kernel
theorem dL_cut_86 : decode cL_cut 86 = .ok (.goto 4, 3) := by decide +kernel
theorem dL_cut_89 : decode cL_cut 89 = .ok (.iconst 0, 1) := by decide +kernel
theorem dL_cut_90 : decode cL_cut 90 = .ok (.ireturn, 1) := by decide +kernel
theorem dL_cut_91 : decode cL_cut 91 = .ok (.iload 6, 2) := by decide +kernel
theorem dL_cut_93 : decode cL_cut 93 = .ok (.iload_n 2, 1) := by decide +kernel
theorem dL_cut_94 : decode cL_cut 94 = .ok (.imul, 1) := by decide +kernel
theorem dL_cut_95 : decode cL_cut 95 = .ok (.iload 4, 2) := by decide +kernel
theorem dL_cut_97 : decode cL_cut 97 = .ok (.idiv, 1) := by decide +kernel
theorem dL_cut_98 : decode cL_cut 98 = .ok (.istore 9, 2) := by decide +kernel
theorem dL_cut_100 : decode cL_cut 100 = .ok (.iload 8, 2) := by decide +kernel
theorem dL_cut_102 : decode cL_cut 102 = .ok (.iload_n 3, 1) := by decide +kernel
theorem dL_cut_103 : decode cL_cut 103 = .ok (.if_icmp .ne 50, 3) := by decide +kernel
theorem dL_cut_106 : decode cL_cut 106 = .ok (.aload_n 0, 1) := by decide +kernel
theorem dL_cut_107 : decode cL_cut 107 = .ok (.iload_n 3, 1) := by decide +kernel
theorem dL_cut_108 : decode cL_cut 108 = .ok (.invokevirtual 79, 3) := by decide +kernel
theorem dL_cut_111 : decode cL_cut 111 = .ok (.iload_n 2, 1) := by decide +kernel
theorem dL_cut_112 : decode cL_cut 112 = .ok (.if_icmp .ne 41, 3) := by decide +kernel
theorem dL_cut_115 : decode cL_cut 115 = .ok (.aload_n 0, 1) := by decide +kernel
theorem dL_cut_116 : decode cL_cut 116 = .ok (.iload_n 1, 1) := by decide +kernel
theorem dL_cut_117 : decode cL_cut 117 = .ok (.invokevirtual 79, 3) := by decide +kernel
theorem dL_cut_120 : decode cL_cut 120 = .ok (.iload 4, 2) := by decide +kernel
theorem dL_cut_122 : decode cL_cut 122 = .ok (.iload_n 2, 1) := by decide +kernel
theorem dL_cut_123 : decode cL_cut 123 = .ok (.isub, 1) := by decide +kernel
theorem dL_cut_124 : decode cL_cut 124 = .ok (.if_icmp .ne 29, 3) := by decide +kernel
theorem dL_cut_127 : decode cL_cut 127 = .ok (.aload_n 0, 1) := by decide +kernel
theorem dL_cut_128 : decode cL_cut 128 = .ok (.iload_n 3, 1) := by decide +kernel
theorem dL_cut_129 : decode cL_cut 129 = .ok (.invokevirtual 180, 3) := by decide +kernel
theorem dL_cut_132 : decode cL_cut 132 = .ok (.aload_n 0, 1) := by decide +kernel
theorem dL_cut_133 : decode cL_cut 133 = .ok (.iload_n 1, 1) := by decide +kernel
theorem dL_cut_134 : decode cL_cut 134 = .ok (.invokevirtual 180, 3) := by decide +kernel
theorem dL_cut_137 : decode cL_cut 137 = .ok (.iadd, 1) := by decide +kernel
theorem dL_cut_138 : decode cL_cut 138 = .ok (.iload 5, 2) := by decide +kernel
theorem dL_cut_140 : decode cL_cut 140 = .ok (.if_icmp .ne 13, 3) := by decide +kernel
theorem dL_cut_143 : decode cL_cut 143 = .ok (.aload_n 0, 1) := by decide +kernel
theorem dL_cut_144 : decode cL_cut 144 = .ok (.iload 7, 2) := by decide +kernel
theorem dL_cut_146 : decode cL_cut 146 = .ok (.invokevirtual 139, 3) := by decide +kernel
theorem dL_cut_149 : decode cL_cut 149 = .ok (.iload_n 3, 1) := by decide +kernel
theorem dL_cut_150 : decode cL_cut 150 = .ok (.if_icmp .eq 5, 3) := by decide +kernel
theorem dL_cut_153 : decode cL_cut 153 = .ok (.iconst 0, 1) := by decide +kernel
theorem dL_cut_154 : decode cL_cut 154 = .ok (.ireturn, 1) := by decide +kernel
theorem dL_cut_155 : decode cL_cut 155 = .ok (.aload_n 0, 1) := by decide +kernel
theorem dL_cut_156 : decode cL_cut 156 = .ok (.iload_n 3, 1) := by decide +kernel
theorem dL_cut_157 : decode cL_cut 157 = .ok (.invokevirtual 109, 3) := by decide +kernel
theorem dL_cut_160 : decode cL_cut 160 = .ok (.iconst 1, 1) := by decide +kernel
theorem dL_cut_161 : decode cL_cut 161 = .ok (.iload 9, 2) := by decide +kernel
theorem dL_cut_163 : decode cL_cut 163 = .ok (.invokestatic 85, 3) := by decide +kernel
theorem dL_cut_166 : decode cL_cut 166 = .ok (.if_icmp .ne 40, 3) := by decide +kernel
theorem dL_cut_169 : decode cL_cut 169 = .ok (.aload_n 0, 1) := by decide +kernel
theorem dL_cut_170 : decode cL_cut 170 = .ok (.iload_n 1, 1) := by decide +kernel
theorem dL_cut_171 : decode cL_cut 171 = .ok (.invokevirtual 109, 3) := by decide +kernel
theorem dL_cut_174 : decode cL_cut 174 = .ok (.iconst 1, 1) := by decide +kernel
theorem dL_cut_175 : decode cL_cut 175 = .ok (.iload 6, 2) := by decide +kernel
theorem dL_cut_177 : decode cL_cut 177 = .ok (.iload 9, 2) := by decide +kernel
theorem dL_cut_179 : decode cL_cut 179 = .ok (.isub, 1) := by decide +kernel
theorem dL_cut_180 : decode cL_cut 180 = .ok (.invokestatic 85, 3) := by decide +kernel
theorem dL_cut_183 : decode cL_cut 183 = .ok (.if_icmp .ne 23, 3) := by decide +kernel
theorem dL_cut_186 : decode cL_cut 186 = .ok (.aload_n 0, 1) := by decide +kernel
theorem dL_cut_187 : decode cL_cut 187 = .ok (.iload_n 3, 1) := by decide +kernel
theorem dL_cut_188 : decode cL_cut 188 = .ok (.invokevirtual 151, 3) := by decide +kernel
theorem dL_cut_191 : decode cL_cut 191 = .ok (.ifCond .ne 15, 3) := by decide +kernel
theorem dL_cut_194 : decode cL_cut 194 = .ok (.aload_n 0, 1) := by decide +kernel
theorem dL_cut_195 : decode cL_cut 195 = .ok (.iload_n 3, 1) := by decide +kernel
theorem dL_cut_196 : decode cL_cut 196 = .ok (.invokevirtual 157, 3) := by decide +kernel
theorem dL_cut_199 : decode cL_cut 199 = .ok (.ifCond .ne 7, 3) := by decide +kernel
theorem dL_cut_202 : decode cL_cut 202 = .ok (.iconst 1, 1) := by decide +kernel
theorem dL_cut_203 : decode cL_cut 203 = .ok (.goto 4, 3) := by decide +kernel
theorem dL_cut_206 : decode cL_cut 206 = .ok (.iconst 0, 1) := by decide +kernel
theorem dL_cut_207 : decode cL_cut 207 = .ok (.ireturn, 1) := by decide +kernel
theorem dL_foretold_0 : decode cL_foretold 0 = .ok (.aload_n 0, 1) := by decide +kernel
theorem dL_foretold_1 : decode cL_foretold 1 = .ok (.iload_n 2, 1) := by decide +kernel
theorem dL_foretold_2 : decode cL_foretold 2 = .ok (.invokevirtual 254, 3) := by decide +kernel
theorem dL_foretold_5 : decode cL_foretold 5 = .ok (.istore_n 3, 1) := by decide +kernel
theorem dL_foretold_6 : decode cL_foretold 6 = .ok (.aload_n 0, 1) := by decide +kernel
theorem dL_foretold_7 : decode cL_foretold 7 = .ok (.iload_n 2, 1) := by decide +kernel
theorem dL_foretold_8 : decode cL_foretold 8 = .ok (.bipush 40, 2) := by decide +kernel
theorem dL_foretold_10 : decode cL_foretold 10 = .ok (.invokevirtual 257, 3) := by decide +kernel
theorem dL_foretold_13 : decode cL_foretold 13 = .ok (.istore 4, 2) := by decide +kernel
theorem dL_foretold_15 : decode cL_foretold 15 = .ok (.aload_n 0, 1) := by decide +kernel
theorem dL_foretold_16 : decode cL_foretold 16 = .ok (.bipush 40, 2) := by decide +kernel
theorem dL_foretold_18 : decode cL_foretold 18 = .ok (.invokevirtual 260, 3) := by decide +kernel
theorem dL_foretold_21 : decode cL_foretold 21 = .ok (.istore 5, 2) := by decide +kernel
theorem dL_foretold_23 : decode cL_foretold 23 = .ok (.aload_n 0, 1) := by decide +kernel
theorem dL_foretold_24 : decode cL_foretold 24 = .ok (.iload_n 2, 1) := by decide +kernel
theorem dL_foretold_25 : decode cL_foretold 25 = .ok (.invokevirtual 157, 3) := by decide +kernel
theorem dL_foretold_28 : decode cL_foretold 28 = .ok (.iconst 2, 1) := by decide +kernel
theorem dL_foretold_29 : decode cL_foretold 29 = .ok (.if_icmp .ne 7, 3) := by decide +kernel
theorem dL_foretold_32 : decode cL_foretold 32 = .ok (.iconst 0, 1) := by decide +kernel
theorem dL_foretold_33 : decode cL_foretold 33 = .ok (.goto 4, 3) := by decide +kernel
theorem dL_foretold_36 : decode cL_foretold 36 = .ok (.iconst (-1), 1) := by decide +kernel
theorem dL_foretold_37 : decode cL_foretold 37 = .ok (.istore 6, 2) := by decide +kernel
theorem dL_foretold_39 : decode cL_foretold 39 = .ok (.iconst 1, 1) := by decide +kernel
theorem dL_foretold_40 : decode cL_foretold 40 = .ok (.istore 7, 2) := by decide +kernel
theorem dL_foretold_42 : decode cL_foretold 42 = .ok (.iload 7, 2) := by decide +kernel
theorem dL_foretold_44 : decode cL_foretold 44 = .ok (.bipush 40, 2) := by decide +kernel
theorem dL_foretold_46 : decode cL_foretold 46 = .ok (.if_icmp .gt 37, 3) := by decide +kernel
theorem dL_foretold_49 : decode cL_foretold 49 = .ok (.aload_n 0, 1) := by decide +kernel
theorem dL_foretold_50 : decode cL_foretold 50 = .ok (.aload_n 1, 1) := by decide +kernel
theorem dL_foretold_51 : decode cL_foretold 51 = .ok (.invokestatic 220, 3) := by decide +kernel
theorem dL_foretold_54 : decode cL_foretold 54 = .ok (.ifCond .ne 5, 3) := by decide +kernel
theorem dL_foretold_57 : decode cL_foretold 57 = .ok (.iconst 0, 1) := by decide +kernel
theorem dL_foretold_58 : decode cL_foretold 58 = .ok (.ireturn, 1) := by decide +kernel
theorem dL_foretold_59 : decode cL_foretold 59 = .ok (.iload 6, 2) := by decide +kernel
theorem dL_foretold_61 : decode cL_foretold 61 = .ok (.ifCond .ge 16, 3) := by decide +kernel
theorem dL_foretold_64 : decode cL_foretold 64 = .ok (.aload_n 0, 1) := by decide +kernel
theorem dL_foretold_65 : decode cL_foretold 65 = .ok (.iload_n 2, 1) := by decide +kernel
theorem dL_foretold_66 : decode cL_foretold 66 = .ok (.invokevirtual 157, 3) := by decide +kernel
theorem dL_foretold_69 : decode cL_foretold 69 = .ok (.iconst 2, 1) := by decide +kernel
theorem dL_foretold_70 : decode cL_foretold 70 = .ok (.if_icmp .ne 7, 3) := by decide +kernel
theorem dL_foretold_73 : decode cL_foretold 73 = .ok (.iload 7, 2) := by decide +kernel
theorem dL_foretold_75 : decode cL_foretold 75 = .ok (.istore 6, 2) := by decide +kernel
theorem dL_foretold_77 : decode cL_foretold 77 = .ok (.iinc 7 1, 3) := by decide +kernel
theorem dL_foretold_80 : decode cL_foretold 80 = .ok (.goto (-38), 3) := by decide +kernel
theorem dL_foretold_83 : decode cL_foretold 83 = .ok (.iload 6, 2) := by decide +kernel
theorem dL_foretold_85 : decode cL_foretold 85 = .ok (.ifCond .lt 12, 3) := by decide +kernel
theorem dL_foretold_88 : decode cL_foretold 88 = .ok (.iload_n 3, 1) := by decide +kernel
theorem dL_foretold_89 : decode cL_foretold 89 = .ok (.iload 6, 2) := by decide +kernel
theorem dL_foretold_91 : decode cL_foretold 91 = .ok (.if_icmp .ne 39, 3) := by decide +kernel
theorem dL_foretold_94 : decode cL_foretold 94 = .ok (.goto 13, 3) := by decide +kernel
theorem dL_foretold_97 : decode cL_foretold 97 = .ok (.iload_n 3, 1) := by decide +kernel
theorem dL_foretold_98 : decode cL_foretold 98 = .ok (.ifCond .lt 9, 3) := by decide +kernel
theorem dL_foretold_101 : decode cL_foretold 101 = .ok (.iload_n 3, 1) := by decide +kernel
theorem dL_foretold_102 : decode cL_foretold 102 = .ok (.bipush 40, 2) := by decide +kernel
theorem dL_foretold_104 : decode cL_foretold 104 = .ok (.if_icmp .le 26, 3) := by decide +kernel
theorem dL_foretold_107 : decode cL_foretold 107 = .ok (.aload_n 0, 1) := by decide +kernel
theorem dL_foretold_108 : decode cL_foretold 108 = .ok (.iload_n 2, 1) := by decide +kernel
theorem dL_foretold_109 : decode cL_foretold 109 = .ok (.invokevirtual 160, 3) := by decide +kernel
theorem dL_foretold_112 : decode cL_foretold 112 = .ok (.iload 4, 2) := by decide +kernel
theorem dL_foretold_114 : decode cL_foretold 114 = .ok (.if_icmp .ne 16, 3) := by decide +kernel
theorem dL_foretold_117 : decode cL_foretold 117 = .ok (.aload_n 0, 1) := by decide +kernel
theorem dL_foretold_118 : decode cL_foretold 118 = .ok (.invokevirtual 142, 3) := by decide +kernel
theorem dL_foretold_121 : decode cL_foretold 121 = .ok (.iload 5, 2) := by decide +kernel
theorem dL_foretold_123 : decode cL_foretold 123 = .ok (.if_icmp .ne 7, 3) := by decide +kernel
theorem dL_foretold_126 : decode cL_foretold 126 = .ok (.iconst 1, 1) := by decide +kernel
theorem dL_foretold_127 : decode cL_foretold 127 = .ok (.goto 4, 3) := by decide +kernel
theorem dL_foretold_130 : decode cL_foretold 130 = .ok (.iconst 0, 1) := by decide +kernel
theorem dL_foretold_131 : decode cL_foretold 131 = .ok (.ireturn, 1) := by decide +kernel
theorem dL_input_0 : decode cL_input 0 = .ok (.aload_n 0, 1) := by decide +kernel
theorem dL_input_1 : decode cL_input 1 = .ok (.iconst 0, 1) := by decide +kernel
theorem dL_input_2 : decode cL_input 2 = .ok (.invokevirtual 7, 3) := by decide +kernel
theorem dL_input_5 : decode cL_input 5 = .ok (.pop, 1) := by decide +kernel
theorem dL_input_6 : decode cL_input 6 = .ok (.iconst 0, 1) := by decide +kernel
theorem dL_input_7 : decode cL_input 7 = .ok (.istore_n 2, 1) := by decide +kernel
theorem dL_input_8 : decode cL_input 8 = .ok (.iload_n 2, 1) := by decide +kernel
theorem dL_input_9 : decode cL_input 9 = .ok (.aload_n 1, 1) := by decide +kernel
theorem dL_input_10 : decode cL_input 10 = .ok (.invokevirtual 13, 3) := by decide +kernel
theorem dL_input_13 : decode cL_input 13 = .ok (.if_icmp .ge 88, 3) := by decide +kernel
theorem dL_input_16 : decode cL_input 16 = .ok (.iconst 5, 1) := by decide +kernel
theorem dL_input_17 : decode cL_input 17 = .ok (.newarray .int, 2) := by decide +kernel
theorem dL_input_19 : decode cL_input 19 = .ok (.astore_n 3, 1) := by decide +kernel
theorem dL_input_20 : decode cL_input 20 = .ok (.iconst 0, 1) := by decide +kernel
theorem dL_input_21 : decode cL_input 21 = .ok (.istore 4, 2) := by decide +kernel
theorem dL_input_23 : decode cL_input 23 = .ok (.iload 4, 2) := by decide +kernel
theorem dL_input_25 : decode cL_input 25 = .ok (.bipush 20, 2) := by decide +kernel
theorem dL_input_27 : decode cL_input 27 = .ok (.if_icmp .ge 48, 3) := by decide +kernel
theorem dL_input_30 : decode cL_input 30 = .ok (.iload_n 2, 1) := by decide +kernel
theorem dL_input_31 : decode cL_input 31 = .ok (.iload 4, 2) := by decide +kernel
theorem dL_input_33 : decode cL_input 33 = .ok (.iadd, 1) := by decide +kernel
theorem dL_input_34 : decode cL_input 34 = .ok (.aload_n 1, 1) := by decide +kernel
theorem dL_input_35 : decode cL_input 35 = .ok (.invokevirtual 13, 3) := by decide +kernel
theorem dL_input_38 : decode cL_input 38 = .ok (.if_icmp .ge 37, 3) := by decide +kernel
theorem dL_input_41 : decode cL_input 41 = .ok (.aload_n 3, 1) := by decide +kernel
theorem dL_input_42 : decode cL_input 42 = .ok (.iload 4, 2) := by decide +kernel
theorem dL_input_44 : decode cL_input 44 = .ok (.iconst 4, 1) := by decide +kernel
theorem dL_input_45 : decode cL_input 45 = .ok (.idiv, 1) := by decide +kernel
theorem dL_input_46 : decode cL_input 46 = .ok (.dup2, 1) := by decide +kernel
theorem dL_input_47 : decode cL_input 47 = .ok (.iaload, 1) := by decide +kernel
theorem dL_input_48 : decode cL_input 48 = .ok (.aload_n 1, 1) := by decide +kernel
theorem dL_input_49 : decode cL_input 49 = .ok (.iload_n 2, 1) := by decide +kernel
theorem dL_input_50 : decode cL_input 50 = .ok (.iload 4, 2) := by decide +kernel
theorem dL_input_52 : decode cL_input 52 = .ok (.iadd, 1) := by decide +kernel
theorem dL_input_53 : decode cL_input 53 = .ok (.invokevirtual 19, 3) := by decide +kernel
theorem dL_input_56 : decode cL_input 56 = .ok (.bipush 24, 2) := by decide +kernel
theorem dL_input_58 : decode cL_input 58 = .ok (.bipush 8, 2) := by decide +kernel
theorem dL_input_60 : decode cL_input 60 = .ok (.iload 4, 2) := by decide +kernel
theorem dL_input_62 : decode cL_input 62 = .ok (.iconst 4, 1) := by decide +kernel
theorem dL_input_63 : decode cL_input 63 = .ok (.irem, 1) := by decide +kernel
theorem dL_input_64 : decode cL_input 64 = .ok (.imul, 1) := by decide +kernel
theorem dL_input_65 : decode cL_input 65 = .ok (.isub, 1) := by decide +kernel
theorem dL_input_66 : decode cL_input 66 = .ok (.ishl, 1) := by decide +kernel
theorem dL_input_67 : decode cL_input 67 = .ok (.ior, 1) := by decide +kernel
theorem dL_input_68 : decode cL_input 68 = .ok (.iastore, 1) := by decide +kernel
theorem dL_input_69 : decode cL_input 69 = .ok (.iinc 4 1, 3) := by decide +kernel
theorem dL_input_72 : decode cL_input 72 = .ok (.goto (-49), 3) := by decide +kernel
theorem dL_input_75 : decode cL_input 75 = .ok (.aload_n 0, 1) := by decide +kernel
theorem dL_input_76 : decode cL_input 76 = .ok (.aload_n 3, 1) := by decide +kernel
theorem dL_input_77 : decode cL_input 77 = .ok (.iconst 0, 1) := by decide +kernel
theorem dL_input_78 : decode cL_input 78 = .ok (.iaload, 1) := by decide +kernel
theorem dL_input_79 : decode cL_input 79 = .ok (.aload_n 3, 1) := by decide +kernel
theorem dL_input_80 : decode cL_input 80 = .ok (.iconst 1, 1) := by decide +kernel
theorem dL_input_81 : decode cL_input 81 = .ok (.iaload, 1) := by decide +kernel
theorem dL_input_82 : decode cL_input 82 = .ok (.aload_n 3, 1) := by decide +kernel
theorem dL_input_83 : decode cL_input 83 = .ok (.iconst 2, 1) := by decide +kernel
theorem dL_input_84 : decode cL_input 84 = .ok (.iaload, 1) := by decide +kernel
theorem dL_input_85 : decode cL_input 85 = .ok (.aload_n 3, 1) := by decide +kernel
theorem dL_input_86 : decode cL_input 86 = .ok (.iconst 3, 1) := by decide +kernel
theorem dL_input_87 : decode cL_input 87 = .ok (.iaload, 1) := by decide +kernel
theorem dL_input_88 : decode cL_input 88 = .ok (.aload_n 3, 1) := by decide +kernel
theorem dL_input_89 : decode cL_input 89 = .ok (.iconst 4, 1) := by decide +kernel
theorem dL_input_90 : decode cL_input 90 = .ok (.iaload, 1) := by decide +kernel
theorem dL_input_91 : decode cL_input 91 = .ok (.invokevirtual 23, 3) := by decide +kernel
theorem dL_input_94 : decode cL_input 94 = .ok (.pop, 1) := by decide +kernel
theorem dL_input_95 : decode cL_input 95 = .ok (.iinc 2 20, 3) := by decide +kernel
theorem dL_input_98 : decode cL_input 98 = .ok (.goto (-90), 3) := by decide +kernel
theorem dL_input_101 : decode cL_input 101 = .ok (.aload_n 0, 1) := by decide +kernel
theorem dL_input_102 : decode cL_input 102 = .ok (.aload_n 1, 1) := by decide +kernel
theorem dL_input_103 : decode cL_input 103 = .ok (.invokevirtual 13, 3) := by decide +kernel
theorem dL_input_106 : decode cL_input 106 = .ok (.invokevirtual 7, 3) := by decide +kernel
theorem dL_input_109 : decode cL_input 109 = .ok (.pop, 1) := by decide +kernel
theorem dL_input_110 : decode cL_input 110 = .ok (.return_, 1) := by decide +kernel
