theorem dX11_init_0 : decode cX11_init 0 = .ok (.aload_n 0, 1) := by decide +kernel
theorem dX11_init_1 : decode cX11_init 1 = .ok (.invokespecial 1, 3) := by decide +kernel
theorem dX11_init_4 : decode cX11_init 4 = .ok (.aload_n 0, 1) := by decide +kernel
theorem dX11_init_5 : decode cX11_init 5 = .ok (.sipush 4810, 3) := by decide +kernel
theorem dX11_init_8 : decode cX11_init 8 = .ok (.newarray .int, 2) := by decide +kernel
theorem dX11_init_10 : decode cX11_init 10 = .ok (.putfield 7, 3) := by decide +kernel
theorem dX11_init_13 : decode cX11_init 13 = .ok (.aload_n 0, 1) := by decide +kernel
theorem dX11_init_14 : decode cX11_init 14 = .ok (.iconst 2, 1) := by decide +kernel
theorem dX11_init_15 : decode cX11_init 15 = .ok (.newarray .boolean, 2) := by decide +kernel
theorem dX11_init_17 : decode cX11_init 17 = .ok (.putfield 13, 3) := by decide +kernel
theorem dX11_init_20 : decode cX11_init 20 = .ok (.aload_n 0, 1) := by decide +kernel
theorem dX11_init_21 : decode cX11_init 21 = .ok (.sipush 500, 3) := by decide +kernel
theorem dX11_init_24 : decode cX11_init 24 = .ok (.newarray .byte, 2) := by decide +kernel
theorem dX11_init_26 : decode cX11_init 26 = .ok (.putfield 17, 3) := by decide +kernel
theorem dX11_init_29 : decode cX11_init 29 = .ok (.aload_n 0, 1) := by decide +kernel
theorem dX11_init_30 : decode cX11_init 30 = .ok (.iconst (-1), 1) := by decide +kernel
theorem dX11_init_31 : decode cX11_init 31 = .ok (.putfield 21, 3) := by decide +kernel
theorem dX11_init_34 : decode cX11_init 34 = .ok (.aload_n 0, 1) := by decide +kernel
theorem dX11_init_35 : decode cX11_init 35 = .ok (.bipush 11, 2) := by decide +kernel
theorem dX11_init_37 : decode cX11_init 37 = .ok (.newarray .int, 2) := by decide +kernel
theorem dX11_init_39 : decode cX11_init 39 = .ok (.putfield 25, 3) := by decide +kernel
theorem dX11_init_42 : decode cX11_init 42 = .ok (.aload_n 0, 1) := by decide +kernel
theorem dX11_init_43 : decode cX11_init 43 = .ok (.sipush 260, 3) := by decide +kernel
theorem dX11_init_46 : decode cX11_init 46 = .ok (.newarray .int, 2) := by decide +kernel
theorem dX11_init_48 : decode cX11_init 48 = .ok (.putfield 28, 3) := by decide +kernel
theorem dX11_init_51 : decode cX11_init 51 = .ok (.aload_n 0, 1) := by decide +kernel
theorem dX11_init_52 : decode cX11_init 52 = .ok (.sipush 200, 3) := by decide +kernel
theorem dX11_init_55 : decode cX11_init 55 = .ok (.newarray .byte, 2) := by decide +kernel
theorem dX11_init_57 : decode cX11_init 57 = .ok (.putfield 31, 3) := by decide +kernel
theorem dX11_init_60 : decode cX11_init 60 = .ok (.aload_n 0, 1) := by decide +kernel
theorem dX11_init_61 : decode cX11_init 61 = .ok (.bipush 64, 2) := by decide +kernel
theorem dX11_init_63 : decode cX11_init 63 = .ok (.newarray .char, 2) := by decide +kernel
theorem dX11_init_65 : decode cX11_init 65 = .ok (.dup, 1) := by decide +kernel
theorem dX11_init_66 : decode cX11_init 66 = .ok (.iconst 0, 1) := by decide +kernel
theorem dX11_init_67 : decode cX11_init 67 = .ok (.bipush 109, 2) := by decide +kernel
theorem dX11_init_69 : decode cX11_init 69 = .ok (.castore, 1) := by decide +kernel
theorem dX11_init_70 : decode cX11_init 70 = .ok (.dup, 1) := by decide +kernel
theorem dX11_init_71 : decode cX11_init 71 = .ok (.iconst 1, 1) := by decide +kernel
theorem dX11_init_72 : decode cX11_init 72 = .ok (.bipush 97, 2) := by decide +kernel
theorem dX11_init_74 : decode cX11_init 74 = .ok (.castore, 1) := by decide +kernel
theorem dX11_init_75 : decode cX11_init 75 = .ok (.dup, 1) := by decide +kernel
theorem dX11_init_76 : decode cX11_init 76 = .ok (.iconst 2, 1) := by decide +kernel
theorem dX11_init_77 : decode cX11_init 77 = .ok (.bipush 114, 2) := by decide +kernel
theorem dX11_init_79 : decode cX11_init 79 = .ok (.castore, 1) := by decide +kernel
theorem dX11_init_80 : decode cX11_init 80 = .ok (.dup, 1) := by decide +kernel
theorem dX11_init_81 : decode cX11_init 81 = .ok (.iconst 3, 1) := by decide +kernel
theorem dX11_init_82 : decode cX11_init 82 = .ok (.bipush 107, 2) := by decide +kernel
theorem dX11_init_84 : decode cX11_init 84 = .ok (.castore, 1) := by decide +kernel
theorem dX11_init_85 : decode cX11_init 85 = .ok (.dup, 1) := by decide +kernel
theorem dX11_init_86 : decode cX11_init 86 = .ok (.iconst 4, 1) := by decide +kernel
theorem dX11_init_87 : decode cX11_init 87 = .ok (.bipush 101, 2) := by decide +kernel
theorem dX11_init_89 : decode cX11_init 89 = .ok (.castore, 1) := by decide +kernel
theorem dX11_init_90 : decode cX11_init 90 = .ok (.dup, 1) := by decide +kernel
theorem dX11_init_91 : decode cX11_init 91 = .ok (.iconst 5, 1) := by decide +kernel
theorem dX11_init_92 : decode cX11_init 92 = .ok (.bipush 116, 2) := by decide +kernel
theorem dX11_init_94 : decode cX11_init 94 = .ok (.castore, 1) := by decide +kernel
theorem dX11_init_95 : decode cX11_init 95 = .ok (.dup, 1) := by decide +kernel
theorem dX11_init_96 : decode cX11_init 96 = .ok (.bipush 6, 2) := by decide +kernel
theorem dX11_init_98 : decode cX11_init 98 = .ok (.bipush 32, 2) := by decide +kernel
theorem dX11_init_100 : decode cX11_init 100 = .ok (.castore, 1) := by decide +kernel
theorem dX11_init_101 : decode cX11_init 101 = .ok (.dup, 1) := by decide +kernel
theorem dX11_init_102 : decode cX11_init 102 = .ok (.bipush 7, 2) := by decide +kernel
theorem dX11_init_104 : decode cX11_init 104 = .ok (.bipush 32, 2) := by decide +kernel
theorem dX11_init_106 : decode cX11_init 106 = .ok (.castore, 1) := by decide +kernel
theorem dX11_init_107 : decode cX11_init 107 = .ok (.dup, 1) := by decide +kernel
theorem dX11_init_108 : decode cX11_init 108 = .ok (.bipush 8, 2) := by decide +kernel
theorem dX11_init_110 : decode cX11_init 110 = .ok (.bipush 98, 2) := by decide +kernel
theorem dX11_init_112 : decode cX11_init 112 = .ok (.castore, 1) := by decide +kernel
theorem dX11_init_113 : decode cX11_init 113 = .ok (.dup, 1) := by decide +kernel
theorem dX11_init_114 : decode cX11_init 114 = .ok (.bipush 9, 2) := by decide +kernel
theorem dX11_init_116 : decode cX11_init 116 = .ok (.bipush 117, 2) := by decide +kernel
theorem dX11_init_118 : decode cX11_init 118 = .ok (.castore, 1) := by decide +kernel
theorem dX11_init_119 : decode cX11_init 119 = .ok (.dup, 1) := by decide +kernel
theorem dX11_init_120 : decode cX11_init 120 = .ok (.bipush 10, 2) := by decide +kernel
theorem dX11_init_122 : decode cX11_init 122 = .ok (.bipush 121, 2) := by decide +kernel
theorem dX11_init_124 : decode cX11_init 124 = .ok (.castore, 1) := by decide +kernel
theorem dX11_init_125 : decode cX11_init 125 = .ok (.dup, 1) := by decide +kernel
theorem dX11_init_126 : decode cX11_init 126 = .ok (.bipush 11, 2) := by decide +kernel
theorem dX11_init_128 : decode cX11_init 128 = .ok (.bipush 101, 2) := by decide +kernel
theorem dX11_init_130 : decode cX11_init 130 = .ok (.castore, 1) := by decide +kernel
theorem dX11_init_131 : decode cX11_init 131 = .ok (.dup, 1) := by decide +kernel
theorem dX11_init_132 : decode cX11_init 132 = .ok (.bipush 12, 2) := by decide +kernel
theorem dX11_init_134 : decode cX11_init 134 = .ok (.bipush 114, 2) := by decide +kernel
theorem dX11_init_136 : decode cX11_init 136 = .ok (.castore, 1) := by decide +kernel
theorem dX11_init_137 : decode cX11_init 137 = .ok (.dup, 1) := by decide +kernel
theorem dX11_init_138 : decode cX11_init 138 = .ok (.bipush 13, 2) := by decide +kernel
theorem dX11_init_140 : decode cX11_init 140 = .ok (.bipush 32, 2) := by decide +kernel
theorem dX11_init_142 : decode cX11_init 142 = .ok (.castore, 1) := by decide +kernel
theorem dX11_init_143 : decode cX11_init 143 = .ok (.dup, 1) := by decide +kernel
theorem dX11_init_144 : decode cX11_init 144 = .ok (.bipush 14, 2) := by decide +kernel
theorem dX11_init_146 : decode cX11_init 146 = .ok (.bipush 32, 2) := by decide +kernel
theorem dX11_init_148 : decode cX11_init 148 = .ok (.castore, 1) := by decide +kernel
theorem dX11_init_149 : decode cX11_init 149 = .ok (.dup, 1) := by decide +kernel
theorem dX11_init_150 : decode cX11_init 150 = .ok (.bipush 15, 2) := by decide +kernel
theorem dX11_init_152 : decode cX11_init 152 = .ok (.bipush 32, 2) := by decide +kernel
theorem dX11_init_154 : decode cX11_init 154 = .ok (.castore, 1) := by decide +kernel
theorem dX11_init_155 : decode cX11_init 155 = .ok (.dup, 1) := by decide +kernel
theorem dX11_init_156 : decode cX11_init 156 = .ok (.bipush 16, 2) := by decide +kernel
theorem dX11_init_158 : decode cX11_init 158 = .ok (.bipush 98, 2) := by decide +kernel
theorem dX11_init_160 : decode cX11_init 160 = .ok (.castore, 1) := by decide +kernel
theorem dX11_init_161 : decode cX11_init 161 = .ok (.dup, 1) := by decide +kernel
theorem dX11_init_162 : decode cX11_init 162 = .ok (.bipush 17, 2) := by decide +kernel
theorem dX11_init_164 : decode cX11_init 164 = .ok (.bipush 97, 2) := by decide +kernel
theorem dX11_init_166 : decode cX11_init 166 = .ok (.castore, 1) := by decide +kernel
theorem dX11_init_167 : decode cX11_init 167 = .ok (.dup, 1) := by decide +kernel
theorem dX11_init_168 : decode cX11_init 168 = .ok (.bipush 18, 2) := by decide +kernel
theorem dX11_init_170 : decode cX11_init 170 = .ok (.bipush 114, 2) := by decide +kernel
theorem dX11_init_172 : decode cX11_init 172 = .ok (.castore, 1) := by decide +kernel
theorem dX11_init_173 : decode cX11_init 173 = .ok (.dup, 1) := by decide +kernel
theorem dX11_init_174 : decode cX11_init 174 = .ok (.bipush 19, 2) := by decide +kernel
theorem dX11_init_176 : decode cX11_init 176 = .ok (.bipush 114, 2) := by decide +kernel
theorem dX11_init_178 : decode cX11_init 178 = .ok (.castore, 1) := by decide +kernel
theorem dX11_init_179 : decode cX11_init 179 = .ok (.dup, 1) := by decide +kernel
theorem dX11_init_180 : decode cX11_init 180 = .ok (.bipush 20, 2) := by decide +kernel
theorem dX11_init_182 : decode cX11_init 182 = .ok (.bipush 101, 2) := by decide +kernel
theorem dX11_init_184 : decode cX11_init 184 = .ok (.castore, 1) := by decide +kernel
theorem dX11_init_185 : decode cX11_init 185 = .ok (.dup, 1) := by decide +kernel
theorem dX11_init_186 : decode cX11_init 186 = .ok (.bipush 21, 2) := by decide +kernel
theorem dX11_init_188 : decode cX11_init 188 = .ok (.bipush 108, 2) := by decide +kernel
theorem dX11_init_190 : decode cX11_init 190 = .ok (.castore, 1) := by decide +kernel
theorem dX11_init_191 : decode cX11_init 191 = .ok (.dup, 1) := by decide +kernel
theorem dX11_init_192 : decode cX11_init 192 = .ok (.bipush 22, 2) := by decide +kernel
theorem dX11_init_194 : decode cX11_init 194 = .ok (.bipush 32, 2) := by decide +kernel
theorem dX11_init_196 : decode cX11_init 196 = .ok (.castore, 1) := by decide +kernel
theorem dX11_init_197 : decode cX11_init 197 = .ok (.dup, 1) := by decide +kernel
theorem dX11_init_198 : decode cX11_init 198 = .ok (.bipush 23, 2) := by decide +kernel
theorem dX11_init_200 : decode cX11_init 200 = .ok (.bipush 32, 2) := by decide +kernel
theorem dX11_init_202 : decode cX11_init 202 = .ok (.castore, 1) := by decide +kernel
theorem dX11_init_203 : decode cX11_init 203 = .ok (.dup, 1) := by decide +kernel
theorem dX11_init_204 : decode cX11_init 204 = .ok (.bipush 24, 2) := by decide +kernel
theorem dX11_init_206 : decode cX11_init 206 = .ok (.bipush 110, 2) := by decide +kernel
theorem dX11_init_208 : decode cX11_init 208 = .ok (.castore, 1) := by decide +kernel
theorem dX11_init_209 : decode cX11_init 209 = .ok (.dup, 1) := by decide +kernel
theorem dX11_init_210 : decode cX11_init 210 = .ok (.bipush 25, 2) := by decide +kernel
theorem dX11_init_212 : decode cX11_init 212 = .ok (.bipush 111, 2) := by decide +kernel
theorem dX11_init_214 : decode cX11_init 214 = .ok (.castore, 1) := by decide +kernel
theorem dX11_init_215 : decode cX11_init 215 = .ok (.dup, 1) := by decide +kernel
theorem dX11_init_216 : decode cX11_init 216 = .ok (.bipush 26, 2) := by decide +kernel
theorem dX11_init_218 : decode cX11_init 218 = .ok (.bipush 100, 2) := by decide +kernel
theorem dX11_init_220 : decode cX11_init 220 = .ok (.castore, 1) := by decide +kernel
theorem dX11_init_221 : decode cX11_init 221 = .ok (.dup, 1) := by decide +kernel
theorem dX11_init_222 : decode cX11_init 222 = .ok (.bipush 27, 2) := by decide +kernel
theorem dX11_init_224 : decode cX11_init 224 = .ok (.bipush 32, 2) := by decide +kernel
theorem dX11_init_226 : decode cX11_init 226 = .ok (.castore, 1) := by decide +kernel
theorem dX11_init_227 : decode cX11_init 227 = .ok (.dup, 1) := by decide +kernel
theorem dX11_init_228 : decode cX11_init 228 = .ok (.bipush 28, 2) := by decide +kernel
theorem dX11_init_230 : decode cX11_init 230 = .ok (.bipush 32, 2) := by decide +kernel
theorem dX11_init_232 : decode cX11_init 232 = .ok (.castore, 1) := by decide +kernel
theorem dX11_init_233 : decode cX11_init 233 = .ok (.dup, 1) := by decide +kernel
theorem dX11_init_234 : decode cX11_init 234 = .ok (.bipush 29, 2) := by decide +kernel
theorem dX11_init_236 : decode cX11_init 236 = .ok (.bipush 32, 2) := by decide +kernel
theorem dX11_init_238 : decode cX11_init 238 = .ok (.castore, 1) := by decide +kernel
theorem dX11_init_239 : decode cX11_init 239 = .ok (.dup, 1) := by decide +kernel
theorem dX11_init_240 : decode cX11_init 240 = .ok (.bipush 30, 2) := by decide +kernel
theorem dX11_init_242 : decode cX11_init 242 = .ok (.bipush 32, 2) := by decide +kernel
theorem dX11_init_244 : decode cX11_init 244 = .ok (.castore, 1) := by decide +kernel
theorem dX11_init_245 : decode cX11_init 245 = .ok (.dup, 1) := by decide +kernel
theorem dX11_init_246 : decode cX11_init 246 = .ok (.bipush 31, 2) := by decide +kernel
theorem dX11_init_248 : decode cX11_init 248 = .ok (.bipush 32, 2) := by decide +kernel
theorem dX11_init_250 : decode cX11_init 250 = .ok (.castore, 1) := by decide +kernel
theorem dX11_init_251 : decode cX11_init 251 = .ok (.dup, 1) := by decide +kernel
theorem dX11_init_252 : decode cX11_init 252 = .ok (.bipush 32, 2) := by decide +kernel
theorem dX11_init_254 : decode cX11_init 254 = .ok (.bipush 119, 2) := by decide +kernel
theorem dX11_init_256 : decode cX11_init 256 = .ok (.castore, 1) := by decide +kernel
theorem dX11_init_257 : decode cX11_init 257 = .ok (.dup, 1) := by decide +kernel
theorem dX11_init_258 : decode cX11_init 258 = .ok (.bipush 33, 2) := by decide +kernel
theorem dX11_init_260 : decode cX11_init 260 = .ok (.bipush 97, 2) := by decide +kernel
theorem dX11_init_262 : decode cX11_init 262 = .ok (.castore, 1) := by decide +kernel
theorem dX11_init_263 : decode cX11_init 263 = .ok (.dup, 1) := by decide +kernel
theorem dX11_init_264 : decode cX11_init 264 = .ok (.bipush 34, 2) := by decide +kernel
theorem dX11_init_266 : decode cX11_init 266 = .ok (.bipush 105, 2) := by decide +kernel
theorem dX11_init_268 : decode cX11_init 268 = .ok (.castore, 1) := by decide +kernel
theorem dX11_init_269 : decode cX11_init 269 = .ok (.dup, 1) := by decide +kernel
theorem dX11_init_270 : decode cX11_init 270 = .ok (.bipush 35, 2) := by decide +kernel
theorem dX11_init_272 : decode cX11_init 272 = .ok (.bipush 116, 2) := by decide +kernel
theorem dX11_init_274 : decode cX11_init 274 = .ok (.castore, 1) := by decide +kernel
theorem dX11_init_275 : decode cX11_init 275 = .ok (.dup, 1) := by decide +kernel
theorem dX11_init_276 : decode cX11_init 276 = .ok (.bipush 36, 2) := by decide +kernel
theorem dX11_init_278 : decode cX11_init 278 = .ok (.bipush 32, 2) := by decide +kernel
theorem dX11_init_280 : decode cX11_init 280 = .ok (.castore, 1) := by decide +kernel
theorem dX11_init_281 : decode cX11_init 281 = .ok (.dup, 1) := by decide +kernel
theorem dX11_init_282 : decode cX11_init 282 = .ok (.bipush 37, 2) := by decide +kernel
theorem dX11_init_284 : decode cX11_init 284 = .ok (.bipush 32, 2) := by decide +kernel
theorem dX11_init_286 : decode cX11_init 286 = .ok (.castore, 1) := by decide +kernel
theorem dX11_init_287 : decode cX11_init 287 = .ok (.dup, 1) := by decide +kernel
theorem dX11_init_288 : decode cX11_init 288 = .ok (.bipush 38, 2) := by decide +kernel
theorem dX11_init_290 : decode cX11_init 290 = .ok (.bipush 32, 2) := by decide +kernel
theorem dX11_init_292 : decode cX11_init 292 = .ok (.castore, 1) := by decide +kernel
theorem dX11_init_293 : decode cX11_init 293 = .ok (.dup, 1) := by decide +kernel
theorem dX11_init_294 : decode cX11_init 294 = .ok (.bipush 39, 2) := by decide +kernel
theorem dX11_init_296 : decode cX11_init 296 = .ok (.bipush 32, 2) := by decide +kernel
theorem dX11_init_298 : decode cX11_init 298 = .ok (.castore, 1) := by decide +kernel
theorem dX11_init_299 : decode cX11_init 299 = .ok (.dup, 1) := by decide +kernel
theorem dX11_init_300 : decode cX11_init 300 = .ok (.bipush 40, 2) := by decide +kernel
theorem dX11_init_302 : decode cX11_init 302 = .ok (.bipush 115, 2) := by decide +kernel
theorem dX11_init_304 : decode cX11_init 304 = .ok (.castore, 1) := by decide +kernel
theorem dX11_init_305 : decode cX11_init 305 = .ok (.dup, 1) := by decide +kernel
theorem dX11_init_306 : decode cX11_init 306 = .ok (.bipush 41, 2) := by decide +kernel
theorem dX11_init_308 : decode cX11_init 308 = .ok (.bipush 112, 2) := by decide +kernel
theorem dX11_init_310 : decode cX11_init 310 = .ok (.castore, 1) := by decide +kernel
theorem dX11_init_311 : decode cX11_init 311 = .ok (.dup, 1) := by decide +kernel
theorem dX11_init_312 : decode cX11_init 312 = .ok (.bipush 42, 2) := by decide +kernel
theorem dX11_init_314 : decode cX11_init 314 = .ok (.bipush 108, 2) := by decide +kernel
theorem dX11_init_316 : decode cX11_init 316 = .ok (.castore, 1) := by decide +kernel
theorem dX11_init_317 : decode cX11_init 317 = .ok (.dup, 1) := by decide +kernel
theorem dX11_init_318 : decode cX11_init 318 = .ok (.bipush 43, 2) := by decide +kernel
theorem dX11_init_320 : decode cX11_init 320 = .ok (.bipush 105, 2) := by decide +kernel
theorem dX11_init_322 : decode cX11_init 322 = .ok (.castore, 1) := by decide +kernel
theorem dX11_init_323 : decode cX11_init 323 = .ok (.dup, 1) := by decide +kernel
theorem dX11_init_324 : decode cX11_init 324 = .ok (.bipush 44, 2) := by decide +kernel
theorem dX11_init_326 : decode cX11_init 326 = .ok (.bipush 116, 2) := by decide +kernel
theorem dX11_init_328 : decode cX11_init 328 = .ok (.castore, 1) := by decide +kernel
theorem dX11_init_329 : decode cX11_init 329 = .ok (.dup, 1) := by decide +kernel
theorem dX11_init_330 : decode cX11_init 330 = .ok (.bipush 45, 2) := by decide +kernel
theorem dX11_init_332 : decode cX11_init 332 = .ok (.bipush 32, 2) := by decide +kernel
theorem dX11_init_334 : decode cX11_init 334 = .ok (.castore, 1) := by decide +kernel
theorem dX11_init_335 : decode cX11_init 335 = .ok (.dup, 1) := by decide +kernel
theorem dX11_init_336 : decode cX11_init 336 = .ok (.bipush 46, 2) := by decide +kernel
theorem dX11_init_338 : decode cX11_init 338 = .ok (.bipush 32, 2) := by decide +kernel
theorem dX11_init_340 : decode cX11_init 340 = .ok (.castore, 1) := by decide +kernel
theorem dX11_init_341 : decode cX11_init 341 = .ok (.dup, 1) := by decide +kernel
theorem dX11_init_342 : decode cX11_init 342 = .ok (.bipush 47, 2) := by decide +kernel
theorem dX11_init_344 : decode cX11_init 344 = .ok (.bipush 32, 2) := by decide +kernel
theorem dX11_init_346 : decode cX11_init 346 = .ok (.castore, 1) := by decide +kernel
theorem dX11_init_347 : decode cX11_init 347 = .ok (.dup, 1) := by decide +kernel
theorem dX11_init_348 : decode cX11_init 348 = .ok (.bipush 48, 2) := by decide +kernel
theorem dX11_init_350 : decode cX11_init 350 = .ok (.bipush 112, 2) := by decide +kernel
theorem dX11_init_352 : decode cX11_init 352 = .ok (.castore, 1) := by decide +kernel
theorem dX11_init_353 : decode cX11_init 353 = .ok (.dup, 1) := by decide +kernel
theorem dX11_init_354 : decode cX11_init 354 = .ok (.bipush 49, 2) := by decide +kernel
theorem dX11_init_356 : decode cX11_init 356 = .ok (.bipush 97, 2) := by decide +kernel
theorem dX11_init_358 : decode cX11_init 358 = .ok (.castore, 1) := by decide +kernel
theorem dX11_init_359 : decode cX11_init 359 = .ok (.dup, 1) := by decide +kernel
theorem dX11_init_360 : decode cX11_init 360 = .ok (.bipush 50, 2) := by decide +kernel
theorem dX11_init_362 : decode cX11_init 362 = .ok (.bipush 121, 2) := by decide +kernel
theorem dX11_init_364 : decode cX11_init 364 = .ok (.castore, 1) := by decide +kernel
theorem dX11_init_365 : decode cX11_init 365 = .ok (.dup, 1) := by decide +kernel
theorem dX11_init_366 : decode cX11_init 366 = .ok (.bipush 51, 2) := by decide +kernel
theorem dX11_init_368 : decode cX11_init 368 = .ok (.bipush 32, 2) := by decide +kernel
theorem dX11_init_370 : decode cX11_init 370 = .ok (.castore, 1) := by decide +kernel
theorem dX11_init_371 : decode cX11_init 371 = .ok (.dup, 1) := by decide +kernel
theorem dX11_init_372 : decode cX11_init 372 = .ok (.bipush 52, 2) := by decide +kernel
theorem dX11_init_374 : decode cX11_init 374 = .ok (.bipush 32, 2) := by decide +kernel
theorem dX11_init_376 : decode cX11_init 376 = .ok (.castore, 1) := by decide +kernel
theorem dX11_init_377 : decode cX11_init 377 = .ok (.dup, 1) := by decide +kernel
theorem dX11_init_378 : decode cX11_init 378 = .ok (.bipush 53, 2) := by decide +kernel
theorem dX11_init_380 : decode cX11_init 380 = .ok (.bipush 32, 2) := by decide +kernel
theorem dX11_init_382 : decode cX11_init 382 = .ok (.castore, 1) := by decide +kernel
theorem dX11_init_383 : decode cX11_init 383 = .ok (.dup, 1) := by decide +kernel
theorem dX11_init_384 : decode cX11_init 384 = .ok (.bipush 54, 2) := by decide +kernel
theorem dX11_init_386 : decode cX11_init 386 = .ok (.bipush 32, 2) := by decide +kernel
theorem dX11_init_388 : decode cX11_init 388 = .ok (.castore, 1) := by decide +kernel
theorem dX11_init_389 : decode cX11_init 389 = .ok (.dup, 1) := by decide +kernel
theorem dX11_init_390 : decode cX11_init 390 = .ok (.bipush 55, 2) := by decide +kernel
theorem dX11_init_392 : decode cX11_init 392 = .ok (.bipush 32, 2) := by decide +kernel
theorem dX11_init_394 : decode cX11_init 394 = .ok (.castore, 1) := by decide +kernel
theorem dX11_init_395 : decode cX11_init 395 = .ok (.dup, 1) := by decide +kernel
theorem dX11_init_396 : decode cX11_init 396 = .ok (.bipush 56, 2) := by decide +kernel
theorem dX11_init_398 : decode cX11_init 398 = .ok (.bipush 119, 2) := by decide +kernel
theorem dX11_init_400 : decode cX11_init 400 = .ok (.castore, 1) := by decide +kernel
theorem dX11_init_401 : decode cX11_init 401 = .ok (.dup, 1) := by decide +kernel
theorem dX11_init_402 : decode cX11_init 402 = .ok (.bipush 57, 2) := by decide +kernel
theorem dX11_init_404 : decode cX11_init 404 = .ok (.bipush 105, 2) := by decide +kernel
theorem dX11_init_406 : decode cX11_init 406 = .ok (.castore, 1) := by decide +kernel
theorem dX11_init_407 : decode cX11_init 407 = .ok (.dup, 1) := by decide +kernel
theorem dX11_init_408 : decode cX11_init 408 = .ok (.bipush 58, 2) := by decide +kernel
theorem dX11_init_410 : decode cX11_init 410 = .ok (.bipush 116, 2) := by decide +kernel
theorem dX11_init_412 : decode cX11_init 412 = .ok (.castore, 1) := by decide +kernel
theorem dX11_init_413 : decode cX11_init 413 = .ok (.dup, 1) := by decide +kernel
theorem dX11_init_414 : decode cX11_init 414 = .ok (.bipush 59, 2) := by decide +kernel
theorem dX11_init_416 : decode cX11_init 416 = .ok (.bipush 104, 2) := by decide +kernel
theorem dX11_init_418 : decode cX11_init 418 = .ok (.castore, 1) := by decide +kernel
theorem dX11_init_419 : decode cX11_init 419 = .ok (.dup, 1) := by decide +kernel
theorem dX11_init_420 : decode cX11_init 420 = .ok (.bipush 60, 2) := by decide +kernel
theorem dX11_init_422 : decode cX11_init 422 = .ok (.bipush 100, 2) := by decide +kernel
theorem dX11_init_424 : decode cX11_init 424 = .ok (.castore, 1) := by decide +kernel
theorem dX11_init_425 : decode cX11_init 425 = .ok (.dup, 1) := by decide +kernel
theorem dX11_init_426 : decode cX11_init 426 = .ok (.bipush 61, 2) := by decide +kernel
theorem dX11_init_428 : decode cX11_init 428 = .ok (.bipush 114, 2) := by decide +kernel
theorem dX11_init_430 : decode cX11_init 430 = .ok (.castore, 1) := by decide +kernel
theorem dX11_init_431 : decode cX11_init 431 = .ok (.dup, 1) := by decide +kernel
theorem dX11_init_432 : decode cX11_init 432 = .ok (.bipush 62, 2) := by decide +kernel
theorem dX11_init_434 : decode cX11_init 434 = .ok (.bipush 97, 2) := by decide +kernel
theorem dX11_init_436 : decode cX11_init 436 = .ok (.castore, 1) := by decide +kernel
theorem dX11_init_437 : decode cX11_init 437 = .ok (.dup, 1) := by decide +kernel
theorem dX11_init_438 : decode cX11_init 438 = .ok (.bipush 63, 2) := by decide +kernel
theorem dX11_init_440 : decode cX11_init 440 = .ok (.bipush 119, 2) := by decide +kernel
theorem dX11_init_442 : decode cX11_init 442 = .ok (.castore, 1) := by decide +kernel
theorem dX11_init_443 : decode cX11_init 443 = .ok (.putfield 34, 3) := by decide +kernel
theorem dX11_init_446 : decode cX11_init 446 = .ok (.aload_n 0, 1) := by decide +kernel
theorem dX11_init_447 : decode cX11_init 447 = .ok (.bipush 20, 2) := by decide +kernel
theorem dX11_init_449 : decode cX11_init 449 = .ok (.bipush 12, 2) := by decide +kernel
theorem dX11_init_451 : decode cX11_init 451 = .ok (.iconst 2, 1) := by decide +kernel
theorem dX11_init_452 : decode cX11_init 452 = .ok (.iconst 5, 1) := by decide +kernel
theorem dX11_init_453 : decode cX11_init 453 = .ok (.bipush 10, 2) := by decide +kernel
theorem dX11_init_455 : decode cX11_init 455 = .ok (.invokevirtual 38, 3) := by decide +kernel
theorem dX11_init_458 : decode cX11_init 458 = .ok (.aload_n 0, 1) := by decide +kernel
theorem dX11_init_459 : decode cX11_init 459 = .ok (.sipush 200, 3) := by decide +kernel
theorem dX11_init_462 : decode cX11_init 462 = .ok (.iconst 1, 1) := by decide +kernel
theorem dX11_init_463 : decode cX11_init 463 = .ok (.bipush 50, 2) := by decide +kernel
theorem dX11_init_465 : decode cX11_init 465 = .ok (.invokevirtual 42, 3) := by decide +kernel
theorem dX11_init_468 : decode cX11_init 468 = .ok (.aload_n 0, 1) := by decide +kernel
theorem dX11_init_469 : decode cX11_init 469 = .ok (.bipush 90, 2) := by decide +kernel
theorem dX11_init_471 : decode cX11_init 471 = .ok (.iconst 2, 1) := by decide +kernel
theorem dX11_init_472 : decode cX11_init 472 = .ok (.bipush 60, 2) := by decide +kernel
theorem dX11_init_474 : decode cX11_init 474 = .ok (.invokevirtual 42, 3) := by decide +kernel
theorem dX11_init_477 : decode cX11_init 477 = .ok (.aload_n 0, 1) := by decide +kernel
theorem dX11_init_478 : decode cX11_init 478 = .ok (.sipush 300, 3) := by decide +kernel
theorem dX11_init_481 : decode cX11_init 481 = .ok (.iconst 0, 1) := by decide +kernel
theorem dX11_init_482 : decode cX11_init 482 = .ok (.iconst 1, 1) := by decide +kernel
theorem dX11_init_483 : decode cX11_init 483 = .ok (.invokevirtual 42, 3) := by decide +kernel
theorem dX11_init_486 : decode cX11_init 486 = .ok (.aload_n 0, 1) := by decide +kernel
theorem dX11_init_487 : decode cX11_init 487 = .ok (.bipush 20, 2) := by decide +kernel
theorem dX11_init_489 : decode cX11_init 489 = .ok (.invokevirtual 46, 3) := by decide +kernel
theorem dX11_init_492 : decode cX11_init 492 = .ok (.pop, 1) := by decide +kernel
theorem dX11_init_493 : decode cX11_init 493 = .ok (.aload_n 0, 1) := by decide +kernel
theorem dX11_init_494 : decode cX11_init 494 = .ok (.iconst 0, 1) := by decide +kernel
theorem dX11_init_495 : decode cX11_init 495 = .ok (.bipush 40, 2) := by decide +kernel
theorem dX11_init_497 : decode cX11_init 497 = .ok (.invokevirtual 50, 3) := by decide +kernel
theorem dX11_init_500 : decode cX11_init 500 = .ok (.aload_n 0, 1) := by decide +kernel
theorem dX11_init_501 : decode cX11_init 501 = .ok (.iconst 0, 1) := by decide +kernel
theorem dX11_init_502 : decode cX11_init 502 = .ok (.bipush 55, 2) := by decide +kernel
theorem dX11_init_504 : decode cX11_init 504 = .ok (.invokevirtual 50, 3) := by decide +kernel
theorem dX11_init_507 : decode cX11_init 507 = .ok (.aload_n 0, 1) := by decide +kernel
theorem dX11_init_508 : decode cX11_init 508 = .ok (.iconst 0, 1) := by decide +kernel
theorem dX11_init_509 : decode cX11_init 509 = .ok (.bipush 30, 2) := by decide +kernel
theorem dX11_init_511 : decode cX11_init 511 = .ok (.invokevirtual 50, 3) := by decide +kernel
theorem dX11_init_514 : decode cX11_init 514 = .ok (.aload_n 0, 1) := by decide +kernel
theorem dX11_init_515 : decode cX11_init 515 = .ok (.bipush 50, 2) := by decide +kernel
theorem dX11_init_517 : decode cX11_init 517 = .ok (.invokevirtual 46, 3) := by decide +kernel
theorem dX11_init_520 : decode cX11_init 520 = .ok (.pop, 1) := by decide +kernel
theorem dX11_init_521 : decode cX11_init 521 = .ok (.aload_n 0, 1) := by decide +kernel
theorem dX11_init_522 : decode cX11_init 522 = .ok (.iconst 1, 1) := by decide +kernel
theorem dX11_init_523 : decode cX11_init 523 = .ok (.bipush 100, 2) := by decide +kernel
theorem dX11_init_525 : decode cX11_init 525 = .ok (.invokevirtual 50, 3) := by decide +kernel
theorem dX11_init_528 : decode cX11_init 528 = .ok (.aload_n 0, 1) := by decide +kernel
theorem dX11_init_529 : decode cX11_init 529 = .ok (.iconst 1, 1) := by decide +kernel
theorem dX11_init_530 : decode cX11_init 530 = .ok (.bipush 90, 2) := by decide +kernel
theorem dX11_init_532 : decode cX11_init 532 = .ok (.invokevirtual 50, 3) := by decide +kernel
theorem dX11_init_535 : decode cX11_init 535 = .ok (.aload_n 0, 1) := by decide +kernel
theorem dX11_init_536 : decode cX11_init 536 = .ok (.bipush 10, 2) := by decide +kernel
theorem dX11_init_538 : decode cX11_init 538 = .ok (.invokevirtual 46, 3) := by decide +kernel
theorem dX11_init_541 : decode cX11_init 541 = .ok (.pop, 1) := by decide +kernel
theorem dX11_init_542 : decode cX11_init 542 = .ok (.aload_n 0, 1) := by decide +kernel
theorem dX11_init_543 : decode cX11_init 543 = .ok (.iconst 2, 1) := by decide +kernel
theorem dX11_init_544 : decode cX11_init 544 = .ok (.bipush 15, 2) := by decide +kernel
theorem dX11_init_546 : decode cX11_init 546 = .ok (.invokevirtual 50, 3) := by decide +kernel
theorem dX11_init_549 : decode cX11_init 549 = .ok (.return_, 1) := by decide +kernel
theorem dX11_beginMarket_0 : decode cX11_beginMarket 0 = .ok (.iconst 0, 1) := by decide +kernel
theorem dX11_beginMarket_1 : decode cX11_beginMarket 1 = .ok (.istore 6, 2) := by decide +kernel
theorem dX11_beginMarket_3 : decode cX11_beginMarket 3 = .ok (.iload 6, 2) := by decide +kernel
theorem dX11_beginMarket_5 : decode cX11_beginMarket 5 = .ok (.sipush 370, 3) := by decide +kernel
theorem dX11_beginMarket_8 : decode cX11_beginMarket 8 = .ok (.if_icmp .ge 17, 3) := by decide +kernel
theorem dX11_beginMarket_11 : decode cX11_beginMarket 11 = .ok (.aload_n 0, 1) := by decide +kernel
theorem dX11_beginMarket_12 : decode cX11_beginMarket 12 = .ok (.getfield 7, 3) := by decide +kernel
theorem dX11_beginMarket_15 : decode cX11_beginMarket 15 = .ok (.iload 6, 2) := by decide +kernel
theorem dX11_beginMarket_17 : decode cX11_beginMarket 17 = .ok (.iconst 0, 1) := by decide +kernel
theorem dX11_beginMarket_18 : decode cX11_beginMarket 18 = .ok (.iastore, 1) := by decide +kernel
theorem dX11_beginMarket_19 : decode cX11_beginMarket 19 = .ok (.iinc 6 1, 3) := by decide +kernel
theorem dX11_beginMarket_22 : decode cX11_beginMarket 22 = .ok (.goto (-19), 3) := by decide +kernel
theorem dX11_beginMarket_25 : decode cX11_beginMarket 25 = .ok (.aload_n 0, 1) := by decide +kernel
theorem dX11_beginMarket_26 : decode cX11_beginMarket 26 = .ok (.getfield 7, 3) := by decide +kernel
theorem dX11_beginMarket_29 : decode cX11_beginMarket 29 = .ok (.iconst 0, 1) := by decide +kernel
theorem dX11_beginMarket_30 : decode cX11_beginMarket 30 = .ok (.iload_n 1, 1) := by decide +kernel
theorem dX11_beginMarket_31 : decode cX11_beginMarket 31 = .ok (.iastore, 1) := by decide +kernel
theorem dX11_beginMarket_32 : decode cX11_beginMarket 32 = .ok (.aload_n 0, 1) := by decide +kernel
theorem dX11_beginMarket_33 : decode cX11_beginMarket 33 = .ok (.getfield 7, 3) := by decide +kernel
theorem dX11_beginMarket_36 : decode cX11_beginMarket 36 = .ok (.iconst 1, 1) := by decide +kernel
theorem dX11_beginMarket_37 : decode cX11_beginMarket 37 = .ok (.iload_n 2, 1) := by decide +kernel
theorem dX11_beginMarket_38 : decode cX11_beginMarket 38 = .ok (.iastore, 1) := by decide +kernel
theorem dX11_beginMarket_39 : decode cX11_beginMarket 39 = .ok (.aload_n 0, 1) := by decide +kernel
theorem dX11_beginMarket_40 : decode cX11_beginMarket 40 = .ok (.getfield 7, 3) := by decide +kernel
theorem dX11_beginMarket_43 : decode cX11_beginMarket 43 = .ok (.iconst 2, 1) := by decide +kernel
theorem dX11_beginMarket_44 : decode cX11_beginMarket 44 = .ok (.iload_n 3, 1) := by decide +kernel
theorem dX11_beginMarket_45 : decode cX11_beginMarket 45 = .ok (.iastore, 1) := by decide +kernel
theorem dX11_beginMarket_46 : decode cX11_beginMarket 46 = .ok (.aload_n 0, 1) := by decide +kernel
theorem dX11_beginMarket_47 : decode cX11_beginMarket 47 = .ok (.getfield 7, 3) := by decide +kernel
theorem dX11_beginMarket_50 : decode cX11_beginMarket 50 = .ok (.iconst 3, 1) := by decide +kernel
theorem dX11_beginMarket_51 : decode cX11_beginMarket 51 = .ok (.iload 4, 2) := by decide +kernel
theorem dX11_beginMarket_53 : decode cX11_beginMarket 53 = .ok (.iastore, 1) := by decide +kernel
theorem dX11_beginMarket_54 : decode cX11_beginMarket 54 = .ok (.aload_n 0, 1) := by decide +kernel
theorem dX11_beginMarket_55 : decode cX11_beginMarket 55 = .ok (.getfield 7, 3) := by decide +kernel
theorem dX11_beginMarket_58 : decode cX11_beginMarket 58 = .ok (.iconst 4, 1) := by decide +kernel
theorem dX11_beginMarket_59 : decode cX11_beginMarket 59 = .ok (.iload 5, 2) := by decide +kernel
theorem dX11_beginMarket_61 : decode cX11_beginMarket 61 = .ok (.iastore, 1) := by decide +kernel
theorem dX11_beginMarket_62 : decode cX11_beginMarket 62 = .ok (.aload_n 0, 1) := by decide +kernel
theorem dX11_beginMarket_63 : decode cX11_beginMarket 63 = .ok (.getfield 7, 3) := by decide +kernel
theorem dX11_beginMarket_66 : decode cX11_beginMarket 66 = .ok (.bipush 8, 2) := by decide +kernel
theorem dX11_beginMarket_68 : decode cX11_beginMarket 68 = .ok (.iconst (-1), 1) := by decide +kernel
theorem dX11_beginMarket_69 : decode cX11_beginMarket 69 = .ok (.iastore, 1) := by decide +kernel
theorem dX11_beginMarket_70 : decode cX11_beginMarket 70 = .ok (.aload_n 0, 1) := by decide +kernel
theorem dX11_beginMarket_71 : decode cX11_beginMarket 71 = .ok (.getfield 7, 3) := by decide +kernel
theorem dX11_beginMarket_74 : decode cX11_beginMarket 74 = .ok (.bipush 10, 2) := by decide +kernel
theorem dX11_beginMarket_76 : decode cX11_beginMarket 76 = .ok (.iconst (-1), 1) := by decide +kernel
theorem dX11_beginMarket_77 : decode cX11_beginMarket 77 = .ok (.iastore, 1) := by decide +kernel
theorem dX11_beginMarket_78 : decode cX11_beginMarket 78 = .ok (.return_, 1) := by decide +kernel
theorem dX11_thrown_0 : decode cX11_thrown 0 = .ok (.aload_n 0, 1) := by decide +kernel
theorem dX11_thrown_1 : decode cX11_thrown 1 = .ok (.getfield 54, 3) := by decide +kernel
theorem dX11_thrown_4 : decode cX11_thrown 4 = .ok (.ireturn, 1) := by decide +kernel
theorem dX11_throwsIf_0 : decode cX11_throwsIf 0 = .ok (.iload_n 1, 1) := by decide +kernel
theorem dX11_throwsIf_1 : decode cX11_throwsIf 1 = .ok (.ifCond .eq 8, 3) := by decide +kernel
theorem dX11_throwsIf_4 : decode cX11_throwsIf 4 = .ok (.aload_n 0, 1) := by decide +kernel
theorem dX11_throwsIf_5 : decode cX11_throwsIf 5 = .ok (.iload_n 2, 1) := by decide +kernel
theorem dX11_throwsIf_6 : decode cX11_throwsIf 6 = .ok (.putfield 54, 3) := by decide +kernel
theorem dX11_throwsIf_9 : decode cX11_throwsIf 9 = .ok (.iload_n 1, 1) := by decide +kernel
theorem dX11_throwsIf_10 : decode cX11_throwsIf 10 = .ok (.ireturn, 1) := by decide +kernel
theorem dX11_in_0 : decode cX11_in 0 = .ok (.iload_n 0, 1) := by decide +kernel
theorem dX11_in_1 : decode cX11_in 1 = .ok (.iload_n 1, 1) := by decide +kernel
theorem dX11_in_2 : decode cX11_in 2 = .ok (.if_icmp .lt 12, 3) := by decide +kernel
theorem dX11_in_5 : decode cX11_in 5 = .ok (.iload_n 0, 1) := by decide +kernel
theorem dX11_in_6 : decode cX11_in 6 = .ok (.iload_n 2, 1) := by decide +kernel
theorem dX11_in_7 : decode cX11_in 7 = .ok (.if_icmp .gt 7, 3) := by decide +kernel
theorem dX11_in_10 : decode cX11_in 10 = .ok (.iconst 1, 1) := by decide +kernel
theorem dX11_in_11 : decode cX11_in 11 = .ok (.goto 4, 3) := by decide +kernel
theorem dX11_in_14 : decode cX11_in 14 = .ok (.iconst 0, 1) := by decide +kernel
theorem dX11_in_15 : decode cX11_in 15 = .ok (.ireturn, 1) := by decide +kernel
theorem dX11_copyBlock_0 : decode cX11_copyBlock 0 = .ok (.iconst 0, 1) := by decide +kernel
theorem dX11_copyBlock_1 : decode cX11_copyBlock 1 = .ok (.istore_n 3, 1) := by decide +kernel
theorem dX11_copyBlock_2 : decode cX11_copyBlock 2 = .ok (.iload_n 3, 1) := by decide +kernel
theorem dX11_copyBlock_3 : decode cX11_copyBlock 3 = .ok (.sipush 370, 3) := by decide +kernel
theorem dX11_copyBlock_6 : decode cX11_copyBlock 6 = .ok (.if_icmp .ge 33, 3) := by decide +kernel
theorem dX11_copyBlock_9 : decode cX11_copyBlock 9 = .ok (.aload_n 0, 1) := by decide +kernel
theorem dX11_copyBlock_10 : decode cX11_copyBlock 10 = .ok (.getfield 7, 3) := by decide +kernel
theorem dX11_copyBlock_13 : decode cX11_copyBlock 13 = .ok (.sipush 370, 3) := by decide +kernel
theorem dX11_copyBlock_16 : decode cX11_copyBlock 16 = .ok (.iload_n 2, 1) := by decide +kernel
theorem dX11_copyBlock_17 : decode cX11_copyBlock 17 = .ok (.imul, 1) := by decide +kernel
theorem dX11_copyBlock_18 : decode cX11_copyBlock 18 = .ok (.iload_n 3, 1) := by decide +kernel
theorem dX11_copyBlock_19 : decode cX11_copyBlock 19 = .ok (.iadd, 1) := by decide +kernel
theorem dX11_copyBlock_20 : decode cX11_copyBlock 20 = .ok (.aload_n 0, 1) := by decide +kernel
theorem dX11_copyBlock_21 : decode cX11_copyBlock 21 = .ok (.getfield 7, 3) := by decide +kernel
theorem dX11_copyBlock_24 : decode cX11_copyBlock 24 = .ok (.sipush 370, 3) := by decide +kernel
theorem dX11_copyBlock_27 : decode cX11_copyBlock 27 = .ok (.iload_n 1, 1) := by decide +kernel
theorem dX11_copyBlock_28 : decode cX11_copyBlock 28 = .ok (.imul, 1) := by decide +kernel
theorem dX11_copyBlock_29 : decode cX11_copyBlock 29 = .ok (.iload_n 3, 1) := by decide +kernel
theorem dX11_copyBlock_30 : decode cX11_copyBlock 30 = .ok (.iadd, 1) := by decide +kernel
theorem dX11_copyBlock_31 : decode cX11_copyBlock 31 = .ok (.iaload, 1) := by decide +kernel
theorem dX11_copyBlock_32 : decode cX11_copyBlock 32 = .ok (.iastore, 1) := by decide +kernel
theorem dX11_copyBlock_33 : decode cX11_copyBlock 33 = .ok (.iinc 3 1, 3) := by decide +kernel
theorem dX11_copyBlock_36 : decode cX11_copyBlock 36 = .ok (.goto (-34), 3) := by decide +kernel
theorem dX11_copyBlock_39 : decode cX11_copyBlock 39 = .ok (.return_, 1) := by decide +kernel
theorem dX11_keep_0 : decode cX11_keep 0 = .ok (.aload_n 0, 1) := by decide +kernel
theorem dX11_keep_1 : decode cX11_keep 1 = .ok (.getfield 57, 3) := by decide +kernel
theorem dX11_keep_4 : decode cX11_keep 4 = .ok (.bipush 8, 2) := by decide +kernel
theorem dX11_keep_6 : decode cX11_keep 6 = .ok (.if_icmp .ne 19, 3) := by decide +kernel
theorem dX11_keep_9 : decode cX11_keep 9 = .ok (.aload_n 0, 1) := by decide +kernel
theorem dX11_keep_10 : decode cX11_keep 10 = .ok (.aload_n 0, 1) := by decide +kernel
theorem dX11_keep_11 : decode cX11_keep 11 = .ok (.getfield 60, 3) := by decide +kernel
theorem dX11_keep_14 : decode cX11_keep 14 = .ok (.iconst 1, 1) := by decide +kernel
theorem dX11_keep_15 : decode cX11_keep 15 = .ok (.iadd, 1) := by decide +kernel
theorem dX11_keep_16 : decode cX11_keep 16 = .ok (.bipush 8, 2) := by decide +kernel
theorem dX11_keep_18 : decode cX11_keep 18 = .ok (.irem, 1) := by decide +kernel
theorem dX11_keep_19 : decode cX11_keep 19 = .ok (.putfield 60, 3) := by decide +kernel
theorem dX11_keep_22 : decode cX11_keep 22 = .ok (.goto 13, 3) := by decide +kernel
theorem dX11_keep_25 : decode cX11_keep 25 = .ok (.aload_n 0, 1) := by decide +kernel
theorem dX11_keep_26 : decode cX11_keep 26 = .ok (.dup, 1) := by decide +kernel
theorem dX11_keep_27 : decode cX11_keep 27 = .ok (.getfield 57, 3) := by decide +kernel
theorem dX11_keep_30 : decode cX11_keep 30 = .ok (.iconst 1, 1) := by decide +kernel
theorem dX11_keep_31 : decode cX11_keep 31 = .ok (.iadd, 1) := by decide +kernel
theorem dX11_keep_32 : decode cX11_keep 32 = .ok (.putfield 57, 3) := by decide +kernel
theorem dX11_keep_35 : decode cX11_keep 35 = .ok (.aload_n 0, 1) := by decide +kernel
theorem dX11_keep_36 : decode cX11_keep 36 = .ok (.iload_n 1, 1) := by decide +kernel
theorem dX11_keep_37 : decode cX11_keep 37 = .ok (.iconst 1, 1) := by decide +kernel
theorem dX11_keep_38 : decode cX11_keep 38 = .ok (.aload_n 0, 1) := by decide +kernel
theorem dX11_keep_39 : decode cX11_keep 39 = .ok (.getfield 60, 3) := by decide +kernel
theorem dX11_keep_42 : decode cX11_keep 42 = .ok (.aload_n 0, 1) := by decide +kernel
theorem dX11_keep_43 : decode cX11_keep 43 = .ok (.getfield 57, 3) := by decide +kernel
theorem dX11_keep_46 : decode cX11_keep 46 = .ok (.iadd, 1) := by decide +kernel
theorem dX11_keep_47 : decode cX11_keep 47 = .ok (.iconst 1, 1) := by decide +kernel
theorem dX11_keep_48 : decode cX11_keep 48 = .ok (.isub, 1) := by decide +kernel
theorem dX11_keep_49 : decode cX11_keep 49 = .ok (.bipush 8, 2) := by decide +kernel
theorem dX11_keep_51 : decode cX11_keep 51 = .ok (.irem, 1) := by decide +kernel
theorem dX11_keep_52 : decode cX11_keep 52 = .ok (.iadd, 1) := by decide +kernel
theorem dX11_keep_53 : decode cX11_keep 53 = .ok (.invokevirtual 63, 3) := by decide +kernel
theorem dX11_keep_56 : decode cX11_keep 56 = .ok (.return_, 1) := by decide +kernel
theorem dX11_of_0 : decode cX11_of 0 = .ok (.aload_n 0, 1) := by decide +kernel
theorem dX11_of_1 : decode cX11_of 1 = .ok (.getfield 7, 3) := by decide +kernel
theorem dX11_of_4 : decode cX11_of 4 = .ok (.bipush 36, 2) := by decide +kernel
theorem dX11_of_6 : decode cX11_of 6 = .ok (.iconst 5, 1) := by decide +kernel
theorem dX11_of_7 : decode cX11_of 7 = .ok (.iload_n 1, 1) := by decide +kernel
theorem dX11_of_8 : decode cX11_of 8 = .ok (.imul, 1) := by decide +kernel
theorem dX11_of_9 : decode cX11_of 9 = .ok (.iadd, 1) := by decide +kernel
theorem dX11_of_10 : decode cX11_of 10 = .ok (.iload_n 2, 1) := by decide +kernel
theorem dX11_of_11 : decode cX11_of 11 = .ok (.iadd, 1) := by decide +kernel
theorem dX11_of_12 : decode cX11_of 12 = .ok (.iaload, 1) := by decide +kernel
theorem dX11_of_13 : decode cX11_of 13 = .ok (.ireturn, 1) := by decide +kernel
theorem dX11_put_0 : decode cX11_put 0 = .ok (.aload_n 0, 1) := by decide +kernel
theorem dX11_put_1 : decode cX11_put 1 = .ok (.getfield 7, 3) := by decide +kernel
theorem dX11_put_4 : decode cX11_put 4 = .ok (.bipush 36, 2) := by decide +kernel
theorem dX11_put_6 : decode cX11_put 6 = .ok (.iconst 5, 1) := by decide +kernel
theorem dX11_put_7 : decode cX11_put 7 = .ok (.iload_n 1, 1) := by decide +kernel
theorem dX11_put_8 : decode cX11_put 8 = .ok (.imul, 1) := by decide +kernel
theorem dX11_put_9 : decode cX11_put 9 = .ok (.iadd, 1) := by decide +kernel
theorem dX11_put_10 : decode cX11_put 10 = .ok (.iload_n 2, 1) := by decide +kernel
theorem dX11_put_11 : decode cX11_put 11 = .ok (.iadd, 1) := by decide +kernel
theorem dX11_put_12 : decode cX11_put 12 = .ok (.iload_n 3, 1) := by decide +kernel
theorem dX11_put_13 : decode cX11_put 13 = .ok (.iastore, 1) := by decide +kernel
theorem dX11_put_14 : decode cX11_put 14 = .ok (.return_, 1) := by decide +kernel
theorem dX11_ofBarrel_0 : decode cX11_ofBarrel 0 = .ok (.aload_n 0, 1) := by decide +kernel
theorem dX11_ofBarrel_1 : decode cX11_ofBarrel 1 = .ok (.getfield 7, 3) := by decide +kernel
theorem dX11_ofBarrel_4 : decode cX11_ofBarrel 4 = .ok (.bipush 66, 2) := by decide +kernel
theorem dX11_ofBarrel_6 : decode cX11_ofBarrel 6 = .ok (.bipush 15, 2) := by decide +kernel
theorem dX11_ofBarrel_8 : decode cX11_ofBarrel 8 = .ok (.iload_n 1, 1) := by decide +kernel
theorem dX11_ofBarrel_9 : decode cX11_ofBarrel 9 = .ok (.imul, 1) := by decide +kernel
theorem dX11_ofBarrel_10 : decode cX11_ofBarrel 10 = .ok (.iadd, 1) := by decide +kernel
theorem dX11_ofBarrel_11 : decode cX11_ofBarrel 11 = .ok (.iload_n 2, 1) := by decide +kernel
theorem dX11_ofBarrel_12 : decode cX11_ofBarrel 12 = .ok (.iadd, 1) := by decide +kernel
theorem dX11_ofBarrel_13 : decode cX11_ofBarrel 13 = .ok (.iaload, 1) := by decide +kernel
theorem dX11_ofBarrel_14 : decode cX11_ofBarrel 14 = .ok (.ireturn, 1) := by decide +kernel
theorem dX11_putBarrel_0 : decode cX11_putBarrel 0 = .ok (.aload_n 0, 1) := by decide +kernel
theorem dX11_putBarrel_1 : decode cX11_putBarrel 1 = .ok (.getfield 7, 3) := by decide +kernel
theorem dX11_putBarrel_4 : decode cX11_putBarrel 4 = .ok (.bipush 66, 2) := by decide +kernel
theorem dX11_putBarrel_6 : decode cX11_putBarrel 6 = .ok (.bipush 15, 2) := by decide +kernel
theorem dX11_putBarrel_8 : decode cX11_putBarrel 8 = .ok (.iload_n 1, 1) := by decide +kernel
theorem dX11_putBarrel_9 : decode cX11_putBarrel 9 = .ok (.imul, 1) := by decide +kernel
theorem dX11_putBarrel_10 : decode cX11_putBarrel 10 = .ok (.iadd, 1) := by decide +kernel
theorem dX11_putBarrel_11 : decode cX11_putBarrel 11 = .ok (.iload_n 2, 1) := by decide +kernel
theorem dX11_putBarrel_12 : decode cX11_putBarrel 12 = .ok (.iadd, 1) := by decide +kernel
theorem dX11_putBarrel_13 : decode cX11_putBarrel 13 = .ok (.iload_n 3, 1) := by decide +kernel
theorem dX11_putBarrel_14 : decode cX11_putBarrel 14 = .ok (.iastore, 1) := by decide +kernel
theorem dX11_putBarrel_15 : decode cX11_putBarrel 15 = .ok (.return_, 1) := by decide +kernel
theorem dX11_lengthOf_0 : decode cX11_lengthOf 0 = .ok (.aload_n 0, 1) := by decide +kernel
theorem dX11_lengthOf_1 : decode cX11_lengthOf 1 = .ok (.iload_n 1, 1) := by decide +kernel
theorem dX11_lengthOf_2 : decode cX11_lengthOf 2 = .ok (.iconst 1, 1) := by decide +kernel
theorem dX11_lengthOf_3 : decode cX11_lengthOf 3 = .ok (.iload_n 2, 1) := by decide +kernel
theorem dX11_lengthOf_4 : decode cX11_lengthOf 4 = .ok (.iadd, 1) := by decide +kernel
theorem dX11_lengthOf_5 : decode cX11_lengthOf 5 = .ok (.invokevirtual 66, 3) := by decide +kernel
theorem dX11_lengthOf_8 : decode cX11_lengthOf 8 = .ok (.ireturn, 1) := by decide +kernel
theorem dX11_addBuyer_0 : decode cX11_addBuyer 0 = .ok (.aload_n 0, 1) := by decide +kernel
theorem dX11_addBuyer_1 : decode cX11_addBuyer 1 = .ok (.getfield 7, 3) := by decide +kernel
theorem dX11_addBuyer_4 : decode cX11_addBuyer 4 = .ok (.bipush 6, 2) := by decide +kernel
theorem dX11_addBuyer_6 : decode cX11_addBuyer 6 = .ok (.iaload, 1) := by decide +kernel
theorem dX11_addBuyer_7 : decode cX11_addBuyer 7 = .ok (.istore 4, 2) := by decide +kernel
theorem dX11_addBuyer_9 : decode cX11_addBuyer 9 = .ok (.aload_n 0, 1) := by decide +kernel
theorem dX11_addBuyer_10 : decode cX11_addBuyer 10 = .ok (.iload 4, 2) := by decide +kernel
theorem dX11_addBuyer_12 : decode cX11_addBuyer 12 = .ok (.iconst 0, 1) := by decide +kernel
theorem dX11_addBuyer_13 : decode cX11_addBuyer 13 = .ok (.iload_n 1, 1) := by decide +kernel
theorem dX11_addBuyer_14 : decode cX11_addBuyer 14 = .ok (.invokevirtual 70, 3) := by decide +kernel
theorem dX11_addBuyer_17 : decode cX11_addBuyer 17 = .ok (.aload_n 0, 1) := by decide +kernel
theorem dX11_addBuyer_18 : decode cX11_addBuyer 18 = .ok (.iload 4, 2) := by decide +kernel
theorem dX11_addBuyer_20 : decode cX11_addBuyer 20 = .ok (.iconst 1, 1) := by decide +kernel
theorem dX11_addBuyer_21 : decode cX11_addBuyer 21 = .ok (.iload_n 2, 1) := by decide +kernel
theorem dX11_addBuyer_22 : decode cX11_addBuyer 22 = .ok (.invokevirtual 70, 3) := by decide +kernel
theorem dX11_addBuyer_25 : decode cX11_addBuyer 25 = .ok (.aload_n 0, 1) := by decide +kernel
theorem dX11_addBuyer_26 : decode cX11_addBuyer 26 = .ok (.iload 4, 2) := by decide +kernel
theorem dX11_addBuyer_28 : decode cX11_addBuyer 28 = .ok (.iconst 2, 1) := by decide +kernel
theorem dX11_addBuyer_29 : decode cX11_addBuyer 29 = .ok (.iload_n 3, 1) := by decide +kernel
theorem dX11_addBuyer_30 : decode cX11_addBuyer 30 = .ok (.invokevirtual 70, 3) := by decide +kernel
theorem dX11_addBuyer_33 : decode cX11_addBuyer 33 = .ok (.aload_n 0, 1) := by decide +kernel
theorem dX11_addBuyer_34 : decode cX11_addBuyer 34 = .ok (.iload 4, 2) := by decide +kernel
theorem dX11_addBuyer_36 : decode cX11_addBuyer 36 = .ok (.iconst 3, 1) := by decide +kernel
theorem dX11_addBuyer_37 : decode cX11_addBuyer 37 = .ok (.iconst 0, 1) := by decide +kernel
theorem dX11_addBuyer_38 : decode cX11_addBuyer 38 = .ok (.invokevirtual 70, 3) := by decide +kernel
theorem dX11_addBuyer_41 : decode cX11_addBuyer 41 = .ok (.aload_n 0, 1) := by decide +kernel
theorem dX11_addBuyer_42 : decode cX11_addBuyer 42 = .ok (.iload 4, 2) := by decide +kernel
theorem dX11_addBuyer_44 : decode cX11_addBuyer 44 = .ok (.iconst 4, 1) := by decide +kernel
theorem dX11_addBuyer_45 : decode cX11_addBuyer 45 = .ok (.iconst 0, 1) := by decide +kernel
theorem dX11_addBuyer_46 : decode cX11_addBuyer 46 = .ok (.invokevirtual 70, 3) := by decide +kernel
theorem dX11_addBuyer_49 : decode cX11_addBuyer 49 = .ok (.aload_n 0, 1) := by decide +kernel
theorem dX11_addBuyer_50 : decode cX11_addBuyer 50 = .ok (.getfield 7, 3) := by decide +kernel
theorem dX11_addBuyer_53 : decode cX11_addBuyer 53 = .ok (.bipush 15, 2) := by decide +kernel
theorem dX11_addBuyer_55 : decode cX11_addBuyer 55 = .ok (.dup2, 1) := by decide +kernel
theorem dX11_addBuyer_56 : decode cX11_addBuyer 56 = .ok (.iaload, 1) := by decide +kernel
theorem dX11_addBuyer_57 : decode cX11_addBuyer 57 = .ok (.iload_n 1, 1) := by decide +kernel
theorem dX11_addBuyer_58 : decode cX11_addBuyer 58 = .ok (.iadd, 1) := by decide +kernel
theorem dX11_addBuyer_59 : decode cX11_addBuyer 59 = .ok (.iastore, 1) := by decide +kernel
theorem dX11_addBuyer_60 : decode cX11_addBuyer 60 = .ok (.aload_n 0, 1) := by decide +kernel
theorem dX11_addBuyer_61 : decode cX11_addBuyer 61 = .ok (.getfield 7, 3) := by decide +kernel
theorem dX11_addBuyer_64 : decode cX11_addBuyer 64 = .ok (.bipush 6, 2) := by decide +kernel
theorem dX11_addBuyer_66 : decode cX11_addBuyer 66 = .ok (.dup2, 1) := by decide +kernel
theorem dX11_addBuyer_67 : decode cX11_addBuyer 67 = .ok (.iaload, 1) := by decide +kernel
theorem dX11_addBuyer_68 : decode cX11_addBuyer 68 = .ok (.iconst 1, 1) := by decide +kernel
theorem dX11_addBuyer_69 : decode cX11_addBuyer 69 = .ok (.iadd, 1) := by decide +kernel
theorem dX11_addBuyer_70 : decode cX11_addBuyer 70 = .ok (.iastore, 1) := by decide +kernel
theorem dX11_addBuyer_71 : decode cX11_addBuyer 71 = .ok (.return_, 1) := by decide +kernel
theorem dX11_enqueue_0 : decode cX11_enqueue 0 = .ok (.aload_n 0, 1) := by decide +kernel
theorem dX11_enqueue_1 : decode cX11_enqueue 1 = .ok (.iload_n 1, 1) := by decide +kernel
theorem dX11_enqueue_2 : decode cX11_enqueue 2 = .ok (.bipush 12, 2) := by decide +kernel
theorem dX11_enqueue_4 : decode cX11_enqueue 4 = .ok (.iconst 0, 1) := by decide +kernel
theorem dX11_enqueue_5 : decode cX11_enqueue 5 = .ok (.invokevirtual 73, 3) := by decide +kernel
theorem dX11_enqueue_8 : decode cX11_enqueue 8 = .ok (.aload_n 0, 1) := by decide +kernel
theorem dX11_enqueue_9 : decode cX11_enqueue 9 = .ok (.getfield 7, 3) := by decide +kernel
theorem dX11_enqueue_12 : decode cX11_enqueue 12 = .ok (.bipush 16, 2) := by decide +kernel
theorem dX11_enqueue_14 : decode cX11_enqueue 14 = .ok (.aload_n 0, 1) := by decide +kernel
theorem dX11_enqueue_15 : decode cX11_enqueue 15 = .ok (.getfield 7, 3) := by decide +kernel
theorem dX11_enqueue_18 : decode cX11_enqueue 18 = .ok (.bipush 12, 2) := by decide +kernel
theorem dX11_enqueue_20 : decode cX11_enqueue 20 = .ok (.iaload, 1) := by decide +kernel
theorem dX11_enqueue_21 : decode cX11_enqueue 21 = .ok (.iadd, 1) := by decide +kernel
theorem dX11_enqueue_22 : decode cX11_enqueue 22 = .ok (.iload_n 1, 1) := by decide +kernel
theorem dX11_enqueue_23 : decode cX11_enqueue 23 = .ok (.iastore, 1) := by decide +kernel
theorem dX11_enqueue_24 : decode cX11_enqueue 24 = .ok (.aload_n 0, 1) := by decide +kernel
theorem dX11_enqueue_25 : decode cX11_enqueue 25 = .ok (.getfield 7, 3) := by decide +kernel
theorem dX11_enqueue_28 : decode cX11_enqueue 28 = .ok (.bipush 12, 2) := by decide +kernel
theorem dX11_enqueue_30 : decode cX11_enqueue 30 = .ok (.dup2, 1) := by decide +kernel
theorem dX11_enqueue_31 : decode cX11_enqueue 31 = .ok (.iaload, 1) := by decide +kernel
theorem dX11_enqueue_32 : decode cX11_enqueue 32 = .ok (.iconst 1, 1) := by decide +kernel
theorem dX11_enqueue_33 : decode cX11_enqueue 33 = .ok (.iadd, 1) := by decide +kernel
theorem dX11_enqueue_34 : decode cX11_enqueue 34 = .ok (.iastore, 1) := by decide +kernel
theorem dX11_enqueue_35 : decode cX11_enqueue 35 = .ok (.return_, 1) := by decide +kernel
theorem dX11_dequeue_0 : decode cX11_dequeue 0 = .ok (.iconst 0, 1) := by decide +kernel
theorem dX11_dequeue_1 : decode cX11_dequeue 1 = .ok (.istore_n 2, 1) := by decide +kernel
theorem dX11_dequeue_2 : decode cX11_dequeue 2 = .ok (.aload_n 0, 1) := by decide +kernel
theorem dX11_dequeue_3 : decode cX11_dequeue 3 = .ok (.getfield 7, 3) := by decide +kernel
theorem dX11_dequeue_6 : decode cX11_dequeue 6 = .ok (.bipush 16, 2) := by decide +kernel
theorem dX11_dequeue_8 : decode cX11_dequeue 8 = .ok (.iload_n 2, 1) := by decide +kernel
theorem dX11_dequeue_9 : decode cX11_dequeue 9 = .ok (.iadd, 1) := by decide +kernel
theorem dX11_dequeue_10 : decode cX11_dequeue 10 = .ok (.iaload, 1) := by decide +kernel
theorem dX11_dequeue_11 : decode cX11_dequeue 11 = .ok (.iload_n 1, 1) := by decide +kernel
theorem dX11_dequeue_12 : decode cX11_dequeue 12 = .ok (.if_icmp .eq 9, 3) := by decide +kernel
theorem dX11_dequeue_15 : decode cX11_dequeue 15 = .ok (.iinc 2 1, 3) := by decide +kernel
theorem dX11_dequeue_18 : decode cX11_dequeue 18 = .ok (.goto (-16), 3) := by decide +kernel
theorem dX11_dequeue_21 : decode cX11_dequeue 21 = .ok (.aload_n 0, 1) := by decide +kernel
theorem dX11_dequeue_22 : decode cX11_dequeue 22 = .ok (.getfield 7, 3) := by decide +kernel
theorem dX11_dequeue_25 : decode cX11_dequeue 25 = .ok (.bipush 12, 2) := by decide +kernel
theorem dX11_dequeue_27 : decode cX11_dequeue 27 = .ok (.dup2, 1) := by decide +kernel
theorem dX11_dequeue_28 : decode cX11_dequeue 28 = .ok (.iaload, 1) := by decide +kernel
theorem dX11_dequeue_29 : decode cX11_dequeue 29 = .ok (.iconst 1, 1) := by decide +kernel
theorem dX11_dequeue_30 : decode cX11_dequeue 30 = .ok (.isub, 1) := by decide +kernel
theorem dX11_dequeue_31 : decode cX11_dequeue 31 = .ok (.iastore, 1) := by decide +kernel
theorem dX11_dequeue_32 : decode cX11_dequeue 32 = .ok (.iload_n 2, 1) := by decide +kernel
theorem dX11_dequeue_33 : decode cX11_dequeue 33 = .ok (.istore_n 3, 1) := by decide +kernel
theorem dX11_dequeue_34 : decode cX11_dequeue 34 = .ok (.iload_n 3, 1) := by decide +kernel
theorem dX11_dequeue_35 : decode cX11_dequeue 35 = .ok (.aload_n 0, 1) := by decide +kernel
theorem dX11_dequeue_36 : decode cX11_dequeue 36 = .ok (.getfield 7, 3) := by decide +kernel
theorem dX11_dequeue_39 : decode cX11_dequeue 39 = .ok (.bipush 12, 2) := by decide +kernel
theorem dX11_dequeue_41 : decode cX11_dequeue 41 = .ok (.iaload, 1) := by decide +kernel
theorem dX11_dequeue_42 : decode cX11_dequeue 42 = .ok (.if_icmp .ge 29, 3) := by decide +kernel
theorem dX11_dequeue_45 : decode cX11_dequeue 45 = .ok (.aload_n 0, 1) := by decide +kernel
theorem dX11_dequeue_46 : decode cX11_dequeue 46 = .ok (.getfield 7, 3) := by decide +kernel
theorem dX11_dequeue_49 : decode cX11_dequeue 49 = .ok (.bipush 16, 2) := by decide +kernel
theorem dX11_dequeue_51 : decode cX11_dequeue 51 = .ok (.iload_n 3, 1) := by decide +kernel
theorem dX11_dequeue_52 : decode cX11_dequeue 52 = .ok (.iadd, 1) := by decide +kernel
theorem dX11_dequeue_53 : decode cX11_dequeue 53 = .ok (.aload_n 0, 1) := by decide +kernel
theorem dX11_dequeue_54 : decode cX11_dequeue 54 = .ok (.getfield 7, 3) := by decide +kernel
theorem dX11_dequeue_57 : decode cX11_dequeue 57 = .ok (.bipush 16, 2) := by decide +kernel
theorem dX11_dequeue_59 : decode cX11_dequeue 59 = .ok (.iload_n 3, 1) := by decide +kernel
theorem dX11_dequeue_60 : decode cX11_dequeue 60 = .ok (.iadd, 1) := by decide +kernel
theorem dX11_dequeue_61 : decode cX11_dequeue 61 = .ok (.iconst 1, 1) := by decide +kernel
theorem dX11_dequeue_62 : decode cX11_dequeue 62 = .ok (.iadd, 1) := by decide +kernel
theorem dX11_dequeue_63 : decode cX11_dequeue 63 = .ok (.iaload, 1) := by decide +kernel
theorem dX11_dequeue_64 : decode cX11_dequeue 64 = .ok (.iastore, 1) := by decide +kernel
theorem dX11_dequeue_65 : decode cX11_dequeue 65 = .ok (.iinc 3 1, 3) := by decide +kernel
theorem dX11_dequeue_68 : decode cX11_dequeue 68 = .ok (.goto (-34), 3) := by decide +kernel
theorem dX11_dequeue_71 : decode cX11_dequeue 71 = .ok (.return_, 1) := by decide +kernel
theorem dX11_newBarrel_0 : decode cX11_newBarrel 0 = .ok (.aload_n 0, 1) := by decide +kernel
theorem dX11_newBarrel_1 : decode cX11_newBarrel 1 = .ok (.getfield 7, 3) := by decide +kernel
theorem dX11_newBarrel_4 : decode cX11_newBarrel 4 = .ok (.bipush 7, 2) := by decide +kernel
theorem dX11_newBarrel_6 : decode cX11_newBarrel 6 = .ok (.iaload, 1) := by decide +kernel
theorem dX11_newBarrel_7 : decode cX11_newBarrel 7 = .ok (.istore_n 2, 1) := by decide +kernel
theorem dX11_newBarrel_8 : decode cX11_newBarrel 8 = .ok (.aload_n 0, 1) := by decide +kernel
theorem dX11_newBarrel_9 : decode cX11_newBarrel 9 = .ok (.iload_n 2, 1) := by decide +kernel
theorem dX11_newBarrel_10 : decode cX11_newBarrel 10 = .ok (.iconst 0, 1) := by decide +kernel
theorem dX11_newBarrel_11 : decode cX11_newBarrel 11 = .ok (.iconst 0, 1) := by decide +kernel
theorem dX11_newBarrel_12 : decode cX11_newBarrel 12 = .ok (.invokevirtual 73, 3) := by decide +kernel
theorem dX11_newBarrel_15 : decode cX11_newBarrel 15 = .ok (.aload_n 0, 1) := by decide +kernel
theorem dX11_newBarrel_16 : decode cX11_newBarrel 16 = .ok (.iload_n 2, 1) := by decide +kernel
theorem dX11_newBarrel_17 : decode cX11_newBarrel 17 = .ok (.bipush 10, 2) := by decide +kernel
theorem dX11_newBarrel_19 : decode cX11_newBarrel 19 = .ok (.iload_n 1, 1) := by decide +kernel
theorem dX11_newBarrel_20 : decode cX11_newBarrel 20 = .ok (.invokevirtual 73, 3) := by decide +kernel
theorem dX11_newBarrel_23 : decode cX11_newBarrel 23 = .ok (.aload_n 0, 1) := by decide +kernel
theorem dX11_newBarrel_24 : decode cX11_newBarrel 24 = .ok (.iload_n 2, 1) := by decide +kernel
theorem dX11_newBarrel_25 : decode cX11_newBarrel 25 = .ok (.bipush 11, 2) := by decide +kernel
theorem dX11_newBarrel_27 : decode cX11_newBarrel 27 = .ok (.iconst 0, 1) := by decide +kernel
theorem dX11_newBarrel_28 : decode cX11_newBarrel 28 = .ok (.invokevirtual 73, 3) := by decide +kernel
theorem dX11_newBarrel_31 : decode cX11_newBarrel 31 = .ok (.aload_n 0, 1) := by decide +kernel
theorem dX11_newBarrel_32 : decode cX11_newBarrel 32 = .ok (.iload_n 2, 1) := by decide +kernel
theorem dX11_newBarrel_33 : decode cX11_newBarrel 33 = .ok (.bipush 13, 2) := by decide +kernel
theorem dX11_newBarrel_35 : decode cX11_newBarrel 35 = .ok (.iconst (-1), 1) := by decide +kernel
theorem dX11_newBarrel_36 : decode cX11_newBarrel 36 = .ok (.invokevirtual 73, 3) := by decide +kernel
theorem dX11_newBarrel_39 : decode cX11_newBarrel 39 = .ok (.aload_n 0, 1) := by decide +kernel
theorem dX11_newBarrel_40 : decode cX11_newBarrel 40 = .ok (.iload_n 2, 1) := by decide +kernel
theorem dX11_newBarrel_41 : decode cX11_newBarrel 41 = .ok (.bipush 14, 2) := by decide +kernel
theorem dX11_newBarrel_43 : decode cX11_newBarrel 43 = .ok (.iconst (-1), 1) := by decide +kernel
theorem dX11_newBarrel_44 : decode cX11_newBarrel 44 = .ok (.invokevirtual 73, 3) := by decide +kernel
theorem dX11_newBarrel_47 : decode cX11_newBarrel 47 = .ok (.aload_n 0, 1) := by decide +kernel
theorem dX11_newBarrel_48 : decode cX11_newBarrel 48 = .ok (.getfield 7, 3) := by decide +kernel
theorem dX11_newBarrel_51 : decode cX11_newBarrel 51 = .ok (.bipush 7, 2) := by decide +kernel
theorem dX11_newBarrel_53 : decode cX11_newBarrel 53 = .ok (.dup2, 1) := by decide +kernel
theorem dX11_newBarrel_54 : decode cX11_newBarrel 54 = .ok (.iaload, 1) := by decide +kernel
theorem dX11_newBarrel_55 : decode cX11_newBarrel 55 = .ok (.iconst 1, 1) := by decide +kernel
theorem dX11_newBarrel_56 : decode cX11_newBarrel 56 = .ok (.iadd, 1) := by decide +kernel
theorem dX11_newBarrel_57 : decode cX11_newBarrel 57 = .ok (.iastore, 1) := by decide +kernel
theorem dX11_newBarrel_58 : decode cX11_newBarrel 58 = .ok (.aload_n 0, 1) := by decide +kernel
theorem dX11_newBarrel_59 : decode cX11_newBarrel 59 = .ok (.iload_n 2, 1) := by decide +kernel
theorem dX11_newBarrel_60 : decode cX11_newBarrel 60 = .ok (.invokevirtual 76, 3) := by decide +kernel
theorem dX11_newBarrel_63 : decode cX11_newBarrel 63 = .ok (.iload_n 2, 1) := by decide +kernel
theorem dX11_newBarrel_64 : decode cX11_newBarrel 64 = .ok (.ireturn, 1) := by decide +kernel
theorem dX11_addEel_0 : decode cX11_addEel 0 = .ok (.aload_n 0, 1) := by decide +kernel
theorem dX11_addEel_1 : decode cX11_addEel 1 = .ok (.iload_n 1, 1) := by decide +kernel
theorem dX11_addEel_2 : decode cX11_addEel 2 = .ok (.iconst 0, 1) := by decide +kernel
theorem dX11_addEel_3 : decode cX11_addEel 3 = .ok (.invokevirtual 66, 3) := by decide +kernel
theorem dX11_addEel_6 : decode cX11_addEel 6 = .ok (.istore_n 3, 1) := by decide +kernel
theorem dX11_addEel_7 : decode cX11_addEel 7 = .ok (.aload_n 0, 1) := by decide +kernel
theorem dX11_addEel_8 : decode cX11_addEel 8 = .ok (.iload_n 1, 1) := by decide +kernel
theorem dX11_addEel_9 : decode cX11_addEel 9 = .ok (.iconst 1, 1) := by decide +kernel
theorem dX11_addEel_10 : decode cX11_addEel 10 = .ok (.iload_n 3, 1) := by decide +kernel
theorem dX11_addEel_11 : decode cX11_addEel 11 = .ok (.iadd, 1) := by decide +kernel
theorem dX11_addEel_12 : decode cX11_addEel 12 = .ok (.iload_n 2, 1) := by decide +kernel
theorem dX11_addEel_13 : decode cX11_addEel 13 = .ok (.invokevirtual 73, 3) := by decide +kernel
theorem dX11_addEel_16 : decode cX11_addEel 16 = .ok (.aload_n 0, 1) := by decide +kernel
theorem dX11_addEel_17 : decode cX11_addEel 17 = .ok (.iload_n 1, 1) := by decide +kernel
theorem dX11_addEel_18 : decode cX11_addEel 18 = .ok (.iconst 0, 1) := by decide +kernel
theorem dX11_addEel_19 : decode cX11_addEel 19 = .ok (.iload_n 3, 1) := by decide +kernel
theorem dX11_addEel_20 : decode cX11_addEel 20 = .ok (.iconst 1, 1) := by decide +kernel
theorem dX11_addEel_21 : decode cX11_addEel 21 = .ok (.iadd, 1) := by decide +kernel
theorem dX11_addEel_22 : decode cX11_addEel 22 = .ok (.invokevirtual 73, 3) := by decide +kernel
theorem dX11_addEel_25 : decode cX11_addEel 25 = .ok (.return_, 1) := by decide +kernel
theorem dX11_totalOf_0 : decode cX11_totalOf 0 = .ok (.iconst 0, 1) := by decide +kernel
theorem dX11_totalOf_1 : decode cX11_totalOf 1 = .ok (.istore_n 2, 1) := by decide +kernel
theorem dX11_totalOf_2 : decode cX11_totalOf 2 = .ok (.iconst 0, 1) := by decide +kernel
theorem dX11_totalOf_3 : decode cX11_totalOf 3 = .ok (.istore_n 3, 1) := by decide +kernel
theorem dX11_totalOf_4 : decode cX11_totalOf 4 = .ok (.iload_n 3, 1) := by decide +kernel
theorem dX11_totalOf_5 : decode cX11_totalOf 5 = .ok (.aload_n 0, 1) := by decide +kernel
theorem dX11_totalOf_6 : decode cX11_totalOf 6 = .ok (.iload_n 1, 1) := by decide +kernel
theorem dX11_totalOf_7 : decode cX11_totalOf 7 = .ok (.iconst 0, 1) := by decide +kernel
theorem dX11_totalOf_8 : decode cX11_totalOf 8 = .ok (.invokevirtual 66, 3) := by decide +kernel
theorem dX11_totalOf_11 : decode cX11_totalOf 11 = .ok (.if_icmp .ge 18, 3) := by decide +kernel
theorem dX11_totalOf_14 : decode cX11_totalOf 14 = .ok (.iload_n 2, 1) := by decide +kernel
theorem dX11_totalOf_15 : decode cX11_totalOf 15 = .ok (.aload_n 0, 1) := by decide +kernel
theorem dX11_totalOf_16 : decode cX11_totalOf 16 = .ok (.iload_n 1, 1) := by decide +kernel
theorem dX11_totalOf_17 : decode cX11_totalOf 17 = .ok (.iload_n 3, 1) := by decide +kernel
theorem dX11_totalOf_18 : decode cX11_totalOf 18 = .ok (.invokevirtual 80, 3) := by decide +kernel
theorem dX11_totalOf_21 : decode cX11_totalOf 21 = .ok (.iadd, 1) := by decide +kernel
theorem dX11_totalOf_22 : decode cX11_totalOf 22 = .ok (.istore_n 2, 1) := by decide +kernel
theorem dX11_totalOf_23 : decode cX11_totalOf 23 = .ok (.iinc 3 1, 3) := by decide +kernel
theorem dX11_totalOf_26 : decode cX11_totalOf 26 = .ok (.goto (-22), 3) := by decide +kernel
theorem dX11_totalOf_29 : decode cX11_totalOf 29 = .ok (.iload_n 2, 1) := by decide +kernel
theorem dX11_totalOf_30 : decode cX11_totalOf 30 = .ok (.ireturn, 1) := by decide +kernel
theorem dX11_greatestOf_0 : decode cX11_greatestOf 0 = .ok (.iconst 0, 1) := by decide +kernel
theorem dX11_greatestOf_1 : decode cX11_greatestOf 1 = .ok (.istore_n 2, 1) := by decide +kernel
theorem dX11_greatestOf_2 : decode cX11_greatestOf 2 = .ok (.iconst 0, 1) := by decide +kernel
theorem dX11_greatestOf_3 : decode cX11_greatestOf 3 = .ok (.istore_n 3, 1) := by decide +kernel
theorem dX11_greatestOf_4 : decode cX11_greatestOf 4 = .ok (.iload_n 3, 1) := by decide +kernel
theorem dX11_greatestOf_5 : decode cX11_greatestOf 5 = .ok (.aload_n 0, 1) := by decide +kernel
theorem dX11_greatestOf_6 : decode cX11_greatestOf 6 = .ok (.iload_n 1, 1) := by decide +kernel
theorem dX11_greatestOf_7 : decode cX11_greatestOf 7 = .ok (.iconst 0, 1) := by decide +kernel
theorem dX11_greatestOf_8 : decode cX11_greatestOf 8 = .ok (.invokevirtual 66, 3) := by decide +kernel
theorem dX11_greatestOf_11 : decode cX11_greatestOf 11 = .ok (.if_icmp .ge 26, 3) := by decide +kernel
theorem dX11_greatestOf_14 : decode cX11_greatestOf 14 = .ok (.aload_n 0, 1) := by decide +kernel
theorem dX11_greatestOf_15 : decode cX11_greatestOf 15 = .ok (.iload_n 1, 1) := by decide +kernel
theorem dX11_greatestOf_16 : decode cX11_greatestOf 16 = .ok (.iload_n 3, 1) := by decide +kernel
theorem dX11_greatestOf_17 : decode cX11_greatestOf 17 = .ok (.invokevirtual 80, 3) := by decide +kernel
theorem dX11_greatestOf_20 : decode cX11_greatestOf 20 = .ok (.iload_n 2, 1) := by decide +kernel
theorem dX11_greatestOf_21 : decode cX11_greatestOf 21 = .ok (.if_icmp .le 10, 3) := by decide +kernel
theorem dX11_greatestOf_24 : decode cX11_greatestOf 24 = .ok (.aload_n 0, 1) := by decide +kernel
theorem dX11_greatestOf_25 : decode cX11_greatestOf 25 = .ok (.iload_n 1, 1) := by decide +kernel
theorem dX11_greatestOf_26 : decode cX11_greatestOf 26 = .ok (.iload_n 3, 1) := by decide +kernel
theorem dX11_greatestOf_27 : decode cX11_greatestOf 27 = .ok (.invokevirtual 80, 3) := by decide +kernel
theorem dX11_greatestOf_30 : decode cX11_greatestOf 30 = .ok (.istore_n 2, 1) := by decide +kernel
theorem dX11_greatestOf_31 : decode cX11_greatestOf 31 = .ok (.iinc 3 1, 3) := by decide +kernel
theorem dX11_greatestOf_34 : decode cX11_greatestOf 34 = .ok (.goto (-30), 3) := by decide +kernel
theorem dX11_greatestOf_37 : decode cX11_greatestOf 37 = .ok (.iload_n 2, 1) := by decide +kernel
theorem dX11_greatestOf_38 : decode cX11_greatestOf 38 = .ok (.ireturn, 1) := by decide +kernel
theorem dX11_shorterThan_0 : decode cX11_shorterThan 0 = .ok (.iconst 0, 1) := by decide +kernel
theorem dX11_shorterThan_1 : decode cX11_shorterThan 1 = .ok (.istore_n 3, 1) := by decide +kernel
theorem dX11_shorterThan_2 : decode cX11_shorterThan 2 = .ok (.iconst 0, 1) := by decide +kernel
theorem dX11_shorterThan_3 : decode cX11_shorterThan 3 = .ok (.istore 4, 2) := by decide +kernel
theorem dX11_shorterThan_5 : decode cX11_shorterThan 5 = .ok (.iload 4, 2) := by decide +kernel
theorem dX11_shorterThan_7 : decode cX11_shorterThan 7 = .ok (.aload_n 0, 1) := by decide +kernel
theorem dX11_shorterThan_8 : decode cX11_shorterThan 8 = .ok (.iload_n 1, 1) := by decide +kernel
theorem dX11_shorterThan_9 : decode cX11_shorterThan 9 = .ok (.iconst 0, 1) := by decide +kernel
theorem dX11_shorterThan_10 : decode cX11_shorterThan 10 = .ok (.invokevirtual 66, 3) := by decide +kernel
theorem dX11_shorterThan_13 : decode cX11_shorterThan 13 = .ok (.if_icmp .ge 23, 3) := by decide +kernel
theorem dX11_shorterThan_16 : decode cX11_shorterThan 16 = .ok (.aload_n 0, 1) := by decide +kernel
theorem dX11_shorterThan_17 : decode cX11_shorterThan 17 = .ok (.iload_n 1, 1) := by decide +kernel
theorem dX11_shorterThan_18 : decode cX11_shorterThan 18 = .ok (.iload 4, 2) := by decide +kernel
theorem dX11_shorterThan_20 : decode cX11_shorterThan 20 = .ok (.invokevirtual 80, 3) := by decide +kernel
theorem dX11_shorterThan_23 : decode cX11_shorterThan 23 = .ok (.iload_n 2, 1) := by decide +kernel
theorem dX11_shorterThan_24 : decode cX11_shorterThan 24 = .ok (.if_icmp .ge 6, 3) := by decide +kernel
theorem dX11_shorterThan_27 : decode cX11_shorterThan 27 = .ok (.iinc 3 1, 3) := by decide +kernel
theorem dX11_shorterThan_30 : decode cX11_shorterThan 30 = .ok (.iinc 4 1, 3) := by decide +kernel
theorem dX11_shorterThan_33 : decode cX11_shorterThan 33 = .ok (.goto (-28), 3) := by decide +kernel
theorem dX11_shorterThan_36 : decode cX11_shorterThan 36 = .ok (.iload_n 3, 1) := by decide +kernel
theorem dX11_shorterThan_37 : decode cX11_shorterThan 37 = .ok (.ireturn, 1) := by decide +kernel
theorem dX11_middleOf_0 : decode cX11_middleOf 0 = .ok (.aload_n 0, 1) := by decide +kernel
theorem dX11_middleOf_1 : decode cX11_middleOf 1 = .ok (.iload_n 1, 1) := by decide +kernel
theorem dX11_middleOf_2 : decode cX11_middleOf 2 = .ok (.iconst 0, 1) := by decide +kernel
theorem dX11_middleOf_3 : decode cX11_middleOf 3 = .ok (.invokevirtual 66, 3) := by decide +kernel
theorem dX11_middleOf_6 : decode cX11_middleOf 6 = .ok (.iconst 1, 1) := by decide +kernel
theorem dX11_middleOf_7 : decode cX11_middleOf 7 = .ok (.isub, 1) := by decide +kernel
theorem dX11_middleOf_8 : decode cX11_middleOf 8 = .ok (.iconst 2, 1) := by decide +kernel
theorem dX11_middleOf_9 : decode cX11_middleOf 9 = .ok (.idiv, 1) := by decide +kernel
theorem dX11_middleOf_10 : decode cX11_middleOf 10 = .ok (.istore_n 2, 1) := by decide +kernel
theorem dX11_middleOf_11 : decode cX11_middleOf 11 = .ok (.iconst 0, 1) := by decide +kernel
theorem dX11_middleOf_12 : decode cX11_middleOf 12 = .ok (.istore_n 3, 1) := by decide +kernel
theorem dX11_middleOf_13 : decode cX11_middleOf 13 = .ok (.iload_n 3, 1) := by decide +kernel
theorem dX11_middleOf_14 : decode cX11_middleOf 14 = .ok (.aload_n 0, 1) := by decide +kernel
theorem dX11_middleOf_15 : decode cX11_middleOf 15 = .ok (.iload_n 1, 1) := by decide +kernel
theorem dX11_middleOf_16 : decode cX11_middleOf 16 = .ok (.iconst 0, 1) := by decide +kernel
theorem dX11_middleOf_17 : decode cX11_middleOf 17 = .ok (.invokevirtual 66, 3) := by decide +kernel
theorem dX11_middleOf_20 : decode cX11_middleOf 20 = .ok (.if_icmp .ge 44, 3) := by decide +kernel
theorem dX11_middleOf_23 : decode cX11_middleOf 23 = .ok (.aload_n 0, 1) := by decide +kernel
theorem dX11_middleOf_24 : decode cX11_middleOf 24 = .ok (.iload_n 1, 1) := by decide +kernel
theorem dX11_middleOf_25 : decode cX11_middleOf 25 = .ok (.iload_n 3, 1) := by decide +kernel
theorem dX11_middleOf_26 : decode cX11_middleOf 26 = .ok (.invokevirtual 80, 3) := by decide +kernel
theorem dX11_middleOf_29 : decode cX11_middleOf 29 = .ok (.istore 4, 2) := by decide +kernel
theorem dX11_middleOf_31 : decode cX11_middleOf 31 = .ok (.aload_n 0, 1) := by decide +kernel
theorem dX11_middleOf_32 : decode cX11_middleOf 32 = .ok (.iload_n 1, 1) := by decide +kernel
theorem dX11_middleOf_33 : decode cX11_middleOf 33 = .ok (.iload 4, 2) := by decide +kernel
theorem dX11_middleOf_35 : decode cX11_middleOf 35 = .ok (.invokevirtual 83, 3) := by decide +kernel
theorem dX11_middleOf_38 : decode cX11_middleOf 38 = .ok (.iload_n 2, 1) := by decide +kernel
theorem dX11_middleOf_39 : decode cX11_middleOf 39 = .ok (.if_icmp .gt 19, 3) := by decide +kernel
theorem dX11_middleOf_42 : decode cX11_middleOf 42 = .ok (.aload_n 0, 1) := by decide +kernel
theorem dX11_middleOf_43 : decode cX11_middleOf 43 = .ok (.iload_n 1, 1) := by decide +kernel
theorem dX11_middleOf_44 : decode cX11_middleOf 44 = .ok (.iload 4, 2) := by decide +kernel
theorem dX11_middleOf_46 : decode cX11_middleOf 46 = .ok (.iconst 1, 1) := by decide +kernel
theorem dX11_middleOf_47 : decode cX11_middleOf 47 = .ok (.iadd, 1) := by decide +kernel
theorem dX11_middleOf_48 : decode cX11_middleOf 48 = .ok (.invokevirtual 83, 3) := by decide +kernel
theorem dX11_middleOf_51 : decode cX11_middleOf 51 = .ok (.iload_n 2, 1) := by decide +kernel
theorem dX11_middleOf_52 : decode cX11_middleOf 52 = .ok (.if_icmp .le 6, 3) := by decide +kernel
theorem dX11_middleOf_55 : decode cX11_middleOf 55 = .ok (.iload 4, 2) := by decide +kernel
theorem dX11_middleOf_57 : decode cX11_middleOf 57 = .ok (.ireturn, 1) := by decide +kernel
theorem dX11_middleOf_58 : decode cX11_middleOf 58 = .ok (.iinc 3 1, 3) := by decide +kernel
theorem dX11_middleOf_61 : decode cX11_middleOf 61 = .ok (.goto (-48), 3) := by decide +kernel
theorem dX11_middleOf_64 : decode cX11_middleOf 64 = .ok (.iconst (-1), 1) := by decide +kernel
theorem dX11_middleOf_65 : decode cX11_middleOf 65 = .ok (.ireturn, 1) := by decide +kernel
theorem dX11_worthTo_0 : decode cX11_worthTo 0 = .ok (.aload_n 0, 1) := by decide +kernel
theorem dX11_worthTo_1 : decode cX11_worthTo 1 = .ok (.iload_n 1, 1) := by decide +kernel
theorem dX11_worthTo_2 : decode cX11_worthTo 2 = .ok (.iconst 2, 1) := by decide +kernel
theorem dX11_worthTo_3 : decode cX11_worthTo 3 = .ok (.invokevirtual 86, 3) := by decide +kernel
theorem dX11_worthTo_6 : decode cX11_worthTo 6 = .ok (.istore_n 3, 1) := by decide +kernel
theorem dX11_worthTo_7 : decode cX11_worthTo 7 = .ok (.aload_n 0, 1) := by decide +kernel
theorem dX11_worthTo_8 : decode cX11_worthTo 8 = .ok (.iload_n 2, 1) := by decide +kernel
theorem dX11_worthTo_9 : decode cX11_worthTo 9 = .ok (.iconst 0, 1) := by decide +kernel
theorem dX11_worthTo_10 : decode cX11_worthTo 10 = .ok (.invokevirtual 66, 3) := by decide +kernel
theorem dX11_worthTo_13 : decode cX11_worthTo 13 = .ok (.istore 4, 2) := by decide +kernel
theorem dX11_worthTo_15 : decode cX11_worthTo 15 = .ok (.aload_n 0, 1) := by decide +kernel
theorem dX11_worthTo_16 : decode cX11_worthTo 16 = .ok (.iload_n 1, 1) := by decide +kernel
theorem dX11_worthTo_17 : decode cX11_worthTo 17 = .ok (.iconst 1, 1) := by decide +kernel
theorem dX11_worthTo_18 : decode cX11_worthTo 18 = .ok (.invokevirtual 86, 3) := by decide +kernel
theorem dX11_worthTo_21 : decode cX11_worthTo 21 = .ok (.tableswitch 88 1 4 #[31, 44, 54, 70], 31) := by decide +kernel
theorem dX11_worthTo_52 : decode cX11_worthTo 52 = .ok (.iload_n 3, 1) := by decide +kernel
theorem dX11_worthTo_53 : decode cX11_worthTo 53 = .ok (.aload_n 0, 1) := by decide +kernel
theorem dX11_worthTo_54 : decode cX11_worthTo 54 = .ok (.iload_n 2, 1) := by decide +kernel
theorem dX11_worthTo_55 : decode cX11_worthTo 55 = .ok (.invokevirtual 89, 3) := by decide +kernel
theorem dX11_worthTo_58 : decode cX11_worthTo 58 = .ok (.imul, 1) := by decide +kernel
theorem dX11_worthTo_59 : decode cX11_worthTo 59 = .ok (.i2d, 1) := by decide +kernel
theorem dX11_worthTo_60 : decode cX11_worthTo 60 = .ok (.ldc2_w 92, 3) := by decide +kernel
theorem dX11_worthTo_63 : decode cX11_worthTo 63 = .ok (.ddiv, 1) := by decide +kernel
theorem dX11_worthTo_64 : decode cX11_worthTo 64 = .ok (.dreturn, 1) := by decide +kernel
theorem dX11_worthTo_65 : decode cX11_worthTo 65 = .ok (.iload_n 3, 1) := by decide +kernel
theorem dX11_worthTo_66 : decode cX11_worthTo 66 = .ok (.iload 4, 2) := by decide +kernel
theorem dX11_worthTo_68 : decode cX11_worthTo 68 = .ok (.imul, 1) := by decide +kernel
theorem dX11_worthTo_69 : decode cX11_worthTo 69 = .ok (.i2d, 1) := by decide +kernel
theorem dX11_worthTo_70 : decode cX11_worthTo 70 = .ok (.ldc2_w 94, 3) := by decide +kernel
theorem dX11_worthTo_73 : decode cX11_worthTo 73 = .ok (.ddiv, 1) := by decide +kernel
theorem dX11_worthTo_74 : decode cX11_worthTo 74 = .ok (.dreturn, 1) := by decide +kernel
theorem dX11_worthTo_75 : decode cX11_worthTo 75 = .ok (.iload_n 3, 1) := by decide +kernel
theorem dX11_worthTo_76 : decode cX11_worthTo 76 = .ok (.aload_n 0, 1) := by decide +kernel
theorem dX11_worthTo_77 : decode cX11_worthTo 77 = .ok (.iload_n 2, 1) := by decide +kernel
theorem dX11_worthTo_78 : decode cX11_worthTo 78 = .ok (.invokevirtual 96, 3) := by decide +kernel
theorem dX11_worthTo_81 : decode cX11_worthTo 81 = .ok (.imul, 1) := by decide +kernel
theorem dX11_worthTo_82 : decode cX11_worthTo 82 = .ok (.iload 4, 2) := by decide +kernel
theorem dX11_worthTo_84 : decode cX11_worthTo 84 = .ok (.imul, 1) := by decide +kernel
theorem dX11_worthTo_85 : decode cX11_worthTo 85 = .ok (.i2d, 1) := by decide +kernel
theorem dX11_worthTo_86 : decode cX11_worthTo 86 = .ok (.ldc2_w 92, 3) := by decide +kernel
theorem dX11_worthTo_89 : decode cX11_worthTo 89 = .ok (.ddiv, 1) := by decide +kernel
theorem dX11_worthTo_90 : decode cX11_worthTo 90 = .ok (.dreturn, 1) := by decide +kernel
theorem dX11_worthTo_91 : decode cX11_worthTo 91 = .ok (.iload_n 3, 1) := by decide +kernel
theorem dX11_worthTo_92 : decode cX11_worthTo 92 = .ok (.iload 4, 2) := by decide +kernel
theorem dX11_worthTo_94 : decode cX11_worthTo 94 = .ok (.aload_n 0, 1) := by decide +kernel
theorem dX11_worthTo_95 : decode cX11_worthTo 95 = .ok (.iload_n 2, 1) := by decide +kernel
theorem dX11_worthTo_96 : decode cX11_worthTo 96 = .ok (.bipush 60, 2) := by decide +kernel
theorem dX11_worthTo_98 : decode cX11_worthTo 98 = .ok (.invokevirtual 83, 3) := by decide +kernel
theorem dX11_worthTo_101 : decode cX11_worthTo 101 = .ok (.isub, 1) := by decide +kernel
theorem dX11_worthTo_102 : decode cX11_worthTo 102 = .ok (.imul, 1) := by decide +kernel
theorem dX11_worthTo_103 : decode cX11_worthTo 103 = .ok (.i2d, 1) := by decide +kernel
theorem dX11_worthTo_104 : decode cX11_worthTo 104 = .ok (.ldc2_w 99, 3) := by decide +kernel
theorem dX11_worthTo_107 : decode cX11_worthTo 107 = .ok (.ddiv, 1) := by decide +kernel
theorem dX11_worthTo_108 : decode cX11_worthTo 108 = .ok (.dreturn, 1) := by decide +kernel
theorem dX11_worthTo_109 : decode cX11_worthTo 109 = .ok (.dconst 0, 1) := by decide +kernel
theorem dX11_worthTo_110 : decode cX11_worthTo 110 = .ok (.dreturn, 1) := by decide +kernel
theorem dX11_isOpenIn_0 : decode cX11_isOpenIn 0 = .ok (.iload_n 1, 1) := by decide +kernel
theorem dX11_isOpenIn_1 : decode cX11_isOpenIn 1 = .ok (.aload_n 0, 1) := by decide +kernel
theorem dX11_isOpenIn_2 : decode cX11_isOpenIn 2 = .ok (.getfield 7, 3) := by decide +kernel
theorem dX11_isOpenIn_5 : decode cX11_isOpenIn 5 = .ok (.iconst 0, 1) := by decide +kernel
theorem dX11_isOpenIn_6 : decode cX11_isOpenIn 6 = .ok (.iaload, 1) := by decide +kernel
theorem dX11_isOpenIn_7 : decode cX11_isOpenIn 7 = .ok (.irem, 1) := by decide +kernel
theorem dX11_isOpenIn_8 : decode cX11_isOpenIn 8 = .ok (.aload_n 0, 1) := by decide +kernel
theorem dX11_isOpenIn_9 : decode cX11_isOpenIn 9 = .ok (.getfield 7, 3) := by decide +kernel
theorem dX11_isOpenIn_12 : decode cX11_isOpenIn 12 = .ok (.iconst 1, 1) := by decide +kernel
theorem dX11_isOpenIn_13 : decode cX11_isOpenIn 13 = .ok (.iaload, 1) := by decide +kernel
theorem dX11_isOpenIn_14 : decode cX11_isOpenIn 14 = .ok (.if_icmp .ge 7, 3) := by decide +kernel
theorem dX11_isOpenIn_17 : decode cX11_isOpenIn 17 = .ok (.iconst 1, 1) := by decide +kernel
theorem dX11_isOpenIn_18 : decode cX11_isOpenIn 18 = .ok (.goto 4, 3) := by decide +kernel
theorem dX11_isOpenIn_21 : decode cX11_isOpenIn 21 = .ok (.iconst 0, 1) := by decide +kernel
theorem dX11_isOpenIn_22 : decode cX11_isOpenIn 22 = .ok (.ireturn, 1) := by decide +kernel
theorem dX11_isOpenNow_0 : decode cX11_isOpenNow 0 = .ok (.aload_n 0, 1) := by decide +kernel
theorem dX11_isOpenNow_1 : decode cX11_isOpenNow 1 = .ok (.aload_n 0, 1) := by decide +kernel
theorem dX11_isOpenNow_2 : decode cX11_isOpenNow 2 = .ok (.getfield 7, 3) := by decide +kernel
theorem dX11_isOpenNow_5 : decode cX11_isOpenNow 5 = .ok (.iconst 5, 1) := by decide +kernel
theorem dX11_isOpenNow_6 : decode cX11_isOpenNow 6 = .ok (.iaload, 1) := by decide +kernel
theorem dX11_isOpenNow_7 : decode cX11_isOpenNow 7 = .ok (.invokevirtual 101, 3) := by decide +kernel
theorem dX11_isOpenNow_10 : decode cX11_isOpenNow 10 = .ok (.ireturn, 1) := by decide +kernel
theorem dX11_blowsIn_0 : decode cX11_blowsIn 0 = .ok (.aload_n 0, 1) := by decide +kernel
theorem dX11_blowsIn_1 : decode cX11_blowsIn 1 = .ok (.iload_n 1, 1) := by decide +kernel
theorem dX11_blowsIn_2 : decode cX11_blowsIn 2 = .ok (.invokevirtual 101, 3) := by decide +kernel
theorem dX11_blowsIn_5 : decode cX11_blowsIn 5 = .ok (.ifCond .ne 17, 3) := by decide +kernel
theorem dX11_blowsIn_8 : decode cX11_blowsIn 8 = .ok (.aload_n 0, 1) := by decide +kernel
theorem dX11_blowsIn_9 : decode cX11_blowsIn 9 = .ok (.iload_n 1, 1) := by decide +kernel
theorem dX11_blowsIn_10 : decode cX11_blowsIn 10 = .ok (.iconst 1, 1) := by decide +kernel
theorem dX11_blowsIn_11 : decode cX11_blowsIn 11 = .ok (.isub, 1) := by decide +kernel
theorem dX11_blowsIn_12 : decode cX11_blowsIn 12 = .ok (.invokevirtual 101, 3) := by decide +kernel
theorem dX11_blowsIn_15 : decode cX11_blowsIn 15 = .ok (.ifCond .eq 7, 3) := by decide +kernel
theorem dX11_blowsIn_18 : decode cX11_blowsIn 18 = .ok (.iconst 1, 1) := by decide +kernel
theorem dX11_blowsIn_19 : decode cX11_blowsIn 19 = .ok (.goto 4, 3) := by decide +kernel
theorem dX11_blowsIn_22 : decode cX11_blowsIn 22 = .ok (.iconst 0, 1) := by decide +kernel
theorem dX11_blowsIn_23 : decode cX11_blowsIn 23 = .ok (.ireturn, 1) := by decide +kernel
theorem dX11_bidNext_0 : decode cX11_bidNext 0 = .ok (.aload_n 0, 1) := by decide +kernel
theorem dX11_bidNext_1 : decode cX11_bidNext 1 = .ok (.getfield 7, 3) := by decide +kernel
theorem dX11_bidNext_4 : decode cX11_bidNext 4 = .ok (.bipush 10, 2) := by decide +kernel
theorem dX11_bidNext_6 : decode cX11_bidNext 6 = .ok (.iaload, 1) := by decide +kernel
theorem dX11_bidNext_7 : decode cX11_bidNext 7 = .ok (.ifCond .ge 19, 3) := by decide +kernel
theorem dX11_bidNext_10 : decode cX11_bidNext 10 = .ok (.aload_n 0, 1) := by decide +kernel
theorem dX11_bidNext_11 : decode cX11_bidNext 11 = .ok (.aload_n 0, 1) := by decide +kernel
theorem dX11_bidNext_12 : decode cX11_bidNext 12 = .ok (.getfield 7, 3) := by decide +kernel
theorem dX11_bidNext_15 : decode cX11_bidNext 15 = .ok (.bipush 8, 2) := by decide +kernel
theorem dX11_bidNext_17 : decode cX11_bidNext 17 = .ok (.iaload, 1) := by decide +kernel
theorem dX11_bidNext_18 : decode cX11_bidNext 18 = .ok (.bipush 10, 2) := by decide +kernel
theorem dX11_bidNext_20 : decode cX11_bidNext 20 = .ok (.invokevirtual 66, 3) := by decide +kernel
theorem dX11_bidNext_23 : decode cX11_bidNext 23 = .ok (.goto 17, 3) := by decide +kernel
theorem dX11_bidNext_26 : decode cX11_bidNext 26 = .ok (.aload_n 0, 1) := by decide +kernel
theorem dX11_bidNext_27 : decode cX11_bidNext 27 = .ok (.getfield 7, 3) := by decide +kernel
theorem dX11_bidNext_30 : decode cX11_bidNext 30 = .ok (.bipush 9, 2) := by decide +kernel
theorem dX11_bidNext_32 : decode cX11_bidNext 32 = .ok (.iaload, 1) := by decide +kernel
theorem dX11_bidNext_33 : decode cX11_bidNext 33 = .ok (.aload_n 0, 1) := by decide +kernel
theorem dX11_bidNext_34 : decode cX11_bidNext 34 = .ok (.getfield 7, 3) := by decide +kernel
theorem dX11_bidNext_37 : decode cX11_bidNext 37 = .ok (.iconst 3, 1) := by decide +kernel
theorem dX11_bidNext_38 : decode cX11_bidNext 38 = .ok (.iaload, 1) := by decide +kernel
theorem dX11_bidNext_39 : decode cX11_bidNext 39 = .ok (.iadd, 1) := by decide +kernel
theorem dX11_bidNext_40 : decode cX11_bidNext 40 = .ok (.ireturn, 1) := by decide +kernel
theorem dX11_costOfPrice_0 : decode cX11_costOfPrice 0 = .ok (.iload_n 1, 1) := by decide +kernel
theorem dX11_costOfPrice_1 : decode cX11_costOfPrice 1 = .ok (.iload_n 1, 1) := by decide +kernel
theorem dX11_costOfPrice_2 : decode cX11_costOfPrice 2 = .ok (.aload_n 0, 1) := by decide +kernel
theorem dX11_costOfPrice_3 : decode cX11_costOfPrice 3 = .ok (.getfield 7, 3) := by decide +kernel
theorem dX11_costOfPrice_6 : decode cX11_costOfPrice 6 = .ok (.iconst 4, 1) := by decide +kernel
theorem dX11_costOfPrice_7 : decode cX11_costOfPrice 7 = .ok (.iaload, 1) := by decide +kernel
theorem dX11_costOfPrice_8 : decode cX11_costOfPrice 8 = .ok (.imul, 1) := by decide +kernel
theorem dX11_costOfPrice_9 : decode cX11_costOfPrice 9 = .ok (.bipush 100, 2) := by decide +kernel
theorem dX11_costOfPrice_11 : decode cX11_costOfPrice 11 = .ok (.idiv, 1) := by decide +kernel
theorem dX11_costOfPrice_12 : decode cX11_costOfPrice 12 = .ok (.iadd, 1) := by decide +kernel
theorem dX11_costOfPrice_13 : decode cX11_costOfPrice 13 = .ok (.ireturn, 1) := by decide +kernel
theorem dX11_reasonAgainst_0 : decode cX11_reasonAgainst 0 = .ok (.aload_n 0, 1) := by decide +kernel
theorem dX11_reasonAgainst_1 : decode cX11_reasonAgainst 1 = .ok (.invokevirtual 105, 3) := by decide +kernel
theorem dX11_reasonAgainst_4 : decode cX11_reasonAgainst 4 = .ok (.ifCond .ne 5, 3) := by decide +kernel
theorem dX11_reasonAgainst_7 : decode cX11_reasonAgainst 7 = .ok (.iconst 1, 1) := by decide +kernel
theorem dX11_reasonAgainst_8 : decode cX11_reasonAgainst 8 = .ok (.ireturn, 1) := by decide +kernel
theorem dX11_reasonAgainst_9 : decode cX11_reasonAgainst 9 = .ok (.aload_n 0, 1) := by decide +kernel
theorem dX11_reasonAgainst_10 : decode cX11_reasonAgainst 10 = .ok (.getfield 7, 3) := by decide +kernel
theorem dX11_reasonAgainst_13 : decode cX11_reasonAgainst 13 = .ok (.bipush 8, 2) := by decide +kernel
theorem dX11_reasonAgainst_15 : decode cX11_reasonAgainst 15 = .ok (.iaload, 1) := by decide +kernel
theorem dX11_reasonAgainst_16 : decode cX11_reasonAgainst 16 = .ok (.ifCond .ge 5, 3) := by decide +kernel
theorem dX11_reasonAgainst_19 : decode cX11_reasonAgainst 19 = .ok (.iconst 2, 1) := by decide +kernel
theorem dX11_reasonAgainst_20 : decode cX11_reasonAgainst 20 = .ok (.ireturn, 1) := by decide +kernel
theorem dX11_reasonAgainst_21 : decode cX11_reasonAgainst 21 = .ok (.aload_n 0, 1) := by decide +kernel
theorem dX11_reasonAgainst_22 : decode cX11_reasonAgainst 22 = .ok (.getfield 7, 3) := by decide +kernel
theorem dX11_reasonAgainst_25 : decode cX11_reasonAgainst 25 = .ok (.bipush 10, 2) := by decide +kernel
theorem dX11_reasonAgainst_27 : decode cX11_reasonAgainst 27 = .ok (.iaload, 1) := by decide +kernel
theorem dX11_reasonAgainst_28 : decode cX11_reasonAgainst 28 = .ok (.iload_n 1, 1) := by decide +kernel
theorem dX11_reasonAgainst_29 : decode cX11_reasonAgainst 29 = .ok (.if_icmp .ne 5, 3) := by decide +kernel
theorem dX11_reasonAgainst_32 : decode cX11_reasonAgainst 32 = .ok (.iconst 3, 1) := by decide +kernel
theorem dX11_reasonAgainst_33 : decode cX11_reasonAgainst 33 = .ok (.ireturn, 1) := by decide +kernel
theorem dX11_reasonAgainst_34 : decode cX11_reasonAgainst 34 = .ok (.aload_n 0, 1) := by decide +kernel
theorem dX11_reasonAgainst_35 : decode cX11_reasonAgainst 35 = .ok (.iload_n 1, 1) := by decide +kernel
theorem dX11_reasonAgainst_36 : decode cX11_reasonAgainst 36 = .ok (.iconst 0, 1) := by decide +kernel
theorem dX11_reasonAgainst_37 : decode cX11_reasonAgainst 37 = .ok (.invokevirtual 86, 3) := by decide +kernel
theorem dX11_reasonAgainst_40 : decode cX11_reasonAgainst 40 = .ok (.aload_n 0, 1) := by decide +kernel
theorem dX11_reasonAgainst_41 : decode cX11_reasonAgainst 41 = .ok (.aload_n 0, 1) := by decide +kernel
theorem dX11_reasonAgainst_42 : decode cX11_reasonAgainst 42 = .ok (.invokevirtual 109, 3) := by decide +kernel
theorem dX11_reasonAgainst_45 : decode cX11_reasonAgainst 45 = .ok (.invokevirtual 113, 3) := by decide +kernel
theorem dX11_reasonAgainst_48 : decode cX11_reasonAgainst 48 = .ok (.if_icmp .ge 7, 3) := by decide +kernel
theorem dX11_reasonAgainst_51 : decode cX11_reasonAgainst 51 = .ok (.iconst 4, 1) := by decide +kernel
theorem dX11_reasonAgainst_52 : decode cX11_reasonAgainst 52 = .ok (.goto 4, 3) := by decide +kernel
theorem dX11_reasonAgainst_55 : decode cX11_reasonAgainst 55 = .ok (.iconst 0, 1) := by decide +kernel
theorem dX11_reasonAgainst_56 : decode cX11_reasonAgainst 56 = .ok (.ireturn, 1) := by decide +kernel
theorem dX11_nodNow_0 : decode cX11_nodNow 0 = .ok (.aload_n 0, 1) := by decide +kernel
theorem dX11_nodNow_1 : decode cX11_nodNow 1 = .ok (.getfield 7, 3) := by decide +kernel
theorem dX11_nodNow_4 : decode cX11_nodNow 4 = .ok (.bipush 9, 2) := by decide +kernel
theorem dX11_nodNow_6 : decode cX11_nodNow 6 = .ok (.aload_n 0, 1) := by decide +kernel
theorem dX11_nodNow_7 : decode cX11_nodNow 7 = .ok (.invokevirtual 109, 3) := by decide +kernel
theorem dX11_nodNow_10 : decode cX11_nodNow 10 = .ok (.iastore, 1) := by decide +kernel
theorem dX11_nodNow_11 : decode cX11_nodNow 11 = .ok (.aload_n 0, 1) := by decide +kernel
theorem dX11_nodNow_12 : decode cX11_nodNow 12 = .ok (.getfield 7, 3) := by decide +kernel
theorem dX11_nodNow_15 : decode cX11_nodNow 15 = .ok (.bipush 10, 2) := by decide +kernel
theorem dX11_nodNow_17 : decode cX11_nodNow 17 = .ok (.iload_n 1, 1) := by decide +kernel
theorem dX11_nodNow_18 : decode cX11_nodNow 18 = .ok (.iastore, 1) := by decide +kernel
theorem dX11_nodNow_19 : decode cX11_nodNow 19 = .ok (.aload_n 0, 1) := by decide +kernel
theorem dX11_nodNow_20 : decode cX11_nodNow 20 = .ok (.getfield 7, 3) := by decide +kernel
theorem dX11_nodNow_23 : decode cX11_nodNow 23 = .ok (.bipush 11, 2) := by decide +kernel
theorem dX11_nodNow_25 : decode cX11_nodNow 25 = .ok (.iconst 0, 1) := by decide +kernel
theorem dX11_nodNow_26 : decode cX11_nodNow 26 = .ok (.iastore, 1) := by decide +kernel
theorem dX11_nodNow_27 : decode cX11_nodNow 27 = .ok (.aload_n 0, 1) := by decide +kernel
theorem dX11_nodNow_28 : decode cX11_nodNow 28 = .ok (.iload_n 1, 1) := by decide +kernel
theorem dX11_nodNow_29 : decode cX11_nodNow 29 = .ok (.iconst 4, 1) := by decide +kernel
theorem dX11_nodNow_30 : decode cX11_nodNow 30 = .ok (.aload_n 0, 1) := by decide +kernel
theorem dX11_nodNow_31 : decode cX11_nodNow 31 = .ok (.iload_n 1, 1) := by decide +kernel
theorem dX11_nodNow_32 : decode cX11_nodNow 32 = .ok (.iconst 4, 1) := by decide +kernel
theorem dX11_nodNow_33 : decode cX11_nodNow 33 = .ok (.invokevirtual 86, 3) := by decide +kernel
theorem dX11_nodNow_36 : decode cX11_nodNow 36 = .ok (.iconst 1, 1) := by decide +kernel
theorem dX11_nodNow_37 : decode cX11_nodNow 37 = .ok (.iadd, 1) := by decide +kernel
theorem dX11_nodNow_38 : decode cX11_nodNow 38 = .ok (.invokevirtual 70, 3) := by decide +kernel
theorem dX11_nodNow_41 : decode cX11_nodNow 41 = .ok (.aload_n 0, 1) := by decide +kernel
theorem dX11_nodNow_42 : decode cX11_nodNow 42 = .ok (.getfield 7, 3) := by decide +kernel
theorem dX11_nodNow_45 : decode cX11_nodNow 45 = .ok (.bipush 9, 2) := by decide +kernel
theorem dX11_nodNow_47 : decode cX11_nodNow 47 = .ok (.iaload, 1) := by decide +kernel
theorem dX11_nodNow_48 : decode cX11_nodNow 48 = .ok (.ireturn, 1) := by decide +kernel
theorem dX11_thinker_0 : decode cX11_thinker 0 = .ok (.aload_n 0, 1) := by decide +kernel
theorem dX11_thinker_1 : decode cX11_thinker 1 = .ok (.getfield 7, 3) := by decide +kernel
theorem dX11_thinker_4 : decode cX11_thinker 4 = .ok (.bipush 8, 2) := by decide +kernel
theorem dX11_thinker_6 : decode cX11_thinker 6 = .ok (.iaload, 1) := by decide +kernel
theorem dX11_thinker_7 : decode cX11_thinker 7 = .ok (.ifCond .ge 5, 3) := by decide +kernel
theorem dX11_thinker_10 : decode cX11_thinker 10 = .ok (.iconst (-1), 1) := by decide +kernel
theorem dX11_thinker_11 : decode cX11_thinker 11 = .ok (.ireturn, 1) := by decide +kernel
theorem dX11_thinker_12 : decode cX11_thinker 12 = .ok (.iconst 1, 1) := by decide +kernel
theorem dX11_thinker_13 : decode cX11_thinker 13 = .ok (.istore_n 1, 1) := by decide +kernel
theorem dX11_thinker_14 : decode cX11_thinker 14 = .ok (.iload_n 1, 1) := by decide +kernel
theorem dX11_thinker_15 : decode cX11_thinker 15 = .ok (.aload_n 0, 1) := by decide +kernel
theorem dX11_thinker_16 : decode cX11_thinker 16 = .ok (.getfield 7, 3) := by decide +kernel
theorem dX11_thinker_19 : decode cX11_thinker 19 = .ok (.bipush 6, 2) := by decide +kernel
theorem dX11_thinker_21 : decode cX11_thinker 21 = .ok (.iaload, 1) := by decide +kernel
theorem dX11_thinker_22 : decode cX11_thinker 22 = .ok (.if_icmp .gt 58, 3) := by decide +kernel
theorem dX11_thinker_25 : decode cX11_thinker 25 = .ok (.aload_n 0, 1) := by decide +kernel
theorem dX11_thinker_26 : decode cX11_thinker 26 = .ok (.getfield 7, 3) := by decide +kernel
theorem dX11_thinker_29 : decode cX11_thinker 29 = .ok (.bipush 10, 2) := by decide +kernel
theorem dX11_thinker_31 : decode cX11_thinker 31 = .ok (.iaload, 1) := by decide +kernel
theorem dX11_thinker_32 : decode cX11_thinker 32 = .ok (.iload_n 1, 1) := by decide +kernel
theorem dX11_thinker_33 : decode cX11_thinker 33 = .ok (.iadd, 1) := by decide +kernel
theorem dX11_thinker_34 : decode cX11_thinker 34 = .ok (.aload_n 0, 1) := by decide +kernel
theorem dX11_thinker_35 : decode cX11_thinker 35 = .ok (.getfield 7, 3) := by decide +kernel
theorem dX11_thinker_38 : decode cX11_thinker 38 = .ok (.bipush 6, 2) := by decide +kernel
theorem dX11_thinker_40 : decode cX11_thinker 40 = .ok (.iaload, 1) := by decide +kernel
theorem dX11_thinker_41 : decode cX11_thinker 41 = .ok (.irem, 1) := by decide +kernel
theorem dX11_thinker_42 : decode cX11_thinker 42 = .ok (.istore_n 2, 1) := by decide +kernel
theorem dX11_thinker_43 : decode cX11_thinker 43 = .ok (.aload_n 0, 1) := by decide +kernel
theorem dX11_thinker_44 : decode cX11_thinker 44 = .ok (.iload_n 2, 1) := by decide +kernel
theorem dX11_thinker_45 : decode cX11_thinker 45 = .ok (.invokevirtual 116, 3) := by decide +kernel
theorem dX11_thinker_48 : decode cX11_thinker 48 = .ok (.ifCond .ne 26, 3) := by decide +kernel
theorem dX11_thinker_51 : decode cX11_thinker 51 = .ok (.aload_n 0, 1) := by decide +kernel
theorem dX11_thinker_52 : decode cX11_thinker 52 = .ok (.iload_n 2, 1) := by decide +kernel
theorem dX11_thinker_53 : decode cX11_thinker 53 = .ok (.aload_n 0, 1) := by decide +kernel
theorem dX11_thinker_54 : decode cX11_thinker 54 = .ok (.getfield 7, 3) := by decide +kernel
theorem dX11_thinker_57 : decode cX11_thinker 57 = .ok (.bipush 8, 2) := by decide +kernel
theorem dX11_thinker_59 : decode cX11_thinker 59 = .ok (.iaload, 1) := by decide +kernel
theorem dX11_thinker_60 : decode cX11_thinker 60 = .ok (.invokevirtual 119, 3) := by decide +kernel
theorem dX11_thinker_63 : decode cX11_thinker 63 = .ok (.aload_n 0, 1) := by decide +kernel
theorem dX11_thinker_64 : decode cX11_thinker 64 = .ok (.invokevirtual 109, 3) := by decide +kernel
theorem dX11_thinker_67 : decode cX11_thinker 67 = .ok (.i2d, 1) := by decide +kernel
theorem dX11_thinker_68 : decode cX11_thinker 68 = .ok (.dcmp .l, 1) := by decide +kernel
theorem dX11_thinker_69 : decode cX11_thinker 69 = .ok (.ifCond .lt 5, 3) := by decide +kernel
theorem dX11_thinker_72 : decode cX11_thinker 72 = .ok (.iload_n 2, 1) := by decide +kernel
theorem dX11_thinker_73 : decode cX11_thinker 73 = .ok (.ireturn, 1) := by decide +kernel
theorem dX11_thinker_74 : decode cX11_thinker 74 = .ok (.iinc 1 1, 3) := by decide +kernel
theorem dX11_thinker_77 : decode cX11_thinker 77 = .ok (.goto (-63), 3) := by decide +kernel
theorem dX11_thinker_80 : decode cX11_thinker 80 = .ok (.iconst (-1), 1) := by decide +kernel
theorem dX11_thinker_81 : decode cX11_thinker 81 = .ok (.ireturn, 1) := by decide +kernel
theorem dX11_sell_0 : decode cX11_sell 0 = .ok (.aload_n 0, 1) := by decide +kernel
theorem dX11_sell_1 : decode cX11_sell 1 = .ok (.getfield 7, 3) := by decide +kernel
theorem dX11_sell_4 : decode cX11_sell 4 = .ok (.bipush 9, 2) := by decide +kernel
theorem dX11_sell_6 : decode cX11_sell 6 = .ok (.iaload, 1) := by decide +kernel
theorem dX11_sell_7 : decode cX11_sell 7 = .ok (.istore_n 3, 1) := by decide +kernel
theorem dX11_sell_8 : decode cX11_sell 8 = .ok (.aload_n 0, 1) := by decide +kernel
theorem dX11_sell_9 : decode cX11_sell 9 = .ok (.iload_n 3, 1) := by decide +kernel
theorem dX11_sell_10 : decode cX11_sell 10 = .ok (.invokevirtual 113, 3) := by decide +kernel
theorem dX11_sell_13 : decode cX11_sell 13 = .ok (.istore 4, 2) := by decide +kernel
theorem dX11_sell_15 : decode cX11_sell 15 = .ok (.aload_n 0, 1) := by decide +kernel
theorem dX11_sell_16 : decode cX11_sell 16 = .ok (.iload_n 2, 1) := by decide +kernel
theorem dX11_sell_17 : decode cX11_sell 17 = .ok (.iconst 0, 1) := by decide +kernel
theorem dX11_sell_18 : decode cX11_sell 18 = .ok (.aload_n 0, 1) := by decide +kernel
theorem dX11_sell_19 : decode cX11_sell 19 = .ok (.iload_n 2, 1) := by decide +kernel
theorem dX11_sell_20 : decode cX11_sell 20 = .ok (.iconst 0, 1) := by decide +kernel
theorem dX11_sell_21 : decode cX11_sell 21 = .ok (.invokevirtual 86, 3) := by decide +kernel
theorem dX11_sell_24 : decode cX11_sell 24 = .ok (.iload 4, 2) := by decide +kernel
theorem dX11_sell_26 : decode cX11_sell 26 = .ok (.isub, 1) := by decide +kernel
theorem dX11_sell_27 : decode cX11_sell 27 = .ok (.invokevirtual 70, 3) := by decide +kernel
theorem dX11_sell_30 : decode cX11_sell 30 = .ok (.aload_n 0, 1) := by decide +kernel
theorem dX11_sell_31 : decode cX11_sell 31 = .ok (.iload_n 2, 1) := by decide +kernel
theorem dX11_sell_32 : decode cX11_sell 32 = .ok (.iconst 3, 1) := by decide +kernel
theorem dX11_sell_33 : decode cX11_sell 33 = .ok (.aload_n 0, 1) := by decide +kernel
theorem dX11_sell_34 : decode cX11_sell 34 = .ok (.iload_n 2, 1) := by decide +kernel
theorem dX11_sell_35 : decode cX11_sell 35 = .ok (.iconst 3, 1) := by decide +kernel
theorem dX11_sell_36 : decode cX11_sell 36 = .ok (.invokevirtual 86, 3) := by decide +kernel
theorem dX11_sell_39 : decode cX11_sell 39 = .ok (.iconst 1, 1) := by decide +kernel
theorem dX11_sell_40 : decode cX11_sell 40 = .ok (.iadd, 1) := by decide +kernel
theorem dX11_sell_41 : decode cX11_sell 41 = .ok (.invokevirtual 70, 3) := by decide +kernel
theorem dX11_sell_44 : decode cX11_sell 44 = .ok (.aload_n 0, 1) := by decide +kernel
theorem dX11_sell_45 : decode cX11_sell 45 = .ok (.getfield 7, 3) := by decide +kernel
theorem dX11_sell_48 : decode cX11_sell 48 = .ok (.bipush 13, 2) := by decide +kernel
theorem dX11_sell_50 : decode cX11_sell 50 = .ok (.dup2, 1) := by decide +kernel
theorem dX11_sell_51 : decode cX11_sell 51 = .ok (.iaload, 1) := by decide +kernel
theorem dX11_sell_52 : decode cX11_sell 52 = .ok (.iload_n 3, 1) := by decide +kernel
theorem dX11_sell_53 : decode cX11_sell 53 = .ok (.iadd, 1) := by decide +kernel
theorem dX11_sell_54 : decode cX11_sell 54 = .ok (.iastore, 1) := by decide +kernel
theorem dX11_sell_55 : decode cX11_sell 55 = .ok (.aload_n 0, 1) := by decide +kernel
theorem dX11_sell_56 : decode cX11_sell 56 = .ok (.getfield 7, 3) := by decide +kernel
theorem dX11_sell_59 : decode cX11_sell 59 = .ok (.bipush 14, 2) := by decide +kernel
theorem dX11_sell_61 : decode cX11_sell 61 = .ok (.dup2, 1) := by decide +kernel
theorem dX11_sell_62 : decode cX11_sell 62 = .ok (.iaload, 1) := by decide +kernel
theorem dX11_sell_63 : decode cX11_sell 63 = .ok (.iload 4, 2) := by decide +kernel
theorem dX11_sell_65 : decode cX11_sell 65 = .ok (.iload_n 3, 1) := by decide +kernel
theorem dX11_sell_66 : decode cX11_sell 66 = .ok (.isub, 1) := by decide +kernel
theorem dX11_sell_67 : decode cX11_sell 67 = .ok (.iadd, 1) := by decide +kernel
theorem dX11_sell_68 : decode cX11_sell 68 = .ok (.iastore, 1) := by decide +kernel
theorem dX11_sell_69 : decode cX11_sell 69 = .ok (.aload_n 0, 1) := by decide +kernel
theorem dX11_sell_70 : decode cX11_sell 70 = .ok (.iload_n 1, 1) := by decide +kernel
theorem dX11_sell_71 : decode cX11_sell 71 = .ok (.bipush 12, 2) := by decide +kernel
theorem dX11_sell_73 : decode cX11_sell 73 = .ok (.iconst 2, 1) := by decide +kernel
theorem dX11_sell_74 : decode cX11_sell 74 = .ok (.invokevirtual 73, 3) := by decide +kernel
theorem dX11_sell_77 : decode cX11_sell 77 = .ok (.aload_n 0, 1) := by decide +kernel
theorem dX11_sell_78 : decode cX11_sell 78 = .ok (.iload_n 1, 1) := by decide +kernel
theorem dX11_sell_79 : decode cX11_sell 79 = .ok (.bipush 13, 2) := by decide +kernel
theorem dX11_sell_81 : decode cX11_sell 81 = .ok (.iload_n 2, 1) := by decide +kernel
theorem dX11_sell_82 : decode cX11_sell 82 = .ok (.invokevirtual 73, 3) := by decide +kernel
theorem dX11_sell_85 : decode cX11_sell 85 = .ok (.aload_n 0, 1) := by decide +kernel
theorem dX11_sell_86 : decode cX11_sell 86 = .ok (.iload_n 1, 1) := by decide +kernel
theorem dX11_sell_87 : decode cX11_sell 87 = .ok (.bipush 14, 2) := by decide +kernel
theorem dX11_sell_89 : decode cX11_sell 89 = .ok (.iload_n 3, 1) := by decide +kernel
theorem dX11_sell_90 : decode cX11_sell 90 = .ok (.invokevirtual 73, 3) := by decide +kernel
theorem dX11_sell_93 : decode cX11_sell 93 = .ok (.return_, 1) := by decide +kernel
theorem dX11_turnBack_0 : decode cX11_turnBack 0 = .ok (.aload_n 0, 1) := by decide +kernel
theorem dX11_turnBack_1 : decode cX11_turnBack 1 = .ok (.iload_n 1, 1) := by decide +kernel
theorem dX11_turnBack_2 : decode cX11_turnBack 2 = .ok (.bipush 11, 2) := by decide +kernel
theorem dX11_turnBack_4 : decode cX11_turnBack 4 = .ok (.invokevirtual 66, 3) := by decide +kernel
theorem dX11_turnBack_7 : decode cX11_turnBack 7 = .ok (.iconst 1, 1) := by decide +kernel
theorem dX11_turnBack_8 : decode cX11_turnBack 8 = .ok (.iadd, 1) := by decide +kernel
theorem dX11_turnBack_9 : decode cX11_turnBack 9 = .ok (.istore_n 2, 1) := by decide +kernel
theorem dX11_turnBack_10 : decode cX11_turnBack 10 = .ok (.aload_n 0, 1) := by decide +kernel
theorem dX11_turnBack_11 : decode cX11_turnBack 11 = .ok (.iload_n 1, 1) := by decide +kernel
theorem dX11_turnBack_12 : decode cX11_turnBack 12 = .ok (.bipush 11, 2) := by decide +kernel
theorem dX11_turnBack_14 : decode cX11_turnBack 14 = .ok (.iload_n 2, 1) := by decide +kernel
theorem dX11_turnBack_15 : decode cX11_turnBack 15 = .ok (.invokevirtual 73, 3) := by decide +kernel
theorem dX11_turnBack_18 : decode cX11_turnBack 18 = .ok (.iload_n 2, 1) := by decide +kernel
theorem dX11_turnBack_19 : decode cX11_turnBack 19 = .ok (.iconst 3, 1) := by decide +kernel
theorem dX11_turnBack_20 : decode cX11_turnBack 20 = .ok (.if_icmp .ne 14, 3) := by decide +kernel
theorem dX11_turnBack_23 : decode cX11_turnBack 23 = .ok (.aload_n 0, 1) := by decide +kernel
theorem dX11_turnBack_24 : decode cX11_turnBack 24 = .ok (.iload_n 1, 1) := by decide +kernel
theorem dX11_turnBack_25 : decode cX11_turnBack 25 = .ok (.bipush 12, 2) := by decide +kernel
theorem dX11_turnBack_27 : decode cX11_turnBack 27 = .ok (.iconst 3, 1) := by decide +kernel
theorem dX11_turnBack_28 : decode cX11_turnBack 28 = .ok (.invokevirtual 73, 3) := by decide +kernel
theorem dX11_turnBack_31 : decode cX11_turnBack 31 = .ok (.goto 8, 3) := by decide +kernel
theorem dX11_turnBack_34 : decode cX11_turnBack 34 = .ok (.aload_n 0, 1) := by decide +kernel
theorem dX11_turnBack_35 : decode cX11_turnBack 35 = .ok (.iload_n 1, 1) := by decide +kernel
theorem dX11_turnBack_36 : decode cX11_turnBack 36 = .ok (.invokevirtual 76, 3) := by decide +kernel
theorem dX11_turnBack_39 : decode cX11_turnBack 39 = .ok (.return_, 1) := by decide +kernel
theorem dX11_closeBarrel_0 : decode cX11_closeBarrel 0 = .ok (.aload_n 0, 1) := by decide +kernel
theorem dX11_closeBarrel_1 : decode cX11_closeBarrel 1 = .ok (.getfield 7, 3) := by decide +kernel
theorem dX11_closeBarrel_4 : decode cX11_closeBarrel 4 = .ok (.bipush 8, 2) := by decide +kernel
theorem dX11_closeBarrel_6 : decode cX11_closeBarrel 6 = .ok (.iaload, 1) := by decide +kernel
theorem dX11_closeBarrel_7 : decode cX11_closeBarrel 7 = .ok (.istore_n 1, 1) := by decide +kernel
theorem dX11_closeBarrel_8 : decode cX11_closeBarrel 8 = .ok (.aload_n 0, 1) := by decide +kernel
theorem dX11_closeBarrel_9 : decode cX11_closeBarrel 9 = .ok (.getfield 7, 3) := by decide +kernel
theorem dX11_closeBarrel_12 : decode cX11_closeBarrel 12 = .ok (.bipush 10, 2) := by decide +kernel
theorem dX11_closeBarrel_14 : decode cX11_closeBarrel 14 = .ok (.iaload, 1) := by decide +kernel
theorem dX11_closeBarrel_15 : decode cX11_closeBarrel 15 = .ok (.istore_n 2, 1) := by decide +kernel
theorem dX11_closeBarrel_16 : decode cX11_closeBarrel 16 = .ok (.iload_n 2, 1) := by decide +kernel
theorem dX11_closeBarrel_17 : decode cX11_closeBarrel 17 = .ok (.ifCond .lt 12, 3) := by decide +kernel
theorem dX11_closeBarrel_20 : decode cX11_closeBarrel 20 = .ok (.aload_n 0, 1) := by decide +kernel
theorem dX11_closeBarrel_21 : decode cX11_closeBarrel 21 = .ok (.iload_n 1, 1) := by decide +kernel
theorem dX11_closeBarrel_22 : decode cX11_closeBarrel 22 = .ok (.iload_n 2, 1) := by decide +kernel
theorem dX11_closeBarrel_23 : decode cX11_closeBarrel 23 = .ok (.invokevirtual 123, 3) := by decide +kernel
theorem dX11_closeBarrel_26 : decode cX11_closeBarrel 26 = .ok (.goto 8, 3) := by decide +kernel
theorem dX11_closeBarrel_29 : decode cX11_closeBarrel 29 = .ok (.aload_n 0, 1) := by decide +kernel
theorem dX11_closeBarrel_30 : decode cX11_closeBarrel 30 = .ok (.iload_n 1, 1) := by decide +kernel
theorem dX11_closeBarrel_31 : decode cX11_closeBarrel 31 = .ok (.invokevirtual 126, 3) := by decide +kernel
theorem dX11_closeBarrel_34 : decode cX11_closeBarrel 34 = .ok (.aload_n 0, 1) := by decide +kernel
theorem dX11_closeBarrel_35 : decode cX11_closeBarrel 35 = .ok (.getfield 7, 3) := by decide +kernel
theorem dX11_closeBarrel_38 : decode cX11_closeBarrel 38 = .ok (.bipush 8, 2) := by decide +kernel
theorem dX11_closeBarrel_40 : decode cX11_closeBarrel 40 = .ok (.iconst (-1), 1) := by decide +kernel
theorem dX11_closeBarrel_41 : decode cX11_closeBarrel 41 = .ok (.iastore, 1) := by decide +kernel
theorem dX11_closeBarrel_42 : decode cX11_closeBarrel 42 = .ok (.aload_n 0, 1) := by decide +kernel
theorem dX11_closeBarrel_43 : decode cX11_closeBarrel 43 = .ok (.getfield 7, 3) := by decide +kernel
theorem dX11_closeBarrel_46 : decode cX11_closeBarrel 46 = .ok (.bipush 10, 2) := by decide +kernel
theorem dX11_closeBarrel_48 : decode cX11_closeBarrel 48 = .ok (.iconst (-1), 1) := by decide +kernel
theorem dX11_closeBarrel_49 : decode cX11_closeBarrel 49 = .ok (.iastore, 1) := by decide +kernel
theorem dX11_closeBarrel_50 : decode cX11_closeBarrel 50 = .ok (.aload_n 0, 1) := by decide +kernel
theorem dX11_closeBarrel_51 : decode cX11_closeBarrel 51 = .ok (.getfield 7, 3) := by decide +kernel
theorem dX11_closeBarrel_54 : decode cX11_closeBarrel 54 = .ok (.bipush 9, 2) := by decide +kernel
theorem dX11_closeBarrel_56 : decode cX11_closeBarrel 56 = .ok (.iconst 0, 1) := by decide +kernel
theorem dX11_closeBarrel_57 : decode cX11_closeBarrel 57 = .ok (.iastore, 1) := by decide +kernel
theorem dX11_closeBarrel_58 : decode cX11_closeBarrel 58 = .ok (.aload_n 0, 1) := by decide +kernel
theorem dX11_closeBarrel_59 : decode cX11_closeBarrel 59 = .ok (.getfield 7, 3) := by decide +kernel
theorem dX11_closeBarrel_62 : decode cX11_closeBarrel 62 = .ok (.bipush 11, 2) := by decide +kernel
theorem dX11_closeBarrel_64 : decode cX11_closeBarrel 64 = .ok (.iconst 0, 1) := by decide +kernel
theorem dX11_closeBarrel_65 : decode cX11_closeBarrel 65 = .ok (.iastore, 1) := by decide +kernel
theorem dX11_closeBarrel_66 : decode cX11_closeBarrel 66 = .ok (.return_, 1) := by decide +kernel
theorem dX11_openFirst_0 : decode cX11_openFirst 0 = .ok (.aload_n 0, 1) := by decide +kernel
theorem dX11_openFirst_1 : decode cX11_openFirst 1 = .ok (.getfield 7, 3) := by decide +kernel
theorem dX11_openFirst_4 : decode cX11_openFirst 4 = .ok (.bipush 12, 2) := by decide +kernel
theorem dX11_openFirst_6 : decode cX11_openFirst 6 = .ok (.iaload, 1) := by decide +kernel
theorem dX11_openFirst_7 : decode cX11_openFirst 7 = .ok (.ifCond .ne 4, 3) := by decide +kernel
theorem dX11_openFirst_10 : decode cX11_openFirst 10 = .ok (.return_, 1) := by decide +kernel
theorem dX11_openFirst_11 : decode cX11_openFirst 11 = .ok (.aload_n 0, 1) := by decide +kernel
theorem dX11_openFirst_12 : decode cX11_openFirst 12 = .ok (.getfield 7, 3) := by decide +kernel
theorem dX11_openFirst_15 : decode cX11_openFirst 15 = .ok (.bipush 16, 2) := by decide +kernel
theorem dX11_openFirst_17 : decode cX11_openFirst 17 = .ok (.iaload, 1) := by decide +kernel
theorem dX11_openFirst_18 : decode cX11_openFirst 18 = .ok (.istore_n 1, 1) := by decide +kernel
theorem dX11_openFirst_19 : decode cX11_openFirst 19 = .ok (.aload_n 0, 1) := by decide +kernel
theorem dX11_openFirst_20 : decode cX11_openFirst 20 = .ok (.iload_n 1, 1) := by decide +kernel
theorem dX11_openFirst_21 : decode cX11_openFirst 21 = .ok (.invokevirtual 129, 3) := by decide +kernel
theorem dX11_openFirst_24 : decode cX11_openFirst 24 = .ok (.aload_n 0, 1) := by decide +kernel
theorem dX11_openFirst_25 : decode cX11_openFirst 25 = .ok (.iload_n 1, 1) := by decide +kernel
theorem dX11_openFirst_26 : decode cX11_openFirst 26 = .ok (.bipush 12, 2) := by decide +kernel
theorem dX11_openFirst_28 : decode cX11_openFirst 28 = .ok (.iconst 1, 1) := by decide +kernel
theorem dX11_openFirst_29 : decode cX11_openFirst 29 = .ok (.invokevirtual 73, 3) := by decide +kernel
theorem dX11_openFirst_32 : decode cX11_openFirst 32 = .ok (.aload_n 0, 1) := by decide +kernel
theorem dX11_openFirst_33 : decode cX11_openFirst 33 = .ok (.getfield 7, 3) := by decide +kernel
theorem dX11_openFirst_36 : decode cX11_openFirst 36 = .ok (.bipush 8, 2) := by decide +kernel
theorem dX11_openFirst_38 : decode cX11_openFirst 38 = .ok (.iload_n 1, 1) := by decide +kernel
theorem dX11_openFirst_39 : decode cX11_openFirst 39 = .ok (.iastore, 1) := by decide +kernel
theorem dX11_openFirst_40 : decode cX11_openFirst 40 = .ok (.aload_n 0, 1) := by decide +kernel
theorem dX11_openFirst_41 : decode cX11_openFirst 41 = .ok (.getfield 7, 3) := by decide +kernel
theorem dX11_openFirst_44 : decode cX11_openFirst 44 = .ok (.bipush 10, 2) := by decide +kernel
theorem dX11_openFirst_46 : decode cX11_openFirst 46 = .ok (.iconst (-1), 1) := by decide +kernel
theorem dX11_openFirst_47 : decode cX11_openFirst 47 = .ok (.iastore, 1) := by decide +kernel
theorem dX11_openFirst_48 : decode cX11_openFirst 48 = .ok (.aload_n 0, 1) := by decide +kernel
theorem dX11_openFirst_49 : decode cX11_openFirst 49 = .ok (.getfield 7, 3) := by decide +kernel
theorem dX11_openFirst_52 : decode cX11_openFirst 52 = .ok (.bipush 9, 2) := by decide +kernel
theorem dX11_openFirst_54 : decode cX11_openFirst 54 = .ok (.iconst 0, 1) := by decide +kernel
theorem dX11_openFirst_55 : decode cX11_openFirst 55 = .ok (.iastore, 1) := by decide +kernel
theorem dX11_openFirst_56 : decode cX11_openFirst 56 = .ok (.aload_n 0, 1) := by decide +kernel
theorem dX11_openFirst_57 : decode cX11_openFirst 57 = .ok (.getfield 7, 3) := by decide +kernel
theorem dX11_openFirst_60 : decode cX11_openFirst 60 = .ok (.bipush 11, 2) := by decide +kernel
theorem dX11_openFirst_62 : decode cX11_openFirst 62 = .ok (.iconst 0, 1) := by decide +kernel
theorem dX11_openFirst_63 : decode cX11_openFirst 63 = .ok (.iastore, 1) := by decide +kernel
theorem dX11_openFirst_64 : decode cX11_openFirst 64 = .ok (.return_, 1) := by decide +kernel
theorem dX11_think_0 : decode cX11_think 0 = .ok (.aload_n 0, 1) := by decide +kernel
theorem dX11_think_1 : decode cX11_think 1 = .ok (.invokevirtual 132, 3) := by decide +kernel
theorem dX11_think_4 : decode cX11_think 4 = .ok (.istore_n 1, 1) := by decide +kernel
theorem dX11_think_5 : decode cX11_think 5 = .ok (.iload_n 1, 1) := by decide +kernel
theorem dX11_think_6 : decode cX11_think 6 = .ok (.ifCond .lt 10, 3) := by decide +kernel
theorem dX11_think_9 : decode cX11_think 9 = .ok (.aload_n 0, 1) := by decide +kernel
theorem dX11_think_10 : decode cX11_think 10 = .ok (.iload_n 1, 1) := by decide +kernel
theorem dX11_think_11 : decode cX11_think 11 = .ok (.invokevirtual 135, 3) := by decide +kernel
theorem dX11_think_14 : decode cX11_think 14 = .ok (.pop, 1) := by decide +kernel
theorem dX11_think_15 : decode cX11_think 15 = .ok (.return_, 1) := by decide +kernel
theorem dX11_think_16 : decode cX11_think 16 = .ok (.aload_n 0, 1) := by decide +kernel
theorem dX11_think_17 : decode cX11_think 17 = .ok (.getfield 7, 3) := by decide +kernel
theorem dX11_think_20 : decode cX11_think 20 = .ok (.bipush 11, 2) := by decide +kernel
theorem dX11_think_22 : decode cX11_think 22 = .ok (.dup2, 1) := by decide +kernel
theorem dX11_think_23 : decode cX11_think 23 = .ok (.iaload, 1) := by decide +kernel
theorem dX11_think_24 : decode cX11_think 24 = .ok (.iconst 1, 1) := by decide +kernel
theorem dX11_think_25 : decode cX11_think 25 = .ok (.iadd, 1) := by decide +kernel
theorem dX11_think_26 : decode cX11_think 26 = .ok (.iastore, 1) := by decide +kernel
theorem dX11_think_27 : decode cX11_think 27 = .ok (.aload_n 0, 1) := by decide +kernel
theorem dX11_think_28 : decode cX11_think 28 = .ok (.getfield 7, 3) := by decide +kernel
theorem dX11_think_31 : decode cX11_think 31 = .ok (.bipush 11, 2) := by decide +kernel
theorem dX11_think_33 : decode cX11_think 33 = .ok (.iaload, 1) := by decide +kernel
theorem dX11_think_34 : decode cX11_think 34 = .ok (.aload_n 0, 1) := by decide +kernel
theorem dX11_think_35 : decode cX11_think 35 = .ok (.getfield 7, 3) := by decide +kernel
theorem dX11_think_38 : decode cX11_think 38 = .ok (.iconst 2, 1) := by decide +kernel
theorem dX11_think_39 : decode cX11_think 39 = .ok (.iaload, 1) := by decide +kernel
theorem dX11_think_40 : decode cX11_think 40 = .ok (.if_icmp .lt 7, 3) := by decide +kernel
theorem dX11_think_43 : decode cX11_think 43 = .ok (.aload_n 0, 1) := by decide +kernel
theorem dX11_think_44 : decode cX11_think 44 = .ok (.invokevirtual 138, 3) := by decide +kernel
theorem dX11_think_47 : decode cX11_think 47 = .ok (.return_, 1) := by decide +kernel
theorem dX11_passOne_0 : decode cX11_passOne 0 = .ok (.aload_n 0, 1) := by decide +kernel
theorem dX11_passOne_1 : decode cX11_passOne 1 = .ok (.getfield 7, 3) := by decide +kernel
theorem dX11_passOne_4 : decode cX11_passOne 4 = .ok (.iconst 5, 1) := by decide +kernel
theorem dX11_passOne_5 : decode cX11_passOne 5 = .ok (.dup2, 1) := by decide +kernel
theorem dX11_passOne_6 : decode cX11_passOne 6 = .ok (.iaload, 1) := by decide +kernel
theorem dX11_passOne_7 : decode cX11_passOne 7 = .ok (.iconst 1, 1) := by decide +kernel
theorem dX11_passOne_8 : decode cX11_passOne 8 = .ok (.iadd, 1) := by decide +kernel
theorem dX11_passOne_9 : decode cX11_passOne 9 = .ok (.iastore, 1) := by decide +kernel
theorem dX11_passOne_10 : decode cX11_passOne 10 = .ok (.aload_n 0, 1) := by decide +kernel
theorem dX11_passOne_11 : decode cX11_passOne 11 = .ok (.aload_n 0, 1) := by decide +kernel
theorem dX11_passOne_12 : decode cX11_passOne 12 = .ok (.getfield 7, 3) := by decide +kernel
theorem dX11_passOne_15 : decode cX11_passOne 15 = .ok (.iconst 5, 1) := by decide +kernel
theorem dX11_passOne_16 : decode cX11_passOne 16 = .ok (.iaload, 1) := by decide +kernel
theorem dX11_passOne_17 : decode cX11_passOne 17 = .ok (.invokevirtual 141, 3) := by decide +kernel
theorem dX11_passOne_20 : decode cX11_passOne 20 = .ok (.ifCond .eq 17, 3) := by decide +kernel
theorem dX11_passOne_23 : decode cX11_passOne 23 = .ok (.aload_n 0, 1) := by decide +kernel
theorem dX11_passOne_24 : decode cX11_passOne 24 = .ok (.getfield 7, 3) := by decide +kernel
theorem dX11_passOne_27 : decode cX11_passOne 27 = .ok (.bipush 8, 2) := by decide +kernel
theorem dX11_passOne_29 : decode cX11_passOne 29 = .ok (.iaload, 1) := by decide +kernel
theorem dX11_passOne_30 : decode cX11_passOne 30 = .ok (.ifCond .lt 7, 3) := by decide +kernel
theorem dX11_passOne_33 : decode cX11_passOne 33 = .ok (.aload_n 0, 1) := by decide +kernel
theorem dX11_passOne_34 : decode cX11_passOne 34 = .ok (.invokevirtual 138, 3) := by decide +kernel
theorem dX11_passOne_37 : decode cX11_passOne 37 = .ok (.aload_n 0, 1) := by decide +kernel
theorem dX11_passOne_38 : decode cX11_passOne 38 = .ok (.invokevirtual 105, 3) := by decide +kernel
theorem dX11_passOne_41 : decode cX11_passOne 41 = .ok (.ifCond .ne 4, 3) := by decide +kernel
theorem dX11_passOne_44 : decode cX11_passOne 44 = .ok (.return_, 1) := by decide +kernel
theorem dX11_passOne_45 : decode cX11_passOne 45 = .ok (.aload_n 0, 1) := by decide +kernel
theorem dX11_passOne_46 : decode cX11_passOne 46 = .ok (.getfield 7, 3) := by decide +kernel
theorem dX11_passOne_49 : decode cX11_passOne 49 = .ok (.bipush 8, 2) := by decide +kernel
theorem dX11_passOne_51 : decode cX11_passOne 51 = .ok (.iaload, 1) := by decide +kernel
theorem dX11_passOne_52 : decode cX11_passOne 52 = .ok (.ifCond .ge 10, 3) := by decide +kernel
theorem dX11_passOne_55 : decode cX11_passOne 55 = .ok (.aload_n 0, 1) := by decide +kernel
theorem dX11_passOne_56 : decode cX11_passOne 56 = .ok (.invokevirtual 144, 3) := by decide +kernel
theorem dX11_passOne_59 : decode cX11_passOne 59 = .ok (.goto 7, 3) := by decide +kernel
theorem dX11_passOne_62 : decode cX11_passOne 62 = .ok (.aload_n 0, 1) := by decide +kernel
theorem dX11_passOne_63 : decode cX11_passOne 63 = .ok (.invokevirtual 147, 3) := by decide +kernel
theorem dX11_passOne_66 : decode cX11_passOne 66 = .ok (.return_, 1) := by decide +kernel
theorem dX11_countState_0 : decode cX11_countState 0 = .ok (.iconst 0, 1) := by decide +kernel
theorem dX11_countState_1 : decode cX11_countState 1 = .ok (.istore_n 2, 1) := by decide +kernel
theorem dX11_countState_2 : decode cX11_countState 2 = .ok (.iconst 0, 1) := by decide +kernel
theorem dX11_countState_3 : decode cX11_countState 3 = .ok (.istore_n 3, 1) := by decide +kernel
theorem dX11_countState_4 : decode cX11_countState 4 = .ok (.iload_n 3, 1) := by decide +kernel
theorem dX11_countState_5 : decode cX11_countState 5 = .ok (.aload_n 0, 1) := by decide +kernel
theorem dX11_countState_6 : decode cX11_countState 6 = .ok (.getfield 7, 3) := by decide +kernel
theorem dX11_countState_9 : decode cX11_countState 9 = .ok (.bipush 7, 2) := by decide +kernel
theorem dX11_countState_11 : decode cX11_countState 11 = .ok (.iaload, 1) := by decide +kernel
theorem dX11_countState_12 : decode cX11_countState 12 = .ok (.if_icmp .ge 23, 3) := by decide +kernel
theorem dX11_countState_15 : decode cX11_countState 15 = .ok (.aload_n 0, 1) := by decide +kernel
theorem dX11_countState_16 : decode cX11_countState 16 = .ok (.iload_n 3, 1) := by decide +kernel
theorem dX11_countState_17 : decode cX11_countState 17 = .ok (.bipush 12, 2) := by decide +kernel
theorem dX11_countState_19 : decode cX11_countState 19 = .ok (.invokevirtual 66, 3) := by decide +kernel
theorem dX11_countState_22 : decode cX11_countState 22 = .ok (.iload_n 1, 1) := by decide +kernel
theorem dX11_countState_23 : decode cX11_countState 23 = .ok (.if_icmp .ne 6, 3) := by decide +kernel
theorem dX11_countState_26 : decode cX11_countState 26 = .ok (.iinc 2 1, 3) := by decide +kernel
theorem dX11_countState_29 : decode cX11_countState 29 = .ok (.iinc 3 1, 3) := by decide +kernel
theorem dX11_countState_32 : decode cX11_countState 32 = .ok (.goto (-28), 3) := by decide +kernel
theorem dX11_countState_35 : decode cX11_countState 35 = .ok (.iload_n 2, 1) := by decide +kernel
theorem dX11_countState_36 : decode cX11_countState 36 = .ok (.ireturn, 1) := by decide +kernel
theorem dX11_passAll_0 : decode cX11_passAll 0 = .ok (.aload_n 0, 1) := by decide +kernel
theorem dX11_passAll_1 : decode cX11_passAll 1 = .ok (.iconst 2, 1) := by decide +kernel
theorem dX11_passAll_2 : decode cX11_passAll 2 = .ok (.invokevirtual 150, 3) := by decide +kernel
theorem dX11_passAll_5 : decode cX11_passAll 5 = .ok (.istore_n 2, 1) := by decide +kernel
theorem dX11_passAll_6 : decode cX11_passAll 6 = .ok (.iconst 0, 1) := by decide +kernel
theorem dX11_passAll_7 : decode cX11_passAll 7 = .ok (.istore_n 3, 1) := by decide +kernel
theorem dX11_passAll_8 : decode cX11_passAll 8 = .ok (.iload_n 3, 1) := by decide +kernel
theorem dX11_passAll_9 : decode cX11_passAll 9 = .ok (.iload_n 1, 1) := by decide +kernel
theorem dX11_passAll_10 : decode cX11_passAll 10 = .ok (.if_icmp .ge 13, 3) := by decide +kernel
theorem dX11_passAll_13 : decode cX11_passAll 13 = .ok (.aload_n 0, 1) := by decide +kernel
theorem dX11_passAll_14 : decode cX11_passAll 14 = .ok (.invokevirtual 153, 3) := by decide +kernel
theorem dX11_passAll_17 : decode cX11_passAll 17 = .ok (.iinc 3 1, 3) := by decide +kernel
theorem dX11_passAll_20 : decode cX11_passAll 20 = .ok (.goto (-12), 3) := by decide +kernel
theorem dX11_passAll_23 : decode cX11_passAll 23 = .ok (.aload_n 0, 1) := by decide +kernel
theorem dX11_passAll_24 : decode cX11_passAll 24 = .ok (.iconst 2, 1) := by decide +kernel
theorem dX11_passAll_25 : decode cX11_passAll 25 = .ok (.invokevirtual 150, 3) := by decide +kernel
theorem dX11_passAll_28 : decode cX11_passAll 28 = .ok (.iload_n 2, 1) := by decide +kernel
theorem dX11_passAll_29 : decode cX11_passAll 29 = .ok (.isub, 1) := by decide +kernel
theorem dX11_passAll_30 : decode cX11_passAll 30 = .ok (.ireturn, 1) := by decide +kernel
theorem dX11_atLeastOne_0 : decode cX11_atLeastOne 0 = .ok (.iload_n 0, 1) := by decide +kernel
theorem dX11_atLeastOne_1 : decode cX11_atLeastOne 1 = .ok (.iconst 1, 1) := by decide +kernel
theorem dX11_atLeastOne_2 : decode cX11_atLeastOne 2 = .ok (.if_icmp .ge 7, 3) := by decide +kernel
theorem dX11_atLeastOne_5 : decode cX11_atLeastOne 5 = .ok (.iconst 1, 1) := by decide +kernel
theorem dX11_atLeastOne_6 : decode cX11_atLeastOne 6 = .ok (.goto 4, 3) := by decide +kernel
theorem dX11_atLeastOne_9 : decode cX11_atLeastOne 9 = .ok (.iload_n 0, 1) := by decide +kernel
theorem dX11_atLeastOne_10 : decode cX11_atLeastOne 10 = .ok (.ireturn, 1) := by decide +kernel
theorem dX11_isWaiting_0 : decode cX11_isWaiting 0 = .ok (.aload_n 0, 1) := by decide +kernel
theorem dX11_isWaiting_1 : decode cX11_isWaiting 1 = .ok (.iload_n 1, 1) := by decide +kernel
theorem dX11_isWaiting_2 : decode cX11_isWaiting 2 = .ok (.bipush 12, 2) := by decide +kernel
theorem dX11_isWaiting_4 : decode cX11_isWaiting 4 = .ok (.invokevirtual 66, 3) := by decide +kernel
theorem dX11_isWaiting_7 : decode cX11_isWaiting 7 = .ok (.ifCond .ne 7, 3) := by decide +kernel
theorem dX11_isWaiting_10 : decode cX11_isWaiting 10 = .ok (.iconst 1, 1) := by decide +kernel
theorem dX11_isWaiting_11 : decode cX11_isWaiting 11 = .ok (.goto 4, 3) := by decide +kernel
theorem dX11_isWaiting_14 : decode cX11_isWaiting 14 = .ok (.iconst 0, 1) := by decide +kernel
theorem dX11_isWaiting_15 : decode cX11_isWaiting 15 = .ok (.ireturn, 1) := by decide +kernel
theorem dX11_canSplit_0 : decode cX11_canSplit 0 = .ok (.aload_n 0, 1) := by decide +kernel
theorem dX11_canSplit_1 : decode cX11_canSplit 1 = .ok (.iload_n 1, 1) := by decide +kernel
theorem dX11_canSplit_2 : decode cX11_canSplit 2 = .ok (.invokevirtual 156, 3) := by decide +kernel
theorem dX11_canSplit_5 : decode cX11_canSplit 5 = .ok (.ifCond .eq 29, 3) := by decide +kernel
theorem dX11_canSplit_8 : decode cX11_canSplit 8 = .ok (.aload_n 0, 1) := by decide +kernel
theorem dX11_canSplit_9 : decode cX11_canSplit 9 = .ok (.iload_n 1, 1) := by decide +kernel
theorem dX11_canSplit_10 : decode cX11_canSplit 10 = .ok (.iconst 0, 1) := by decide +kernel
theorem dX11_canSplit_11 : decode cX11_canSplit 11 = .ok (.invokevirtual 66, 3) := by decide +kernel
theorem dX11_canSplit_14 : decode cX11_canSplit 14 = .ok (.iload_n 2, 1) := by decide +kernel
theorem dX11_canSplit_15 : decode cX11_canSplit 15 = .ok (.if_icmp .le 19, 3) := by decide +kernel
theorem dX11_canSplit_18 : decode cX11_canSplit 18 = .ok (.aload_n 0, 1) := by decide +kernel
theorem dX11_canSplit_19 : decode cX11_canSplit 19 = .ok (.getfield 7, 3) := by decide +kernel
theorem dX11_canSplit_22 : decode cX11_canSplit 22 = .ok (.bipush 7, 2) := by decide +kernel
theorem dX11_canSplit_24 : decode cX11_canSplit 24 = .ok (.iaload, 1) := by decide +kernel
theorem dX11_canSplit_25 : decode cX11_canSplit 25 = .ok (.bipush 20, 2) := by decide +kernel
theorem dX11_canSplit_27 : decode cX11_canSplit 27 = .ok (.if_icmp .ge 7, 3) := by decide +kernel
theorem dX11_canSplit_30 : decode cX11_canSplit 30 = .ok (.iconst 1, 1) := by decide +kernel
theorem dX11_canSplit_31 : decode cX11_canSplit 31 = .ok (.goto 4, 3) := by decide +kernel
theorem dX11_canSplit_34 : decode cX11_canSplit 34 = .ok (.iconst 0, 1) := by decide +kernel
theorem dX11_canSplit_35 : decode cX11_canSplit 35 = .ok (.ireturn, 1) := by decide +kernel
theorem dX11_splitNow_0 : decode cX11_splitNow 0 = .ok (.aload_n 0, 1) := by decide +kernel
theorem dX11_splitNow_1 : decode cX11_splitNow 1 = .ok (.iload_n 1, 1) := by decide +kernel
theorem dX11_splitNow_2 : decode cX11_splitNow 2 = .ok (.iconst 0, 1) := by decide +kernel
theorem dX11_splitNow_3 : decode cX11_splitNow 3 = .ok (.invokevirtual 66, 3) := by decide +kernel
theorem dX11_splitNow_6 : decode cX11_splitNow 6 = .ok (.istore_n 3, 1) := by decide +kernel
theorem dX11_splitNow_7 : decode cX11_splitNow 7 = .ok (.aload_n 0, 1) := by decide +kernel
theorem dX11_splitNow_8 : decode cX11_splitNow 8 = .ok (.iload_n 1, 1) := by decide +kernel
theorem dX11_splitNow_9 : decode cX11_splitNow 9 = .ok (.bipush 10, 2) := by decide +kernel
theorem dX11_splitNow_11 : decode cX11_splitNow 11 = .ok (.invokevirtual 66, 3) := by decide +kernel
theorem dX11_splitNow_14 : decode cX11_splitNow 14 = .ok (.istore 4, 2) := by decide +kernel
theorem dX11_splitNow_16 : decode cX11_splitNow 16 = .ok (.iload 4, 2) := by decide +kernel
theorem dX11_splitNow_18 : decode cX11_splitNow 18 = .ok (.iload_n 2, 1) := by decide +kernel
theorem dX11_splitNow_19 : decode cX11_splitNow 19 = .ok (.imul, 1) := by decide +kernel
theorem dX11_splitNow_20 : decode cX11_splitNow 20 = .ok (.iload_n 3, 1) := by decide +kernel
theorem dX11_splitNow_21 : decode cX11_splitNow 21 = .ok (.idiv, 1) := by decide +kernel
theorem dX11_splitNow_22 : decode cX11_splitNow 22 = .ok (.istore 5, 2) := by decide +kernel
theorem dX11_splitNow_24 : decode cX11_splitNow 24 = .ok (.aload_n 0, 1) := by decide +kernel
theorem dX11_splitNow_25 : decode cX11_splitNow 25 = .ok (.iload 5, 2) := by decide +kernel
theorem dX11_splitNow_27 : decode cX11_splitNow 27 = .ok (.invokestatic 159, 3) := by decide +kernel
theorem dX11_splitNow_30 : decode cX11_splitNow 30 = .ok (.invokevirtual 46, 3) := by decide +kernel
theorem dX11_splitNow_33 : decode cX11_splitNow 33 = .ok (.istore 6, 2) := by decide +kernel
theorem dX11_splitNow_35 : decode cX11_splitNow 35 = .ok (.iload_n 3, 1) := by decide +kernel
theorem dX11_splitNow_36 : decode cX11_splitNow 36 = .ok (.iload_n 2, 1) := by decide +kernel
theorem dX11_splitNow_37 : decode cX11_splitNow 37 = .ok (.isub, 1) := by decide +kernel
theorem dX11_splitNow_38 : decode cX11_splitNow 38 = .ok (.istore 7, 2) := by decide +kernel
theorem dX11_splitNow_40 : decode cX11_splitNow 40 = .ok (.iload 7, 2) := by decide +kernel
theorem dX11_splitNow_42 : decode cX11_splitNow 42 = .ok (.iload_n 3, 1) := by decide +kernel
theorem dX11_splitNow_43 : decode cX11_splitNow 43 = .ok (.if_icmp .ge 22, 3) := by decide +kernel
theorem dX11_splitNow_46 : decode cX11_splitNow 46 = .ok (.aload_n 0, 1) := by decide +kernel
theorem dX11_splitNow_47 : decode cX11_splitNow 47 = .ok (.iload 6, 2) := by decide +kernel
theorem dX11_splitNow_49 : decode cX11_splitNow 49 = .ok (.aload_n 0, 1) := by decide +kernel
theorem dX11_splitNow_50 : decode cX11_splitNow 50 = .ok (.iload_n 1, 1) := by decide +kernel
theorem dX11_splitNow_51 : decode cX11_splitNow 51 = .ok (.iload 7, 2) := by decide +kernel
theorem dX11_splitNow_53 : decode cX11_splitNow 53 = .ok (.invokevirtual 80, 3) := by decide +kernel
theorem dX11_splitNow_56 : decode cX11_splitNow 56 = .ok (.invokevirtual 50, 3) := by decide +kernel
theorem dX11_splitNow_59 : decode cX11_splitNow 59 = .ok (.iinc 7 1, 3) := by decide +kernel
theorem dX11_splitNow_62 : decode cX11_splitNow 62 = .ok (.goto (-22), 3) := by decide +kernel
theorem dX11_splitNow_65 : decode cX11_splitNow 65 = .ok (.aload_n 0, 1) := by decide +kernel
theorem dX11_splitNow_66 : decode cX11_splitNow 66 = .ok (.iload_n 1, 1) := by decide +kernel
theorem dX11_splitNow_67 : decode cX11_splitNow 67 = .ok (.iconst 0, 1) := by decide +kernel
theorem dX11_splitNow_68 : decode cX11_splitNow 68 = .ok (.iload_n 3, 1) := by decide +kernel
theorem dX11_splitNow_69 : decode cX11_splitNow 69 = .ok (.iload_n 2, 1) := by decide +kernel
theorem dX11_splitNow_70 : decode cX11_splitNow 70 = .ok (.isub, 1) := by decide +kernel
theorem dX11_splitNow_71 : decode cX11_splitNow 71 = .ok (.invokevirtual 73, 3) := by decide +kernel
theorem dX11_splitNow_74 : decode cX11_splitNow 74 = .ok (.aload_n 0, 1) := by decide +kernel
theorem dX11_splitNow_75 : decode cX11_splitNow 75 = .ok (.iload_n 1, 1) := by decide +kernel
theorem dX11_splitNow_76 : decode cX11_splitNow 76 = .ok (.bipush 10, 2) := by decide +kernel
theorem dX11_splitNow_78 : decode cX11_splitNow 78 = .ok (.iload 4, 2) := by decide +kernel
theorem dX11_splitNow_80 : decode cX11_splitNow 80 = .ok (.iload 5, 2) := by decide +kernel
theorem dX11_splitNow_82 : decode cX11_splitNow 82 = .ok (.isub, 1) := by decide +kernel
theorem dX11_splitNow_83 : decode cX11_splitNow 83 = .ok (.invokestatic 159, 3) := by decide +kernel
theorem dX11_splitNow_86 : decode cX11_splitNow 86 = .ok (.invokevirtual 73, 3) := by decide +kernel
theorem dX11_splitNow_89 : decode cX11_splitNow 89 = .ok (.iload 6, 2) := by decide +kernel
theorem dX11_splitNow_91 : decode cX11_splitNow 91 = .ok (.ireturn, 1) := by decide +kernel
theorem dX11_withdrawNow_0 : decode cX11_withdrawNow 0 = .ok (.aload_n 0, 1) := by decide +kernel
theorem dX11_withdrawNow_1 : decode cX11_withdrawNow 1 = .ok (.iload_n 1, 1) := by decide +kernel
theorem dX11_withdrawNow_2 : decode cX11_withdrawNow 2 = .ok (.invokevirtual 129, 3) := by decide +kernel
theorem dX11_withdrawNow_5 : decode cX11_withdrawNow 5 = .ok (.aload_n 0, 1) := by decide +kernel
theorem dX11_withdrawNow_6 : decode cX11_withdrawNow 6 = .ok (.iload_n 1, 1) := by decide +kernel
theorem dX11_withdrawNow_7 : decode cX11_withdrawNow 7 = .ok (.bipush 12, 2) := by decide +kernel
theorem dX11_withdrawNow_9 : decode cX11_withdrawNow 9 = .ok (.iconst 3, 1) := by decide +kernel
theorem dX11_withdrawNow_10 : decode cX11_withdrawNow 10 = .ok (.invokevirtual 73, 3) := by decide +kernel
theorem dX11_withdrawNow_13 : decode cX11_withdrawNow 13 = .ok (.aload_n 0, 1) := by decide +kernel
theorem dX11_withdrawNow_14 : decode cX11_withdrawNow 14 = .ok (.getfield 7, 3) := by decide +kernel
theorem dX11_withdrawNow_17 : decode cX11_withdrawNow 17 = .ok (.bipush 12, 2) := by decide +kernel
theorem dX11_withdrawNow_19 : decode cX11_withdrawNow 19 = .ok (.iaload, 1) := by decide +kernel
theorem dX11_withdrawNow_20 : decode cX11_withdrawNow 20 = .ok (.ireturn, 1) := by decide +kernel
theorem dX11_fundNow_0 : decode cX11_fundNow 0 = .ok (.ldc 162, 2) := by decide +kernel
theorem dX11_fundNow_2 : decode cX11_fundNow 2 = .ok (.aload_n 0, 1) := by decide +kernel
theorem dX11_fundNow_3 : decode cX11_fundNow 3 = .ok (.iload_n 1, 1) := by decide +kernel
theorem dX11_fundNow_4 : decode cX11_fundNow 4 = .ok (.iconst 0, 1) := by decide +kernel
theorem dX11_fundNow_5 : decode cX11_fundNow 5 = .ok (.invokevirtual 86, 3) := by decide +kernel
theorem dX11_fundNow_8 : decode cX11_fundNow 8 = .ok (.isub, 1) := by decide +kernel
theorem dX11_fundNow_9 : decode cX11_fundNow 9 = .ok (.istore_n 3, 1) := by decide +kernel
theorem dX11_fundNow_10 : decode cX11_fundNow 10 = .ok (.iload_n 2, 1) := by decide +kernel
theorem dX11_fundNow_11 : decode cX11_fundNow 11 = .ok (.iload_n 3, 1) := by decide +kernel
theorem dX11_fundNow_12 : decode cX11_fundNow 12 = .ok (.if_icmp .ge 7, 3) := by decide +kernel
theorem dX11_fundNow_15 : decode cX11_fundNow 15 = .ok (.iload_n 2, 1) := by decide +kernel
theorem dX11_fundNow_16 : decode cX11_fundNow 16 = .ok (.goto 4, 3) := by decide +kernel
theorem dX11_fundNow_19 : decode cX11_fundNow 19 = .ok (.iload_n 3, 1) := by decide +kernel
theorem dX11_fundNow_20 : decode cX11_fundNow 20 = .ok (.istore 4, 2) := by decide +kernel
theorem dX11_fundNow_22 : decode cX11_fundNow 22 = .ok (.aload_n 0, 1) := by decide +kernel
theorem dX11_fundNow_23 : decode cX11_fundNow 23 = .ok (.iload_n 1, 1) := by decide +kernel
theorem dX11_fundNow_24 : decode cX11_fundNow 24 = .ok (.iconst 0, 1) := by decide +kernel
theorem dX11_fundNow_25 : decode cX11_fundNow 25 = .ok (.aload_n 0, 1) := by decide +kernel
theorem dX11_fundNow_26 : decode cX11_fundNow 26 = .ok (.iload_n 1, 1) := by decide +kernel
theorem dX11_fundNow_27 : decode cX11_fundNow 27 = .ok (.iconst 0, 1) := by decide +kernel
theorem dX11_fundNow_28 : decode cX11_fundNow 28 = .ok (.invokevirtual 86, 3) := by decide +kernel
theorem dX11_fundNow_31 : decode cX11_fundNow 31 = .ok (.iload 4, 2) := by decide +kernel
theorem dX11_fundNow_33 : decode cX11_fundNow 33 = .ok (.iadd, 1) := by decide +kernel
theorem dX11_fundNow_34 : decode cX11_fundNow 34 = .ok (.invokevirtual 70, 3) := by decide +kernel
theorem dX11_fundNow_37 : decode cX11_fundNow 37 = .ok (.aload_n 0, 1) := by decide +kernel
theorem dX11_fundNow_38 : decode cX11_fundNow 38 = .ok (.getfield 7, 3) := by decide +kernel
theorem dX11_fundNow_41 : decode cX11_fundNow 41 = .ok (.bipush 15, 2) := by decide +kernel
theorem dX11_fundNow_43 : decode cX11_fundNow 43 = .ok (.dup2, 1) := by decide +kernel
theorem dX11_fundNow_44 : decode cX11_fundNow 44 = .ok (.iaload, 1) := by decide +kernel
theorem dX11_fundNow_45 : decode cX11_fundNow 45 = .ok (.iload 4, 2) := by decide +kernel
theorem dX11_fundNow_47 : decode cX11_fundNow 47 = .ok (.iadd, 1) := by decide +kernel
theorem dX11_fundNow_48 : decode cX11_fundNow 48 = .ok (.iastore, 1) := by decide +kernel
theorem dX11_fundNow_49 : decode cX11_fundNow 49 = .ok (.aload_n 0, 1) := by decide +kernel
theorem dX11_fundNow_50 : decode cX11_fundNow 50 = .ok (.iload_n 1, 1) := by decide +kernel
theorem dX11_fundNow_51 : decode cX11_fundNow 51 = .ok (.iconst 0, 1) := by decide +kernel
theorem dX11_fundNow_52 : decode cX11_fundNow 52 = .ok (.invokevirtual 86, 3) := by decide +kernel
theorem dX11_fundNow_55 : decode cX11_fundNow 55 = .ok (.ireturn, 1) := by decide +kernel
theorem dX11_appendWord_0 : decode cX11_appendWord 0 = .ok (.bipush 24, 2) := by decide +kernel
theorem dX11_appendWord_2 : decode cX11_appendWord 2 = .ok (.istore_n 2, 1) := by decide +kernel
theorem dX11_appendWord_3 : decode cX11_appendWord 3 = .ok (.iload_n 2, 1) := by decide +kernel
theorem dX11_appendWord_4 : decode cX11_appendWord 4 = .ok (.ifCond .lt 32, 3) := by decide +kernel
theorem dX11_appendWord_7 : decode cX11_appendWord 7 = .ok (.aload_n 0, 1) := by decide +kernel
theorem dX11_appendWord_8 : decode cX11_appendWord 8 = .ok (.getfield 17, 3) := by decide +kernel
theorem dX11_appendWord_11 : decode cX11_appendWord 11 = .ok (.aload_n 0, 1) := by decide +kernel
theorem dX11_appendWord_12 : decode cX11_appendWord 12 = .ok (.getfield 163, 3) := by decide +kernel
theorem dX11_appendWord_15 : decode cX11_appendWord 15 = .ok (.iload_n 1, 1) := by decide +kernel
theorem dX11_appendWord_16 : decode cX11_appendWord 16 = .ok (.iload_n 2, 1) := by decide +kernel
theorem dX11_appendWord_17 : decode cX11_appendWord 17 = .ok (.ishr, 1) := by decide +kernel
theorem dX11_appendWord_18 : decode cX11_appendWord 18 = .ok (.i2b, 1) := by decide +kernel
theorem dX11_appendWord_19 : decode cX11_appendWord 19 = .ok (.bastore, 1) := by decide +kernel
theorem dX11_appendWord_20 : decode cX11_appendWord 20 = .ok (.aload_n 0, 1) := by decide +kernel
theorem dX11_appendWord_21 : decode cX11_appendWord 21 = .ok (.dup, 1) := by decide +kernel
theorem dX11_appendWord_22 : decode cX11_appendWord 22 = .ok (.getfield 163, 3) := by decide +kernel
theorem dX11_appendWord_25 : decode cX11_appendWord 25 = .ok (.iconst 1, 1) := by decide +kernel
theorem dX11_appendWord_26 : decode cX11_appendWord 26 = .ok (.iadd, 1) := by decide +kernel
theorem dX11_appendWord_27 : decode cX11_appendWord 27 = .ok (.putfield 163, 3) := by decide +kernel
theorem dX11_appendWord_30 : decode cX11_appendWord 30 = .ok (.iinc 2 (-8), 3) := by decide +kernel
theorem dX11_appendWord_33 : decode cX11_appendWord 33 = .ok (.goto (-30), 3) := by decide +kernel
theorem dX11_appendWord_36 : decode cX11_appendWord 36 = .ok (.return_, 1) := by decide +kernel
theorem dX11_append_0 : decode cX11_append 0 = .ok (.aload_n 0, 1) := by decide +kernel
theorem dX11_append_1 : decode cX11_append 1 = .ok (.iconst 0, 1) := by decide +kernel
theorem dX11_append_2 : decode cX11_append 2 = .ok (.putfield 54, 3) := by decide +kernel
theorem dX11_append_5 : decode cX11_append 5 = .ok (.aload_n 0, 1) := by decide +kernel
theorem dX11_append_6 : decode cX11_append 6 = .ok (.aload_n 0, 1) := by decide +kernel
theorem dX11_append_7 : decode cX11_append 7 = .ok (.getfield 163, 3) := by decide +kernel
theorem dX11_append_10 : decode cX11_append 10 = .ok (.bipush 20, 2) := by decide +kernel
theorem dX11_append_12 : decode cX11_append 12 = .ok (.iadd, 1) := by decide +kernel
theorem dX11_append_13 : decode cX11_append 13 = .ok (.sipush 500, 3) := by decide +kernel
theorem dX11_append_16 : decode cX11_append 16 = .ok (.if_icmp .le 7, 3) := by decide +kernel
theorem dX11_append_19 : decode cX11_append 19 = .ok (.iconst 1, 1) := by decide +kernel
theorem dX11_append_20 : decode cX11_append 20 = .ok (.goto 4, 3) := by decide +kernel
theorem dX11_append_23 : decode cX11_append 23 = .ok (.iconst 0, 1) := by decide +kernel
theorem dX11_append_24 : decode cX11_append 24 = .ok (.iconst 1, 1) := by decide +kernel
theorem dX11_append_25 : decode cX11_append 25 = .ok (.invokevirtual 166, 3) := by decide +kernel
theorem dX11_append_28 : decode cX11_append 28 = .ok (.ifCond .eq 5, 3) := by decide +kernel
theorem dX11_append_31 : decode cX11_append 31 = .ok (.iconst 0, 1) := by decide +kernel
theorem dX11_append_32 : decode cX11_append 32 = .ok (.ireturn, 1) := by decide +kernel
theorem dX11_append_33 : decode cX11_append 33 = .ok (.aload_n 0, 1) := by decide +kernel
theorem dX11_append_34 : decode cX11_append 34 = .ok (.iload_n 1, 1) := by decide +kernel
theorem dX11_append_35 : decode cX11_append 35 = .ok (.invokevirtual 170, 3) := by decide +kernel
theorem dX11_append_38 : decode cX11_append 38 = .ok (.aload_n 0, 1) := by decide +kernel
theorem dX11_append_39 : decode cX11_append 39 = .ok (.iload_n 2, 1) := by decide +kernel
theorem dX11_append_40 : decode cX11_append 40 = .ok (.invokevirtual 170, 3) := by decide +kernel
theorem dX11_append_43 : decode cX11_append 43 = .ok (.aload_n 0, 1) := by decide +kernel
theorem dX11_append_44 : decode cX11_append 44 = .ok (.iload_n 3, 1) := by decide +kernel
theorem dX11_append_45 : decode cX11_append 45 = .ok (.invokevirtual 170, 3) := by decide +kernel
theorem dX11_append_48 : decode cX11_append 48 = .ok (.aload_n 0, 1) := by decide +kernel
theorem dX11_append_49 : decode cX11_append 49 = .ok (.iload 4, 2) := by decide +kernel
theorem dX11_append_51 : decode cX11_append 51 = .ok (.invokevirtual 170, 3) := by decide +kernel
theorem dX11_append_54 : decode cX11_append 54 = .ok (.aload_n 0, 1) := by decide +kernel
theorem dX11_append_55 : decode cX11_append 55 = .ok (.iload 5, 2) := by decide +kernel
theorem dX11_append_57 : decode cX11_append 57 = .ok (.invokevirtual 170, 3) := by decide +kernel
theorem dX11_append_60 : decode cX11_append 60 = .ok (.aload_n 0, 1) := by decide +kernel
theorem dX11_append_61 : decode cX11_append 61 = .ok (.getfield 163, 3) := by decide +kernel
theorem dX11_append_64 : decode cX11_append 64 = .ok (.ireturn, 1) := by decide +kernel
theorem dX11_truncate_0 : decode cX11_truncate 0 = .ok (.aload_n 0, 1) := by decide +kernel
theorem dX11_truncate_1 : decode cX11_truncate 1 = .ok (.iconst 0, 1) := by decide +kernel
theorem dX11_truncate_2 : decode cX11_truncate 2 = .ok (.putfield 54, 3) := by decide +kernel
theorem dX11_truncate_5 : decode cX11_truncate 5 = .ok (.aload_n 0, 1) := by decide +kernel
theorem dX11_truncate_6 : decode cX11_truncate 6 = .ok (.iload_n 1, 1) := by decide +kernel
theorem dX11_truncate_7 : decode cX11_truncate 7 = .ok (.iconst 0, 1) := by decide +kernel
theorem dX11_truncate_8 : decode cX11_truncate 8 = .ok (.aload_n 0, 1) := by decide +kernel
theorem dX11_truncate_9 : decode cX11_truncate 9 = .ok (.getfield 163, 3) := by decide +kernel
theorem dX11_truncate_12 : decode cX11_truncate 12 = .ok (.invokestatic 173, 3) := by decide +kernel
theorem dX11_truncate_15 : decode cX11_truncate 15 = .ok (.ifCond .ne 7, 3) := by decide +kernel
theorem dX11_truncate_18 : decode cX11_truncate 18 = .ok (.iconst 1, 1) := by decide +kernel
theorem dX11_truncate_19 : decode cX11_truncate 19 = .ok (.goto 4, 3) := by decide +kernel
theorem dX11_truncate_22 : decode cX11_truncate 22 = .ok (.iconst 0, 1) := by decide +kernel
theorem dX11_truncate_23 : decode cX11_truncate 23 = .ok (.iconst 1, 1) := by decide +kernel
theorem dX11_truncate_24 : decode cX11_truncate 24 = .ok (.invokevirtual 166, 3) := by decide +kernel
theorem dX11_truncate_27 : decode cX11_truncate 27 = .ok (.ifCond .eq 5, 3) := by decide +kernel
theorem dX11_truncate_30 : decode cX11_truncate 30 = .ok (.iconst 0, 1) := by decide +kernel
theorem dX11_truncate_31 : decode cX11_truncate 31 = .ok (.ireturn, 1) := by decide +kernel
theorem dX11_truncate_32 : decode cX11_truncate 32 = .ok (.aload_n 0, 1) := by decide +kernel
theorem dX11_truncate_33 : decode cX11_truncate 33 = .ok (.iload_n 1, 1) := by decide +kernel
theorem dX11_truncate_34 : decode cX11_truncate 34 = .ok (.putfield 163, 3) := by decide +kernel
theorem dX11_truncate_37 : decode cX11_truncate 37 = .ok (.aload_n 0, 1) := by decide +kernel
theorem dX11_truncate_38 : decode cX11_truncate 38 = .ok (.getfield 163, 3) := by decide +kernel
theorem dX11_truncate_41 : decode cX11_truncate 41 = .ok (.ireturn, 1) := by decide +kernel
theorem dX11_errorCode_0 : decode cX11_errorCode 0 = .ok (.aload_n 0, 1) := by decide +kernel
theorem dX11_errorCode_1 : decode cX11_errorCode 1 = .ok (.iconst 0, 1) := by decide +kernel
theorem dX11_errorCode_2 : decode cX11_errorCode 2 = .ok (.putfield 54, 3) := by decide +kernel
theorem dX11_errorCode_5 : decode cX11_errorCode 5 = .ok (.aload_n 0, 1) := by decide +kernel
theorem dX11_errorCode_6 : decode cX11_errorCode 6 = .ok (.getfield 177, 3) := by decide +kernel
theorem dX11_errorCode_9 : decode cX11_errorCode 9 = .ok (.ireturn, 1) := by decide +kernel
theorem dX11_errorPosition_0 : decode cX11_errorPosition 0 = .ok (.aload_n 0, 1) := by decide +kernel
theorem dX11_errorPosition_1 : decode cX11_errorPosition 1 = .ok (.iconst 0, 1) := by decide +kernel
theorem dX11_errorPosition_2 : decode cX11_errorPosition 2 = .ok (.putfield 54, 3) := by decide +kernel
theorem dX11_errorPosition_5 : decode cX11_errorPosition 5 = .ok (.aload_n 0, 1) := by decide +kernel
theorem dX11_errorPosition_6 : decode cX11_errorPosition 6 = .ok (.getfield 21, 3) := by decide +kernel
theorem dX11_errorPosition_9 : decode cX11_errorPosition 9 = .ok (.ireturn, 1) := by decide +kernel
theorem dX11_byteAt_0 : decode cX11_byteAt 0 = .ok (.iload_n 1, 1) := by decide +kernel
theorem dX11_byteAt_1 : decode cX11_byteAt 1 = .ok (.aload_n 0, 1) := by decide +kernel
theorem dX11_byteAt_2 : decode cX11_byteAt 2 = .ok (.getfield 163, 3) := by decide +kernel
theorem dX11_byteAt_5 : decode cX11_byteAt 5 = .ok (.if_icmp .ge 12, 3) := by decide +kernel
theorem dX11_byteAt_8 : decode cX11_byteAt 8 = .ok (.aload_n 0, 1) := by decide +kernel
theorem dX11_byteAt_9 : decode cX11_byteAt 9 = .ok (.getfield 17, 3) := by decide +kernel
theorem dX11_byteAt_12 : decode cX11_byteAt 12 = .ok (.iload_n 1, 1) := by decide +kernel
theorem dX11_byteAt_13 : decode cX11_byteAt 13 = .ok (.baload, 1) := by decide +kernel
theorem dX11_byteAt_14 : decode cX11_byteAt 14 = .ok (.goto 6, 3) := by decide +kernel
theorem dX11_byteAt_17 : decode cX11_byteAt 17 = .ok (.sipush (-1000), 3) := by decide +kernel
theorem dX11_byteAt_20 : decode cX11_byteAt 20 = .ok (.ireturn, 1) := by decide +kernel
theorem dX11_isLetter_0 : decode cX11_isLetter 0 = .ok (.aload_n 0, 1) := by decide +kernel
theorem dX11_isLetter_1 : decode cX11_isLetter 1 = .ok (.iload_n 1, 1) := by decide +kernel
theorem dX11_isLetter_2 : decode cX11_isLetter 2 = .ok (.invokevirtual 180, 3) := by decide +kernel
theorem dX11_isLetter_5 : decode cX11_isLetter 5 = .ok (.bipush 97, 2) := by decide +kernel
theorem dX11_isLetter_7 : decode cX11_isLetter 7 = .ok (.bipush 122, 2) := by decide +kernel
theorem dX11_isLetter_9 : decode cX11_isLetter 9 = .ok (.invokestatic 173, 3) := by decide +kernel
theorem dX11_isLetter_12 : decode cX11_isLetter 12 = .ok (.ireturn, 1) := by decide +kernel
theorem dX11_isDigit_0 : decode cX11_isDigit 0 = .ok (.aload_n 0, 1) := by decide +kernel
theorem dX11_isDigit_1 : decode cX11_isDigit 1 = .ok (.iload_n 1, 1) := by decide +kernel
theorem dX11_isDigit_2 : decode cX11_isDigit 2 = .ok (.invokevirtual 180, 3) := by decide +kernel
theorem dX11_isDigit_5 : decode cX11_isDigit 5 = .ok (.bipush 48, 2) := by decide +kernel
theorem dX11_isDigit_7 : decode cX11_isDigit 7 = .ok (.bipush 57, 2) := by decide +kernel
theorem dX11_isDigit_9 : decode cX11_isDigit 9 = .ok (.invokestatic 173, 3) := by decide +kernel
theorem dX11_isDigit_12 : decode cX11_isDigit 12 = .ok (.ireturn, 1) := by decide +kernel
theorem dX11_readNumber_0 : decode cX11_readNumber 0 = .ok (.aload_n 0, 1) := by decide +kernel
theorem dX11_readNumber_1 : decode cX11_readNumber 1 = .ok (.iconst 0, 1) := by decide +kernel
theorem dX11_readNumber_2 : decode cX11_readNumber 2 = .ok (.putfield 183, 3) := by decide +kernel
theorem dX11_readNumber_5 : decode cX11_readNumber 5 = .ok (.aload_n 0, 1) := by decide +kernel
theorem dX11_readNumber_6 : decode cX11_readNumber 6 = .ok (.aload_n 0, 1) := by decide +kernel
theorem dX11_readNumber_7 : decode cX11_readNumber 7 = .ok (.getfield 186, 3) := by decide +kernel
theorem dX11_readNumber_10 : decode cX11_readNumber 10 = .ok (.invokevirtual 189, 3) := by decide +kernel
theorem dX11_readNumber_13 : decode cX11_readNumber 13 = .ok (.ifCond .eq 55, 3) := by decide +kernel
theorem dX11_readNumber_16 : decode cX11_readNumber 16 = .ok (.aload_n 0, 1) := by decide +kernel
theorem dX11_readNumber_17 : decode cX11_readNumber 17 = .ok (.aload_n 0, 1) := by decide +kernel
theorem dX11_readNumber_18 : decode cX11_readNumber 18 = .ok (.getfield 183, 3) := by decide +kernel
theorem dX11_readNumber_21 : decode cX11_readNumber 21 = .ok (.bipush 10, 2) := by decide +kernel
theorem dX11_readNumber_23 : decode cX11_readNumber 23 = .ok (.imul, 1) := by decide +kernel
theorem dX11_readNumber_24 : decode cX11_readNumber 24 = .ok (.aload_n 0, 1) := by decide +kernel
theorem dX11_readNumber_25 : decode cX11_readNumber 25 = .ok (.getfield 17, 3) := by decide +kernel
theorem dX11_readNumber_28 : decode cX11_readNumber 28 = .ok (.aload_n 0, 1) := by decide +kernel
theorem dX11_readNumber_29 : decode cX11_readNumber 29 = .ok (.getfield 186, 3) := by decide +kernel
theorem dX11_readNumber_32 : decode cX11_readNumber 32 = .ok (.baload, 1) := by decide +kernel
theorem dX11_readNumber_33 : decode cX11_readNumber 33 = .ok (.iadd, 1) := by decide +kernel
theorem dX11_readNumber_34 : decode cX11_readNumber 34 = .ok (.bipush 48, 2) := by decide +kernel
theorem dX11_readNumber_36 : decode cX11_readNumber 36 = .ok (.isub, 1) := by decide +kernel
theorem dX11_readNumber_37 : decode cX11_readNumber 37 = .ok (.putfield 183, 3) := by decide +kernel
theorem dX11_readNumber_40 : decode cX11_readNumber 40 = .ok (.aload_n 0, 1) := by decide +kernel
theorem dX11_readNumber_41 : decode cX11_readNumber 41 = .ok (.getfield 183, 3) := by decide +kernel
theorem dX11_readNumber_44 : decode cX11_readNumber 44 = .ok (.ldc 192, 2) := by decide +kernel
theorem dX11_readNumber_46 : decode cX11_readNumber 46 = .ok (.if_icmp .le 9, 3) := by decide +kernel
theorem dX11_readNumber_49 : decode cX11_readNumber 49 = .ok (.aload_n 0, 1) := by decide +kernel
theorem dX11_readNumber_50 : decode cX11_readNumber 50 = .ok (.ldc 192, 2) := by decide +kernel
theorem dX11_readNumber_52 : decode cX11_readNumber 52 = .ok (.putfield 183, 3) := by decide +kernel
theorem dX11_readNumber_55 : decode cX11_readNumber 55 = .ok (.aload_n 0, 1) := by decide +kernel
theorem dX11_readNumber_56 : decode cX11_readNumber 56 = .ok (.dup, 1) := by decide +kernel
theorem dX11_readNumber_57 : decode cX11_readNumber 57 = .ok (.getfield 186, 3) := by decide +kernel
theorem dX11_readNumber_60 : decode cX11_readNumber 60 = .ok (.iconst 1, 1) := by decide +kernel
theorem dX11_readNumber_61 : decode cX11_readNumber 61 = .ok (.iadd, 1) := by decide +kernel
theorem dX11_readNumber_62 : decode cX11_readNumber 62 = .ok (.putfield 186, 3) := by decide +kernel
theorem dX11_readNumber_65 : decode cX11_readNumber 65 = .ok (.goto (-60), 3) := by decide +kernel
theorem dX11_readNumber_68 : decode cX11_readNumber 68 = .ok (.return_, 1) := by decide +kernel
theorem dX11_readToken_0 : decode cX11_readToken 0 = .ok (.aload_n 0, 1) := by decide +kernel
theorem dX11_readToken_1 : decode cX11_readToken 1 = .ok (.aload_n 0, 1) := by decide +kernel
theorem dX11_readToken_2 : decode cX11_readToken 2 = .ok (.getfield 186, 3) := by decide +kernel
theorem dX11_readToken_5 : decode cX11_readToken 5 = .ok (.invokevirtual 180, 3) := by decide +kernel
theorem dX11_readToken_8 : decode cX11_readToken 8 = .ok (.bipush 32, 2) := by decide +kernel
theorem dX11_readToken_10 : decode cX11_readToken 10 = .ok (.if_icmp .ne 16, 3) := by decide +kernel
theorem dX11_readToken_13 : decode cX11_readToken 13 = .ok (.aload_n 0, 1) := by decide +kernel
theorem dX11_readToken_14 : decode cX11_readToken 14 = .ok (.dup, 1) := by decide +kernel
theorem dX11_readToken_15 : decode cX11_readToken 15 = .ok (.getfield 186, 3) := by decide +kernel
theorem dX11_readToken_18 : decode cX11_readToken 18 = .ok (.iconst 1, 1) := by decide +kernel
theorem dX11_readToken_19 : decode cX11_readToken 19 = .ok (.iadd, 1) := by decide +kernel
theorem dX11_readToken_20 : decode cX11_readToken 20 = .ok (.putfield 186, 3) := by decide +kernel
theorem dX11_readToken_23 : decode cX11_readToken 23 = .ok (.goto (-23), 3) := by decide +kernel
theorem dX11_readToken_26 : decode cX11_readToken 26 = .ok (.aload_n 0, 1) := by decide +kernel
theorem dX11_readToken_27 : decode cX11_readToken 27 = .ok (.aload_n 0, 1) := by decide +kernel
theorem dX11_readToken_28 : decode cX11_readToken 28 = .ok (.getfield 186, 3) := by decide +kernel
theorem dX11_readToken_31 : decode cX11_readToken 31 = .ok (.putfield 193, 3) := by decide +kernel
theorem dX11_readToken_34 : decode cX11_readToken 34 = .ok (.aload_n 0, 1) := by decide +kernel
theorem dX11_readToken_35 : decode cX11_readToken 35 = .ok (.getfield 186, 3) := by decide +kernel
theorem dX11_readToken_38 : decode cX11_readToken 38 = .ok (.aload_n 0, 1) := by decide +kernel
theorem dX11_readToken_39 : decode cX11_readToken 39 = .ok (.getfield 163, 3) := by decide +kernel
theorem dX11_readToken_42 : decode cX11_readToken 42 = .ok (.if_icmp .ne 11, 3) := by decide +kernel
theorem dX11_readToken_45 : decode cX11_readToken 45 = .ok (.aload_n 0, 1) := by decide +kernel
theorem dX11_readToken_46 : decode cX11_readToken 46 = .ok (.iconst 0, 1) := by decide +kernel
theorem dX11_readToken_47 : decode cX11_readToken 47 = .ok (.putfield 196, 3) := by decide +kernel
theorem dX11_readToken_50 : decode cX11_readToken 50 = .ok (.goto 98, 3) := by decide +kernel
theorem dX11_readToken_53 : decode cX11_readToken 53 = .ok (.aload_n 0, 1) := by decide +kernel
theorem dX11_readToken_54 : decode cX11_readToken 54 = .ok (.aload_n 0, 1) := by decide +kernel
theorem dX11_readToken_55 : decode cX11_readToken 55 = .ok (.getfield 186, 3) := by decide +kernel
theorem dX11_readToken_58 : decode cX11_readToken 58 = .ok (.invokevirtual 199, 3) := by decide +kernel
theorem dX11_readToken_61 : decode cX11_readToken 61 = .ok (.ifCond .eq 32, 3) := by decide +kernel
theorem dX11_readToken_64 : decode cX11_readToken 64 = .ok (.aload_n 0, 1) := by decide +kernel
theorem dX11_readToken_65 : decode cX11_readToken 65 = .ok (.iconst 1, 1) := by decide +kernel
theorem dX11_readToken_66 : decode cX11_readToken 66 = .ok (.putfield 196, 3) := by decide +kernel
theorem dX11_readToken_69 : decode cX11_readToken 69 = .ok (.aload_n 0, 1) := by decide +kernel
theorem dX11_readToken_70 : decode cX11_readToken 70 = .ok (.aload_n 0, 1) := by decide +kernel
theorem dX11_readToken_71 : decode cX11_readToken 71 = .ok (.getfield 186, 3) := by decide +kernel
theorem dX11_readToken_74 : decode cX11_readToken 74 = .ok (.invokevirtual 199, 3) := by decide +kernel
theorem dX11_readToken_77 : decode cX11_readToken 77 = .ok (.ifCond .eq 71, 3) := by decide +kernel
theorem dX11_readToken_80 : decode cX11_readToken 80 = .ok (.aload_n 0, 1) := by decide +kernel
theorem dX11_readToken_81 : decode cX11_readToken 81 = .ok (.dup, 1) := by decide +kernel
theorem dX11_readToken_82 : decode cX11_readToken 82 = .ok (.getfield 186, 3) := by decide +kernel
theorem dX11_readToken_85 : decode cX11_readToken 85 = .ok (.iconst 1, 1) := by decide +kernel
theorem dX11_readToken_86 : decode cX11_readToken 86 = .ok (.iadd, 1) := by decide +kernel
theorem dX11_readToken_87 : decode cX11_readToken 87 = .ok (.putfield 186, 3) := by decide +kernel
theorem dX11_readToken_90 : decode cX11_readToken 90 = .ok (.goto (-21), 3) := by decide +kernel
theorem dX11_readToken_93 : decode cX11_readToken 93 = .ok (.aload_n 0, 1) := by decide +kernel
theorem dX11_readToken_94 : decode cX11_readToken 94 = .ok (.aload_n 0, 1) := by decide +kernel
theorem dX11_readToken_95 : decode cX11_readToken 95 = .ok (.getfield 186, 3) := by decide +kernel
theorem dX11_readToken_98 : decode cX11_readToken 98 = .ok (.invokevirtual 189, 3) := by decide +kernel
theorem dX11_readToken_101 : decode cX11_readToken 101 = .ok (.ifCond .eq 15, 3) := by decide +kernel
theorem dX11_readToken_104 : decode cX11_readToken 104 = .ok (.aload_n 0, 1) := by decide +kernel
theorem dX11_readToken_105 : decode cX11_readToken 105 = .ok (.iconst 2, 1) := by decide +kernel
theorem dX11_readToken_106 : decode cX11_readToken 106 = .ok (.putfield 196, 3) := by decide +kernel
theorem dX11_readToken_109 : decode cX11_readToken 109 = .ok (.aload_n 0, 1) := by decide +kernel
theorem dX11_readToken_110 : decode cX11_readToken 110 = .ok (.invokevirtual 202, 3) := by decide +kernel
theorem dX11_readToken_113 : decode cX11_readToken 113 = .ok (.goto 35, 3) := by decide +kernel
theorem dX11_readToken_116 : decode cX11_readToken 116 = .ok (.aload_n 0, 1) := by decide +kernel
theorem dX11_readToken_117 : decode cX11_readToken 117 = .ok (.aload_n 0, 1) := by decide +kernel
theorem dX11_readToken_118 : decode cX11_readToken 118 = .ok (.aload_n 0, 1) := by decide +kernel
theorem dX11_readToken_119 : decode cX11_readToken 119 = .ok (.getfield 186, 3) := by decide +kernel
theorem dX11_readToken_122 : decode cX11_readToken 122 = .ok (.invokevirtual 180, 3) := by decide +kernel
theorem dX11_readToken_125 : decode cX11_readToken 125 = .ok (.bipush 59, 2) := by decide +kernel
theorem dX11_readToken_127 : decode cX11_readToken 127 = .ok (.if_icmp .ne 7, 3) := by decide +kernel
theorem dX11_readToken_130 : decode cX11_readToken 130 = .ok (.iconst 3, 1) := by decide +kernel
theorem dX11_readToken_131 : decode cX11_readToken 131 = .ok (.goto 4, 3) := by decide +kernel
theorem dX11_readToken_134 : decode cX11_readToken 134 = .ok (.iconst 4, 1) := by decide +kernel
theorem dX11_readToken_135 : decode cX11_readToken 135 = .ok (.putfield 196, 3) := by decide +kernel
theorem dX11_readToken_138 : decode cX11_readToken 138 = .ok (.aload_n 0, 1) := by decide +kernel
theorem dX11_readToken_139 : decode cX11_readToken 139 = .ok (.dup, 1) := by decide +kernel
theorem dX11_readToken_140 : decode cX11_readToken 140 = .ok (.getfield 186, 3) := by decide +kernel
theorem dX11_readToken_143 : decode cX11_readToken 143 = .ok (.iconst 1, 1) := by decide +kernel
theorem dX11_readToken_144 : decode cX11_readToken 144 = .ok (.iadd, 1) := by decide +kernel
theorem dX11_readToken_145 : decode cX11_readToken 145 = .ok (.putfield 186, 3) := by decide +kernel
theorem dX11_readToken_148 : decode cX11_readToken 148 = .ok (.return_, 1) := by decide +kernel
theorem dX11_isWordNumber_0 : decode cX11_isWordNumber 0 = .ok (.aload_n 0, 1) := by decide +kernel
theorem dX11_isWordNumber_1 : decode cX11_isWordNumber 1 = .ok (.getfield 186, 3) := by decide +kernel
theorem dX11_isWordNumber_4 : decode cX11_isWordNumber 4 = .ok (.aload_n 0, 1) := by decide +kernel
theorem dX11_isWordNumber_5 : decode cX11_isWordNumber 5 = .ok (.getfield 193, 3) := by decide +kernel
theorem dX11_isWordNumber_8 : decode cX11_isWordNumber 8 = .ok (.isub, 1) := by decide +kernel
theorem dX11_isWordNumber_9 : decode cX11_isWordNumber 9 = .ok (.istore_n 2, 1) := by decide +kernel
theorem dX11_isWordNumber_10 : decode cX11_isWordNumber 10 = .ok (.iload_n 2, 1) := by decide +kernel
theorem dX11_isWordNumber_11 : decode cX11_isWordNumber 11 = .ok (.bipush 8, 2) := by decide +kernel
theorem dX11_isWordNumber_13 : decode cX11_isWordNumber 13 = .ok (.if_icmp .le 5, 3) := by decide +kernel
theorem dX11_isWordNumber_16 : decode cX11_isWordNumber 16 = .ok (.iconst 0, 1) := by decide +kernel
theorem dX11_isWordNumber_17 : decode cX11_isWordNumber 17 = .ok (.ireturn, 1) := by decide +kernel
theorem dX11_isWordNumber_18 : decode cX11_isWordNumber 18 = .ok (.iconst 0, 1) := by decide +kernel
theorem dX11_isWordNumber_19 : decode cX11_isWordNumber 19 = .ok (.istore_n 3, 1) := by decide +kernel
theorem dX11_isWordNumber_20 : decode cX11_isWordNumber 20 = .ok (.iload_n 3, 1) := by decide +kernel
theorem dX11_isWordNumber_21 : decode cX11_isWordNumber 21 = .ok (.bipush 8, 2) := by decide +kernel
theorem dX11_isWordNumber_23 : decode cX11_isWordNumber 23 = .ok (.if_icmp .ge 55, 3) := by decide +kernel
theorem dX11_isWordNumber_26 : decode cX11_isWordNumber 26 = .ok (.aload_n 0, 1) := by decide +kernel
theorem dX11_isWordNumber_27 : decode cX11_isWordNumber 27 = .ok (.getfield 34, 3) := by decide +kernel
theorem dX11_isWordNumber_30 : decode cX11_isWordNumber 30 = .ok (.bipush 8, 2) := by decide +kernel
theorem dX11_isWordNumber_32 : decode cX11_isWordNumber 32 = .ok (.iload_n 1, 1) := by decide +kernel
theorem dX11_isWordNumber_33 : decode cX11_isWordNumber 33 = .ok (.imul, 1) := by decide +kernel
theorem dX11_isWordNumber_34 : decode cX11_isWordNumber 34 = .ok (.iload_n 3, 1) := by decide +kernel
theorem dX11_isWordNumber_35 : decode cX11_isWordNumber 35 = .ok (.iadd, 1) := by decide +kernel
theorem dX11_isWordNumber_36 : decode cX11_isWordNumber 36 = .ok (.caload, 1) := by decide +kernel
theorem dX11_isWordNumber_37 : decode cX11_isWordNumber 37 = .ok (.istore 4, 2) := by decide +kernel
theorem dX11_isWordNumber_39 : decode cX11_isWordNumber 39 = .ok (.iload_n 3, 1) := by decide +kernel
theorem dX11_isWordNumber_40 : decode cX11_isWordNumber 40 = .ok (.iload_n 2, 1) := by decide +kernel
theorem dX11_isWordNumber_41 : decode cX11_isWordNumber 41 = .ok (.if_icmp .ge 22, 3) := by decide +kernel
theorem dX11_isWordNumber_44 : decode cX11_isWordNumber 44 = .ok (.aload_n 0, 1) := by decide +kernel
theorem dX11_isWordNumber_45 : decode cX11_isWordNumber 45 = .ok (.getfield 17, 3) := by decide +kernel
theorem dX11_isWordNumber_48 : decode cX11_isWordNumber 48 = .ok (.aload_n 0, 1) := by decide +kernel
theorem dX11_isWordNumber_49 : decode cX11_isWordNumber 49 = .ok (.getfield 193, 3) := by decide +kernel
theorem dX11_isWordNumber_52 : decode cX11_isWordNumber 52 = .ok (.iload_n 3, 1) := by decide +kernel
theorem dX11_isWordNumber_53 : decode cX11_isWordNumber 53 = .ok (.iadd, 1) := by decide +kernel
theorem dX11_isWordNumber_54 : decode cX11_isWordNumber 54 = .ok (.baload, 1) := by decide +kernel
theorem dX11_isWordNumber_55 : decode cX11_isWordNumber 55 = .ok (.iload 4, 2) := by decide +kernel
theorem dX11_isWordNumber_57 : decode cX11_isWordNumber 57 = .ok (.if_icmp .eq 15, 3) := by decide +kernel
theorem dX11_isWordNumber_60 : decode cX11_isWordNumber 60 = .ok (.goto 10, 3) := by decide +kernel
theorem dX11_isWordNumber_63 : decode cX11_isWordNumber 63 = .ok (.iload 4, 2) := by decide +kernel
theorem dX11_isWordNumber_65 : decode cX11_isWordNumber 65 = .ok (.bipush 32, 2) := by decide +kernel
theorem dX11_isWordNumber_67 : decode cX11_isWordNumber 67 = .ok (.if_icmp .eq 5, 3) := by decide +kernel
theorem dX11_isWordNumber_70 : decode cX11_isWordNumber 70 = .ok (.iconst 0, 1) := by decide +kernel
theorem dX11_isWordNumber_71 : decode cX11_isWordNumber 71 = .ok (.ireturn, 1) := by decide +kernel
theorem dX11_isWordNumber_72 : decode cX11_isWordNumber 72 = .ok (.iinc 3 1, 3) := by decide +kernel
theorem dX11_isWordNumber_75 : decode cX11_isWordNumber 75 = .ok (.goto (-55), 3) := by decide +kernel
theorem dX11_isWordNumber_78 : decode cX11_isWordNumber 78 = .ok (.iconst 1, 1) := by decide +kernel
theorem dX11_isWordNumber_79 : decode cX11_isWordNumber 79 = .ok (.ireturn, 1) := by decide +kernel
theorem dX11_wordOf_0 : decode cX11_wordOf 0 = .ok (.aload_n 0, 1) := by decide +kernel
theorem dX11_wordOf_1 : decode cX11_wordOf 1 = .ok (.getfield 196, 3) := by decide +kernel
theorem dX11_wordOf_4 : decode cX11_wordOf 4 = .ok (.iconst 1, 1) := by decide +kernel
theorem dX11_wordOf_5 : decode cX11_wordOf 5 = .ok (.if_icmp .eq 6, 3) := by decide +kernel
theorem dX11_wordOf_8 : decode cX11_wordOf 8 = .ok (.bipush 8, 2) := by decide +kernel
theorem dX11_wordOf_10 : decode cX11_wordOf 10 = .ok (.ireturn, 1) := by decide +kernel
theorem dX11_wordOf_11 : decode cX11_wordOf 11 = .ok (.iconst 0, 1) := by decide +kernel
theorem dX11_wordOf_12 : decode cX11_wordOf 12 = .ok (.istore_n 1, 1) := by decide +kernel
theorem dX11_wordOf_13 : decode cX11_wordOf 13 = .ok (.iload_n 1, 1) := by decide +kernel
theorem dX11_wordOf_14 : decode cX11_wordOf 14 = .ok (.bipush 8, 2) := by decide +kernel
theorem dX11_wordOf_16 : decode cX11_wordOf 16 = .ok (.if_icmp .ge 19, 3) := by decide +kernel
theorem dX11_wordOf_19 : decode cX11_wordOf 19 = .ok (.aload_n 0, 1) := by decide +kernel
theorem dX11_wordOf_20 : decode cX11_wordOf 20 = .ok (.iload_n 1, 1) := by decide +kernel
theorem dX11_wordOf_21 : decode cX11_wordOf 21 = .ok (.invokevirtual 205, 3) := by decide +kernel
theorem dX11_wordOf_24 : decode cX11_wordOf 24 = .ok (.ifCond .eq 5, 3) := by decide +kernel
theorem dX11_wordOf_27 : decode cX11_wordOf 27 = .ok (.iload_n 1, 1) := by decide +kernel
theorem dX11_wordOf_28 : decode cX11_wordOf 28 = .ok (.ireturn, 1) := by decide +kernel
theorem dX11_wordOf_29 : decode cX11_wordOf 29 = .ok (.iinc 1 1, 3) := by decide +kernel
theorem dX11_wordOf_32 : decode cX11_wordOf 32 = .ok (.goto (-19), 3) := by decide +kernel
theorem dX11_wordOf_35 : decode cX11_wordOf 35 = .ok (.bipush 8, 2) := by decide +kernel
theorem dX11_wordOf_37 : decode cX11_wordOf 37 = .ok (.ireturn, 1) := by decide +kernel
theorem dX11_fails_0 : decode cX11_fails 0 = .ok (.aload_n 0, 1) := by decide +kernel
theorem dX11_fails_1 : decode cX11_fails 1 = .ok (.iload_n 1, 1) := by decide +kernel
theorem dX11_fails_2 : decode cX11_fails 2 = .ok (.putfield 177, 3) := by decide +kernel
theorem dX11_fails_5 : decode cX11_fails 5 = .ok (.aload_n 0, 1) := by decide +kernel
theorem dX11_fails_6 : decode cX11_fails 6 = .ok (.aload_n 0, 1) := by decide +kernel
theorem dX11_fails_7 : decode cX11_fails 7 = .ok (.getfield 193, 3) := by decide +kernel
theorem dX11_fails_10 : decode cX11_fails 10 = .ok (.putfield 21, 3) := by decide +kernel
theorem dX11_fails_13 : decode cX11_fails 13 = .ok (.iconst 1, 1) := by decide +kernel
theorem dX11_fails_14 : decode cX11_fails 14 = .ok (.ireturn, 1) := by decide +kernel
theorem dX11_beginText_0 : decode cX11_beginText 0 = .ok (.aload_n 0, 1) := by decide +kernel
theorem dX11_beginText_1 : decode cX11_beginText 1 = .ok (.iconst 0, 1) := by decide +kernel
theorem dX11_beginText_2 : decode cX11_beginText 2 = .ok (.putfield 186, 3) := by decide +kernel
theorem dX11_beginText_5 : decode cX11_beginText 5 = .ok (.aload_n 0, 1) := by decide +kernel
theorem dX11_beginText_6 : decode cX11_beginText 6 = .ok (.iconst 0, 1) := by decide +kernel
theorem dX11_beginText_7 : decode cX11_beginText 7 = .ok (.putfield 177, 3) := by decide +kernel
theorem dX11_beginText_10 : decode cX11_beginText 10 = .ok (.aload_n 0, 1) := by decide +kernel
theorem dX11_beginText_11 : decode cX11_beginText 11 = .ok (.iconst (-1), 1) := by decide +kernel
theorem dX11_beginText_12 : decode cX11_beginText 12 = .ok (.putfield 21, 3) := by decide +kernel
theorem dX11_beginText_15 : decode cX11_beginText 15 = .ok (.aload_n 0, 1) := by decide +kernel
theorem dX11_beginText_16 : decode cX11_beginText 16 = .ok (.iconst 0, 1) := by decide +kernel
theorem dX11_beginText_17 : decode cX11_beginText 17 = .ok (.putfield 208, 3) := by decide +kernel
theorem dX11_beginText_20 : decode cX11_beginText 20 = .ok (.aload_n 0, 1) := by decide +kernel
theorem dX11_beginText_21 : decode cX11_beginText 21 = .ok (.invokevirtual 211, 3) := by decide +kernel
theorem dX11_beginText_24 : decode cX11_beginText 24 = .ok (.return_, 1) := by decide +kernel
theorem dX11_failsAtThis_0 : decode cX11_failsAtThis 0 = .ok (.aload_n 0, 1) := by decide +kernel
theorem dX11_failsAtThis_1 : decode cX11_failsAtThis 1 = .ok (.getfield 196, 3) := by decide +kernel
theorem dX11_failsAtThis_4 : decode cX11_failsAtThis 4 = .ok (.iconst 2, 1) := by decide +kernel
theorem dX11_failsAtThis_5 : decode cX11_failsAtThis 5 = .ok (.if_icmp .eq 9, 3) := by decide +kernel
theorem dX11_failsAtThis_8 : decode cX11_failsAtThis 8 = .ok (.aload_n 0, 1) := by decide +kernel
theorem dX11_failsAtThis_9 : decode cX11_failsAtThis 9 = .ok (.iconst 1, 1) := by decide +kernel
theorem dX11_failsAtThis_10 : decode cX11_failsAtThis 10 = .ok (.invokevirtual 214, 3) := by decide +kernel
theorem dX11_failsAtThis_13 : decode cX11_failsAtThis 13 = .ok (.ireturn, 1) := by decide +kernel
theorem dX11_failsAtThis_14 : decode cX11_failsAtThis 14 = .ok (.aload_n 0, 1) := by decide +kernel
theorem dX11_failsAtThis_15 : decode cX11_failsAtThis 15 = .ok (.getfield 183, 3) := by decide +kernel
theorem dX11_failsAtThis_18 : decode cX11_failsAtThis 18 = .ok (.iload_n 2, 1) := by decide +kernel
theorem dX11_failsAtThis_19 : decode cX11_failsAtThis 19 = .ok (.iload_n 3, 1) := by decide +kernel
theorem dX11_failsAtThis_20 : decode cX11_failsAtThis 20 = .ok (.invokestatic 173, 3) := by decide +kernel
theorem dX11_failsAtThis_23 : decode cX11_failsAtThis 23 = .ok (.ifCond .ne 9, 3) := by decide +kernel
theorem dX11_failsAtThis_26 : decode cX11_failsAtThis 26 = .ok (.aload_n 0, 1) := by decide +kernel
theorem dX11_failsAtThis_27 : decode cX11_failsAtThis 27 = .ok (.iconst 2, 1) := by decide +kernel
theorem dX11_failsAtThis_28 : decode cX11_failsAtThis 28 = .ok (.invokevirtual 214, 3) := by decide +kernel
theorem dX11_failsAtThis_31 : decode cX11_failsAtThis 31 = .ok (.ireturn, 1) := by decide +kernel
theorem dX11_failsAtThis_32 : decode cX11_failsAtThis 32 = .ok (.aload_n 0, 1) := by decide +kernel
theorem dX11_failsAtThis_33 : decode cX11_failsAtThis 33 = .ok (.getfield 25, 3) := by decide +kernel
theorem dX11_failsAtThis_36 : decode cX11_failsAtThis 36 = .ok (.iload_n 1, 1) := by decide +kernel
theorem dX11_failsAtThis_37 : decode cX11_failsAtThis 37 = .ok (.aload_n 0, 1) := by decide +kernel
theorem dX11_failsAtThis_38 : decode cX11_failsAtThis 38 = .ok (.getfield 183, 3) := by decide +kernel
theorem dX11_failsAtThis_41 : decode cX11_failsAtThis 41 = .ok (.iastore, 1) := by decide +kernel
theorem dX11_failsAtThis_42 : decode cX11_failsAtThis 42 = .ok (.iconst 0, 1) := by decide +kernel
theorem dX11_failsAtThis_43 : decode cX11_failsAtThis 43 = .ok (.ireturn, 1) := by decide +kernel
theorem dX11_failsAtNumber_0 : decode cX11_failsAtNumber 0 = .ok (.aload_n 0, 1) := by decide +kernel
theorem dX11_failsAtNumber_1 : decode cX11_failsAtNumber 1 = .ok (.invokevirtual 211, 3) := by decide +kernel
theorem dX11_failsAtNumber_4 : decode cX11_failsAtNumber 4 = .ok (.aload_n 0, 1) := by decide +kernel
theorem dX11_failsAtNumber_5 : decode cX11_failsAtNumber 5 = .ok (.iload_n 1, 1) := by decide +kernel
theorem dX11_failsAtNumber_6 : decode cX11_failsAtNumber 6 = .ok (.iload_n 2, 1) := by decide +kernel
theorem dX11_failsAtNumber_7 : decode cX11_failsAtNumber 7 = .ok (.iload_n 3, 1) := by decide +kernel
theorem dX11_failsAtNumber_8 : decode cX11_failsAtNumber 8 = .ok (.invokevirtual 217, 3) := by decide +kernel
theorem dX11_failsAtNumber_11 : decode cX11_failsAtNumber 11 = .ok (.ireturn, 1) := by decide +kernel
theorem dX11_failsAtEnd_0 : decode cX11_failsAtEnd 0 = .ok (.aload_n 0, 1) := by decide +kernel
theorem dX11_failsAtEnd_1 : decode cX11_failsAtEnd 1 = .ok (.getfield 196, 3) := by decide +kernel
theorem dX11_failsAtEnd_4 : decode cX11_failsAtEnd 4 = .ok (.iconst 3, 1) := by decide +kernel
theorem dX11_failsAtEnd_5 : decode cX11_failsAtEnd 5 = .ok (.if_icmp .eq 9, 3) := by decide +kernel
theorem dX11_failsAtEnd_8 : decode cX11_failsAtEnd 8 = .ok (.aload_n 0, 1) := by decide +kernel
theorem dX11_failsAtEnd_9 : decode cX11_failsAtEnd 9 = .ok (.iconst 1, 1) := by decide +kernel
theorem dX11_failsAtEnd_10 : decode cX11_failsAtEnd 10 = .ok (.invokevirtual 214, 3) := by decide +kernel
theorem dX11_failsAtEnd_13 : decode cX11_failsAtEnd 13 = .ok (.ireturn, 1) := by decide +kernel
theorem dX11_failsAtEnd_14 : decode cX11_failsAtEnd 14 = .ok (.aload_n 0, 1) := by decide +kernel
theorem dX11_failsAtEnd_15 : decode cX11_failsAtEnd 15 = .ok (.invokevirtual 211, 3) := by decide +kernel
theorem dX11_failsAtEnd_18 : decode cX11_failsAtEnd 18 = .ok (.iconst 0, 1) := by decide +kernel
theorem dX11_failsAtEnd_19 : decode cX11_failsAtEnd 19 = .ok (.ireturn, 1) := by decide +kernel
theorem dX11_failsAtNext_0 : decode cX11_failsAtNext 0 = .ok (.aload_n 0, 1) := by decide +kernel
theorem dX11_failsAtNext_1 : decode cX11_failsAtNext 1 = .ok (.invokevirtual 211, 3) := by decide +kernel
theorem dX11_failsAtNext_4 : decode cX11_failsAtNext 4 = .ok (.aload_n 0, 1) := by decide +kernel
theorem dX11_failsAtNext_5 : decode cX11_failsAtNext 5 = .ok (.invokevirtual 220, 3) := by decide +kernel
theorem dX11_failsAtNext_8 : decode cX11_failsAtNext 8 = .ok (.ireturn, 1) := by decide +kernel
theorem dX11_failsAtMarket_0 : decode cX11_failsAtMarket 0 = .ok (.aload_n 0, 1) := by decide +kernel
theorem dX11_failsAtMarket_1 : decode cX11_failsAtMarket 1 = .ok (.invokevirtual 223, 3) := by decide +kernel
theorem dX11_failsAtMarket_4 : decode cX11_failsAtMarket 4 = .ok (.ifCond .eq 9, 3) := by decide +kernel
theorem dX11_failsAtMarket_7 : decode cX11_failsAtMarket 7 = .ok (.aload_n 0, 1) := by decide +kernel
theorem dX11_failsAtMarket_8 : decode cX11_failsAtMarket 8 = .ok (.iconst 1, 1) := by decide +kernel
theorem dX11_failsAtMarket_9 : decode cX11_failsAtMarket 9 = .ok (.invokevirtual 214, 3) := by decide +kernel
theorem dX11_failsAtMarket_12 : decode cX11_failsAtMarket 12 = .ok (.ireturn, 1) := by decide +kernel
theorem dX11_failsAtMarket_13 : decode cX11_failsAtMarket 13 = .ok (.aload_n 0, 1) := by decide +kernel
theorem dX11_failsAtMarket_14 : decode cX11_failsAtMarket 14 = .ok (.iconst 0, 1) := by decide +kernel
theorem dX11_failsAtMarket_15 : decode cX11_failsAtMarket 15 = .ok (.iconst 5, 1) := by decide +kernel
theorem dX11_failsAtMarket_16 : decode cX11_failsAtMarket 16 = .ok (.bipush 60, 2) := by decide +kernel
theorem dX11_failsAtMarket_18 : decode cX11_failsAtMarket 18 = .ok (.invokevirtual 226, 3) := by decide +kernel
theorem dX11_failsAtMarket_21 : decode cX11_failsAtMarket 21 = .ok (.ifCond .ne 29, 3) := by decide +kernel
theorem dX11_failsAtMarket_24 : decode cX11_failsAtMarket 24 = .ok (.aload_n 0, 1) := by decide +kernel
theorem dX11_failsAtMarket_25 : decode cX11_failsAtMarket 25 = .ok (.iconst 1, 1) := by decide +kernel
theorem dX11_failsAtMarket_26 : decode cX11_failsAtMarket 26 = .ok (.iconst 1, 1) := by decide +kernel
theorem dX11_failsAtMarket_27 : decode cX11_failsAtMarket 27 = .ok (.aload_n 0, 1) := by decide +kernel
theorem dX11_failsAtMarket_28 : decode cX11_failsAtMarket 28 = .ok (.getfield 25, 3) := by decide +kernel
theorem dX11_failsAtMarket_31 : decode cX11_failsAtMarket 31 = .ok (.iconst 0, 1) := by decide +kernel
theorem dX11_failsAtMarket_32 : decode cX11_failsAtMarket 32 = .ok (.iaload, 1) := by decide +kernel
theorem dX11_failsAtMarket_33 : decode cX11_failsAtMarket 33 = .ok (.invokevirtual 226, 3) := by decide +kernel
theorem dX11_failsAtMarket_36 : decode cX11_failsAtMarket 36 = .ok (.ifCond .ne 14, 3) := by decide +kernel
theorem dX11_failsAtMarket_39 : decode cX11_failsAtMarket 39 = .ok (.aload_n 0, 1) := by decide +kernel
theorem dX11_failsAtMarket_40 : decode cX11_failsAtMarket 40 = .ok (.iconst 2, 1) := by decide +kernel
theorem dX11_failsAtMarket_41 : decode cX11_failsAtMarket 41 = .ok (.iconst 1, 1) := by decide +kernel
theorem dX11_failsAtMarket_42 : decode cX11_failsAtMarket 42 = .ok (.bipush 9, 2) := by decide +kernel
theorem dX11_failsAtMarket_44 : decode cX11_failsAtMarket 44 = .ok (.invokevirtual 226, 3) := by decide +kernel
theorem dX11_failsAtMarket_47 : decode cX11_failsAtMarket 47 = .ok (.ifCond .eq 5, 3) := by decide +kernel
theorem dX11_failsAtMarket_50 : decode cX11_failsAtMarket 50 = .ok (.iconst 1, 1) := by decide +kernel
theorem dX11_failsAtMarket_51 : decode cX11_failsAtMarket 51 = .ok (.ireturn, 1) := by decide +kernel
theorem dX11_failsAtMarket_52 : decode cX11_failsAtMarket 52 = .ok (.aload_n 0, 1) := by decide +kernel
theorem dX11_failsAtMarket_53 : decode cX11_failsAtMarket 53 = .ok (.iconst 3, 1) := by decide +kernel
theorem dX11_failsAtMarket_54 : decode cX11_failsAtMarket 54 = .ok (.iconst 1, 1) := by decide +kernel
theorem dX11_failsAtMarket_55 : decode cX11_failsAtMarket 55 = .ok (.bipush 50, 2) := by decide +kernel
theorem dX11_failsAtMarket_57 : decode cX11_failsAtMarket 57 = .ok (.invokevirtual 226, 3) := by decide +kernel
theorem dX11_failsAtMarket_60 : decode cX11_failsAtMarket 60 = .ok (.ifCond .ne 14, 3) := by decide +kernel
theorem dX11_failsAtMarket_63 : decode cX11_failsAtMarket 63 = .ok (.aload_n 0, 1) := by decide +kernel
theorem dX11_failsAtMarket_64 : decode cX11_failsAtMarket 64 = .ok (.iconst 4, 1) := by decide +kernel
theorem dX11_failsAtMarket_65 : decode cX11_failsAtMarket 65 = .ok (.iconst 0, 1) := by decide +kernel
theorem dX11_failsAtMarket_66 : decode cX11_failsAtMarket 66 = .ok (.bipush 50, 2) := by decide +kernel
theorem dX11_failsAtMarket_68 : decode cX11_failsAtMarket 68 = .ok (.invokevirtual 226, 3) := by decide +kernel
theorem dX11_failsAtMarket_71 : decode cX11_failsAtMarket 71 = .ok (.ifCond .eq 5, 3) := by decide +kernel
theorem dX11_failsAtMarket_74 : decode cX11_failsAtMarket 74 = .ok (.iconst 1, 1) := by decide +kernel
theorem dX11_failsAtMarket_75 : decode cX11_failsAtMarket 75 = .ok (.ireturn, 1) := by decide +kernel
theorem dX11_failsAtMarket_76 : decode cX11_failsAtMarket 76 = .ok (.aload_n 0, 1) := by decide +kernel
theorem dX11_failsAtMarket_77 : decode cX11_failsAtMarket 77 = .ok (.aload_n 0, 1) := by decide +kernel
theorem dX11_failsAtMarket_78 : decode cX11_failsAtMarket 78 = .ok (.getfield 25, 3) := by decide +kernel
theorem dX11_failsAtMarket_81 : decode cX11_failsAtMarket 81 = .ok (.iconst 0, 1) := by decide +kernel
theorem dX11_failsAtMarket_82 : decode cX11_failsAtMarket 82 = .ok (.iaload, 1) := by decide +kernel
theorem dX11_failsAtMarket_83 : decode cX11_failsAtMarket 83 = .ok (.aload_n 0, 1) := by decide +kernel
theorem dX11_failsAtMarket_84 : decode cX11_failsAtMarket 84 = .ok (.getfield 25, 3) := by decide +kernel
theorem dX11_failsAtMarket_87 : decode cX11_failsAtMarket 87 = .ok (.iconst 1, 1) := by decide +kernel
theorem dX11_failsAtMarket_88 : decode cX11_failsAtMarket 88 = .ok (.iaload, 1) := by decide +kernel
theorem dX11_failsAtMarket_89 : decode cX11_failsAtMarket 89 = .ok (.aload_n 0, 1) := by decide +kernel
theorem dX11_failsAtMarket_90 : decode cX11_failsAtMarket 90 = .ok (.getfield 25, 3) := by decide +kernel
theorem dX11_failsAtMarket_93 : decode cX11_failsAtMarket 93 = .ok (.iconst 2, 1) := by decide +kernel
