theorem dX12_init_0 : decode cX12_init 0 = .ok (.aload_n 0, 1) := by decide +kernel
theorem dX12_init_1 : decode cX12_init 1 = .ok (.invokespecial 1, 3) := by decide +kernel
theorem dX12_init_4 : decode cX12_init 4 = .ok (.aload_n 0, 1) := by decide +kernel
theorem dX12_init_5 : decode cX12_init 5 = .ok (.bipush 12, 2) := by decide +kernel
theorem dX12_init_7 : decode cX12_init 7 = .ok (.newarray .int, 2) := by decide +kernel
theorem dX12_init_9 : decode cX12_init 9 = .ok (.putfield 9, 3) := by decide +kernel
theorem dX12_init_12 : decode cX12_init 12 = .ok (.aload_n 0, 1) := by decide +kernel
theorem dX12_init_13 : decode cX12_init 13 = .ok (.bipush 12, 2) := by decide +kernel
theorem dX12_init_15 : decode cX12_init 15 = .ok (.newarray .int, 2) := by decide +kernel
theorem dX12_init_17 : decode cX12_init 17 = .ok (.putfield 13, 3) := by decide +kernel
theorem dX12_init_20 : decode cX12_init 20 = .ok (.aload_n 0, 1) := by decide +kernel
theorem dX12_init_21 : decode cX12_init 21 = .ok (.bipush 12, 2) := by decide +kernel
theorem dX12_init_23 : decode cX12_init 23 = .ok (.newarray .int, 2) := by decide +kernel
theorem dX12_init_25 : decode cX12_init 25 = .ok (.putfield 16, 3) := by decide +kernel
theorem dX12_init_28 : decode cX12_init 28 = .ok (.aload_n 0, 1) := by decide +kernel
theorem dX12_init_29 : decode cX12_init 29 = .ok (.bipush 12, 2) := by decide +kernel
theorem dX12_init_31 : decode cX12_init 31 = .ok (.newarray .int, 2) := by decide +kernel
theorem dX12_init_33 : decode cX12_init 33 = .ok (.putfield 19, 3) := by decide +kernel
theorem dX12_init_36 : decode cX12_init 36 = .ok (.aload_n 0, 1) := by decide +kernel
theorem dX12_init_37 : decode cX12_init 37 = .ok (.bipush 12, 2) := by decide +kernel
theorem dX12_init_39 : decode cX12_init 39 = .ok (.newarray .int, 2) := by decide +kernel
theorem dX12_init_41 : decode cX12_init 41 = .ok (.putfield 22, 3) := by decide +kernel
theorem dX12_init_44 : decode cX12_init 44 = .ok (.aload_n 0, 1) := by decide +kernel
theorem dX12_init_45 : decode cX12_init 45 = .ok (.bipush 12, 2) := by decide +kernel
theorem dX12_init_47 : decode cX12_init 47 = .ok (.newarray .int, 2) := by decide +kernel
theorem dX12_init_49 : decode cX12_init 49 = .ok (.putfield 25, 3) := by decide +kernel
theorem dX12_init_52 : decode cX12_init 52 = .ok (.aload_n 0, 1) := by decide +kernel
theorem dX12_init_53 : decode cX12_init 53 = .ok (.bipush 12, 2) := by decide +kernel
theorem dX12_init_55 : decode cX12_init 55 = .ok (.newarray .int, 2) := by decide +kernel
theorem dX12_init_57 : decode cX12_init 57 = .ok (.putfield 28, 3) := by decide +kernel
theorem dX12_init_60 : decode cX12_init 60 = .ok (.aload_n 0, 1) := by decide +kernel
theorem dX12_init_61 : decode cX12_init 61 = .ok (.bipush 12, 2) := by decide +kernel
theorem dX12_init_63 : decode cX12_init 63 = .ok (.newarray .int, 2) := by decide +kernel
theorem dX12_init_65 : decode cX12_init 65 = .ok (.putfield 31, 3) := by decide +kernel
theorem dX12_init_68 : decode cX12_init 68 = .ok (.aload_n 0, 1) := by decide +kernel
theorem dX12_init_69 : decode cX12_init 69 = .ok (.bipush 12, 2) := by decide +kernel
theorem dX12_init_71 : decode cX12_init 71 = .ok (.newarray .int, 2) := by decide +kernel
theorem dX12_init_73 : decode cX12_init 73 = .ok (.putfield 34, 3) := by decide +kernel
theorem dX12_init_76 : decode cX12_init 76 = .ok (.aload_n 0, 1) := by decide +kernel
theorem dX12_init_77 : decode cX12_init 77 = .ok (.bipush 12, 2) := by decide +kernel
theorem dX12_init_79 : decode cX12_init 79 = .ok (.newarray .int, 2) := by decide +kernel
theorem dX12_init_81 : decode cX12_init 81 = .ok (.putfield 37, 3) := by decide +kernel
theorem dX12_init_84 : decode cX12_init 84 = .ok (.aload_n 0, 1) := by decide +kernel
theorem dX12_init_85 : decode cX12_init 85 = .ok (.bipush 12, 2) := by decide +kernel
theorem dX12_init_87 : decode cX12_init 87 = .ok (.newarray .int, 2) := by decide +kernel
theorem dX12_init_89 : decode cX12_init 89 = .ok (.putfield 40, 3) := by decide +kernel
theorem dX12_init_92 : decode cX12_init 92 = .ok (.aload_n 0, 1) := by decide +kernel
theorem dX12_init_93 : decode cX12_init 93 = .ok (.bipush 12, 2) := by decide +kernel
theorem dX12_init_95 : decode cX12_init 95 = .ok (.newarray .int, 2) := by decide +kernel
theorem dX12_init_97 : decode cX12_init 97 = .ok (.putfield 43, 3) := by decide +kernel
theorem dX12_init_100 : decode cX12_init 100 = .ok (.aload_n 0, 1) := by decide +kernel
theorem dX12_init_101 : decode cX12_init 101 = .ok (.bipush 12, 2) := by decide +kernel
theorem dX12_init_103 : decode cX12_init 103 = .ok (.newarray .int, 2) := by decide +kernel
theorem dX12_init_105 : decode cX12_init 105 = .ok (.putfield 46, 3) := by decide +kernel
theorem dX12_init_108 : decode cX12_init 108 = .ok (.aload_n 0, 1) := by decide +kernel
theorem dX12_init_109 : decode cX12_init 109 = .ok (.bipush 12, 2) := by decide +kernel
theorem dX12_init_111 : decode cX12_init 111 = .ok (.newarray .int, 2) := by decide +kernel
theorem dX12_init_113 : decode cX12_init 113 = .ok (.putfield 49, 3) := by decide +kernel
theorem dX12_init_116 : decode cX12_init 116 = .ok (.aload_n 0, 1) := by decide +kernel
theorem dX12_init_117 : decode cX12_init 117 = .ok (.bipush 12, 2) := by decide +kernel
theorem dX12_init_119 : decode cX12_init 119 = .ok (.newarray .int, 2) := by decide +kernel
theorem dX12_init_121 : decode cX12_init 121 = .ok (.putfield 52, 3) := by decide +kernel
theorem dX12_init_124 : decode cX12_init 124 = .ok (.aload_n 0, 1) := by decide +kernel
theorem dX12_init_125 : decode cX12_init 125 = .ok (.bipush 12, 2) := by decide +kernel
theorem dX12_init_127 : decode cX12_init 127 = .ok (.newarray .int, 2) := by decide +kernel
theorem dX12_init_129 : decode cX12_init 129 = .ok (.putfield 55, 3) := by decide +kernel
theorem dX12_init_132 : decode cX12_init 132 = .ok (.aload_n 0, 1) := by decide +kernel
theorem dX12_init_133 : decode cX12_init 133 = .ok (.bipush 12, 2) := by decide +kernel
theorem dX12_init_135 : decode cX12_init 135 = .ok (.newarray .int, 2) := by decide +kernel
theorem dX12_init_137 : decode cX12_init 137 = .ok (.putfield 58, 3) := by decide +kernel
theorem dX12_init_140 : decode cX12_init 140 = .ok (.aload_n 0, 1) := by decide +kernel
theorem dX12_init_141 : decode cX12_init 141 = .ok (.bipush 12, 2) := by decide +kernel
theorem dX12_init_143 : decode cX12_init 143 = .ok (.newarray .int, 2) := by decide +kernel
theorem dX12_init_145 : decode cX12_init 145 = .ok (.putfield 61, 3) := by decide +kernel
theorem dX12_init_148 : decode cX12_init 148 = .ok (.aload_n 0, 1) := by decide +kernel
theorem dX12_init_149 : decode cX12_init 149 = .ok (.bipush 80, 2) := by decide +kernel
theorem dX12_init_151 : decode cX12_init 151 = .ok (.newarray .int, 2) := by decide +kernel
theorem dX12_init_153 : decode cX12_init 153 = .ok (.putfield 64, 3) := by decide +kernel
theorem dX12_init_156 : decode cX12_init 156 = .ok (.aload_n 0, 1) := by decide +kernel
theorem dX12_init_157 : decode cX12_init 157 = .ok (.bipush 80, 2) := by decide +kernel
theorem dX12_init_159 : decode cX12_init 159 = .ok (.newarray .int, 2) := by decide +kernel
theorem dX12_init_161 : decode cX12_init 161 = .ok (.putfield 67, 3) := by decide +kernel
theorem dX12_init_164 : decode cX12_init 164 = .ok (.aload_n 0, 1) := by decide +kernel
theorem dX12_init_165 : decode cX12_init 165 = .ok (.iconst 5, 1) := by decide +kernel
theorem dX12_init_166 : decode cX12_init 166 = .ok (.newarray .int, 2) := by decide +kernel
theorem dX12_init_168 : decode cX12_init 168 = .ok (.putfield 70, 3) := by decide +kernel
theorem dX12_init_171 : decode cX12_init 171 = .ok (.aload_n 0, 1) := by decide +kernel
theorem dX12_init_172 : decode cX12_init 172 = .ok (.bipush 60, 2) := by decide +kernel
theorem dX12_init_174 : decode cX12_init 174 = .ok (.newarray .int, 2) := by decide +kernel
theorem dX12_init_176 : decode cX12_init 176 = .ok (.putfield 73, 3) := by decide +kernel
theorem dX12_init_179 : decode cX12_init 179 = .ok (.aload_n 0, 1) := by decide +kernel
theorem dX12_init_180 : decode cX12_init 180 = .ok (.sipush 300, 3) := by decide +kernel
theorem dX12_init_183 : decode cX12_init 183 = .ok (.newarray .byte, 2) := by decide +kernel
theorem dX12_init_185 : decode cX12_init 185 = .ok (.putfield 76, 3) := by decide +kernel
theorem dX12_init_188 : decode cX12_init 188 = .ok (.aload_n 0, 1) := by decide +kernel
theorem dX12_init_189 : decode cX12_init 189 = .ok (.iconst (-1), 1) := by decide +kernel
theorem dX12_init_190 : decode cX12_init 190 = .ok (.putfield 80, 3) := by decide +kernel
theorem dX12_init_193 : decode cX12_init 193 = .ok (.aload_n 0, 1) := by decide +kernel
theorem dX12_init_194 : decode cX12_init 194 = .ok (.bipush 10, 2) := by decide +kernel
theorem dX12_init_196 : decode cX12_init 196 = .ok (.newarray .int, 2) := by decide +kernel
theorem dX12_init_198 : decode cX12_init 198 = .ok (.putfield 84, 3) := by decide +kernel
theorem dX12_init_201 : decode cX12_init 201 = .ok (.aload_n 0, 1) := by decide +kernel
theorem dX12_init_202 : decode cX12_init 202 = .ok (.bipush 10, 2) := by decide +kernel
theorem dX12_init_204 : decode cX12_init 204 = .ok (.newarray .int, 2) := by decide +kernel
theorem dX12_init_206 : decode cX12_init 206 = .ok (.putfield 87, 3) := by decide +kernel
theorem dX12_init_209 : decode cX12_init 209 = .ok (.aload_n 0, 1) := by decide +kernel
theorem dX12_init_210 : decode cX12_init 210 = .ok (.bipush 120, 2) := by decide +kernel
theorem dX12_init_212 : decode cX12_init 212 = .ok (.newarray .int, 2) := by decide +kernel
theorem dX12_init_214 : decode cX12_init 214 = .ok (.putfield 90, 3) := by decide +kernel
theorem dX12_init_217 : decode cX12_init 217 = .ok (.aload_n 0, 1) := by decide +kernel
theorem dX12_init_218 : decode cX12_init 218 = .ok (.bipush 120, 2) := by decide +kernel
theorem dX12_init_220 : decode cX12_init 220 = .ok (.newarray .int, 2) := by decide +kernel
theorem dX12_init_222 : decode cX12_init 222 = .ok (.putfield 93, 3) := by decide +kernel
theorem dX12_init_225 : decode cX12_init 225 = .ok (.aload_n 0, 1) := by decide +kernel
theorem dX12_init_226 : decode cX12_init 226 = .ok (.sipush 3500, 3) := by decide +kernel
theorem dX12_init_229 : decode cX12_init 229 = .ok (.newarray .int, 2) := by decide +kernel
theorem dX12_init_231 : decode cX12_init 231 = .ok (.putfield 96, 3) := by decide +kernel
theorem dX12_init_234 : decode cX12_init 234 = .ok (.aload_n 0, 1) := by decide +kernel
theorem dX12_init_235 : decode cX12_init 235 = .ok (.sipush 3500, 3) := by decide +kernel
theorem dX12_init_238 : decode cX12_init 238 = .ok (.newarray .int, 2) := by decide +kernel
theorem dX12_init_240 : decode cX12_init 240 = .ok (.putfield 99, 3) := by decide +kernel
theorem dX12_init_243 : decode cX12_init 243 = .ok (.aload_n 0, 1) := by decide +kernel
theorem dX12_init_244 : decode cX12_init 244 = .ok (.sipush 350, 3) := by decide +kernel
theorem dX12_init_247 : decode cX12_init 247 = .ok (.newarray .int, 2) := by decide +kernel
theorem dX12_init_249 : decode cX12_init 249 = .ok (.putfield 102, 3) := by decide +kernel
theorem dX12_init_252 : decode cX12_init 252 = .ok (.aload_n 0, 1) := by decide +kernel
theorem dX12_init_253 : decode cX12_init 253 = .ok (.bipush 12, 2) := by decide +kernel
theorem dX12_init_255 : decode cX12_init 255 = .ok (.newarray .int, 2) := by decide +kernel
theorem dX12_init_257 : decode cX12_init 257 = .ok (.putfield 105, 3) := by decide +kernel
theorem dX12_init_260 : decode cX12_init 260 = .ok (.aload_n 0, 1) := by decide +kernel
theorem dX12_init_261 : decode cX12_init 261 = .ok (.bipush 12, 2) := by decide +kernel
theorem dX12_init_263 : decode cX12_init 263 = .ok (.newarray .int, 2) := by decide +kernel
theorem dX12_init_265 : decode cX12_init 265 = .ok (.putfield 108, 3) := by decide +kernel
theorem dX12_init_268 : decode cX12_init 268 = .ok (.aload_n 0, 1) := by decide +kernel
theorem dX12_init_269 : decode cX12_init 269 = .ok (.bipush 12, 2) := by decide +kernel
theorem dX12_init_271 : decode cX12_init 271 = .ok (.newarray .long, 2) := by decide +kernel
theorem dX12_init_273 : decode cX12_init 273 = .ok (.putfield 111, 3) := by decide +kernel
theorem dX12_init_276 : decode cX12_init 276 = .ok (.aload_n 0, 1) := by decide +kernel
theorem dX12_init_277 : decode cX12_init 277 = .ok (.iconst (-1), 1) := by decide +kernel
theorem dX12_init_278 : decode cX12_init 278 = .ok (.putfield 115, 3) := by decide +kernel
theorem dX12_init_281 : decode cX12_init 281 = .ok (.aload_n 0, 1) := by decide +kernel
theorem dX12_init_282 : decode cX12_init 282 = .ok (.iconst (-1), 1) := by decide +kernel
theorem dX12_init_283 : decode cX12_init 283 = .ok (.putfield 118, 3) := by decide +kernel
theorem dX12_init_286 : decode cX12_init 286 = .ok (.aload_n 0, 1) := by decide +kernel
theorem dX12_init_287 : decode cX12_init 287 = .ok (.sipush 28800, 3) := by decide +kernel
theorem dX12_init_290 : decode cX12_init 290 = .ok (.newarray .int, 2) := by decide +kernel
theorem dX12_init_292 : decode cX12_init 292 = .ok (.putfield 121, 3) := by decide +kernel
theorem dX12_init_295 : decode cX12_init 295 = .ok (.aload_n 0, 1) := by decide +kernel
theorem dX12_init_296 : decode cX12_init 296 = .ok (.sipush 7200, 3) := by decide +kernel
theorem dX12_init_299 : decode cX12_init 299 = .ok (.newarray .boolean, 2) := by decide +kernel
theorem dX12_init_301 : decode cX12_init 301 = .ok (.putfield 124, 3) := by decide +kernel
theorem dX12_init_304 : decode cX12_init 304 = .ok (.aload_n 0, 1) := by decide +kernel
theorem dX12_init_305 : decode cX12_init 305 = .ok (.bipush 12, 2) := by decide +kernel
theorem dX12_init_307 : decode cX12_init 307 = .ok (.newarray .int, 2) := by decide +kernel
theorem dX12_init_309 : decode cX12_init 309 = .ok (.putfield 128, 3) := by decide +kernel
theorem dX12_init_312 : decode cX12_init 312 = .ok (.aload_n 0, 1) := by decide +kernel
theorem dX12_init_313 : decode cX12_init 313 = .ok (.sipush 144, 3) := by decide +kernel
theorem dX12_init_316 : decode cX12_init 316 = .ok (.newarray .int, 2) := by decide +kernel
theorem dX12_init_318 : decode cX12_init 318 = .ok (.putfield 131, 3) := by decide +kernel
theorem dX12_init_321 : decode cX12_init 321 = .ok (.aload_n 0, 1) := by decide +kernel
theorem dX12_init_322 : decode cX12_init 322 = .ok (.bipush 12, 2) := by decide +kernel
theorem dX12_init_324 : decode cX12_init 324 = .ok (.newarray .int, 2) := by decide +kernel
theorem dX12_init_326 : decode cX12_init 326 = .ok (.putfield 134, 3) := by decide +kernel
theorem dX12_init_329 : decode cX12_init 329 = .ok (.aload_n 0, 1) := by decide +kernel
theorem dX12_init_330 : decode cX12_init 330 = .ok (.bipush 96, 2) := by decide +kernel
theorem dX12_init_332 : decode cX12_init 332 = .ok (.newarray .int, 2) := by decide +kernel
theorem dX12_init_334 : decode cX12_init 334 = .ok (.putfield 137, 3) := by decide +kernel
theorem dX12_init_337 : decode cX12_init 337 = .ok (.aload_n 0, 1) := by decide +kernel
theorem dX12_init_338 : decode cX12_init 338 = .ok (.bipush 96, 2) := by decide +kernel
theorem dX12_init_340 : decode cX12_init 340 = .ok (.newarray .int, 2) := by decide +kernel
theorem dX12_init_342 : decode cX12_init 342 = .ok (.putfield 140, 3) := by decide +kernel
theorem dX12_init_345 : decode cX12_init 345 = .ok (.aload_n 0, 1) := by decide +kernel
theorem dX12_init_346 : decode cX12_init 346 = .ok (.bipush 20, 2) := by decide +kernel
theorem dX12_init_348 : decode cX12_init 348 = .ok (.newarray .int, 2) := by decide +kernel
theorem dX12_init_350 : decode cX12_init 350 = .ok (.putfield 143, 3) := by decide +kernel
theorem dX12_init_353 : decode cX12_init 353 = .ok (.aload_n 0, 1) := by decide +kernel
theorem dX12_init_354 : decode cX12_init 354 = .ok (.bipush 20, 2) := by decide +kernel
theorem dX12_init_356 : decode cX12_init 356 = .ok (.newarray .int, 2) := by decide +kernel
theorem dX12_init_358 : decode cX12_init 358 = .ok (.putfield 146, 3) := by decide +kernel
theorem dX12_init_361 : decode cX12_init 361 = .ok (.aload_n 0, 1) := by decide +kernel
theorem dX12_init_362 : decode cX12_init 362 = .ok (.bipush 20, 2) := by decide +kernel
theorem dX12_init_364 : decode cX12_init 364 = .ok (.newarray .int, 2) := by decide +kernel
theorem dX12_init_366 : decode cX12_init 366 = .ok (.putfield 149, 3) := by decide +kernel
theorem dX12_init_369 : decode cX12_init 369 = .ok (.aload_n 0, 1) := by decide +kernel
theorem dX12_init_370 : decode cX12_init 370 = .ok (.bipush 20, 2) := by decide +kernel
theorem dX12_init_372 : decode cX12_init 372 = .ok (.newarray .int, 2) := by decide +kernel
theorem dX12_init_374 : decode cX12_init 374 = .ok (.putfield 152, 3) := by decide +kernel
theorem dX12_init_377 : decode cX12_init 377 = .ok (.aload_n 0, 1) := by decide +kernel
theorem dX12_init_378 : decode cX12_init 378 = .ok (.bipush 20, 2) := by decide +kernel
theorem dX12_init_380 : decode cX12_init 380 = .ok (.newarray .int, 2) := by decide +kernel
theorem dX12_init_382 : decode cX12_init 382 = .ok (.putfield 155, 3) := by decide +kernel
theorem dX12_init_385 : decode cX12_init 385 = .ok (.aload_n 0, 1) := by decide +kernel
theorem dX12_init_386 : decode cX12_init 386 = .ok (.bipush 20, 2) := by decide +kernel
theorem dX12_init_388 : decode cX12_init 388 = .ok (.newarray .int, 2) := by decide +kernel
theorem dX12_init_390 : decode cX12_init 390 = .ok (.putfield 158, 3) := by decide +kernel
theorem dX12_init_393 : decode cX12_init 393 = .ok (.aload_n 0, 1) := by decide +kernel
theorem dX12_init_394 : decode cX12_init 394 = .ok (.bipush 60, 2) := by decide +kernel
theorem dX12_init_396 : decode cX12_init 396 = .ok (.newarray .int, 2) := by decide +kernel
theorem dX12_init_398 : decode cX12_init 398 = .ok (.putfield 161, 3) := by decide +kernel
theorem dX12_init_401 : decode cX12_init 401 = .ok (.aload_n 0, 1) := by decide +kernel
theorem dX12_init_402 : decode cX12_init 402 = .ok (.bipush 60, 2) := by decide +kernel
theorem dX12_init_404 : decode cX12_init 404 = .ok (.newarray .int, 2) := by decide +kernel
theorem dX12_init_406 : decode cX12_init 406 = .ok (.putfield 164, 3) := by decide +kernel
theorem dX12_init_409 : decode cX12_init 409 = .ok (.aload_n 0, 1) := by decide +kernel
theorem dX12_init_410 : decode cX12_init 410 = .ok (.bipush 60, 2) := by decide +kernel
theorem dX12_init_412 : decode cX12_init 412 = .ok (.newarray .int, 2) := by decide +kernel
theorem dX12_init_414 : decode cX12_init 414 = .ok (.putfield 167, 3) := by decide +kernel
theorem dX12_init_417 : decode cX12_init 417 = .ok (.aload_n 0, 1) := by decide +kernel
theorem dX12_init_418 : decode cX12_init 418 = .ok (.bipush 60, 2) := by decide +kernel
theorem dX12_init_420 : decode cX12_init 420 = .ok (.newarray .int, 2) := by decide +kernel
theorem dX12_init_422 : decode cX12_init 422 = .ok (.putfield 170, 3) := by decide +kernel
theorem dX12_init_425 : decode cX12_init 425 = .ok (.return_, 1) := by decide +kernel
theorem dX12_thrown_0 : decode cX12_thrown 0 = .ok (.aload_n 0, 1) := by decide +kernel
theorem dX12_thrown_1 : decode cX12_thrown 1 = .ok (.getfield 173, 3) := by decide +kernel
theorem dX12_thrown_4 : decode cX12_thrown 4 = .ok (.ireturn, 1) := by decide +kernel
theorem dX12_bad_0 : decode cX12_bad 0 = .ok (.iload_n 1, 1) := by decide +kernel
theorem dX12_bad_1 : decode cX12_bad 1 = .ok (.ifCond .eq 8, 3) := by decide +kernel
theorem dX12_bad_4 : decode cX12_bad 4 = .ok (.aload_n 0, 1) := by decide +kernel
theorem dX12_bad_5 : decode cX12_bad 5 = .ok (.iload_n 2, 1) := by decide +kernel
theorem dX12_bad_6 : decode cX12_bad 6 = .ok (.putfield 173, 3) := by decide +kernel
theorem dX12_bad_9 : decode cX12_bad 9 = .ok (.iload_n 1, 1) := by decide +kernel
theorem dX12_bad_10 : decode cX12_bad 10 = .ok (.ireturn, 1) := by decide +kernel
theorem dX12_in_0 : decode cX12_in 0 = .ok (.iload_n 0, 1) := by decide +kernel
theorem dX12_in_1 : decode cX12_in 1 = .ok (.iload_n 1, 1) := by decide +kernel
theorem dX12_in_2 : decode cX12_in 2 = .ok (.if_icmp .lt 12, 3) := by decide +kernel
theorem dX12_in_5 : decode cX12_in 5 = .ok (.iload_n 0, 1) := by decide +kernel
theorem dX12_in_6 : decode cX12_in 6 = .ok (.iload_n 2, 1) := by decide +kernel
theorem dX12_in_7 : decode cX12_in 7 = .ok (.if_icmp .gt 7, 3) := by decide +kernel
theorem dX12_in_10 : decode cX12_in 10 = .ok (.iconst 1, 1) := by decide +kernel
theorem dX12_in_11 : decode cX12_in 11 = .ok (.goto 4, 3) := by decide +kernel
theorem dX12_in_14 : decode cX12_in 14 = .ok (.iconst 0, 1) := by decide +kernel
theorem dX12_in_15 : decode cX12_in 15 = .ok (.ireturn, 1) := by decide +kernel
theorem dX12_least_0 : decode cX12_least 0 = .ok (.iload_n 0, 1) := by decide +kernel
theorem dX12_least_1 : decode cX12_least 1 = .ok (.iload_n 1, 1) := by decide +kernel
theorem dX12_least_2 : decode cX12_least 2 = .ok (.if_icmp .ge 7, 3) := by decide +kernel
theorem dX12_least_5 : decode cX12_least 5 = .ok (.iload_n 0, 1) := by decide +kernel
theorem dX12_least_6 : decode cX12_least 6 = .ok (.goto 4, 3) := by decide +kernel
theorem dX12_least_9 : decode cX12_least 9 = .ok (.iload_n 1, 1) := by decide +kernel
theorem dX12_least_10 : decode cX12_least 10 = .ok (.ireturn, 1) := by decide +kernel
theorem dX12_paper_0 : decode cX12_paper 0 = .ok (.aload_n 0, 1) := by decide +kernel
theorem dX12_paper_1 : decode cX12_paper 1 = .ok (.iconst 0, 1) := by decide +kernel
theorem dX12_paper_2 : decode cX12_paper 2 = .ok (.putfield 173, 3) := by decide +kernel
theorem dX12_paper_5 : decode cX12_paper 5 = .ok (.iload_n 1, 1) := by decide +kernel
theorem dX12_paper_6 : decode cX12_paper 6 = .ok (.iconst 0, 1) := by decide +kernel
theorem dX12_paper_7 : decode cX12_paper 7 = .ok (.iconst 2, 1) := by decide +kernel
theorem dX12_paper_8 : decode cX12_paper 8 = .ok (.invokestatic 176, 3) := by decide +kernel
theorem dX12_paper_11 : decode cX12_paper 11 = .ok (.ifCond .eq 46, 3) := by decide +kernel
theorem dX12_paper_14 : decode cX12_paper 14 = .ok (.iload_n 2, 1) := by decide +kernel
theorem dX12_paper_15 : decode cX12_paper 15 = .ok (.iconst 0, 1) := by decide +kernel
theorem dX12_paper_16 : decode cX12_paper 16 = .ok (.ldc 180, 2) := by decide +kernel
theorem dX12_paper_18 : decode cX12_paper 18 = .ok (.invokestatic 176, 3) := by decide +kernel
theorem dX12_paper_21 : decode cX12_paper 21 = .ok (.ifCond .eq 36, 3) := by decide +kernel
theorem dX12_paper_24 : decode cX12_paper 24 = .ok (.iload_n 3, 1) := by decide +kernel
theorem dX12_paper_25 : decode cX12_paper 25 = .ok (.iconst 0, 1) := by decide +kernel
theorem dX12_paper_26 : decode cX12_paper 26 = .ok (.sipush 1000, 3) := by decide +kernel
theorem dX12_paper_29 : decode cX12_paper 29 = .ok (.invokestatic 176, 3) := by decide +kernel
theorem dX12_paper_32 : decode cX12_paper 32 = .ok (.ifCond .eq 25, 3) := by decide +kernel
theorem dX12_paper_35 : decode cX12_paper 35 = .ok (.iload 4, 2) := by decide +kernel
theorem dX12_paper_37 : decode cX12_paper 37 = .ok (.iconst 2, 1) := by decide +kernel
theorem dX12_paper_38 : decode cX12_paper 38 = .ok (.bipush 64, 2) := by decide +kernel
theorem dX12_paper_40 : decode cX12_paper 40 = .ok (.invokestatic 176, 3) := by decide +kernel
theorem dX12_paper_43 : decode cX12_paper 43 = .ok (.ifCond .eq 14, 3) := by decide +kernel
theorem dX12_paper_46 : decode cX12_paper 46 = .ok (.iload 5, 2) := by decide +kernel
theorem dX12_paper_48 : decode cX12_paper 48 = .ok (.iconst 1, 1) := by decide +kernel
theorem dX12_paper_49 : decode cX12_paper 49 = .ok (.bipush 100, 2) := by decide +kernel
theorem dX12_paper_51 : decode cX12_paper 51 = .ok (.invokestatic 176, 3) := by decide +kernel
theorem dX12_paper_54 : decode cX12_paper 54 = .ok (.ifCond .ne 7, 3) := by decide +kernel
theorem dX12_paper_57 : decode cX12_paper 57 = .ok (.iconst 1, 1) := by decide +kernel
theorem dX12_paper_58 : decode cX12_paper 58 = .ok (.goto 4, 3) := by decide +kernel
theorem dX12_paper_61 : decode cX12_paper 61 = .ok (.iconst 0, 1) := by decide +kernel
theorem dX12_paper_62 : decode cX12_paper 62 = .ok (.istore 6, 2) := by decide +kernel
theorem dX12_paper_64 : decode cX12_paper 64 = .ok (.aload_n 0, 1) := by decide +kernel
theorem dX12_paper_65 : decode cX12_paper 65 = .ok (.iload 6, 2) := by decide +kernel
theorem dX12_paper_67 : decode cX12_paper 67 = .ok (.iconst 1, 1) := by decide +kernel
theorem dX12_paper_68 : decode cX12_paper 68 = .ok (.invokevirtual 181, 3) := by decide +kernel
theorem dX12_paper_71 : decode cX12_paper 71 = .ok (.ifCond .ne 25, 3) := by decide +kernel
theorem dX12_paper_74 : decode cX12_paper 74 = .ok (.aload_n 0, 1) := by decide +kernel
theorem dX12_paper_75 : decode cX12_paper 75 = .ok (.aload_n 0, 1) := by decide +kernel
theorem dX12_paper_76 : decode cX12_paper 76 = .ok (.getfield 185, 3) := by decide +kernel
theorem dX12_paper_79 : decode cX12_paper 79 = .ok (.bipush 12, 2) := by decide +kernel
theorem dX12_paper_81 : decode cX12_paper 81 = .ok (.if_icmp .ne 7, 3) := by decide +kernel
theorem dX12_paper_84 : decode cX12_paper 84 = .ok (.iconst 1, 1) := by decide +kernel
theorem dX12_paper_85 : decode cX12_paper 85 = .ok (.goto 4, 3) := by decide +kernel
theorem dX12_paper_88 : decode cX12_paper 88 = .ok (.iconst 0, 1) := by decide +kernel
theorem dX12_paper_89 : decode cX12_paper 89 = .ok (.iconst 2, 1) := by decide +kernel
theorem dX12_paper_90 : decode cX12_paper 90 = .ok (.invokevirtual 181, 3) := by decide +kernel
theorem dX12_paper_93 : decode cX12_paper 93 = .ok (.ifCond .eq 5, 3) := by decide +kernel
theorem dX12_paper_96 : decode cX12_paper 96 = .ok (.iconst 0, 1) := by decide +kernel
theorem dX12_paper_97 : decode cX12_paper 97 = .ok (.ireturn, 1) := by decide +kernel
theorem dX12_paper_98 : decode cX12_paper 98 = .ok (.aload_n 0, 1) := by decide +kernel
theorem dX12_paper_99 : decode cX12_paper 99 = .ok (.getfield 9, 3) := by decide +kernel
theorem dX12_paper_102 : decode cX12_paper 102 = .ok (.aload_n 0, 1) := by decide +kernel
theorem dX12_paper_103 : decode cX12_paper 103 = .ok (.getfield 185, 3) := by decide +kernel
theorem dX12_paper_106 : decode cX12_paper 106 = .ok (.iload_n 1, 1) := by decide +kernel
theorem dX12_paper_107 : decode cX12_paper 107 = .ok (.iastore, 1) := by decide +kernel
theorem dX12_paper_108 : decode cX12_paper 108 = .ok (.aload_n 0, 1) := by decide +kernel
theorem dX12_paper_109 : decode cX12_paper 109 = .ok (.getfield 13, 3) := by decide +kernel
theorem dX12_paper_112 : decode cX12_paper 112 = .ok (.aload_n 0, 1) := by decide +kernel
theorem dX12_paper_113 : decode cX12_paper 113 = .ok (.getfield 185, 3) := by decide +kernel
theorem dX12_paper_116 : decode cX12_paper 116 = .ok (.iload_n 2, 1) := by decide +kernel
theorem dX12_paper_117 : decode cX12_paper 117 = .ok (.iastore, 1) := by decide +kernel
theorem dX12_paper_118 : decode cX12_paper 118 = .ok (.aload_n 0, 1) := by decide +kernel
theorem dX12_paper_119 : decode cX12_paper 119 = .ok (.getfield 16, 3) := by decide +kernel
theorem dX12_paper_122 : decode cX12_paper 122 = .ok (.aload_n 0, 1) := by decide +kernel
theorem dX12_paper_123 : decode cX12_paper 123 = .ok (.getfield 185, 3) := by decide +kernel
theorem dX12_paper_126 : decode cX12_paper 126 = .ok (.iload_n 3, 1) := by decide +kernel
theorem dX12_paper_127 : decode cX12_paper 127 = .ok (.iastore, 1) := by decide +kernel
theorem dX12_paper_128 : decode cX12_paper 128 = .ok (.aload_n 0, 1) := by decide +kernel
theorem dX12_paper_129 : decode cX12_paper 129 = .ok (.getfield 19, 3) := by decide +kernel
theorem dX12_paper_132 : decode cX12_paper 132 = .ok (.aload_n 0, 1) := by decide +kernel
theorem dX12_paper_133 : decode cX12_paper 133 = .ok (.getfield 185, 3) := by decide +kernel
theorem dX12_paper_136 : decode cX12_paper 136 = .ok (.iload 4, 2) := by decide +kernel
theorem dX12_paper_138 : decode cX12_paper 138 = .ok (.iastore, 1) := by decide +kernel
theorem dX12_paper_139 : decode cX12_paper 139 = .ok (.aload_n 0, 1) := by decide +kernel
theorem dX12_paper_140 : decode cX12_paper 140 = .ok (.getfield 22, 3) := by decide +kernel
theorem dX12_paper_143 : decode cX12_paper 143 = .ok (.aload_n 0, 1) := by decide +kernel
theorem dX12_paper_144 : decode cX12_paper 144 = .ok (.getfield 185, 3) := by decide +kernel
theorem dX12_paper_147 : decode cX12_paper 147 = .ok (.iload 5, 2) := by decide +kernel
theorem dX12_paper_149 : decode cX12_paper 149 = .ok (.iastore, 1) := by decide +kernel
theorem dX12_paper_150 : decode cX12_paper 150 = .ok (.aload_n 0, 1) := by decide +kernel
theorem dX12_paper_151 : decode cX12_paper 151 = .ok (.getfield 52, 3) := by decide +kernel
theorem dX12_paper_154 : decode cX12_paper 154 = .ok (.aload_n 0, 1) := by decide +kernel
theorem dX12_paper_155 : decode cX12_paper 155 = .ok (.getfield 185, 3) := by decide +kernel
theorem dX12_paper_158 : decode cX12_paper 158 = .ok (.iconst (-1), 1) := by decide +kernel
theorem dX12_paper_159 : decode cX12_paper 159 = .ok (.iastore, 1) := by decide +kernel
theorem dX12_paper_160 : decode cX12_paper 160 = .ok (.aload_n 0, 1) := by decide +kernel
theorem dX12_paper_161 : decode cX12_paper 161 = .ok (.getfield 58, 3) := by decide +kernel
theorem dX12_paper_164 : decode cX12_paper 164 = .ok (.aload_n 0, 1) := by decide +kernel
theorem dX12_paper_165 : decode cX12_paper 165 = .ok (.getfield 185, 3) := by decide +kernel
theorem dX12_paper_168 : decode cX12_paper 168 = .ok (.iconst (-1), 1) := by decide +kernel
theorem dX12_paper_169 : decode cX12_paper 169 = .ok (.iastore, 1) := by decide +kernel
theorem dX12_paper_170 : decode cX12_paper 170 = .ok (.aload_n 0, 1) := by decide +kernel
theorem dX12_paper_171 : decode cX12_paper 171 = .ok (.getfield 61, 3) := by decide +kernel
theorem dX12_paper_174 : decode cX12_paper 174 = .ok (.aload_n 0, 1) := by decide +kernel
theorem dX12_paper_175 : decode cX12_paper 175 = .ok (.getfield 185, 3) := by decide +kernel
theorem dX12_paper_178 : decode cX12_paper 178 = .ok (.iconst (-1), 1) := by decide +kernel
theorem dX12_paper_179 : decode cX12_paper 179 = .ok (.iastore, 1) := by decide +kernel
theorem dX12_paper_180 : decode cX12_paper 180 = .ok (.aload_n 0, 1) := by decide +kernel
theorem dX12_paper_181 : decode cX12_paper 181 = .ok (.dup, 1) := by decide +kernel
theorem dX12_paper_182 : decode cX12_paper 182 = .ok (.getfield 185, 3) := by decide +kernel
theorem dX12_paper_185 : decode cX12_paper 185 = .ok (.iconst 1, 1) := by decide +kernel
theorem dX12_paper_186 : decode cX12_paper 186 = .ok (.iadd, 1) := by decide +kernel
theorem dX12_paper_187 : decode cX12_paper 187 = .ok (.putfield 185, 3) := by decide +kernel
theorem dX12_paper_190 : decode cX12_paper 190 = .ok (.aload_n 0, 1) := by decide +kernel
theorem dX12_paper_191 : decode cX12_paper 191 = .ok (.getfield 185, 3) := by decide +kernel
theorem dX12_paper_194 : decode cX12_paper 194 = .ok (.iconst 1, 1) := by decide +kernel
theorem dX12_paper_195 : decode cX12_paper 195 = .ok (.isub, 1) := by decide +kernel
theorem dX12_paper_196 : decode cX12_paper 196 = .ok (.ireturn, 1) := by decide +kernel
theorem dX12_isPaper_0 : decode cX12_isPaper 0 = .ok (.aload_n 0, 1) := by decide +kernel
theorem dX12_isPaper_1 : decode cX12_isPaper 1 = .ok (.iload_n 1, 1) := by decide +kernel
theorem dX12_isPaper_2 : decode cX12_isPaper 2 = .ok (.iconst 0, 1) := by decide +kernel
theorem dX12_isPaper_3 : decode cX12_isPaper 3 = .ok (.aload_n 0, 1) := by decide +kernel
theorem dX12_isPaper_4 : decode cX12_isPaper 4 = .ok (.getfield 185, 3) := by decide +kernel
theorem dX12_isPaper_7 : decode cX12_isPaper 7 = .ok (.iconst 1, 1) := by decide +kernel
theorem dX12_isPaper_8 : decode cX12_isPaper 8 = .ok (.isub, 1) := by decide +kernel
theorem dX12_isPaper_9 : decode cX12_isPaper 9 = .ok (.invokestatic 176, 3) := by decide +kernel
theorem dX12_isPaper_12 : decode cX12_isPaper 12 = .ok (.ifCond .eq 7, 3) := by decide +kernel
theorem dX12_isPaper_15 : decode cX12_isPaper 15 = .ok (.iconst 0, 1) := by decide +kernel
theorem dX12_isPaper_16 : decode cX12_isPaper 16 = .ok (.goto 4, 3) := by decide +kernel
theorem dX12_isPaper_19 : decode cX12_isPaper 19 = .ok (.iconst 1, 1) := by decide +kernel
theorem dX12_isPaper_20 : decode cX12_isPaper 20 = .ok (.putfield 173, 3) := by decide +kernel
theorem dX12_isPaper_23 : decode cX12_isPaper 23 = .ok (.aload_n 0, 1) := by decide +kernel
theorem dX12_isPaper_24 : decode cX12_isPaper 24 = .ok (.getfield 173, 3) := by decide +kernel
theorem dX12_isPaper_27 : decode cX12_isPaper 27 = .ok (.ifCond .ne 7, 3) := by decide +kernel
theorem dX12_isPaper_30 : decode cX12_isPaper 30 = .ok (.iconst 1, 1) := by decide +kernel
theorem dX12_isPaper_31 : decode cX12_isPaper 31 = .ok (.goto 4, 3) := by decide +kernel
theorem dX12_isPaper_34 : decode cX12_isPaper 34 = .ok (.iconst 0, 1) := by decide +kernel
theorem dX12_isPaper_35 : decode cX12_isPaper 35 = .ok (.ireturn, 1) := by decide +kernel
theorem dX12_isSet_0 : decode cX12_isSet 0 = .ok (.iload_n 0, 1) := by decide +kernel
theorem dX12_isSet_1 : decode cX12_isSet 1 = .ok (.tableswitch 65 0 3 #[31, 40, 48, 56], 31) := by decide +kernel
theorem dX12_isSet_32 : decode cX12_isSet 32 = .ok (.iload_n 1, 1) := by decide +kernel
theorem dX12_isSet_33 : decode cX12_isSet 33 = .ok (.iconst 0, 1) := by decide +kernel
theorem dX12_isSet_34 : decode cX12_isSet 34 = .ok (.sipush 1000, 3) := by decide +kernel
theorem dX12_isSet_37 : decode cX12_isSet 37 = .ok (.invokestatic 176, 3) := by decide +kernel
theorem dX12_isSet_40 : decode cX12_isSet 40 = .ok (.ireturn, 1) := by decide +kernel
theorem dX12_isSet_41 : decode cX12_isSet 41 = .ok (.iload_n 1, 1) := by decide +kernel
theorem dX12_isSet_42 : decode cX12_isSet 42 = .ok (.iconst 2, 1) := by decide +kernel
theorem dX12_isSet_43 : decode cX12_isSet 43 = .ok (.bipush 64, 2) := by decide +kernel
theorem dX12_isSet_45 : decode cX12_isSet 45 = .ok (.invokestatic 176, 3) := by decide +kernel
theorem dX12_isSet_48 : decode cX12_isSet 48 = .ok (.ireturn, 1) := by decide +kernel
theorem dX12_isSet_49 : decode cX12_isSet 49 = .ok (.iload_n 1, 1) := by decide +kernel
theorem dX12_isSet_50 : decode cX12_isSet 50 = .ok (.iconst 1, 1) := by decide +kernel
theorem dX12_isSet_51 : decode cX12_isSet 51 = .ok (.bipush 100, 2) := by decide +kernel
theorem dX12_isSet_53 : decode cX12_isSet 53 = .ok (.invokestatic 176, 3) := by decide +kernel
theorem dX12_isSet_56 : decode cX12_isSet 56 = .ok (.ireturn, 1) := by decide +kernel
theorem dX12_isSet_57 : decode cX12_isSet 57 = .ok (.iload_n 1, 1) := by decide +kernel
theorem dX12_isSet_58 : decode cX12_isSet 58 = .ok (.iconst 0, 1) := by decide +kernel
theorem dX12_isSet_59 : decode cX12_isSet 59 = .ok (.sipush 1000, 3) := by decide +kernel
theorem dX12_isSet_62 : decode cX12_isSet 62 = .ok (.invokestatic 176, 3) := by decide +kernel
theorem dX12_isSet_65 : decode cX12_isSet 65 = .ok (.ireturn, 1) := by decide +kernel
theorem dX12_isSet_66 : decode cX12_isSet 66 = .ok (.iconst 0, 1) := by decide +kernel
theorem dX12_isSet_67 : decode cX12_isSet 67 = .ok (.ireturn, 1) := by decide +kernel
theorem dX12_set_0 : decode cX12_set 0 = .ok (.aload_n 0, 1) := by decide +kernel
theorem dX12_set_1 : decode cX12_set 1 = .ok (.iload_n 1, 1) := by decide +kernel
theorem dX12_set_2 : decode cX12_set 2 = .ok (.invokevirtual 188, 3) := by decide +kernel
theorem dX12_set_5 : decode cX12_set 5 = .ok (.ifCond .eq 24, 3) := by decide +kernel
theorem dX12_set_8 : decode cX12_set 8 = .ok (.aload_n 0, 1) := by decide +kernel
theorem dX12_set_9 : decode cX12_set 9 = .ok (.iload_n 2, 1) := by decide +kernel
theorem dX12_set_10 : decode cX12_set 10 = .ok (.iload_n 3, 1) := by decide +kernel
theorem dX12_set_11 : decode cX12_set 11 = .ok (.invokestatic 192, 3) := by decide +kernel
theorem dX12_set_14 : decode cX12_set 14 = .ok (.ifCond .ne 7, 3) := by decide +kernel
theorem dX12_set_17 : decode cX12_set 17 = .ok (.iconst 1, 1) := by decide +kernel
theorem dX12_set_18 : decode cX12_set 18 = .ok (.goto 4, 3) := by decide +kernel
theorem dX12_set_21 : decode cX12_set 21 = .ok (.iconst 0, 1) := by decide +kernel
theorem dX12_set_22 : decode cX12_set 22 = .ok (.iconst 2, 1) := by decide +kernel
theorem dX12_set_23 : decode cX12_set 23 = .ok (.invokevirtual 181, 3) := by decide +kernel
theorem dX12_set_26 : decode cX12_set 26 = .ok (.ifCond .eq 5, 3) := by decide +kernel
theorem dX12_set_29 : decode cX12_set 29 = .ok (.iconst 0, 1) := by decide +kernel
theorem dX12_set_30 : decode cX12_set 30 = .ok (.ireturn, 1) := by decide +kernel
theorem dX12_set_31 : decode cX12_set 31 = .ok (.aload_n 0, 1) := by decide +kernel
theorem dX12_set_32 : decode cX12_set 32 = .ok (.getfield 37, 3) := by decide +kernel
theorem dX12_set_35 : decode cX12_set 35 = .ok (.iload_n 1, 1) := by decide +kernel
theorem dX12_set_36 : decode cX12_set 36 = .ok (.iaload, 1) := by decide +kernel
theorem dX12_set_37 : decode cX12_set 37 = .ok (.iconst 2, 1) := by decide +kernel
theorem dX12_set_38 : decode cX12_set 38 = .ok (.if_icmp .ne 5, 3) := by decide +kernel
theorem dX12_set_41 : decode cX12_set 41 = .ok (.iconst (-1), 1) := by decide +kernel
theorem dX12_set_42 : decode cX12_set 42 = .ok (.ireturn, 1) := by decide +kernel
theorem dX12_set_43 : decode cX12_set 43 = .ok (.iload_n 2, 1) := by decide +kernel
theorem dX12_set_44 : decode cX12_set 44 = .ok (.ifCond .ne 12, 3) := by decide +kernel
theorem dX12_set_47 : decode cX12_set 47 = .ok (.aload_n 0, 1) := by decide +kernel
theorem dX12_set_48 : decode cX12_set 48 = .ok (.getfield 16, 3) := by decide +kernel
theorem dX12_set_51 : decode cX12_set 51 = .ok (.iload_n 1, 1) := by decide +kernel
theorem dX12_set_52 : decode cX12_set 52 = .ok (.iaload, 1) := by decide +kernel
theorem dX12_set_53 : decode cX12_set 53 = .ok (.goto 37, 3) := by decide +kernel
theorem dX12_set_56 : decode cX12_set 56 = .ok (.iload_n 2, 1) := by decide +kernel
theorem dX12_set_57 : decode cX12_set 57 = .ok (.iconst 1, 1) := by decide +kernel
theorem dX12_set_58 : decode cX12_set 58 = .ok (.if_icmp .ne 12, 3) := by decide +kernel
theorem dX12_set_61 : decode cX12_set 61 = .ok (.aload_n 0, 1) := by decide +kernel
theorem dX12_set_62 : decode cX12_set 62 = .ok (.getfield 19, 3) := by decide +kernel
theorem dX12_set_65 : decode cX12_set 65 = .ok (.iload_n 1, 1) := by decide +kernel
theorem dX12_set_66 : decode cX12_set 66 = .ok (.iaload, 1) := by decide +kernel
theorem dX12_set_67 : decode cX12_set 67 = .ok (.goto 23, 3) := by decide +kernel
theorem dX12_set_70 : decode cX12_set 70 = .ok (.iload_n 2, 1) := by decide +kernel
theorem dX12_set_71 : decode cX12_set 71 = .ok (.iconst 2, 1) := by decide +kernel
theorem dX12_set_72 : decode cX12_set 72 = .ok (.if_icmp .ne 12, 3) := by decide +kernel
theorem dX12_set_75 : decode cX12_set 75 = .ok (.aload_n 0, 1) := by decide +kernel
theorem dX12_set_76 : decode cX12_set 76 = .ok (.getfield 22, 3) := by decide +kernel
theorem dX12_set_79 : decode cX12_set 79 = .ok (.iload_n 1, 1) := by decide +kernel
theorem dX12_set_80 : decode cX12_set 80 = .ok (.iaload, 1) := by decide +kernel
theorem dX12_set_81 : decode cX12_set 81 = .ok (.goto 9, 3) := by decide +kernel
theorem dX12_set_84 : decode cX12_set 84 = .ok (.aload_n 0, 1) := by decide +kernel
theorem dX12_set_85 : decode cX12_set 85 = .ok (.getfield 25, 3) := by decide +kernel
theorem dX12_set_88 : decode cX12_set 88 = .ok (.iload_n 1, 1) := by decide +kernel
theorem dX12_set_89 : decode cX12_set 89 = .ok (.iaload, 1) := by decide +kernel
theorem dX12_set_90 : decode cX12_set 90 = .ok (.istore 4, 2) := by decide +kernel
theorem dX12_set_92 : decode cX12_set 92 = .ok (.iload_n 2, 1) := by decide +kernel
theorem dX12_set_93 : decode cX12_set 93 = .ok (.ifCond .ne 13, 3) := by decide +kernel
theorem dX12_set_96 : decode cX12_set 96 = .ok (.aload_n 0, 1) := by decide +kernel
theorem dX12_set_97 : decode cX12_set 97 = .ok (.getfield 16, 3) := by decide +kernel
theorem dX12_set_100 : decode cX12_set 100 = .ok (.iload_n 1, 1) := by decide +kernel
theorem dX12_set_101 : decode cX12_set 101 = .ok (.iload_n 3, 1) := by decide +kernel
theorem dX12_set_102 : decode cX12_set 102 = .ok (.iastore, 1) := by decide +kernel
theorem dX12_set_103 : decode cX12_set 103 = .ok (.goto 40, 3) := by decide +kernel
theorem dX12_set_106 : decode cX12_set 106 = .ok (.iload_n 2, 1) := by decide +kernel
theorem dX12_set_107 : decode cX12_set 107 = .ok (.iconst 1, 1) := by decide +kernel
theorem dX12_set_108 : decode cX12_set 108 = .ok (.if_icmp .ne 13, 3) := by decide +kernel
theorem dX12_set_111 : decode cX12_set 111 = .ok (.aload_n 0, 1) := by decide +kernel
theorem dX12_set_112 : decode cX12_set 112 = .ok (.getfield 19, 3) := by decide +kernel
theorem dX12_set_115 : decode cX12_set 115 = .ok (.iload_n 1, 1) := by decide +kernel
theorem dX12_set_116 : decode cX12_set 116 = .ok (.iload_n 3, 1) := by decide +kernel
theorem dX12_set_117 : decode cX12_set 117 = .ok (.iastore, 1) := by decide +kernel
theorem dX12_set_118 : decode cX12_set 118 = .ok (.goto 25, 3) := by decide +kernel
theorem dX12_set_121 : decode cX12_set 121 = .ok (.iload_n 2, 1) := by decide +kernel
theorem dX12_set_122 : decode cX12_set 122 = .ok (.iconst 2, 1) := by decide +kernel
theorem dX12_set_123 : decode cX12_set 123 = .ok (.if_icmp .ne 13, 3) := by decide +kernel
theorem dX12_set_126 : decode cX12_set 126 = .ok (.aload_n 0, 1) := by decide +kernel
theorem dX12_set_127 : decode cX12_set 127 = .ok (.getfield 22, 3) := by decide +kernel
theorem dX12_set_130 : decode cX12_set 130 = .ok (.iload_n 1, 1) := by decide +kernel
theorem dX12_set_131 : decode cX12_set 131 = .ok (.iload_n 3, 1) := by decide +kernel
theorem dX12_set_132 : decode cX12_set 132 = .ok (.iastore, 1) := by decide +kernel
theorem dX12_set_133 : decode cX12_set 133 = .ok (.goto 10, 3) := by decide +kernel
theorem dX12_set_136 : decode cX12_set 136 = .ok (.aload_n 0, 1) := by decide +kernel
theorem dX12_set_137 : decode cX12_set 137 = .ok (.getfield 25, 3) := by decide +kernel
theorem dX12_set_140 : decode cX12_set 140 = .ok (.iload_n 1, 1) := by decide +kernel
theorem dX12_set_141 : decode cX12_set 141 = .ok (.iload_n 3, 1) := by decide +kernel
theorem dX12_set_142 : decode cX12_set 142 = .ok (.iastore, 1) := by decide +kernel
theorem dX12_set_143 : decode cX12_set 143 = .ok (.iload 4, 2) := by decide +kernel
theorem dX12_set_145 : decode cX12_set 145 = .ok (.ireturn, 1) := by decide +kernel
theorem dX12_told_0 : decode cX12_told 0 = .ok (.aload_n 0, 1) := by decide +kernel
theorem dX12_told_1 : decode cX12_told 1 = .ok (.iload_n 1, 1) := by decide +kernel
theorem dX12_told_2 : decode cX12_told 2 = .ok (.invokevirtual 188, 3) := by decide +kernel
theorem dX12_told_5 : decode cX12_told 5 = .ok (.ifCond .eq 26, 3) := by decide +kernel
theorem dX12_told_8 : decode cX12_told 8 = .ok (.aload_n 0, 1) := by decide +kernel
theorem dX12_told_9 : decode cX12_told 9 = .ok (.iload_n 2, 1) := by decide +kernel
theorem dX12_told_10 : decode cX12_told 10 = .ok (.iconst 0, 1) := by decide +kernel
theorem dX12_told_11 : decode cX12_told 11 = .ok (.bipush 10, 2) := by decide +kernel
theorem dX12_told_13 : decode cX12_told 13 = .ok (.invokestatic 176, 3) := by decide +kernel
theorem dX12_told_16 : decode cX12_told 16 = .ok (.ifCond .ne 7, 3) := by decide +kernel
theorem dX12_told_19 : decode cX12_told 19 = .ok (.iconst 1, 1) := by decide +kernel
theorem dX12_told_20 : decode cX12_told 20 = .ok (.goto 4, 3) := by decide +kernel
theorem dX12_told_23 : decode cX12_told 23 = .ok (.iconst 0, 1) := by decide +kernel
theorem dX12_told_24 : decode cX12_told 24 = .ok (.iconst 2, 1) := by decide +kernel
theorem dX12_told_25 : decode cX12_told 25 = .ok (.invokevirtual 181, 3) := by decide +kernel
theorem dX12_told_28 : decode cX12_told 28 = .ok (.ifCond .eq 5, 3) := by decide +kernel
theorem dX12_told_31 : decode cX12_told 31 = .ok (.iconst 0, 1) := by decide +kernel
theorem dX12_told_32 : decode cX12_told 32 = .ok (.ireturn, 1) := by decide +kernel
theorem dX12_told_33 : decode cX12_told 33 = .ok (.iload_n 2, 1) := by decide +kernel
theorem dX12_told_34 : decode cX12_told 34 = .ok (.tableswitch 124 0 9 #[54, 61, 68, 75, 82, 89, 96, 103, 110, 117], 54) := by decide +kernel
theorem dX12_told_88 : decode cX12_told 88 = .ok (.aload_n 0, 1) := by decide +kernel
theorem dX12_told_89 : decode cX12_told 89 = .ok (.getfield 9, 3) := by decide +kernel
theorem dX12_told_92 : decode cX12_told 92 = .ok (.iload_n 1, 1) := by decide +kernel
theorem dX12_told_93 : decode cX12_told 93 = .ok (.iaload, 1) := by decide +kernel
theorem dX12_told_94 : decode cX12_told 94 = .ok (.ireturn, 1) := by decide +kernel
theorem dX12_told_95 : decode cX12_told 95 = .ok (.aload_n 0, 1) := by decide +kernel
theorem dX12_told_96 : decode cX12_told 96 = .ok (.getfield 13, 3) := by decide +kernel
theorem dX12_told_99 : decode cX12_told 99 = .ok (.iload_n 1, 1) := by decide +kernel
theorem dX12_told_100 : decode cX12_told 100 = .ok (.iaload, 1) := by decide +kernel
theorem dX12_told_101 : decode cX12_told 101 = .ok (.ireturn, 1) := by decide +kernel
theorem dX12_told_102 : decode cX12_told 102 = .ok (.aload_n 0, 1) := by decide +kernel
theorem dX12_told_103 : decode cX12_told 103 = .ok (.getfield 16, 3) := by decide +kernel
theorem dX12_told_106 : decode cX12_told 106 = .ok (.iload_n 1, 1) := by decide +kernel
theorem dX12_told_107 : decode cX12_told 107 = .ok (.iaload, 1) := by decide +kernel
theorem dX12_told_108 : decode cX12_told 108 = .ok (.ireturn, 1) := by decide +kernel
theorem dX12_told_109 : decode cX12_told 109 = .ok (.aload_n 0, 1) := by decide +kernel
theorem dX12_told_110 : decode cX12_told 110 = .ok (.getfield 19, 3) := by decide +kernel
theorem dX12_told_113 : decode cX12_told 113 = .ok (.iload_n 1, 1) := by decide +kernel
theorem dX12_told_114 : decode cX12_told 114 = .ok (.iaload, 1) := by decide +kernel
theorem dX12_told_115 : decode cX12_told 115 = .ok (.ireturn, 1) := by decide +kernel
theorem dX12_told_116 : decode cX12_told 116 = .ok (.aload_n 0, 1) := by decide +kernel
theorem dX12_told_117 : decode cX12_told 117 = .ok (.getfield 22, 3) := by decide +kernel
theorem dX12_told_120 : decode cX12_told 120 = .ok (.iload_n 1, 1) := by decide +kernel
theorem dX12_told_121 : decode cX12_told 121 = .ok (.iaload, 1) := by decide +kernel
theorem dX12_told_122 : decode cX12_told 122 = .ok (.ireturn, 1) := by decide +kernel
theorem dX12_told_123 : decode cX12_told 123 = .ok (.aload_n 0, 1) := by decide +kernel
theorem dX12_told_124 : decode cX12_told 124 = .ok (.getfield 25, 3) := by decide +kernel
theorem dX12_told_127 : decode cX12_told 127 = .ok (.iload_n 1, 1) := by decide +kernel
theorem dX12_told_128 : decode cX12_told 128 = .ok (.iaload, 1) := by decide +kernel
theorem dX12_told_129 : decode cX12_told 129 = .ok (.ireturn, 1) := by decide +kernel
theorem dX12_told_130 : decode cX12_told 130 = .ok (.aload_n 0, 1) := by decide +kernel
theorem dX12_told_131 : decode cX12_told 131 = .ok (.getfield 28, 3) := by decide +kernel
theorem dX12_told_134 : decode cX12_told 134 = .ok (.iload_n 1, 1) := by decide +kernel
theorem dX12_told_135 : decode cX12_told 135 = .ok (.iaload, 1) := by decide +kernel
theorem dX12_told_136 : decode cX12_told 136 = .ok (.ireturn, 1) := by decide +kernel
theorem dX12_told_137 : decode cX12_told 137 = .ok (.aload_n 0, 1) := by decide +kernel
theorem dX12_told_138 : decode cX12_told 138 = .ok (.getfield 31, 3) := by decide +kernel
theorem dX12_told_141 : decode cX12_told 141 = .ok (.iload_n 1, 1) := by decide +kernel
theorem dX12_told_142 : decode cX12_told 142 = .ok (.iaload, 1) := by decide +kernel
theorem dX12_told_143 : decode cX12_told 143 = .ok (.ireturn, 1) := by decide +kernel
theorem dX12_told_144 : decode cX12_told 144 = .ok (.aload_n 0, 1) := by decide +kernel
theorem dX12_told_145 : decode cX12_told 145 = .ok (.getfield 34, 3) := by decide +kernel
theorem dX12_told_148 : decode cX12_told 148 = .ok (.iload_n 1, 1) := by decide +kernel
theorem dX12_told_149 : decode cX12_told 149 = .ok (.iaload, 1) := by decide +kernel
theorem dX12_told_150 : decode cX12_told 150 = .ok (.ireturn, 1) := by decide +kernel
theorem dX12_told_151 : decode cX12_told 151 = .ok (.aload_n 0, 1) := by decide +kernel
theorem dX12_told_152 : decode cX12_told 152 = .ok (.getfield 37, 3) := by decide +kernel
theorem dX12_told_155 : decode cX12_told 155 = .ok (.iload_n 1, 1) := by decide +kernel
theorem dX12_told_156 : decode cX12_told 156 = .ok (.iaload, 1) := by decide +kernel
theorem dX12_told_157 : decode cX12_told 157 = .ok (.ireturn, 1) := by decide +kernel
theorem dX12_told_158 : decode cX12_told 158 = .ok (.aload_n 0, 1) := by decide +kernel
theorem dX12_told_159 : decode cX12_told 159 = .ok (.getfield 40, 3) := by decide +kernel
theorem dX12_told_162 : decode cX12_told 162 = .ok (.iload_n 1, 1) := by decide +kernel
theorem dX12_told_163 : decode cX12_told 163 = .ok (.iaload, 1) := by decide +kernel
theorem dX12_told_164 : decode cX12_told 164 = .ok (.ireturn, 1) := by decide +kernel
theorem dX12_reel_0 : decode cX12_reel 0 = .ok (.aload_n 0, 1) := by decide +kernel
theorem dX12_reel_1 : decode cX12_reel 1 = .ok (.iconst 0, 1) := by decide +kernel
theorem dX12_reel_2 : decode cX12_reel 2 = .ok (.putfield 173, 3) := by decide +kernel
theorem dX12_reel_5 : decode cX12_reel 5 = .ok (.aload_n 0, 1) := by decide +kernel
theorem dX12_reel_6 : decode cX12_reel 6 = .ok (.iload_n 1, 1) := by decide +kernel
theorem dX12_reel_7 : decode cX12_reel 7 = .ok (.iconst 1, 1) := by decide +kernel
theorem dX12_reel_8 : decode cX12_reel 8 = .ok (.sipush 2000, 3) := by decide +kernel
theorem dX12_reel_11 : decode cX12_reel 11 = .ok (.invokestatic 176, 3) := by decide +kernel
theorem dX12_reel_14 : decode cX12_reel 14 = .ok (.ifCond .eq 14, 3) := by decide +kernel
theorem dX12_reel_17 : decode cX12_reel 17 = .ok (.iload_n 2, 1) := by decide +kernel
theorem dX12_reel_18 : decode cX12_reel 18 = .ok (.iconst 0, 1) := by decide +kernel
theorem dX12_reel_19 : decode cX12_reel 19 = .ok (.sipush 500, 3) := by decide +kernel
theorem dX12_reel_22 : decode cX12_reel 22 = .ok (.invokestatic 176, 3) := by decide +kernel
theorem dX12_reel_25 : decode cX12_reel 25 = .ok (.ifCond .ne 7, 3) := by decide +kernel
theorem dX12_reel_28 : decode cX12_reel 28 = .ok (.iconst 1, 1) := by decide +kernel
theorem dX12_reel_29 : decode cX12_reel 29 = .ok (.goto 4, 3) := by decide +kernel
theorem dX12_reel_32 : decode cX12_reel 32 = .ok (.iconst 0, 1) := by decide +kernel
theorem dX12_reel_33 : decode cX12_reel 33 = .ok (.iconst 1, 1) := by decide +kernel
theorem dX12_reel_34 : decode cX12_reel 34 = .ok (.invokevirtual 181, 3) := by decide +kernel
theorem dX12_reel_37 : decode cX12_reel 37 = .ok (.ifCond .eq 5, 3) := by decide +kernel
theorem dX12_reel_40 : decode cX12_reel 40 = .ok (.iconst 0, 1) := by decide +kernel
theorem dX12_reel_41 : decode cX12_reel 41 = .ok (.ireturn, 1) := by decide +kernel
theorem dX12_reel_42 : decode cX12_reel 42 = .ok (.aload_n 0, 1) := by decide +kernel
theorem dX12_reel_43 : decode cX12_reel 43 = .ok (.getfield 196, 3) := by decide +kernel
theorem dX12_reel_46 : decode cX12_reel 46 = .ok (.bipush 80, 2) := by decide +kernel
theorem dX12_reel_48 : decode cX12_reel 48 = .ok (.if_icmp .ne 5, 3) := by decide +kernel
theorem dX12_reel_51 : decode cX12_reel 51 = .ok (.iconst (-1), 1) := by decide +kernel
theorem dX12_reel_52 : decode cX12_reel 52 = .ok (.ireturn, 1) := by decide +kernel
theorem dX12_reel_53 : decode cX12_reel 53 = .ok (.aload_n 0, 1) := by decide +kernel
theorem dX12_reel_54 : decode cX12_reel 54 = .ok (.getfield 64, 3) := by decide +kernel
theorem dX12_reel_57 : decode cX12_reel 57 = .ok (.aload_n 0, 1) := by decide +kernel
theorem dX12_reel_58 : decode cX12_reel 58 = .ok (.getfield 196, 3) := by decide +kernel
theorem dX12_reel_61 : decode cX12_reel 61 = .ok (.iload_n 1, 1) := by decide +kernel
theorem dX12_reel_62 : decode cX12_reel 62 = .ok (.sipush 1000, 3) := by decide +kernel
theorem dX12_reel_65 : decode cX12_reel 65 = .ok (.iload_n 2, 1) := by decide +kernel
theorem dX12_reel_66 : decode cX12_reel 66 = .ok (.isub, 1) := by decide +kernel
theorem dX12_reel_67 : decode cX12_reel 67 = .ok (.imul, 1) := by decide +kernel
theorem dX12_reel_68 : decode cX12_reel 68 = .ok (.sipush 1000, 3) := by decide +kernel
theorem dX12_reel_71 : decode cX12_reel 71 = .ok (.idiv, 1) := by decide +kernel
theorem dX12_reel_72 : decode cX12_reel 72 = .ok (.iastore, 1) := by decide +kernel
theorem dX12_reel_73 : decode cX12_reel 73 = .ok (.aload_n 0, 1) := by decide +kernel
theorem dX12_reel_74 : decode cX12_reel 74 = .ok (.getfield 67, 3) := by decide +kernel
theorem dX12_reel_77 : decode cX12_reel 77 = .ok (.aload_n 0, 1) := by decide +kernel
theorem dX12_reel_78 : decode cX12_reel 78 = .ok (.getfield 196, 3) := by decide +kernel
theorem dX12_reel_81 : decode cX12_reel 81 = .ok (.iconst (-1), 1) := by decide +kernel
theorem dX12_reel_82 : decode cX12_reel 82 = .ok (.iastore, 1) := by decide +kernel
theorem dX12_reel_83 : decode cX12_reel 83 = .ok (.aload_n 0, 1) := by decide +kernel
theorem dX12_reel_84 : decode cX12_reel 84 = .ok (.dup, 1) := by decide +kernel
theorem dX12_reel_85 : decode cX12_reel 85 = .ok (.getfield 196, 3) := by decide +kernel
theorem dX12_reel_88 : decode cX12_reel 88 = .ok (.iconst 1, 1) := by decide +kernel
theorem dX12_reel_89 : decode cX12_reel 89 = .ok (.iadd, 1) := by decide +kernel
theorem dX12_reel_90 : decode cX12_reel 90 = .ok (.putfield 196, 3) := by decide +kernel
theorem dX12_reel_93 : decode cX12_reel 93 = .ok (.aload_n 0, 1) := by decide +kernel
theorem dX12_reel_94 : decode cX12_reel 94 = .ok (.getfield 196, 3) := by decide +kernel
theorem dX12_reel_97 : decode cX12_reel 97 = .ok (.iconst 1, 1) := by decide +kernel
theorem dX12_reel_98 : decode cX12_reel 98 = .ok (.isub, 1) := by decide +kernel
theorem dX12_reel_99 : decode cX12_reel 99 = .ok (.ireturn, 1) := by decide +kernel
theorem dX12_isReel_0 : decode cX12_isReel 0 = .ok (.aload_n 0, 1) := by decide +kernel
theorem dX12_isReel_1 : decode cX12_isReel 1 = .ok (.iload_n 1, 1) := by decide +kernel
theorem dX12_isReel_2 : decode cX12_isReel 2 = .ok (.iconst 0, 1) := by decide +kernel
theorem dX12_isReel_3 : decode cX12_isReel 3 = .ok (.aload_n 0, 1) := by decide +kernel
theorem dX12_isReel_4 : decode cX12_isReel 4 = .ok (.getfield 196, 3) := by decide +kernel
theorem dX12_isReel_7 : decode cX12_isReel 7 = .ok (.iconst 1, 1) := by decide +kernel
theorem dX12_isReel_8 : decode cX12_isReel 8 = .ok (.isub, 1) := by decide +kernel
theorem dX12_isReel_9 : decode cX12_isReel 9 = .ok (.invokestatic 176, 3) := by decide +kernel
theorem dX12_isReel_12 : decode cX12_isReel 12 = .ok (.ifCond .eq 7, 3) := by decide +kernel
theorem dX12_isReel_15 : decode cX12_isReel 15 = .ok (.iconst 0, 1) := by decide +kernel
theorem dX12_isReel_16 : decode cX12_isReel 16 = .ok (.goto 4, 3) := by decide +kernel
theorem dX12_isReel_19 : decode cX12_isReel 19 = .ok (.iconst 1, 1) := by decide +kernel
theorem dX12_isReel_20 : decode cX12_isReel 20 = .ok (.putfield 173, 3) := by decide +kernel
theorem dX12_isReel_23 : decode cX12_isReel 23 = .ok (.aload_n 0, 1) := by decide +kernel
theorem dX12_isReel_24 : decode cX12_isReel 24 = .ok (.getfield 173, 3) := by decide +kernel
theorem dX12_isReel_27 : decode cX12_isReel 27 = .ok (.ifCond .ne 7, 3) := by decide +kernel
theorem dX12_isReel_30 : decode cX12_isReel 30 = .ok (.iconst 1, 1) := by decide +kernel
theorem dX12_isReel_31 : decode cX12_isReel 31 = .ok (.goto 4, 3) := by decide +kernel
theorem dX12_isReel_34 : decode cX12_isReel 34 = .ok (.iconst 0, 1) := by decide +kernel
theorem dX12_isReel_35 : decode cX12_isReel 35 = .ok (.ireturn, 1) := by decide +kernel
theorem dX12_where_0 : decode cX12_where 0 = .ok (.aload_n 0, 1) := by decide +kernel
theorem dX12_where_1 : decode cX12_where 1 = .ok (.iload_n 1, 1) := by decide +kernel
theorem dX12_where_2 : decode cX12_where 2 = .ok (.invokevirtual 199, 3) := by decide +kernel
theorem dX12_where_5 : decode cX12_where 5 = .ok (.ifCond .eq 12, 3) := by decide +kernel
theorem dX12_where_8 : decode cX12_where 8 = .ok (.aload_n 0, 1) := by decide +kernel
theorem dX12_where_9 : decode cX12_where 9 = .ok (.getfield 67, 3) := by decide +kernel
theorem dX12_where_12 : decode cX12_where 12 = .ok (.iload_n 1, 1) := by decide +kernel
theorem dX12_where_13 : decode cX12_where 13 = .ok (.iaload, 1) := by decide +kernel
theorem dX12_where_14 : decode cX12_where 14 = .ok (.goto 4, 3) := by decide +kernel
theorem dX12_where_17 : decode cX12_where 17 = .ok (.iconst 0, 1) := by decide +kernel
theorem dX12_where_18 : decode cX12_where 18 = .ok (.ireturn, 1) := by decide +kernel
theorem dX12_steal_0 : decode cX12_steal 0 = .ok (.aload_n 0, 1) := by decide +kernel
theorem dX12_steal_1 : decode cX12_steal 1 = .ok (.iload_n 1, 1) := by decide +kernel
theorem dX12_steal_2 : decode cX12_steal 2 = .ok (.invokevirtual 199, 3) := by decide +kernel
theorem dX12_steal_5 : decode cX12_steal 5 = .ok (.ifCond .ne 5, 3) := by decide +kernel
theorem dX12_steal_8 : decode cX12_steal 8 = .ok (.iconst 0, 1) := by decide +kernel
theorem dX12_steal_9 : decode cX12_steal 9 = .ok (.ireturn, 1) := by decide +kernel
theorem dX12_steal_10 : decode cX12_steal 10 = .ok (.aload_n 0, 1) := by decide +kernel
theorem dX12_steal_11 : decode cX12_steal 11 = .ok (.getfield 67, 3) := by decide +kernel
theorem dX12_steal_14 : decode cX12_steal 14 = .ok (.iload_n 1, 1) := by decide +kernel
theorem dX12_steal_15 : decode cX12_steal 15 = .ok (.iaload, 1) := by decide +kernel
theorem dX12_steal_16 : decode cX12_steal 16 = .ok (.istore_n 2, 1) := by decide +kernel
theorem dX12_steal_17 : decode cX12_steal 17 = .ok (.iload_n 2, 1) := by decide +kernel
theorem dX12_steal_18 : decode cX12_steal 18 = .ok (.bipush (-2), 2) := by decide +kernel
theorem dX12_steal_20 : decode cX12_steal 20 = .ok (.if_icmp .ne 6, 3) := by decide +kernel
theorem dX12_steal_23 : decode cX12_steal 23 = .ok (.bipush (-3), 2) := by decide +kernel
theorem dX12_steal_25 : decode cX12_steal 25 = .ok (.ireturn, 1) := by decide +kernel
theorem dX12_steal_26 : decode cX12_steal 26 = .ok (.iload_n 2, 1) := by decide +kernel
theorem dX12_steal_27 : decode cX12_steal 27 = .ok (.ifCond .lt 41, 3) := by decide +kernel
theorem dX12_steal_30 : decode cX12_steal 30 = .ok (.aload_n 0, 1) := by decide +kernel
theorem dX12_steal_31 : decode cX12_steal 31 = .ok (.getfield 31, 3) := by decide +kernel
theorem dX12_steal_34 : decode cX12_steal 34 = .ok (.iload_n 2, 1) := by decide +kernel
theorem dX12_steal_35 : decode cX12_steal 35 = .ok (.aload_n 0, 1) := by decide +kernel
theorem dX12_steal_36 : decode cX12_steal 36 = .ok (.getfield 31, 3) := by decide +kernel
theorem dX12_steal_39 : decode cX12_steal 39 = .ok (.iload_n 2, 1) := by decide +kernel
theorem dX12_steal_40 : decode cX12_steal 40 = .ok (.iaload, 1) := by decide +kernel
theorem dX12_steal_41 : decode cX12_steal 41 = .ok (.aload_n 0, 1) := by decide +kernel
theorem dX12_steal_42 : decode cX12_steal 42 = .ok (.getfield 64, 3) := by decide +kernel
theorem dX12_steal_45 : decode cX12_steal 45 = .ok (.iload_n 1, 1) := by decide +kernel
theorem dX12_steal_46 : decode cX12_steal 46 = .ok (.iaload, 1) := by decide +kernel
theorem dX12_steal_47 : decode cX12_steal 47 = .ok (.if_icmp .le 19, 3) := by decide +kernel
theorem dX12_steal_50 : decode cX12_steal 50 = .ok (.aload_n 0, 1) := by decide +kernel
theorem dX12_steal_51 : decode cX12_steal 51 = .ok (.getfield 31, 3) := by decide +kernel
theorem dX12_steal_54 : decode cX12_steal 54 = .ok (.iload_n 2, 1) := by decide +kernel
theorem dX12_steal_55 : decode cX12_steal 55 = .ok (.iaload, 1) := by decide +kernel
theorem dX12_steal_56 : decode cX12_steal 56 = .ok (.aload_n 0, 1) := by decide +kernel
theorem dX12_steal_57 : decode cX12_steal 57 = .ok (.getfield 64, 3) := by decide +kernel
theorem dX12_steal_60 : decode cX12_steal 60 = .ok (.iload_n 1, 1) := by decide +kernel
theorem dX12_steal_61 : decode cX12_steal 61 = .ok (.iaload, 1) := by decide +kernel
theorem dX12_steal_62 : decode cX12_steal 62 = .ok (.isub, 1) := by decide +kernel
theorem dX12_steal_63 : decode cX12_steal 63 = .ok (.goto 4, 3) := by decide +kernel
theorem dX12_steal_66 : decode cX12_steal 66 = .ok (.iconst 0, 1) := by decide +kernel
theorem dX12_steal_67 : decode cX12_steal 67 = .ok (.iastore, 1) := by decide +kernel
theorem dX12_steal_68 : decode cX12_steal 68 = .ok (.aload_n 0, 1) := by decide +kernel
theorem dX12_steal_69 : decode cX12_steal 69 = .ok (.getfield 67, 3) := by decide +kernel
theorem dX12_steal_72 : decode cX12_steal 72 = .ok (.iload_n 1, 1) := by decide +kernel
theorem dX12_steal_73 : decode cX12_steal 73 = .ok (.bipush (-2), 2) := by decide +kernel
theorem dX12_steal_75 : decode cX12_steal 75 = .ok (.iastore, 1) := by decide +kernel
theorem dX12_steal_76 : decode cX12_steal 76 = .ok (.iload_n 2, 1) := by decide +kernel
theorem dX12_steal_77 : decode cX12_steal 77 = .ok (.ireturn, 1) := by decide +kernel
theorem dX12_find_0 : decode cX12_find 0 = .ok (.aload_n 0, 1) := by decide +kernel
theorem dX12_find_1 : decode cX12_find 1 = .ok (.iload_n 1, 1) := by decide +kernel
theorem dX12_find_2 : decode cX12_find 2 = .ok (.invokevirtual 199, 3) := by decide +kernel
theorem dX12_find_5 : decode cX12_find 5 = .ok (.ifCond .ne 5, 3) := by decide +kernel
theorem dX12_find_8 : decode cX12_find 8 = .ok (.iconst 0, 1) := by decide +kernel
theorem dX12_find_9 : decode cX12_find 9 = .ok (.ireturn, 1) := by decide +kernel
theorem dX12_find_10 : decode cX12_find 10 = .ok (.aload_n 0, 1) := by decide +kernel
theorem dX12_find_11 : decode cX12_find 11 = .ok (.getfield 67, 3) := by decide +kernel
theorem dX12_find_14 : decode cX12_find 14 = .ok (.iload_n 1, 1) := by decide +kernel
theorem dX12_find_15 : decode cX12_find 15 = .ok (.iaload, 1) := by decide +kernel
theorem dX12_find_16 : decode cX12_find 16 = .ok (.bipush (-2), 2) := by decide +kernel
theorem dX12_find_18 : decode cX12_find 18 = .ok (.if_icmp .eq 5, 3) := by decide +kernel
theorem dX12_find_21 : decode cX12_find 21 = .ok (.iconst (-1), 1) := by decide +kernel
theorem dX12_find_22 : decode cX12_find 22 = .ok (.ireturn, 1) := by decide +kernel
theorem dX12_find_23 : decode cX12_find 23 = .ok (.aload_n 0, 1) := by decide +kernel
theorem dX12_find_24 : decode cX12_find 24 = .ok (.getfield 67, 3) := by decide +kernel
theorem dX12_find_27 : decode cX12_find 27 = .ok (.iload_n 1, 1) := by decide +kernel
theorem dX12_find_28 : decode cX12_find 28 = .ok (.iconst (-1), 1) := by decide +kernel
theorem dX12_find_29 : decode cX12_find 29 = .ok (.iastore, 1) := by decide +kernel
theorem dX12_find_30 : decode cX12_find 30 = .ok (.aload_n 0, 1) := by decide +kernel
theorem dX12_find_31 : decode cX12_find 31 = .ok (.getfield 64, 3) := by decide +kernel
theorem dX12_find_34 : decode cX12_find 34 = .ok (.iload_n 1, 1) := by decide +kernel
theorem dX12_find_35 : decode cX12_find 35 = .ok (.iaload, 1) := by decide +kernel
theorem dX12_find_36 : decode cX12_find 36 = .ok (.ireturn, 1) := by decide +kernel
theorem dX12_pool_0 : decode cX12_pool 0 = .ok (.iconst 0, 1) := by decide +kernel
theorem dX12_pool_1 : decode cX12_pool 1 = .ok (.istore_n 1, 1) := by decide +kernel
theorem dX12_pool_2 : decode cX12_pool 2 = .ok (.iconst 0, 1) := by decide +kernel
theorem dX12_pool_3 : decode cX12_pool 3 = .ok (.istore_n 2, 1) := by decide +kernel
theorem dX12_pool_4 : decode cX12_pool 4 = .ok (.iload_n 2, 1) := by decide +kernel
theorem dX12_pool_5 : decode cX12_pool 5 = .ok (.aload_n 0, 1) := by decide +kernel
theorem dX12_pool_6 : decode cX12_pool 6 = .ok (.getfield 196, 3) := by decide +kernel
theorem dX12_pool_9 : decode cX12_pool 9 = .ok (.if_icmp .ge 32, 3) := by decide +kernel
theorem dX12_pool_12 : decode cX12_pool 12 = .ok (.iload_n 1, 1) := by decide +kernel
theorem dX12_pool_13 : decode cX12_pool 13 = .ok (.aload_n 0, 1) := by decide +kernel
theorem dX12_pool_14 : decode cX12_pool 14 = .ok (.getfield 67, 3) := by decide +kernel
theorem dX12_pool_17 : decode cX12_pool 17 = .ok (.iload_n 2, 1) := by decide +kernel
theorem dX12_pool_18 : decode cX12_pool 18 = .ok (.iaload, 1) := by decide +kernel
theorem dX12_pool_19 : decode cX12_pool 19 = .ok (.iconst (-1), 1) := by decide +kernel
theorem dX12_pool_20 : decode cX12_pool 20 = .ok (.if_icmp .ne 12, 3) := by decide +kernel
theorem dX12_pool_23 : decode cX12_pool 23 = .ok (.aload_n 0, 1) := by decide +kernel
theorem dX12_pool_24 : decode cX12_pool 24 = .ok (.getfield 64, 3) := by decide +kernel
theorem dX12_pool_27 : decode cX12_pool 27 = .ok (.iload_n 2, 1) := by decide +kernel
theorem dX12_pool_28 : decode cX12_pool 28 = .ok (.iaload, 1) := by decide +kernel
theorem dX12_pool_29 : decode cX12_pool 29 = .ok (.goto 4, 3) := by decide +kernel
theorem dX12_pool_32 : decode cX12_pool 32 = .ok (.iconst 0, 1) := by decide +kernel
theorem dX12_pool_33 : decode cX12_pool 33 = .ok (.iadd, 1) := by decide +kernel
theorem dX12_pool_34 : decode cX12_pool 34 = .ok (.istore_n 1, 1) := by decide +kernel
theorem dX12_pool_35 : decode cX12_pool 35 = .ok (.iinc 2 1, 3) := by decide +kernel
theorem dX12_pool_38 : decode cX12_pool 38 = .ok (.goto (-34), 3) := by decide +kernel
theorem dX12_pool_41 : decode cX12_pool 41 = .ok (.iload_n 1, 1) := by decide +kernel
theorem dX12_pool_42 : decode cX12_pool 42 = .ok (.ireturn, 1) := by decide +kernel
theorem dX12_ward_0 : decode cX12_ward 0 = .ok (.aload_n 0, 1) := by decide +kernel
theorem dX12_ward_1 : decode cX12_ward 1 = .ok (.iconst 0, 1) := by decide +kernel
theorem dX12_ward_2 : decode cX12_ward 2 = .ok (.putfield 173, 3) := by decide +kernel
theorem dX12_ward_5 : decode cX12_ward 5 = .ok (.aload_n 0, 1) := by decide +kernel
theorem dX12_ward_6 : decode cX12_ward 6 = .ok (.iload_n 1, 1) := by decide +kernel
theorem dX12_ward_7 : decode cX12_ward 7 = .ok (.iconst 0, 1) := by decide +kernel
theorem dX12_ward_8 : decode cX12_ward 8 = .ok (.sipush 1000, 3) := by decide +kernel
theorem dX12_ward_11 : decode cX12_ward 11 = .ok (.invokestatic 176, 3) := by decide +kernel
theorem dX12_ward_14 : decode cX12_ward 14 = .ok (.ifCond .ne 7, 3) := by decide +kernel
theorem dX12_ward_17 : decode cX12_ward 17 = .ok (.iconst 1, 1) := by decide +kernel
theorem dX12_ward_18 : decode cX12_ward 18 = .ok (.goto 4, 3) := by decide +kernel
theorem dX12_ward_21 : decode cX12_ward 21 = .ok (.iconst 0, 1) := by decide +kernel
theorem dX12_ward_22 : decode cX12_ward 22 = .ok (.iconst 1, 1) := by decide +kernel
theorem dX12_ward_23 : decode cX12_ward 23 = .ok (.invokevirtual 181, 3) := by decide +kernel
theorem dX12_ward_26 : decode cX12_ward 26 = .ok (.ifCond .eq 5, 3) := by decide +kernel
theorem dX12_ward_29 : decode cX12_ward 29 = .ok (.iconst 0, 1) := by decide +kernel
theorem dX12_ward_30 : decode cX12_ward 30 = .ok (.ireturn, 1) := by decide +kernel
theorem dX12_ward_31 : decode cX12_ward 31 = .ok (.aload_n 0, 1) := by decide +kernel
theorem dX12_ward_32 : decode cX12_ward 32 = .ok (.getfield 202, 3) := by decide +kernel
theorem dX12_ward_35 : decode cX12_ward 35 = .ok (.iconst 5, 1) := by decide +kernel
theorem dX12_ward_36 : decode cX12_ward 36 = .ok (.if_icmp .ne 5, 3) := by decide +kernel
theorem dX12_ward_39 : decode cX12_ward 39 = .ok (.iconst (-1), 1) := by decide +kernel
theorem dX12_ward_40 : decode cX12_ward 40 = .ok (.ireturn, 1) := by decide +kernel
theorem dX12_ward_41 : decode cX12_ward 41 = .ok (.aload_n 0, 1) := by decide +kernel
theorem dX12_ward_42 : decode cX12_ward 42 = .ok (.getfield 70, 3) := by decide +kernel
theorem dX12_ward_45 : decode cX12_ward 45 = .ok (.aload_n 0, 1) := by decide +kernel
theorem dX12_ward_46 : decode cX12_ward 46 = .ok (.getfield 202, 3) := by decide +kernel
theorem dX12_ward_49 : decode cX12_ward 49 = .ok (.iload_n 1, 1) := by decide +kernel
theorem dX12_ward_50 : decode cX12_ward 50 = .ok (.iastore, 1) := by decide +kernel
theorem dX12_ward_51 : decode cX12_ward 51 = .ok (.aload_n 0, 1) := by decide +kernel
theorem dX12_ward_52 : decode cX12_ward 52 = .ok (.dup, 1) := by decide +kernel
theorem dX12_ward_53 : decode cX12_ward 53 = .ok (.getfield 202, 3) := by decide +kernel
theorem dX12_ward_56 : decode cX12_ward 56 = .ok (.iconst 1, 1) := by decide +kernel
theorem dX12_ward_57 : decode cX12_ward 57 = .ok (.iadd, 1) := by decide +kernel
theorem dX12_ward_58 : decode cX12_ward 58 = .ok (.putfield 202, 3) := by decide +kernel
theorem dX12_ward_61 : decode cX12_ward 61 = .ok (.aload_n 0, 1) := by decide +kernel
theorem dX12_ward_62 : decode cX12_ward 62 = .ok (.getfield 202, 3) := by decide +kernel
theorem dX12_ward_65 : decode cX12_ward 65 = .ok (.iconst 1, 1) := by decide +kernel
theorem dX12_ward_66 : decode cX12_ward 66 = .ok (.isub, 1) := by decide +kernel
theorem dX12_ward_67 : decode cX12_ward 67 = .ok (.ireturn, 1) := by decide +kernel
theorem dX12_loyal_0 : decode cX12_loyal 0 = .ok (.aload_n 0, 1) := by decide +kernel
theorem dX12_loyal_1 : decode cX12_loyal 1 = .ok (.iconst 0, 1) := by decide +kernel
theorem dX12_loyal_2 : decode cX12_loyal 2 = .ok (.putfield 173, 3) := by decide +kernel
theorem dX12_loyal_5 : decode cX12_loyal 5 = .ok (.aload_n 0, 1) := by decide +kernel
theorem dX12_loyal_6 : decode cX12_loyal 6 = .ok (.iload_n 1, 1) := by decide +kernel
theorem dX12_loyal_7 : decode cX12_loyal 7 = .ok (.iconst 0, 1) := by decide +kernel
theorem dX12_loyal_8 : decode cX12_loyal 8 = .ok (.aload_n 0, 1) := by decide +kernel
theorem dX12_loyal_9 : decode cX12_loyal 9 = .ok (.getfield 202, 3) := by decide +kernel
theorem dX12_loyal_12 : decode cX12_loyal 12 = .ok (.iconst 1, 1) := by decide +kernel
theorem dX12_loyal_13 : decode cX12_loyal 13 = .ok (.isub, 1) := by decide +kernel
theorem dX12_loyal_14 : decode cX12_loyal 14 = .ok (.invokestatic 176, 3) := by decide +kernel
theorem dX12_loyal_17 : decode cX12_loyal 17 = .ok (.ifCond .eq 17, 3) := by decide +kernel
theorem dX12_loyal_20 : decode cX12_loyal 20 = .ok (.iload_n 2, 1) := by decide +kernel
theorem dX12_loyal_21 : decode cX12_loyal 21 = .ok (.iconst 0, 1) := by decide +kernel
theorem dX12_loyal_22 : decode cX12_loyal 22 = .ok (.aload_n 0, 1) := by decide +kernel
theorem dX12_loyal_23 : decode cX12_loyal 23 = .ok (.getfield 185, 3) := by decide +kernel
theorem dX12_loyal_26 : decode cX12_loyal 26 = .ok (.iconst 1, 1) := by decide +kernel
theorem dX12_loyal_27 : decode cX12_loyal 27 = .ok (.isub, 1) := by decide +kernel
theorem dX12_loyal_28 : decode cX12_loyal 28 = .ok (.invokestatic 176, 3) := by decide +kernel
theorem dX12_loyal_31 : decode cX12_loyal 31 = .ok (.ifCond .ne 7, 3) := by decide +kernel
theorem dX12_loyal_34 : decode cX12_loyal 34 = .ok (.iconst 1, 1) := by decide +kernel
theorem dX12_loyal_35 : decode cX12_loyal 35 = .ok (.goto 4, 3) := by decide +kernel
theorem dX12_loyal_38 : decode cX12_loyal 38 = .ok (.iconst 0, 1) := by decide +kernel
theorem dX12_loyal_39 : decode cX12_loyal 39 = .ok (.iconst 1, 1) := by decide +kernel
theorem dX12_loyal_40 : decode cX12_loyal 40 = .ok (.invokevirtual 181, 3) := by decide +kernel
theorem dX12_loyal_43 : decode cX12_loyal 43 = .ok (.ifCond .ne 26, 3) := by decide +kernel
theorem dX12_loyal_46 : decode cX12_loyal 46 = .ok (.aload_n 0, 1) := by decide +kernel
theorem dX12_loyal_47 : decode cX12_loyal 47 = .ok (.iload_n 3, 1) := by decide +kernel
theorem dX12_loyal_48 : decode cX12_loyal 48 = .ok (.iconst 0, 1) := by decide +kernel
theorem dX12_loyal_49 : decode cX12_loyal 49 = .ok (.bipush 100, 2) := by decide +kernel
theorem dX12_loyal_51 : decode cX12_loyal 51 = .ok (.invokestatic 176, 3) := by decide +kernel
theorem dX12_loyal_54 : decode cX12_loyal 54 = .ok (.ifCond .ne 7, 3) := by decide +kernel
theorem dX12_loyal_57 : decode cX12_loyal 57 = .ok (.iconst 1, 1) := by decide +kernel
theorem dX12_loyal_58 : decode cX12_loyal 58 = .ok (.goto 4, 3) := by decide +kernel
theorem dX12_loyal_61 : decode cX12_loyal 61 = .ok (.iconst 0, 1) := by decide +kernel
theorem dX12_loyal_62 : decode cX12_loyal 62 = .ok (.iconst 2, 1) := by decide +kernel
theorem dX12_loyal_63 : decode cX12_loyal 63 = .ok (.invokevirtual 181, 3) := by decide +kernel
theorem dX12_loyal_66 : decode cX12_loyal 66 = .ok (.ifCond .eq 5, 3) := by decide +kernel
theorem dX12_loyal_69 : decode cX12_loyal 69 = .ok (.iconst 0, 1) := by decide +kernel
theorem dX12_loyal_70 : decode cX12_loyal 70 = .ok (.ireturn, 1) := by decide +kernel
theorem dX12_loyal_71 : decode cX12_loyal 71 = .ok (.aload_n 0, 1) := by decide +kernel
theorem dX12_loyal_72 : decode cX12_loyal 72 = .ok (.getfield 73, 3) := by decide +kernel
theorem dX12_loyal_75 : decode cX12_loyal 75 = .ok (.bipush 12, 2) := by decide +kernel
theorem dX12_loyal_77 : decode cX12_loyal 77 = .ok (.iload_n 1, 1) := by decide +kernel
theorem dX12_loyal_78 : decode cX12_loyal 78 = .ok (.imul, 1) := by decide +kernel
theorem dX12_loyal_79 : decode cX12_loyal 79 = .ok (.iload_n 2, 1) := by decide +kernel
theorem dX12_loyal_80 : decode cX12_loyal 80 = .ok (.iadd, 1) := by decide +kernel
theorem dX12_loyal_81 : decode cX12_loyal 81 = .ok (.iaload, 1) := by decide +kernel
theorem dX12_loyal_82 : decode cX12_loyal 82 = .ok (.istore 4, 2) := by decide +kernel
theorem dX12_loyal_84 : decode cX12_loyal 84 = .ok (.aload_n 0, 1) := by decide +kernel
theorem dX12_loyal_85 : decode cX12_loyal 85 = .ok (.getfield 73, 3) := by decide +kernel
theorem dX12_loyal_88 : decode cX12_loyal 88 = .ok (.bipush 12, 2) := by decide +kernel
theorem dX12_loyal_90 : decode cX12_loyal 90 = .ok (.iload_n 1, 1) := by decide +kernel
theorem dX12_loyal_91 : decode cX12_loyal 91 = .ok (.imul, 1) := by decide +kernel
theorem dX12_loyal_92 : decode cX12_loyal 92 = .ok (.iload_n 2, 1) := by decide +kernel
theorem dX12_loyal_93 : decode cX12_loyal 93 = .ok (.iadd, 1) := by decide +kernel
theorem dX12_loyal_94 : decode cX12_loyal 94 = .ok (.iload_n 3, 1) := by decide +kernel
theorem dX12_loyal_95 : decode cX12_loyal 95 = .ok (.iastore, 1) := by decide +kernel
theorem dX12_loyal_96 : decode cX12_loyal 96 = .ok (.iload 4, 2) := by decide +kernel
theorem dX12_loyal_98 : decode cX12_loyal 98 = .ok (.ireturn, 1) := by decide +kernel
theorem dX12_demandOf_0 : decode cX12_demandOf 0 = .ok (.iconst 0, 1) := by decide +kernel
theorem dX12_demandOf_1 : decode cX12_demandOf 1 = .ok (.istore_n 3, 1) := by decide +kernel
theorem dX12_demandOf_2 : decode cX12_demandOf 2 = .ok (.iconst 0, 1) := by decide +kernel
theorem dX12_demandOf_3 : decode cX12_demandOf 3 = .ok (.istore 4, 2) := by decide +kernel
theorem dX12_demandOf_5 : decode cX12_demandOf 5 = .ok (.iload 4, 2) := by decide +kernel
theorem dX12_demandOf_7 : decode cX12_demandOf 7 = .ok (.aload_n 0, 1) := by decide +kernel
theorem dX12_demandOf_8 : decode cX12_demandOf 8 = .ok (.getfield 202, 3) := by decide +kernel
theorem dX12_demandOf_11 : decode cX12_demandOf 11 = .ok (.if_icmp .ge 41, 3) := by decide +kernel
theorem dX12_demandOf_14 : decode cX12_demandOf 14 = .ok (.iload_n 3, 1) := by decide +kernel
theorem dX12_demandOf_15 : decode cX12_demandOf 15 = .ok (.aload_n 0, 1) := by decide +kernel
theorem dX12_demandOf_16 : decode cX12_demandOf 16 = .ok (.getfield 70, 3) := by decide +kernel
theorem dX12_demandOf_19 : decode cX12_demandOf 19 = .ok (.iload 4, 2) := by decide +kernel
theorem dX12_demandOf_21 : decode cX12_demandOf 21 = .ok (.iaload, 1) := by decide +kernel
theorem dX12_demandOf_22 : decode cX12_demandOf 22 = .ok (.aload_n 0, 1) := by decide +kernel
theorem dX12_demandOf_23 : decode cX12_demandOf 23 = .ok (.getfield 73, 3) := by decide +kernel
theorem dX12_demandOf_26 : decode cX12_demandOf 26 = .ok (.bipush 12, 2) := by decide +kernel
theorem dX12_demandOf_28 : decode cX12_demandOf 28 = .ok (.iload 4, 2) := by decide +kernel
theorem dX12_demandOf_30 : decode cX12_demandOf 30 = .ok (.imul, 1) := by decide +kernel
theorem dX12_demandOf_31 : decode cX12_demandOf 31 = .ok (.iload_n 1, 1) := by decide +kernel
theorem dX12_demandOf_32 : decode cX12_demandOf 32 = .ok (.iadd, 1) := by decide +kernel
theorem dX12_demandOf_33 : decode cX12_demandOf 33 = .ok (.iaload, 1) := by decide +kernel
theorem dX12_demandOf_34 : decode cX12_demandOf 34 = .ok (.imul, 1) := by decide +kernel
theorem dX12_demandOf_35 : decode cX12_demandOf 35 = .ok (.bipush 100, 2) := by decide +kernel
theorem dX12_demandOf_37 : decode cX12_demandOf 37 = .ok (.iload_n 2, 1) := by decide +kernel
theorem dX12_demandOf_38 : decode cX12_demandOf 38 = .ok (.isub, 1) := by decide +kernel
theorem dX12_demandOf_39 : decode cX12_demandOf 39 = .ok (.imul, 1) := by decide +kernel
theorem dX12_demandOf_40 : decode cX12_demandOf 40 = .ok (.sipush 10000, 3) := by decide +kernel
theorem dX12_demandOf_43 : decode cX12_demandOf 43 = .ok (.idiv, 1) := by decide +kernel
theorem dX12_demandOf_44 : decode cX12_demandOf 44 = .ok (.iadd, 1) := by decide +kernel
theorem dX12_demandOf_45 : decode cX12_demandOf 45 = .ok (.istore_n 3, 1) := by decide +kernel
theorem dX12_demandOf_46 : decode cX12_demandOf 46 = .ok (.iinc 4 1, 3) := by decide +kernel
theorem dX12_demandOf_49 : decode cX12_demandOf 49 = .ok (.goto (-44), 3) := by decide +kernel
theorem dX12_demandOf_52 : decode cX12_demandOf 52 = .ok (.iload_n 3, 1) := by decide +kernel
theorem dX12_demandOf_53 : decode cX12_demandOf 53 = .ok (.ireturn, 1) := by decide +kernel
theorem dX12_demand_0 : decode cX12_demand 0 = .ok (.aload_n 0, 1) := by decide +kernel
theorem dX12_demand_1 : decode cX12_demand 1 = .ok (.iload_n 1, 1) := by decide +kernel
theorem dX12_demand_2 : decode cX12_demand 2 = .ok (.invokevirtual 188, 3) := by decide +kernel
theorem dX12_demand_5 : decode cX12_demand 5 = .ok (.ifCond .eq 26, 3) := by decide +kernel
theorem dX12_demand_8 : decode cX12_demand 8 = .ok (.aload_n 0, 1) := by decide +kernel
theorem dX12_demand_9 : decode cX12_demand 9 = .ok (.iload_n 2, 1) := by decide +kernel
theorem dX12_demand_10 : decode cX12_demand 10 = .ok (.iconst 1, 1) := by decide +kernel
theorem dX12_demand_11 : decode cX12_demand 11 = .ok (.bipush 100, 2) := by decide +kernel
theorem dX12_demand_13 : decode cX12_demand 13 = .ok (.invokestatic 176, 3) := by decide +kernel
theorem dX12_demand_16 : decode cX12_demand 16 = .ok (.ifCond .ne 7, 3) := by decide +kernel
theorem dX12_demand_19 : decode cX12_demand 19 = .ok (.iconst 1, 1) := by decide +kernel
theorem dX12_demand_20 : decode cX12_demand 20 = .ok (.goto 4, 3) := by decide +kernel
theorem dX12_demand_23 : decode cX12_demand 23 = .ok (.iconst 0, 1) := by decide +kernel
theorem dX12_demand_24 : decode cX12_demand 24 = .ok (.iconst 2, 1) := by decide +kernel
theorem dX12_demand_25 : decode cX12_demand 25 = .ok (.invokevirtual 181, 3) := by decide +kernel
theorem dX12_demand_28 : decode cX12_demand 28 = .ok (.ifCond .eq 7, 3) := by decide +kernel
theorem dX12_demand_31 : decode cX12_demand 31 = .ok (.iconst 0, 1) := by decide +kernel
theorem dX12_demand_32 : decode cX12_demand 32 = .ok (.goto 9, 3) := by decide +kernel
theorem dX12_demand_35 : decode cX12_demand 35 = .ok (.aload_n 0, 1) := by decide +kernel
theorem dX12_demand_36 : decode cX12_demand 36 = .ok (.iload_n 1, 1) := by decide +kernel
theorem dX12_demand_37 : decode cX12_demand 37 = .ok (.iload_n 2, 1) := by decide +kernel
theorem dX12_demand_38 : decode cX12_demand 38 = .ok (.invokevirtual 205, 3) := by decide +kernel
theorem dX12_demand_41 : decode cX12_demand 41 = .ok (.ireturn, 1) := by decide +kernel
theorem dX12_feed_0 : decode cX12_feed 0 = .ok (.aload_n 0, 1) := by decide +kernel
theorem dX12_feed_1 : decode cX12_feed 1 = .ok (.iconst 0, 1) := by decide +kernel
theorem dX12_feed_2 : decode cX12_feed 2 = .ok (.putfield 173, 3) := by decide +kernel
theorem dX12_feed_5 : decode cX12_feed 5 = .ok (.aload_n 0, 1) := by decide +kernel
theorem dX12_feed_6 : decode cX12_feed 6 = .ok (.getfield 209, 3) := by decide +kernel
theorem dX12_feed_9 : decode cX12_feed 9 = .ok (.bipush 20, 2) := by decide +kernel
theorem dX12_feed_11 : decode cX12_feed 11 = .ok (.iadd, 1) := by decide +kernel
theorem dX12_feed_12 : decode cX12_feed 12 = .ok (.sipush 300, 3) := by decide +kernel
theorem dX12_feed_15 : decode cX12_feed 15 = .ok (.if_icmp .le 5, 3) := by decide +kernel
theorem dX12_feed_18 : decode cX12_feed 18 = .ok (.iconst (-1), 1) := by decide +kernel
theorem dX12_feed_19 : decode cX12_feed 19 = .ok (.ireturn, 1) := by decide +kernel
theorem dX12_feed_20 : decode cX12_feed 20 = .ok (.iconst 0, 1) := by decide +kernel
theorem dX12_feed_21 : decode cX12_feed 21 = .ok (.istore 6, 2) := by decide +kernel
theorem dX12_feed_23 : decode cX12_feed 23 = .ok (.iload 6, 2) := by decide +kernel
theorem dX12_feed_25 : decode cX12_feed 25 = .ok (.iconst 5, 1) := by decide +kernel
theorem dX12_feed_26 : decode cX12_feed 26 = .ok (.if_icmp .ge 93, 3) := by decide +kernel
theorem dX12_feed_29 : decode cX12_feed 29 = .ok (.iload 6, 2) := by decide +kernel
theorem dX12_feed_31 : decode cX12_feed 31 = .ok (.ifCond .ne 7, 3) := by decide +kernel
theorem dX12_feed_34 : decode cX12_feed 34 = .ok (.iload_n 1, 1) := by decide +kernel
theorem dX12_feed_35 : decode cX12_feed 35 = .ok (.goto 36, 3) := by decide +kernel
theorem dX12_feed_38 : decode cX12_feed 38 = .ok (.iload 6, 2) := by decide +kernel
theorem dX12_feed_40 : decode cX12_feed 40 = .ok (.iconst 1, 1) := by decide +kernel
theorem dX12_feed_41 : decode cX12_feed 41 = .ok (.if_icmp .ne 7, 3) := by decide +kernel
theorem dX12_feed_44 : decode cX12_feed 44 = .ok (.iload_n 2, 1) := by decide +kernel
theorem dX12_feed_45 : decode cX12_feed 45 = .ok (.goto 26, 3) := by decide +kernel
theorem dX12_feed_48 : decode cX12_feed 48 = .ok (.iload 6, 2) := by decide +kernel
theorem dX12_feed_50 : decode cX12_feed 50 = .ok (.iconst 2, 1) := by decide +kernel
theorem dX12_feed_51 : decode cX12_feed 51 = .ok (.if_icmp .ne 7, 3) := by decide +kernel
theorem dX12_feed_54 : decode cX12_feed 54 = .ok (.iload_n 3, 1) := by decide +kernel
theorem dX12_feed_55 : decode cX12_feed 55 = .ok (.goto 16, 3) := by decide +kernel
theorem dX12_feed_58 : decode cX12_feed 58 = .ok (.iload 6, 2) := by decide +kernel
theorem dX12_feed_60 : decode cX12_feed 60 = .ok (.iconst 3, 1) := by decide +kernel
theorem dX12_feed_61 : decode cX12_feed 61 = .ok (.if_icmp .ne 8, 3) := by decide +kernel
theorem dX12_feed_64 : decode cX12_feed 64 = .ok (.iload 4, 2) := by decide +kernel
theorem dX12_feed_66 : decode cX12_feed 66 = .ok (.goto 5, 3) := by decide +kernel
theorem dX12_feed_69 : decode cX12_feed 69 = .ok (.iload 5, 2) := by decide +kernel
theorem dX12_feed_71 : decode cX12_feed 71 = .ok (.istore 7, 2) := by decide +kernel
theorem dX12_feed_73 : decode cX12_feed 73 = .ok (.bipush 24, 2) := by decide +kernel
theorem dX12_feed_75 : decode cX12_feed 75 = .ok (.istore 8, 2) := by decide +kernel
theorem dX12_feed_77 : decode cX12_feed 77 = .ok (.iload 8, 2) := by decide +kernel
theorem dX12_feed_79 : decode cX12_feed 79 = .ok (.ifCond .lt 34, 3) := by decide +kernel
theorem dX12_feed_82 : decode cX12_feed 82 = .ok (.aload_n 0, 1) := by decide +kernel
theorem dX12_feed_83 : decode cX12_feed 83 = .ok (.getfield 76, 3) := by decide +kernel
theorem dX12_feed_86 : decode cX12_feed 86 = .ok (.aload_n 0, 1) := by decide +kernel
theorem dX12_feed_87 : decode cX12_feed 87 = .ok (.getfield 209, 3) := by decide +kernel
theorem dX12_feed_90 : decode cX12_feed 90 = .ok (.iload 7, 2) := by decide +kernel
theorem dX12_feed_92 : decode cX12_feed 92 = .ok (.iload 8, 2) := by decide +kernel
theorem dX12_feed_94 : decode cX12_feed 94 = .ok (.ishr, 1) := by decide +kernel
theorem dX12_feed_95 : decode cX12_feed 95 = .ok (.i2b, 1) := by decide +kernel
theorem dX12_feed_96 : decode cX12_feed 96 = .ok (.bastore, 1) := by decide +kernel
theorem dX12_feed_97 : decode cX12_feed 97 = .ok (.aload_n 0, 1) := by decide +kernel
theorem dX12_feed_98 : decode cX12_feed 98 = .ok (.dup, 1) := by decide +kernel
theorem dX12_feed_99 : decode cX12_feed 99 = .ok (.getfield 209, 3) := by decide +kernel
theorem dX12_feed_102 : decode cX12_feed 102 = .ok (.iconst 1, 1) := by decide +kernel
theorem dX12_feed_103 : decode cX12_feed 103 = .ok (.iadd, 1) := by decide +kernel
theorem dX12_feed_104 : decode cX12_feed 104 = .ok (.putfield 209, 3) := by decide +kernel
theorem dX12_feed_107 : decode cX12_feed 107 = .ok (.iinc 8 (-8), 3) := by decide +kernel
theorem dX12_feed_110 : decode cX12_feed 110 = .ok (.goto (-33), 3) := by decide +kernel
theorem dX12_feed_113 : decode cX12_feed 113 = .ok (.iinc 6 1, 3) := by decide +kernel
theorem dX12_feed_116 : decode cX12_feed 116 = .ok (.goto (-93), 3) := by decide +kernel
theorem dX12_feed_119 : decode cX12_feed 119 = .ok (.aload_n 0, 1) := by decide +kernel
theorem dX12_feed_120 : decode cX12_feed 120 = .ok (.getfield 209, 3) := by decide +kernel
theorem dX12_feed_123 : decode cX12_feed 123 = .ok (.ireturn, 1) := by decide +kernel
theorem dX12_byteAt_0 : decode cX12_byteAt 0 = .ok (.iload_n 1, 1) := by decide +kernel
theorem dX12_byteAt_1 : decode cX12_byteAt 1 = .ok (.aload_n 0, 1) := by decide +kernel
theorem dX12_byteAt_2 : decode cX12_byteAt 2 = .ok (.getfield 212, 3) := by decide +kernel
theorem dX12_byteAt_5 : decode cX12_byteAt 5 = .ok (.if_icmp .ge 16, 3) := by decide +kernel
theorem dX12_byteAt_8 : decode cX12_byteAt 8 = .ok (.aload_n 0, 1) := by decide +kernel
theorem dX12_byteAt_9 : decode cX12_byteAt 9 = .ok (.getfield 76, 3) := by decide +kernel
theorem dX12_byteAt_12 : decode cX12_byteAt 12 = .ok (.iload_n 1, 1) := by decide +kernel
theorem dX12_byteAt_13 : decode cX12_byteAt 13 = .ok (.baload, 1) := by decide +kernel
theorem dX12_byteAt_14 : decode cX12_byteAt 14 = .ok (.sipush 255, 3) := by decide +kernel
theorem dX12_byteAt_17 : decode cX12_byteAt 17 = .ok (.iand, 1) := by decide +kernel
theorem dX12_byteAt_18 : decode cX12_byteAt 18 = .ok (.goto 4, 3) := by decide +kernel
theorem dX12_byteAt_21 : decode cX12_byteAt 21 = .ok (.iconst 0, 1) := by decide +kernel
theorem dX12_byteAt_22 : decode cX12_byteAt 22 = .ok (.ireturn, 1) := by decide +kernel
theorem dX12_blanks_0 : decode cX12_blanks 0 = .ok (.aload_n 0, 1) := by decide +kernel
theorem dX12_blanks_1 : decode cX12_blanks 1 = .ok (.getfield 215, 3) := by decide +kernel
theorem dX12_blanks_4 : decode cX12_blanks 4 = .ok (.aload_n 0, 1) := by decide +kernel
theorem dX12_blanks_5 : decode cX12_blanks 5 = .ok (.getfield 212, 3) := by decide +kernel
theorem dX12_blanks_8 : decode cX12_blanks 8 = .ok (.if_icmp .ge 29, 3) := by decide +kernel
theorem dX12_blanks_11 : decode cX12_blanks 11 = .ok (.aload_n 0, 1) := by decide +kernel
theorem dX12_blanks_12 : decode cX12_blanks 12 = .ok (.aload_n 0, 1) := by decide +kernel
theorem dX12_blanks_13 : decode cX12_blanks 13 = .ok (.getfield 215, 3) := by decide +kernel
theorem dX12_blanks_16 : decode cX12_blanks 16 = .ok (.invokevirtual 218, 3) := by decide +kernel
theorem dX12_blanks_19 : decode cX12_blanks 19 = .ok (.bipush 32, 2) := by decide +kernel
theorem dX12_blanks_21 : decode cX12_blanks 21 = .ok (.if_icmp .ne 16, 3) := by decide +kernel
theorem dX12_blanks_24 : decode cX12_blanks 24 = .ok (.aload_n 0, 1) := by decide +kernel
theorem dX12_blanks_25 : decode cX12_blanks 25 = .ok (.dup, 1) := by decide +kernel
theorem dX12_blanks_26 : decode cX12_blanks 26 = .ok (.getfield 215, 3) := by decide +kernel
theorem dX12_blanks_29 : decode cX12_blanks 29 = .ok (.iconst 1, 1) := by decide +kernel
theorem dX12_blanks_30 : decode cX12_blanks 30 = .ok (.iadd, 1) := by decide +kernel
theorem dX12_blanks_31 : decode cX12_blanks 31 = .ok (.putfield 215, 3) := by decide +kernel
theorem dX12_blanks_34 : decode cX12_blanks 34 = .ok (.goto (-34), 3) := by decide +kernel
theorem dX12_blanks_37 : decode cX12_blanks 37 = .ok (.return_, 1) := by decide +kernel
theorem dX12_isDigit_0 : decode cX12_isDigit 0 = .ok (.iload_n 0, 1) := by decide +kernel
theorem dX12_isDigit_1 : decode cX12_isDigit 1 = .ok (.bipush 48, 2) := by decide +kernel
theorem dX12_isDigit_3 : decode cX12_isDigit 3 = .ok (.if_icmp .lt 13, 3) := by decide +kernel
theorem dX12_isDigit_6 : decode cX12_isDigit 6 = .ok (.iload_n 0, 1) := by decide +kernel
theorem dX12_isDigit_7 : decode cX12_isDigit 7 = .ok (.bipush 57, 2) := by decide +kernel
theorem dX12_isDigit_9 : decode cX12_isDigit 9 = .ok (.if_icmp .gt 7, 3) := by decide +kernel
theorem dX12_isDigit_12 : decode cX12_isDigit 12 = .ok (.iconst 1, 1) := by decide +kernel
theorem dX12_isDigit_13 : decode cX12_isDigit 13 = .ok (.goto 4, 3) := by decide +kernel
theorem dX12_isDigit_16 : decode cX12_isDigit 16 = .ok (.iconst 0, 1) := by decide +kernel
theorem dX12_isDigit_17 : decode cX12_isDigit 17 = .ok (.ireturn, 1) := by decide +kernel
theorem dX12_wrong_0 : decode cX12_wrong 0 = .ok (.aload_n 0, 1) := by decide +kernel
theorem dX12_wrong_1 : decode cX12_wrong 1 = .ok (.getfield 222, 3) := by decide +kernel
theorem dX12_wrong_4 : decode cX12_wrong 4 = .ok (.ifCond .le 4, 3) := by decide +kernel
theorem dX12_wrong_7 : decode cX12_wrong 7 = .ok (.return_, 1) := by decide +kernel
theorem dX12_wrong_8 : decode cX12_wrong 8 = .ok (.aload_n 0, 1) := by decide +kernel
theorem dX12_wrong_9 : decode cX12_wrong 9 = .ok (.iload_n 1, 1) := by decide +kernel
theorem dX12_wrong_10 : decode cX12_wrong 10 = .ok (.putfield 222, 3) := by decide +kernel
theorem dX12_wrong_13 : decode cX12_wrong 13 = .ok (.aload_n 0, 1) := by decide +kernel
theorem dX12_wrong_14 : decode cX12_wrong 14 = .ok (.iload_n 2, 1) := by decide +kernel
theorem dX12_wrong_15 : decode cX12_wrong 15 = .ok (.putfield 80, 3) := by decide +kernel
theorem dX12_wrong_18 : decode cX12_wrong 18 = .ok (.return_, 1) := by decide +kernel
theorem dX12_isWord_0 : decode cX12_isWord 0 = .ok (.aload_n 0, 1) := by decide +kernel
theorem dX12_isWord_1 : decode cX12_isWord 1 = .ok (.invokevirtual 225, 3) := by decide +kernel
theorem dX12_isWord_4 : decode cX12_isWord 4 = .ok (.iconst 0, 1) := by decide +kernel
theorem dX12_isWord_5 : decode cX12_isWord 5 = .ok (.istore_n 2, 1) := by decide +kernel
theorem dX12_isWord_6 : decode cX12_isWord 6 = .ok (.iload_n 2, 1) := by decide +kernel
theorem dX12_isWord_7 : decode cX12_isWord 7 = .ok (.aload_n 1, 1) := by decide +kernel
theorem dX12_isWord_8 : decode cX12_isWord 8 = .ok (.invokevirtual 228, 3) := by decide +kernel
theorem dX12_isWord_11 : decode cX12_isWord 11 = .ok (.if_icmp .ge 29, 3) := by decide +kernel
theorem dX12_isWord_14 : decode cX12_isWord 14 = .ok (.aload_n 0, 1) := by decide +kernel
theorem dX12_isWord_15 : decode cX12_isWord 15 = .ok (.aload_n 0, 1) := by decide +kernel
theorem dX12_isWord_16 : decode cX12_isWord 16 = .ok (.getfield 215, 3) := by decide +kernel
theorem dX12_isWord_19 : decode cX12_isWord 19 = .ok (.iload_n 2, 1) := by decide +kernel
theorem dX12_isWord_20 : decode cX12_isWord 20 = .ok (.iadd, 1) := by decide +kernel
theorem dX12_isWord_21 : decode cX12_isWord 21 = .ok (.invokevirtual 218, 3) := by decide +kernel
theorem dX12_isWord_24 : decode cX12_isWord 24 = .ok (.aload_n 1, 1) := by decide +kernel
theorem dX12_isWord_25 : decode cX12_isWord 25 = .ok (.iload_n 2, 1) := by decide +kernel
theorem dX12_isWord_26 : decode cX12_isWord 26 = .ok (.invokevirtual 234, 3) := by decide +kernel
theorem dX12_isWord_29 : decode cX12_isWord 29 = .ok (.if_icmp .eq 5, 3) := by decide +kernel
theorem dX12_isWord_32 : decode cX12_isWord 32 = .ok (.iconst 0, 1) := by decide +kernel
theorem dX12_isWord_33 : decode cX12_isWord 33 = .ok (.ireturn, 1) := by decide +kernel
theorem dX12_isWord_34 : decode cX12_isWord 34 = .ok (.iinc 2 1, 3) := by decide +kernel
theorem dX12_isWord_37 : decode cX12_isWord 37 = .ok (.goto (-31), 3) := by decide +kernel
theorem dX12_isWord_40 : decode cX12_isWord 40 = .ok (.aload_n 0, 1) := by decide +kernel
theorem dX12_isWord_41 : decode cX12_isWord 41 = .ok (.aload_n 0, 1) := by decide +kernel
theorem dX12_isWord_42 : decode cX12_isWord 42 = .ok (.getfield 215, 3) := by decide +kernel
theorem dX12_isWord_45 : decode cX12_isWord 45 = .ok (.aload_n 1, 1) := by decide +kernel
theorem dX12_isWord_46 : decode cX12_isWord 46 = .ok (.invokevirtual 228, 3) := by decide +kernel
theorem dX12_isWord_49 : decode cX12_isWord 49 = .ok (.iadd, 1) := by decide +kernel
theorem dX12_isWord_50 : decode cX12_isWord 50 = .ok (.invokevirtual 218, 3) := by decide +kernel
theorem dX12_isWord_53 : decode cX12_isWord 53 = .ok (.istore_n 2, 1) := by decide +kernel
theorem dX12_isWord_54 : decode cX12_isWord 54 = .ok (.iload_n 2, 1) := by decide +kernel
theorem dX12_isWord_55 : decode cX12_isWord 55 = .ok (.bipush 97, 2) := by decide +kernel
theorem dX12_isWord_57 : decode cX12_isWord 57 = .ok (.if_icmp .lt 9, 3) := by decide +kernel
theorem dX12_isWord_60 : decode cX12_isWord 60 = .ok (.iload_n 2, 1) := by decide +kernel
theorem dX12_isWord_61 : decode cX12_isWord 61 = .ok (.bipush 122, 2) := by decide +kernel
theorem dX12_isWord_63 : decode cX12_isWord 63 = .ok (.if_icmp .le 7, 3) := by decide +kernel
theorem dX12_isWord_66 : decode cX12_isWord 66 = .ok (.iconst 1, 1) := by decide +kernel
theorem dX12_isWord_67 : decode cX12_isWord 67 = .ok (.goto 4, 3) := by decide +kernel
theorem dX12_isWord_70 : decode cX12_isWord 70 = .ok (.iconst 0, 1) := by decide +kernel
theorem dX12_isWord_71 : decode cX12_isWord 71 = .ok (.ireturn, 1) := by decide +kernel
theorem dX12_eat_0 : decode cX12_eat 0 = .ok (.aload_n 0, 1) := by decide +kernel
theorem dX12_eat_1 : decode cX12_eat 1 = .ok (.getfield 222, 3) := by decide +kernel
theorem dX12_eat_4 : decode cX12_eat 4 = .ok (.ifCond .ne 15, 3) := by decide +kernel
theorem dX12_eat_7 : decode cX12_eat 7 = .ok (.aload_n 0, 1) := by decide +kernel
theorem dX12_eat_8 : decode cX12_eat 8 = .ok (.aload_n 1, 1) := by decide +kernel
theorem dX12_eat_9 : decode cX12_eat 9 = .ok (.invokevirtual 238, 3) := by decide +kernel
theorem dX12_eat_12 : decode cX12_eat 12 = .ok (.ifCond .eq 7, 3) := by decide +kernel
theorem dX12_eat_15 : decode cX12_eat 15 = .ok (.iconst 1, 1) := by decide +kernel
theorem dX12_eat_16 : decode cX12_eat 16 = .ok (.goto 4, 3) := by decide +kernel
theorem dX12_eat_19 : decode cX12_eat 19 = .ok (.iconst 0, 1) := by decide +kernel
theorem dX12_eat_20 : decode cX12_eat 20 = .ok (.istore_n 2, 1) := by decide +kernel
theorem dX12_eat_21 : decode cX12_eat 21 = .ok (.iload_n 2, 1) := by decide +kernel
theorem dX12_eat_22 : decode cX12_eat 22 = .ok (.ifCond .eq 16, 3) := by decide +kernel
theorem dX12_eat_25 : decode cX12_eat 25 = .ok (.aload_n 0, 1) := by decide +kernel
theorem dX12_eat_26 : decode cX12_eat 26 = .ok (.dup, 1) := by decide +kernel
theorem dX12_eat_27 : decode cX12_eat 27 = .ok (.getfield 215, 3) := by decide +kernel
theorem dX12_eat_30 : decode cX12_eat 30 = .ok (.aload_n 1, 1) := by decide +kernel
theorem dX12_eat_31 : decode cX12_eat 31 = .ok (.invokevirtual 228, 3) := by decide +kernel
theorem dX12_eat_34 : decode cX12_eat 34 = .ok (.iadd, 1) := by decide +kernel
theorem dX12_eat_35 : decode cX12_eat 35 = .ok (.putfield 215, 3) := by decide +kernel
theorem dX12_eat_38 : decode cX12_eat 38 = .ok (.iload_n 2, 1) := by decide +kernel
theorem dX12_eat_39 : decode cX12_eat 39 = .ok (.ireturn, 1) := by decide +kernel
theorem dX12_clauseName_0 : decode cX12_clauseName 0 = .ok (.iload_n 0, 1) := by decide +kernel
theorem dX12_clauseName_1 : decode cX12_clauseName 1 = .ok (.tableswitch 79 0 8 #[51, 54, 57, 60, 63, 66, 69, 72, 75], 51) := by decide +kernel
theorem dX12_clauseName_52 : decode cX12_clauseName 52 = .ok (.ldc 242, 2) := by decide +kernel
theorem dX12_clauseName_54 : decode cX12_clauseName 54 = .ok (.areturn, 1) := by decide +kernel
theorem dX12_clauseName_55 : decode cX12_clauseName 55 = .ok (.ldc 244, 2) := by decide +kernel
theorem dX12_clauseName_57 : decode cX12_clauseName 57 = .ok (.areturn, 1) := by decide +kernel
theorem dX12_clauseName_58 : decode cX12_clauseName 58 = .ok (.ldc 245, 2) := by decide +kernel
theorem dX12_clauseName_60 : decode cX12_clauseName 60 = .ok (.areturn, 1) := by decide +kernel
theorem dX12_clauseName_61 : decode cX12_clauseName 61 = .ok (.ldc 246, 2) := by decide +kernel
theorem dX12_clauseName_63 : decode cX12_clauseName 63 = .ok (.areturn, 1) := by decide +kernel
theorem dX12_clauseName_64 : decode cX12_clauseName 64 = .ok (.ldc 248, 2) := by decide +kernel
theorem dX12_clauseName_66 : decode cX12_clauseName 66 = .ok (.areturn, 1) := by decide +kernel
theorem dX12_clauseName_67 : decode cX12_clauseName 67 = .ok (.ldc 250, 2) := by decide +kernel
theorem dX12_clauseName_69 : decode cX12_clauseName 69 = .ok (.areturn, 1) := by decide +kernel
theorem dX12_clauseName_70 : decode cX12_clauseName 70 = .ok (.ldc 252, 2) := by decide +kernel
theorem dX12_clauseName_72 : decode cX12_clauseName 72 = .ok (.areturn, 1) := by decide +kernel
theorem dX12_clauseName_73 : decode cX12_clauseName 73 = .ok (.ldc 254, 2) := by decide +kernel
theorem dX12_clauseName_75 : decode cX12_clauseName 75 = .ok (.areturn, 1) := by decide +kernel
theorem dX12_clauseName_76 : decode cX12_clauseName 76 = .ok (.ldc_w 256, 3) := by decide +kernel
theorem dX12_clauseName_79 : decode cX12_clauseName 79 = .ok (.areturn, 1) := by decide +kernel
theorem dX12_clauseName_80 : decode cX12_clauseName 80 = .ok (.ldc_w 258, 3) := by decide +kernel
theorem dX12_clauseName_83 : decode cX12_clauseName 83 = .ok (.areturn, 1) := by decide +kernel
theorem dX12_kindName_0 : decode cX12_kindName 0 = .ok (.iload_n 0, 1) := by decide +kernel
theorem dX12_kindName_1 : decode cX12_kindName 1 = .ok (.ifCond .ne 9, 3) := by decide +kernel
theorem dX12_kindName_4 : decode cX12_kindName 4 = .ok (.ldc_w 260, 3) := by decide +kernel
theorem dX12_kindName_7 : decode cX12_kindName 7 = .ok (.goto 17, 3) := by decide +kernel
theorem dX12_kindName_10 : decode cX12_kindName 10 = .ok (.iload_n 0, 1) := by decide +kernel
theorem dX12_kindName_11 : decode cX12_kindName 11 = .ok (.iconst 1, 1) := by decide +kernel
theorem dX12_kindName_12 : decode cX12_kindName 12 = .ok (.if_icmp .ne 9, 3) := by decide +kernel
theorem dX12_kindName_15 : decode cX12_kindName 15 = .ok (.ldc_w 262, 3) := by decide +kernel
theorem dX12_kindName_18 : decode cX12_kindName 18 = .ok (.goto 6, 3) := by decide +kernel
theorem dX12_kindName_21 : decode cX12_kindName 21 = .ok (.ldc_w 264, 3) := by decide +kernel
theorem dX12_kindName_24 : decode cX12_kindName 24 = .ok (.areturn, 1) := by decide +kernel
theorem dX12_wayName_0 : decode cX12_wayName 0 = .ok (.iload_n 0, 1) := by decide +kernel
theorem dX12_wayName_1 : decode cX12_wayName 1 = .ok (.ifCond .ne 9, 3) := by decide +kernel
theorem dX12_wayName_4 : decode cX12_wayName 4 = .ok (.ldc_w 266, 3) := by decide +kernel
theorem dX12_wayName_7 : decode cX12_wayName 7 = .ok (.goto 28, 3) := by decide +kernel
theorem dX12_wayName_10 : decode cX12_wayName 10 = .ok (.iload_n 0, 1) := by decide +kernel
theorem dX12_wayName_11 : decode cX12_wayName 11 = .ok (.iconst 1, 1) := by decide +kernel
theorem dX12_wayName_12 : decode cX12_wayName 12 = .ok (.if_icmp .ne 9, 3) := by decide +kernel
theorem dX12_wayName_15 : decode cX12_wayName 15 = .ok (.ldc_w 267, 3) := by decide +kernel
theorem dX12_wayName_18 : decode cX12_wayName 18 = .ok (.goto 17, 3) := by decide +kernel
theorem dX12_wayName_21 : decode cX12_wayName 21 = .ok (.iload_n 0, 1) := by decide +kernel
theorem dX12_wayName_22 : decode cX12_wayName 22 = .ok (.iconst 2, 1) := by decide +kernel
theorem dX12_wayName_23 : decode cX12_wayName 23 = .ok (.if_icmp .ne 9, 3) := by decide +kernel
theorem dX12_wayName_26 : decode cX12_wayName 26 = .ok (.ldc_w 268, 3) := by decide +kernel
theorem dX12_wayName_29 : decode cX12_wayName 29 = .ok (.goto 6, 3) := by decide +kernel
theorem dX12_wayName_32 : decode cX12_wayName 32 = .ok (.ldc_w 270, 3) := by decide +kernel
theorem dX12_wayName_35 : decode cX12_wayName 35 = .ok (.areturn, 1) := by decide +kernel
theorem dX12_nameOf_0 : decode cX12_nameOf 0 = .ok (.iload_n 0, 1) := by decide +kernel
theorem dX12_nameOf_1 : decode cX12_nameOf 1 = .ok (.tableswitch 69 0 6 #[43, 47, 51, 54, 57, 61, 65], 43) := by decide +kernel
theorem dX12_nameOf_44 : decode cX12_nameOf 44 = .ok (.ldc_w 266, 3) := by decide +kernel
theorem dX12_nameOf_47 : decode cX12_nameOf 47 = .ok (.areturn, 1) := by decide +kernel
theorem dX12_nameOf_48 : decode cX12_nameOf 48 = .ok (.ldc_w 272, 3) := by decide +kernel
theorem dX12_nameOf_51 : decode cX12_nameOf 51 = .ok (.areturn, 1) := by decide +kernel
theorem dX12_nameOf_52 : decode cX12_nameOf 52 = .ok (.ldc 244, 2) := by decide +kernel
theorem dX12_nameOf_54 : decode cX12_nameOf 54 = .ok (.areturn, 1) := by decide +kernel
theorem dX12_nameOf_55 : decode cX12_nameOf 55 = .ok (.ldc 245, 2) := by decide +kernel
theorem dX12_nameOf_57 : decode cX12_nameOf 57 = .ok (.areturn, 1) := by decide +kernel
theorem dX12_nameOf_58 : decode cX12_nameOf 58 = .ok (.ldc_w 273, 3) := by decide +kernel
theorem dX12_nameOf_61 : decode cX12_nameOf 61 = .ok (.areturn, 1) := by decide +kernel
theorem dX12_nameOf_62 : decode cX12_nameOf 62 = .ok (.ldc_w 274, 3) := by decide +kernel
theorem dX12_nameOf_65 : decode cX12_nameOf 65 = .ok (.areturn, 1) := by decide +kernel
theorem dX12_nameOf_66 : decode cX12_nameOf 66 = .ok (.ldc_w 276, 3) := by decide +kernel
theorem dX12_nameOf_69 : decode cX12_nameOf 69 = .ok (.areturn, 1) := by decide +kernel
theorem dX12_nameOf_70 : decode cX12_nameOf 70 = .ok (.ldc_w 277, 3) := by decide +kernel
theorem dX12_nameOf_73 : decode cX12_nameOf 73 = .ok (.areturn, 1) := by decide +kernel
theorem dX12_clauseHere_0 : decode cX12_clauseHere 0 = .ok (.iconst 0, 1) := by decide +kernel
theorem dX12_clauseHere_1 : decode cX12_clauseHere 1 = .ok (.istore_n 1, 1) := by decide +kernel
theorem dX12_clauseHere_2 : decode cX12_clauseHere 2 = .ok (.iload_n 1, 1) := by decide +kernel
theorem dX12_clauseHere_3 : decode cX12_clauseHere 3 = .ok (.bipush 10, 2) := by decide +kernel
theorem dX12_clauseHere_5 : decode cX12_clauseHere 5 = .ok (.if_icmp .ge 22, 3) := by decide +kernel
theorem dX12_clauseHere_8 : decode cX12_clauseHere 8 = .ok (.aload_n 0, 1) := by decide +kernel
theorem dX12_clauseHere_9 : decode cX12_clauseHere 9 = .ok (.iload_n 1, 1) := by decide +kernel
theorem dX12_clauseHere_10 : decode cX12_clauseHere 10 = .ok (.invokestatic 278, 3) := by decide +kernel
theorem dX12_clauseHere_13 : decode cX12_clauseHere 13 = .ok (.invokevirtual 238, 3) := by decide +kernel
theorem dX12_clauseHere_16 : decode cX12_clauseHere 16 = .ok (.ifCond .eq 5, 3) := by decide +kernel
theorem dX12_clauseHere_19 : decode cX12_clauseHere 19 = .ok (.iload_n 1, 1) := by decide +kernel
theorem dX12_clauseHere_20 : decode cX12_clauseHere 20 = .ok (.ireturn, 1) := by decide +kernel
theorem dX12_clauseHere_21 : decode cX12_clauseHere 21 = .ok (.iinc 1 1, 3) := by decide +kernel
theorem dX12_clauseHere_24 : decode cX12_clauseHere 24 = .ok (.goto (-22), 3) := by decide +kernel
theorem dX12_clauseHere_27 : decode cX12_clauseHere 27 = .ok (.iconst (-1), 1) := by decide +kernel
theorem dX12_clauseHere_28 : decode cX12_clauseHere 28 = .ok (.ireturn, 1) := by decide +kernel
theorem dX12_figures_0 : decode cX12_figures 0 = .ok (.aload_n 0, 1) := by decide +kernel
theorem dX12_figures_1 : decode cX12_figures 1 = .ok (.getfield 222, 3) := by decide +kernel
theorem dX12_figures_4 : decode cX12_figures 4 = .ok (.ifCond .le 5, 3) := by decide +kernel
theorem dX12_figures_7 : decode cX12_figures 7 = .ok (.iconst 0, 1) := by decide +kernel
theorem dX12_figures_8 : decode cX12_figures 8 = .ok (.ireturn, 1) := by decide +kernel
theorem dX12_figures_9 : decode cX12_figures 9 = .ok (.aload_n 0, 1) := by decide +kernel
theorem dX12_figures_10 : decode cX12_figures 10 = .ok (.invokevirtual 225, 3) := by decide +kernel
theorem dX12_figures_13 : decode cX12_figures 13 = .ok (.aload_n 0, 1) := by decide +kernel
theorem dX12_figures_14 : decode cX12_figures 14 = .ok (.getfield 215, 3) := by decide +kernel
theorem dX12_figures_17 : decode cX12_figures 17 = .ok (.istore_n 3, 1) := by decide +kernel
theorem dX12_figures_18 : decode cX12_figures 18 = .ok (.iconst 0, 1) := by decide +kernel
theorem dX12_figures_19 : decode cX12_figures 19 = .ok (.istore 4, 2) := by decide +kernel
theorem dX12_figures_21 : decode cX12_figures 21 = .ok (.aload_n 0, 1) := by decide +kernel
theorem dX12_figures_22 : decode cX12_figures 22 = .ok (.aload_n 0, 1) := by decide +kernel
theorem dX12_figures_23 : decode cX12_figures 23 = .ok (.getfield 215, 3) := by decide +kernel
theorem dX12_figures_26 : decode cX12_figures 26 = .ok (.invokevirtual 218, 3) := by decide +kernel
theorem dX12_figures_29 : decode cX12_figures 29 = .ok (.invokestatic 282, 3) := by decide +kernel
theorem dX12_figures_32 : decode cX12_figures 32 = .ok (.ifCond .ne 14, 3) := by decide +kernel
theorem dX12_figures_35 : decode cX12_figures 35 = .ok (.aload_n 0, 1) := by decide +kernel
theorem dX12_figures_36 : decode cX12_figures 36 = .ok (.iconst 1, 1) := by decide +kernel
theorem dX12_figures_37 : decode cX12_figures 37 = .ok (.aload_n 0, 1) := by decide +kernel
theorem dX12_figures_38 : decode cX12_figures 38 = .ok (.getfield 215, 3) := by decide +kernel
theorem dX12_figures_41 : decode cX12_figures 41 = .ok (.invokevirtual 285, 3) := by decide +kernel
theorem dX12_figures_44 : decode cX12_figures 44 = .ok (.iconst 0, 1) := by decide +kernel
theorem dX12_figures_45 : decode cX12_figures 45 = .ok (.ireturn, 1) := by decide +kernel
theorem dX12_figures_46 : decode cX12_figures 46 = .ok (.aload_n 0, 1) := by decide +kernel
theorem dX12_figures_47 : decode cX12_figures 47 = .ok (.aload_n 0, 1) := by decide +kernel
theorem dX12_figures_48 : decode cX12_figures 48 = .ok (.getfield 215, 3) := by decide +kernel
theorem dX12_figures_51 : decode cX12_figures 51 = .ok (.invokevirtual 218, 3) := by decide +kernel
theorem dX12_figures_54 : decode cX12_figures 54 = .ok (.invokestatic 282, 3) := by decide +kernel
theorem dX12_figures_57 : decode cX12_figures 57 = .ok (.ifCond .eq 47, 3) := by decide +kernel
theorem dX12_figures_60 : decode cX12_figures 60 = .ok (.iload 4, 2) := by decide +kernel
theorem dX12_figures_62 : decode cX12_figures 62 = .ok (.ldc 180, 2) := by decide +kernel
theorem dX12_figures_64 : decode cX12_figures 64 = .ok (.if_icmp .le 8, 3) := by decide +kernel
theorem dX12_figures_67 : decode cX12_figures 67 = .ok (.iload 4, 2) := by decide +kernel
theorem dX12_figures_69 : decode cX12_figures 69 = .ok (.goto 20, 3) := by decide +kernel
theorem dX12_figures_72 : decode cX12_figures 72 = .ok (.bipush 10, 2) := by decide +kernel
theorem dX12_figures_74 : decode cX12_figures 74 = .ok (.iload 4, 2) := by decide +kernel
theorem dX12_figures_76 : decode cX12_figures 76 = .ok (.imul, 1) := by decide +kernel
theorem dX12_figures_77 : decode cX12_figures 77 = .ok (.aload_n 0, 1) := by decide +kernel
theorem dX12_figures_78 : decode cX12_figures 78 = .ok (.aload_n 0, 1) := by decide +kernel
theorem dX12_figures_79 : decode cX12_figures 79 = .ok (.getfield 215, 3) := by decide +kernel
theorem dX12_figures_82 : decode cX12_figures 82 = .ok (.invokevirtual 218, 3) := by decide +kernel
theorem dX12_figures_85 : decode cX12_figures 85 = .ok (.iadd, 1) := by decide +kernel
theorem dX12_figures_86 : decode cX12_figures 86 = .ok (.bipush 48, 2) := by decide +kernel
theorem dX12_figures_88 : decode cX12_figures 88 = .ok (.isub, 1) := by decide +kernel
theorem dX12_figures_89 : decode cX12_figures 89 = .ok (.istore 4, 2) := by decide +kernel
theorem dX12_figures_91 : decode cX12_figures 91 = .ok (.aload_n 0, 1) := by decide +kernel
theorem dX12_figures_92 : decode cX12_figures 92 = .ok (.dup, 1) := by decide +kernel
theorem dX12_figures_93 : decode cX12_figures 93 = .ok (.getfield 215, 3) := by decide +kernel
theorem dX12_figures_96 : decode cX12_figures 96 = .ok (.iconst 1, 1) := by decide +kernel
theorem dX12_figures_97 : decode cX12_figures 97 = .ok (.iadd, 1) := by decide +kernel
theorem dX12_figures_98 : decode cX12_figures 98 = .ok (.putfield 215, 3) := by decide +kernel
theorem dX12_figures_101 : decode cX12_figures 101 = .ok (.goto (-55), 3) := by decide +kernel
theorem dX12_figures_104 : decode cX12_figures 104 = .ok (.iload 4, 2) := by decide +kernel
theorem dX12_figures_106 : decode cX12_figures 106 = .ok (.iload_n 1, 1) := by decide +kernel
theorem dX12_figures_107 : decode cX12_figures 107 = .ok (.if_icmp .lt 9, 3) := by decide +kernel
theorem dX12_figures_110 : decode cX12_figures 110 = .ok (.iload 4, 2) := by decide +kernel
theorem dX12_figures_112 : decode cX12_figures 112 = .ok (.iload_n 2, 1) := by decide +kernel
theorem dX12_figures_113 : decode cX12_figures 113 = .ok (.if_icmp .le 9, 3) := by decide +kernel
theorem dX12_figures_116 : decode cX12_figures 116 = .ok (.aload_n 0, 1) := by decide +kernel
theorem dX12_figures_117 : decode cX12_figures 117 = .ok (.iconst 2, 1) := by decide +kernel
theorem dX12_figures_118 : decode cX12_figures 118 = .ok (.iload_n 3, 1) := by decide +kernel
theorem dX12_figures_119 : decode cX12_figures 119 = .ok (.invokevirtual 285, 3) := by decide +kernel
theorem dX12_figures_122 : decode cX12_figures 122 = .ok (.iload 4, 2) := by decide +kernel
theorem dX12_figures_124 : decode cX12_figures 124 = .ok (.ireturn, 1) := by decide +kernel
theorem dX12_sign_0 : decode cX12_sign 0 = .ok (.aload_n 0, 1) := by decide +kernel
theorem dX12_sign_1 : decode cX12_sign 1 = .ok (.getfield 222, 3) := by decide +kernel
theorem dX12_sign_4 : decode cX12_sign 4 = .ok (.ifCond .le 4, 3) := by decide +kernel
theorem dX12_sign_7 : decode cX12_sign 7 = .ok (.return_, 1) := by decide +kernel
theorem dX12_sign_8 : decode cX12_sign 8 = .ok (.aload_n 0, 1) := by decide +kernel
theorem dX12_sign_9 : decode cX12_sign 9 = .ok (.invokevirtual 225, 3) := by decide +kernel
theorem dX12_sign_12 : decode cX12_sign 12 = .ok (.aload_n 0, 1) := by decide +kernel
theorem dX12_sign_13 : decode cX12_sign 13 = .ok (.getfield 215, 3) := by decide +kernel
theorem dX12_sign_16 : decode cX12_sign 16 = .ok (.aload_n 0, 1) := by decide +kernel
theorem dX12_sign_17 : decode cX12_sign 17 = .ok (.getfield 212, 3) := by decide +kernel
theorem dX12_sign_20 : decode cX12_sign 20 = .ok (.if_icmp .ge 28, 3) := by decide +kernel
theorem dX12_sign_23 : decode cX12_sign 23 = .ok (.aload_n 0, 1) := by decide +kernel
theorem dX12_sign_24 : decode cX12_sign 24 = .ok (.aload_n 0, 1) := by decide +kernel
theorem dX12_sign_25 : decode cX12_sign 25 = .ok (.getfield 215, 3) := by decide +kernel
theorem dX12_sign_28 : decode cX12_sign 28 = .ok (.invokevirtual 218, 3) := by decide +kernel
theorem dX12_sign_31 : decode cX12_sign 31 = .ok (.iload_n 1, 1) := by decide +kernel
theorem dX12_sign_32 : decode cX12_sign 32 = .ok (.if_icmp .ne 16, 3) := by decide +kernel
theorem dX12_sign_35 : decode cX12_sign 35 = .ok (.aload_n 0, 1) := by decide +kernel
theorem dX12_sign_36 : decode cX12_sign 36 = .ok (.dup, 1) := by decide +kernel
theorem dX12_sign_37 : decode cX12_sign 37 = .ok (.getfield 215, 3) := by decide +kernel
theorem dX12_sign_40 : decode cX12_sign 40 = .ok (.iconst 1, 1) := by decide +kernel
theorem dX12_sign_41 : decode cX12_sign 41 = .ok (.iadd, 1) := by decide +kernel
theorem dX12_sign_42 : decode cX12_sign 42 = .ok (.putfield 215, 3) := by decide +kernel
theorem dX12_sign_45 : decode cX12_sign 45 = .ok (.goto 12, 3) := by decide +kernel
theorem dX12_sign_48 : decode cX12_sign 48 = .ok (.aload_n 0, 1) := by decide +kernel
theorem dX12_sign_49 : decode cX12_sign 49 = .ok (.iconst 1, 1) := by decide +kernel
theorem dX12_sign_50 : decode cX12_sign 50 = .ok (.aload_n 0, 1) := by decide +kernel
theorem dX12_sign_51 : decode cX12_sign 51 = .ok (.getfield 215, 3) := by decide +kernel
theorem dX12_sign_54 : decode cX12_sign 54 = .ok (.invokevirtual 285, 3) := by decide +kernel
theorem dX12_sign_57 : decode cX12_sign 57 = .ok (.return_, 1) := by decide +kernel
theorem dX12_emits_0 : decode cX12_emits 0 = .ok (.aload_n 0, 1) := by decide +kernel
theorem dX12_emits_1 : decode cX12_emits 1 = .ok (.getfield 222, 3) := by decide +kernel
theorem dX12_emits_4 : decode cX12_emits 4 = .ok (.ifCond .le 4, 3) := by decide +kernel
theorem dX12_emits_7 : decode cX12_emits 7 = .ok (.return_, 1) := by decide +kernel
theorem dX12_emits_8 : decode cX12_emits 8 = .ok (.aload_n 0, 1) := by decide +kernel
theorem dX12_emits_9 : decode cX12_emits 9 = .ok (.getfield 96, 3) := by decide +kernel
theorem dX12_emits_12 : decode cX12_emits 12 = .ok (.sipush 350, 3) := by decide +kernel
theorem dX12_emits_15 : decode cX12_emits 15 = .ok (.aload_n 0, 1) := by decide +kernel
theorem dX12_emits_16 : decode cX12_emits 16 = .ok (.getfield 289, 3) := by decide +kernel
theorem dX12_emits_19 : decode cX12_emits 19 = .ok (.imul, 1) := by decide +kernel
theorem dX12_emits_20 : decode cX12_emits 20 = .ok (.aload_n 0, 1) := by decide +kernel
theorem dX12_emits_21 : decode cX12_emits 21 = .ok (.getfield 292, 3) := by decide +kernel
theorem dX12_emits_24 : decode cX12_emits 24 = .ok (.iadd, 1) := by decide +kernel
theorem dX12_emits_25 : decode cX12_emits 25 = .ok (.iload_n 1, 1) := by decide +kernel
theorem dX12_emits_26 : decode cX12_emits 26 = .ok (.iastore, 1) := by decide +kernel
theorem dX12_emits_27 : decode cX12_emits 27 = .ok (.aload_n 0, 1) := by decide +kernel
theorem dX12_emits_28 : decode cX12_emits 28 = .ok (.getfield 99, 3) := by decide +kernel
theorem dX12_emits_31 : decode cX12_emits 31 = .ok (.sipush 350, 3) := by decide +kernel
theorem dX12_emits_34 : decode cX12_emits 34 = .ok (.aload_n 0, 1) := by decide +kernel
theorem dX12_emits_35 : decode cX12_emits 35 = .ok (.getfield 289, 3) := by decide +kernel
theorem dX12_emits_38 : decode cX12_emits 38 = .ok (.imul, 1) := by decide +kernel
theorem dX12_emits_39 : decode cX12_emits 39 = .ok (.aload_n 0, 1) := by decide +kernel
theorem dX12_emits_40 : decode cX12_emits 40 = .ok (.getfield 292, 3) := by decide +kernel
theorem dX12_emits_43 : decode cX12_emits 43 = .ok (.iadd, 1) := by decide +kernel
theorem dX12_emits_44 : decode cX12_emits 44 = .ok (.iload_n 2, 1) := by decide +kernel
theorem dX12_emits_45 : decode cX12_emits 45 = .ok (.iastore, 1) := by decide +kernel
theorem dX12_emits_46 : decode cX12_emits 46 = .ok (.aload_n 0, 1) := by decide +kernel
theorem dX12_emits_47 : decode cX12_emits 47 = .ok (.dup, 1) := by decide +kernel
theorem dX12_emits_48 : decode cX12_emits 48 = .ok (.getfield 292, 3) := by decide +kernel
theorem dX12_emits_51 : decode cX12_emits 51 = .ok (.iconst 1, 1) := by decide +kernel
theorem dX12_emits_52 : decode cX12_emits 52 = .ok (.iadd, 1) := by decide +kernel
theorem dX12_emits_53 : decode cX12_emits 53 = .ok (.putfield 292, 3) := by decide +kernel
theorem dX12_emits_56 : decode cX12_emits 56 = .ok (.return_, 1) := by decide +kernel
theorem dX12_opens_0 : decode cX12_opens 0 = .ok (.aload_n 0, 1) := by decide +kernel
theorem dX12_opens_1 : decode cX12_opens 1 = .ok (.getfield 222, 3) := by decide +kernel
theorem dX12_opens_4 : decode cX12_opens 4 = .ok (.ifCond .le 4, 3) := by decide +kernel
theorem dX12_opens_7 : decode cX12_opens 7 = .ok (.return_, 1) := by decide +kernel
theorem dX12_opens_8 : decode cX12_opens 8 = .ok (.aload_n 0, 1) := by decide +kernel
theorem dX12_opens_9 : decode cX12_opens 9 = .ok (.invokevirtual 225, 3) := by decide +kernel
theorem dX12_opens_12 : decode cX12_opens 12 = .ok (.aload_n 0, 1) := by decide +kernel
theorem dX12_opens_13 : decode cX12_opens 13 = .ok (.aload_n 0, 1) := by decide +kernel
theorem dX12_opens_14 : decode cX12_opens 14 = .ok (.getfield 215, 3) := by decide +kernel
theorem dX12_opens_17 : decode cX12_opens 17 = .ok (.invokevirtual 218, 3) := by decide +kernel
theorem dX12_opens_20 : decode cX12_opens 20 = .ok (.bipush 40, 2) := by decide +kernel
theorem dX12_opens_22 : decode cX12_opens 22 = .ok (.if_icmp .eq 13, 3) := by decide +kernel
theorem dX12_opens_25 : decode cX12_opens 25 = .ok (.aload_n 0, 1) := by decide +kernel
theorem dX12_opens_26 : decode cX12_opens 26 = .ok (.iconst 1, 1) := by decide +kernel
theorem dX12_opens_27 : decode cX12_opens 27 = .ok (.aload_n 0, 1) := by decide +kernel
theorem dX12_opens_28 : decode cX12_opens 28 = .ok (.getfield 215, 3) := by decide +kernel
theorem dX12_opens_31 : decode cX12_opens 31 = .ok (.invokevirtual 285, 3) := by decide +kernel
theorem dX12_opens_34 : decode cX12_opens 34 = .ok (.return_, 1) := by decide +kernel
theorem dX12_opens_35 : decode cX12_opens 35 = .ok (.aload_n 0, 1) := by decide +kernel
theorem dX12_opens_36 : decode cX12_opens 36 = .ok (.getfield 295, 3) := by decide +kernel
theorem dX12_opens_39 : decode cX12_opens 39 = .ok (.bipush 8, 2) := by decide +kernel
theorem dX12_opens_41 : decode cX12_opens 41 = .ok (.if_icmp .ne 12, 3) := by decide +kernel
theorem dX12_opens_44 : decode cX12_opens 44 = .ok (.aload_n 0, 1) := by decide +kernel
theorem dX12_opens_45 : decode cX12_opens 45 = .ok (.iconst 3, 1) := by decide +kernel
theorem dX12_opens_46 : decode cX12_opens 46 = .ok (.aload_n 0, 1) := by decide +kernel
theorem dX12_opens_47 : decode cX12_opens 47 = .ok (.getfield 215, 3) := by decide +kernel
theorem dX12_opens_50 : decode cX12_opens 50 = .ok (.invokevirtual 285, 3) := by decide +kernel
theorem dX12_opens_53 : decode cX12_opens 53 = .ok (.aload_n 0, 1) := by decide +kernel
theorem dX12_opens_54 : decode cX12_opens 54 = .ok (.dup, 1) := by decide +kernel
theorem dX12_opens_55 : decode cX12_opens 55 = .ok (.getfield 295, 3) := by decide +kernel
theorem dX12_opens_58 : decode cX12_opens 58 = .ok (.iconst 1, 1) := by decide +kernel
theorem dX12_opens_59 : decode cX12_opens 59 = .ok (.iadd, 1) := by decide +kernel
theorem dX12_opens_60 : decode cX12_opens 60 = .ok (.putfield 295, 3) := by decide +kernel
theorem dX12_opens_63 : decode cX12_opens 63 = .ok (.aload_n 0, 1) := by decide +kernel
theorem dX12_opens_64 : decode cX12_opens 64 = .ok (.dup, 1) := by decide +kernel
theorem dX12_opens_65 : decode cX12_opens 65 = .ok (.getfield 215, 3) := by decide +kernel
theorem dX12_opens_68 : decode cX12_opens 68 = .ok (.iconst 1, 1) := by decide +kernel
theorem dX12_opens_69 : decode cX12_opens 69 = .ok (.iadd, 1) := by decide +kernel
theorem dX12_opens_70 : decode cX12_opens 70 = .ok (.putfield 215, 3) := by decide +kernel
theorem dX12_opens_73 : decode cX12_opens 73 = .ok (.return_, 1) := by decide +kernel
theorem dX12_closes_0 : decode cX12_closes 0 = .ok (.aload_n 0, 1) := by decide +kernel
theorem dX12_closes_1 : decode cX12_closes 1 = .ok (.bipush 41, 2) := by decide +kernel
theorem dX12_closes_3 : decode cX12_closes 3 = .ok (.invokevirtual 298, 3) := by decide +kernel
theorem dX12_closes_6 : decode cX12_closes 6 = .ok (.aload_n 0, 1) := by decide +kernel
theorem dX12_closes_7 : decode cX12_closes 7 = .ok (.dup, 1) := by decide +kernel
theorem dX12_closes_8 : decode cX12_closes 8 = .ok (.getfield 295, 3) := by decide +kernel
theorem dX12_closes_11 : decode cX12_closes 11 = .ok (.iconst 1, 1) := by decide +kernel
theorem dX12_closes_12 : decode cX12_closes 12 = .ok (.isub, 1) := by decide +kernel
theorem dX12_closes_13 : decode cX12_closes 13 = .ok (.putfield 295, 3) := by decide +kernel
theorem dX12_closes_16 : decode cX12_closes 16 = .ok (.return_, 1) := by decide +kernel
theorem dX12_sum_0 : decode cX12_sum 0 = .ok (.aload_n 0, 1) := by decide +kernel
theorem dX12_sum_1 : decode cX12_sum 1 = .ok (.invokevirtual 302, 3) := by decide +kernel
theorem dX12_sum_4 : decode cX12_sum 4 = .ok (.aload_n 0, 1) := by decide +kernel
theorem dX12_sum_5 : decode cX12_sum 5 = .ok (.invokevirtual 225, 3) := by decide +kernel
theorem dX12_sum_8 : decode cX12_sum 8 = .ok (.aload_n 0, 1) := by decide +kernel
theorem dX12_sum_9 : decode cX12_sum 9 = .ok (.getfield 222, 3) := by decide +kernel
theorem dX12_sum_12 : decode cX12_sum 12 = .ok (.ifCond .ne 75, 3) := by decide +kernel
theorem dX12_sum_15 : decode cX12_sum 15 = .ok (.aload_n 0, 1) := by decide +kernel
theorem dX12_sum_16 : decode cX12_sum 16 = .ok (.aload_n 0, 1) := by decide +kernel
theorem dX12_sum_17 : decode cX12_sum 17 = .ok (.getfield 215, 3) := by decide +kernel
theorem dX12_sum_20 : decode cX12_sum 20 = .ok (.invokevirtual 218, 3) := by decide +kernel
theorem dX12_sum_23 : decode cX12_sum 23 = .ok (.bipush 43, 2) := by decide +kernel
theorem dX12_sum_25 : decode cX12_sum 25 = .ok (.if_icmp .eq 16, 3) := by decide +kernel
theorem dX12_sum_28 : decode cX12_sum 28 = .ok (.aload_n 0, 1) := by decide +kernel
theorem dX12_sum_29 : decode cX12_sum 29 = .ok (.aload_n 0, 1) := by decide +kernel
theorem dX12_sum_30 : decode cX12_sum 30 = .ok (.getfield 215, 3) := by decide +kernel
theorem dX12_sum_33 : decode cX12_sum 33 = .ok (.invokevirtual 218, 3) := by decide +kernel
theorem dX12_sum_36 : decode cX12_sum 36 = .ok (.bipush 45, 2) := by decide +kernel
theorem dX12_sum_38 : decode cX12_sum 38 = .ok (.if_icmp .ne 49, 3) := by decide +kernel
theorem dX12_sum_41 : decode cX12_sum 41 = .ok (.aload_n 0, 1) := by decide +kernel
theorem dX12_sum_42 : decode cX12_sum 42 = .ok (.aload_n 0, 1) := by decide +kernel
theorem dX12_sum_43 : decode cX12_sum 43 = .ok (.getfield 215, 3) := by decide +kernel
theorem dX12_sum_46 : decode cX12_sum 46 = .ok (.invokevirtual 218, 3) := by decide +kernel
theorem dX12_sum_49 : decode cX12_sum 49 = .ok (.istore_n 1, 1) := by decide +kernel
theorem dX12_sum_50 : decode cX12_sum 50 = .ok (.aload_n 0, 1) := by decide +kernel
theorem dX12_sum_51 : decode cX12_sum 51 = .ok (.dup, 1) := by decide +kernel
theorem dX12_sum_52 : decode cX12_sum 52 = .ok (.getfield 215, 3) := by decide +kernel
theorem dX12_sum_55 : decode cX12_sum 55 = .ok (.iconst 1, 1) := by decide +kernel
theorem dX12_sum_56 : decode cX12_sum 56 = .ok (.iadd, 1) := by decide +kernel
theorem dX12_sum_57 : decode cX12_sum 57 = .ok (.putfield 215, 3) := by decide +kernel
theorem dX12_sum_60 : decode cX12_sum 60 = .ok (.aload_n 0, 1) := by decide +kernel
theorem dX12_sum_61 : decode cX12_sum 61 = .ok (.invokevirtual 302, 3) := by decide +kernel
theorem dX12_sum_64 : decode cX12_sum 64 = .ok (.aload_n 0, 1) := by decide +kernel
theorem dX12_sum_65 : decode cX12_sum 65 = .ok (.iload_n 1, 1) := by decide +kernel
theorem dX12_sum_66 : decode cX12_sum 66 = .ok (.bipush 43, 2) := by decide +kernel
theorem dX12_sum_68 : decode cX12_sum 68 = .ok (.if_icmp .ne 7, 3) := by decide +kernel
theorem dX12_sum_71 : decode cX12_sum 71 = .ok (.iconst 2, 1) := by decide +kernel
theorem dX12_sum_72 : decode cX12_sum 72 = .ok (.goto 4, 3) := by decide +kernel
theorem dX12_sum_75 : decode cX12_sum 75 = .ok (.iconst 3, 1) := by decide +kernel
theorem dX12_sum_76 : decode cX12_sum 76 = .ok (.iconst 0, 1) := by decide +kernel
theorem dX12_sum_77 : decode cX12_sum 77 = .ok (.invokevirtual 305, 3) := by decide +kernel
theorem dX12_sum_80 : decode cX12_sum 80 = .ok (.aload_n 0, 1) := by decide +kernel
theorem dX12_sum_81 : decode cX12_sum 81 = .ok (.invokevirtual 225, 3) := by decide +kernel
theorem dX12_sum_84 : decode cX12_sum 84 = .ok (.goto (-76), 3) := by decide +kernel
theorem dX12_sum_87 : decode cX12_sum 87 = .ok (.return_, 1) := by decide +kernel
theorem dX12_product_0 : decode cX12_product 0 = .ok (.aload_n 0, 1) := by decide +kernel
theorem dX12_product_1 : decode cX12_product 1 = .ok (.invokevirtual 308, 3) := by decide +kernel
theorem dX12_product_4 : decode cX12_product 4 = .ok (.aload_n 0, 1) := by decide +kernel
theorem dX12_product_5 : decode cX12_product 5 = .ok (.invokevirtual 225, 3) := by decide +kernel
theorem dX12_product_8 : decode cX12_product 8 = .ok (.aload_n 0, 1) := by decide +kernel
theorem dX12_product_9 : decode cX12_product 9 = .ok (.getfield 222, 3) := by decide +kernel
theorem dX12_product_12 : decode cX12_product 12 = .ok (.ifCond .ne 75, 3) := by decide +kernel
theorem dX12_product_15 : decode cX12_product 15 = .ok (.aload_n 0, 1) := by decide +kernel
theorem dX12_product_16 : decode cX12_product 16 = .ok (.aload_n 0, 1) := by decide +kernel
theorem dX12_product_17 : decode cX12_product 17 = .ok (.getfield 215, 3) := by decide +kernel
theorem dX12_product_20 : decode cX12_product 20 = .ok (.invokevirtual 218, 3) := by decide +kernel
theorem dX12_product_23 : decode cX12_product 23 = .ok (.bipush 42, 2) := by decide +kernel
theorem dX12_product_25 : decode cX12_product 25 = .ok (.if_icmp .eq 16, 3) := by decide +kernel
theorem dX12_product_28 : decode cX12_product 28 = .ok (.aload_n 0, 1) := by decide +kernel
theorem dX12_product_29 : decode cX12_product 29 = .ok (.aload_n 0, 1) := by decide +kernel
theorem dX12_product_30 : decode cX12_product 30 = .ok (.getfield 215, 3) := by decide +kernel
theorem dX12_product_33 : decode cX12_product 33 = .ok (.invokevirtual 218, 3) := by decide +kernel
theorem dX12_product_36 : decode cX12_product 36 = .ok (.bipush 47, 2) := by decide +kernel
theorem dX12_product_38 : decode cX12_product 38 = .ok (.if_icmp .ne 49, 3) := by decide +kernel
theorem dX12_product_41 : decode cX12_product 41 = .ok (.aload_n 0, 1) := by decide +kernel
theorem dX12_product_42 : decode cX12_product 42 = .ok (.aload_n 0, 1) := by decide +kernel
theorem dX12_product_43 : decode cX12_product 43 = .ok (.getfield 215, 3) := by decide +kernel
theorem dX12_product_46 : decode cX12_product 46 = .ok (.invokevirtual 218, 3) := by decide +kernel
theorem dX12_product_49 : decode cX12_product 49 = .ok (.istore_n 1, 1) := by decide +kernel
theorem dX12_product_50 : decode cX12_product 50 = .ok (.aload_n 0, 1) := by decide +kernel
theorem dX12_product_51 : decode cX12_product 51 = .ok (.dup, 1) := by decide +kernel
theorem dX12_product_52 : decode cX12_product 52 = .ok (.getfield 215, 3) := by decide +kernel
theorem dX12_product_55 : decode cX12_product 55 = .ok (.iconst 1, 1) := by decide +kernel
theorem dX12_product_56 : decode cX12_product 56 = .ok (.iadd, 1) := by decide +kernel
theorem dX12_product_57 : decode cX12_product 57 = .ok (.putfield 215, 3) := by decide +kernel
theorem dX12_product_60 : decode cX12_product 60 = .ok (.aload_n 0, 1) := by decide +kernel
theorem dX12_product_61 : decode cX12_product 61 = .ok (.invokevirtual 308, 3) := by decide +kernel
theorem dX12_product_64 : decode cX12_product 64 = .ok (.aload_n 0, 1) := by decide +kernel
theorem dX12_product_65 : decode cX12_product 65 = .ok (.iload_n 1, 1) := by decide +kernel
theorem dX12_product_66 : decode cX12_product 66 = .ok (.bipush 42, 2) := by decide +kernel
theorem dX12_product_68 : decode cX12_product 68 = .ok (.if_icmp .ne 7, 3) := by decide +kernel
theorem dX12_product_71 : decode cX12_product 71 = .ok (.iconst 4, 1) := by decide +kernel
theorem dX12_product_72 : decode cX12_product 72 = .ok (.goto 4, 3) := by decide +kernel
theorem dX12_product_75 : decode cX12_product 75 = .ok (.iconst 5, 1) := by decide +kernel
theorem dX12_product_76 : decode cX12_product 76 = .ok (.iconst 0, 1) := by decide +kernel
theorem dX12_product_77 : decode cX12_product 77 = .ok (.invokevirtual 305, 3) := by decide +kernel
theorem dX12_product_80 : decode cX12_product 80 = .ok (.aload_n 0, 1) := by decide +kernel
theorem dX12_product_81 : decode cX12_product 81 = .ok (.invokevirtual 225, 3) := by decide +kernel
theorem dX12_product_84 : decode cX12_product 84 = .ok (.goto (-76), 3) := by decide +kernel
theorem dX12_product_87 : decode cX12_product 87 = .ok (.return_, 1) := by decide +kernel
theorem dX12_unit_0 : decode cX12_unit 0 = .ok (.aload_n 0, 1) := by decide +kernel
theorem dX12_unit_1 : decode cX12_unit 1 = .ok (.getfield 222, 3) := by decide +kernel
theorem dX12_unit_4 : decode cX12_unit 4 = .ok (.ifCond .le 4, 3) := by decide +kernel
theorem dX12_unit_7 : decode cX12_unit 7 = .ok (.return_, 1) := by decide +kernel
theorem dX12_unit_8 : decode cX12_unit 8 = .ok (.aload_n 0, 1) := by decide +kernel
theorem dX12_unit_9 : decode cX12_unit 9 = .ok (.invokevirtual 225, 3) := by decide +kernel
theorem dX12_unit_12 : decode cX12_unit 12 = .ok (.aload_n 0, 1) := by decide +kernel
theorem dX12_unit_13 : decode cX12_unit 13 = .ok (.aload_n 0, 1) := by decide +kernel
theorem dX12_unit_14 : decode cX12_unit 14 = .ok (.getfield 215, 3) := by decide +kernel
theorem dX12_unit_17 : decode cX12_unit 17 = .ok (.invokevirtual 218, 3) := by decide +kernel
theorem dX12_unit_20 : decode cX12_unit 20 = .ok (.invokestatic 282, 3) := by decide +kernel
theorem dX12_unit_23 : decode cX12_unit 23 = .ok (.ifCond .eq 17, 3) := by decide +kernel
theorem dX12_unit_26 : decode cX12_unit 26 = .ok (.aload_n 0, 1) := by decide +kernel
theorem dX12_unit_27 : decode cX12_unit 27 = .ok (.iconst 0, 1) := by decide +kernel
theorem dX12_unit_28 : decode cX12_unit 28 = .ok (.aload_n 0, 1) := by decide +kernel
theorem dX12_unit_29 : decode cX12_unit 29 = .ok (.iconst 0, 1) := by decide +kernel
theorem dX12_unit_30 : decode cX12_unit 30 = .ok (.sipush 9999, 3) := by decide +kernel
theorem dX12_unit_33 : decode cX12_unit 33 = .ok (.invokevirtual 311, 3) := by decide +kernel
theorem dX12_unit_36 : decode cX12_unit 36 = .ok (.invokevirtual 305, 3) := by decide +kernel
theorem dX12_unit_39 : decode cX12_unit 39 = .ok (.return_, 1) := by decide +kernel
theorem dX12_unit_40 : decode cX12_unit 40 = .ok (.iconst 0, 1) := by decide +kernel
theorem dX12_unit_41 : decode cX12_unit 41 = .ok (.istore_n 1, 1) := by decide +kernel
theorem dX12_unit_42 : decode cX12_unit 42 = .ok (.iload_n 1, 1) := by decide +kernel
theorem dX12_unit_43 : decode cX12_unit 43 = .ok (.bipush 8, 2) := by decide +kernel
theorem dX12_unit_45 : decode cX12_unit 45 = .ok (.if_icmp .ge 30, 3) := by decide +kernel
theorem dX12_unit_48 : decode cX12_unit 48 = .ok (.aload_n 0, 1) := by decide +kernel
theorem dX12_unit_49 : decode cX12_unit 49 = .ok (.iload_n 1, 1) := by decide +kernel
theorem dX12_unit_50 : decode cX12_unit 50 = .ok (.invokestatic 314, 3) := by decide +kernel
theorem dX12_unit_53 : decode cX12_unit 53 = .ok (.invokevirtual 317, 3) := by decide +kernel
theorem dX12_unit_56 : decode cX12_unit 56 = .ok (.ifCond .ne 6, 3) := by decide +kernel
theorem dX12_unit_59 : decode cX12_unit 59 = .ok (.goto 10, 3) := by decide +kernel
theorem dX12_unit_62 : decode cX12_unit 62 = .ok (.aload_n 0, 1) := by decide +kernel
theorem dX12_unit_63 : decode cX12_unit 63 = .ok (.iconst 1, 1) := by decide +kernel
theorem dX12_unit_64 : decode cX12_unit 64 = .ok (.iload_n 1, 1) := by decide +kernel
theorem dX12_unit_65 : decode cX12_unit 65 = .ok (.invokevirtual 305, 3) := by decide +kernel
theorem dX12_unit_68 : decode cX12_unit 68 = .ok (.return_, 1) := by decide +kernel
theorem dX12_unit_69 : decode cX12_unit 69 = .ok (.iinc 1 1, 3) := by decide +kernel
theorem dX12_unit_72 : decode cX12_unit 72 = .ok (.goto (-30), 3) := by decide +kernel
theorem dX12_unit_75 : decode cX12_unit 75 = .ok (.aload_n 0, 1) := by decide +kernel
theorem dX12_unit_76 : decode cX12_unit 76 = .ok (.ldc_w 320, 3) := by decide +kernel
theorem dX12_unit_79 : decode cX12_unit 79 = .ok (.invokevirtual 317, 3) := by decide +kernel
theorem dX12_unit_82 : decode cX12_unit 82 = .ok (.ifCond .eq 8, 3) := by decide +kernel
theorem dX12_unit_85 : decode cX12_unit 85 = .ok (.aload_n 0, 1) := by decide +kernel
theorem dX12_unit_86 : decode cX12_unit 86 = .ok (.invokevirtual 322, 3) := by decide +kernel
theorem dX12_unit_89 : decode cX12_unit 89 = .ok (.return_, 1) := by decide +kernel
theorem dX12_unit_90 : decode cX12_unit 90 = .ok (.aload_n 0, 1) := by decide +kernel
theorem dX12_unit_91 : decode cX12_unit 91 = .ok (.ldc_w 325, 3) := by decide +kernel
theorem dX12_unit_94 : decode cX12_unit 94 = .ok (.invokevirtual 317, 3) := by decide +kernel
theorem dX12_unit_97 : decode cX12_unit 97 = .ok (.istore_n 1, 1) := by decide +kernel
theorem dX12_unit_98 : decode cX12_unit 98 = .ok (.iload_n 1, 1) := by decide +kernel
theorem dX12_unit_99 : decode cX12_unit 99 = .ok (.ifCond .ne 17, 3) := by decide +kernel
theorem dX12_unit_102 : decode cX12_unit 102 = .ok (.aload_n 0, 1) := by decide +kernel
theorem dX12_unit_103 : decode cX12_unit 103 = .ok (.ldc_w 327, 3) := by decide +kernel
theorem dX12_unit_106 : decode cX12_unit 106 = .ok (.invokevirtual 317, 3) := by decide +kernel
theorem dX12_unit_109 : decode cX12_unit 109 = .ok (.ifCond .eq 7, 3) := by decide +kernel
theorem dX12_unit_112 : decode cX12_unit 112 = .ok (.iconst 1, 1) := by decide +kernel
theorem dX12_unit_113 : decode cX12_unit 113 = .ok (.goto 4, 3) := by decide +kernel
theorem dX12_unit_116 : decode cX12_unit 116 = .ok (.iconst 0, 1) := by decide +kernel
theorem dX12_unit_117 : decode cX12_unit 117 = .ok (.istore_n 2, 1) := by decide +kernel
theorem dX12_unit_118 : decode cX12_unit 118 = .ok (.aload_n 0, 1) := by decide +kernel
theorem dX12_unit_119 : decode cX12_unit 119 = .ok (.invokevirtual 329, 3) := by decide +kernel
theorem dX12_unit_122 : decode cX12_unit 122 = .ok (.aload_n 0, 1) := by decide +kernel
theorem dX12_unit_123 : decode cX12_unit 123 = .ok (.invokevirtual 332, 3) := by decide +kernel
theorem dX12_unit_126 : decode cX12_unit 126 = .ok (.iload_n 1, 1) := by decide +kernel
theorem dX12_unit_127 : decode cX12_unit 127 = .ok (.ifCond .ne 7, 3) := by decide +kernel
theorem dX12_unit_130 : decode cX12_unit 130 = .ok (.iload_n 2, 1) := by decide +kernel
theorem dX12_unit_131 : decode cX12_unit 131 = .ok (.ifCond .eq 13, 3) := by decide +kernel
theorem dX12_unit_134 : decode cX12_unit 134 = .ok (.aload_n 0, 1) := by decide +kernel
theorem dX12_unit_135 : decode cX12_unit 135 = .ok (.bipush 44, 2) := by decide +kernel
theorem dX12_unit_137 : decode cX12_unit 137 = .ok (.invokevirtual 298, 3) := by decide +kernel
theorem dX12_unit_140 : decode cX12_unit 140 = .ok (.aload_n 0, 1) := by decide +kernel
theorem dX12_unit_141 : decode cX12_unit 141 = .ok (.invokevirtual 332, 3) := by decide +kernel
theorem dX12_unit_144 : decode cX12_unit 144 = .ok (.aload_n 0, 1) := by decide +kernel
theorem dX12_unit_145 : decode cX12_unit 145 = .ok (.invokevirtual 335, 3) := by decide +kernel
theorem dX12_unit_148 : decode cX12_unit 148 = .ok (.iload_n 1, 1) := by decide +kernel
theorem dX12_unit_149 : decode cX12_unit 149 = .ok (.ifCond .ne 7, 3) := by decide +kernel
theorem dX12_unit_152 : decode cX12_unit 152 = .ok (.iload_n 2, 1) := by decide +kernel
theorem dX12_unit_153 : decode cX12_unit 153 = .ok (.ifCond .eq 19, 3) := by decide +kernel
theorem dX12_unit_156 : decode cX12_unit 156 = .ok (.aload_n 0, 1) := by decide +kernel
theorem dX12_unit_157 : decode cX12_unit 157 = .ok (.iload_n 1, 1) := by decide +kernel
theorem dX12_unit_158 : decode cX12_unit 158 = .ok (.ifCond .eq 8, 3) := by decide +kernel
theorem dX12_unit_161 : decode cX12_unit 161 = .ok (.bipush 6, 2) := by decide +kernel
theorem dX12_unit_163 : decode cX12_unit 163 = .ok (.goto 5, 3) := by decide +kernel
theorem dX12_unit_166 : decode cX12_unit 166 = .ok (.bipush 7, 2) := by decide +kernel
theorem dX12_unit_168 : decode cX12_unit 168 = .ok (.iconst 0, 1) := by decide +kernel
theorem dX12_unit_169 : decode cX12_unit 169 = .ok (.invokevirtual 305, 3) := by decide +kernel
theorem dX12_unit_172 : decode cX12_unit 172 = .ok (.return_, 1) := by decide +kernel
theorem dX12_chosen_0 : decode cX12_chosen 0 = .ok (.aload_n 0, 1) := by decide +kernel
theorem dX12_chosen_1 : decode cX12_chosen 1 = .ok (.invokevirtual 329, 3) := by decide +kernel
theorem dX12_chosen_4 : decode cX12_chosen 4 = .ok (.aload_n 0, 1) := by decide +kernel
theorem dX12_chosen_5 : decode cX12_chosen 5 = .ok (.invokevirtual 332, 3) := by decide +kernel
theorem dX12_chosen_8 : decode cX12_chosen 8 = .ok (.aload_n 0, 1) := by decide +kernel
theorem dX12_chosen_9 : decode cX12_chosen 9 = .ok (.getfield 222, 3) := by decide +kernel
theorem dX12_chosen_12 : decode cX12_chosen 12 = .ok (.ifCond .le 4, 3) := by decide +kernel
theorem dX12_chosen_15 : decode cX12_chosen 15 = .ok (.return_, 1) := by decide +kernel
theorem dX12_chosen_16 : decode cX12_chosen 16 = .ok (.aload_n 0, 1) := by decide +kernel
theorem dX12_chosen_17 : decode cX12_chosen 17 = .ok (.invokevirtual 225, 3) := by decide +kernel
theorem dX12_chosen_20 : decode cX12_chosen 20 = .ok (.aload_n 0, 1) := by decide +kernel
theorem dX12_chosen_21 : decode cX12_chosen 21 = .ok (.aload_n 0, 1) := by decide +kernel
theorem dX12_chosen_22 : decode cX12_chosen 22 = .ok (.getfield 215, 3) := by decide +kernel
theorem dX12_chosen_25 : decode cX12_chosen 25 = .ok (.invokevirtual 218, 3) := by decide +kernel
theorem dX12_chosen_28 : decode cX12_chosen 28 = .ok (.istore_n 1, 1) := by decide +kernel
theorem dX12_chosen_29 : decode cX12_chosen 29 = .ok (.iload_n 1, 1) := by decide +kernel
theorem dX12_chosen_30 : decode cX12_chosen 30 = .ok (.bipush 60, 2) := by decide +kernel
theorem dX12_chosen_32 : decode cX12_chosen 32 = .ok (.if_icmp .eq 25, 3) := by decide +kernel
theorem dX12_chosen_35 : decode cX12_chosen 35 = .ok (.iload_n 1, 1) := by decide +kernel
theorem dX12_chosen_36 : decode cX12_chosen 36 = .ok (.bipush 62, 2) := by decide +kernel
theorem dX12_chosen_38 : decode cX12_chosen 38 = .ok (.if_icmp .eq 19, 3) := by decide +kernel
theorem dX12_chosen_41 : decode cX12_chosen 41 = .ok (.iload_n 1, 1) := by decide +kernel
theorem dX12_chosen_42 : decode cX12_chosen 42 = .ok (.bipush 61, 2) := by decide +kernel
theorem dX12_chosen_44 : decode cX12_chosen 44 = .ok (.if_icmp .eq 13, 3) := by decide +kernel
theorem dX12_chosen_47 : decode cX12_chosen 47 = .ok (.aload_n 0, 1) := by decide +kernel
theorem dX12_chosen_48 : decode cX12_chosen 48 = .ok (.iconst 1, 1) := by decide +kernel
theorem dX12_chosen_49 : decode cX12_chosen 49 = .ok (.aload_n 0, 1) := by decide +kernel
theorem dX12_chosen_50 : decode cX12_chosen 50 = .ok (.getfield 215, 3) := by decide +kernel
theorem dX12_chosen_53 : decode cX12_chosen 53 = .ok (.invokevirtual 285, 3) := by decide +kernel
theorem dX12_chosen_56 : decode cX12_chosen 56 = .ok (.return_, 1) := by decide +kernel
theorem dX12_chosen_57 : decode cX12_chosen 57 = .ok (.aload_n 0, 1) := by decide +kernel
theorem dX12_chosen_58 : decode cX12_chosen 58 = .ok (.dup, 1) := by decide +kernel
theorem dX12_chosen_59 : decode cX12_chosen 59 = .ok (.getfield 215, 3) := by decide +kernel
theorem dX12_chosen_62 : decode cX12_chosen 62 = .ok (.iconst 1, 1) := by decide +kernel
theorem dX12_chosen_63 : decode cX12_chosen 63 = .ok (.iadd, 1) := by decide +kernel
theorem dX12_chosen_64 : decode cX12_chosen 64 = .ok (.putfield 215, 3) := by decide +kernel
theorem dX12_chosen_67 : decode cX12_chosen 67 = .ok (.aload_n 0, 1) := by decide +kernel
theorem dX12_chosen_68 : decode cX12_chosen 68 = .ok (.invokevirtual 332, 3) := by decide +kernel
theorem dX12_chosen_71 : decode cX12_chosen 71 = .ok (.aload_n 0, 1) := by decide +kernel
theorem dX12_chosen_72 : decode cX12_chosen 72 = .ok (.iload_n 1, 1) := by decide +kernel
theorem dX12_chosen_73 : decode cX12_chosen 73 = .ok (.bipush 60, 2) := by decide +kernel
theorem dX12_chosen_75 : decode cX12_chosen 75 = .ok (.if_icmp .ne 8, 3) := by decide +kernel
theorem dX12_chosen_78 : decode cX12_chosen 78 = .ok (.bipush 9, 2) := by decide +kernel
theorem dX12_chosen_80 : decode cX12_chosen 80 = .ok (.goto 16, 3) := by decide +kernel
theorem dX12_chosen_83 : decode cX12_chosen 83 = .ok (.iload_n 1, 1) := by decide +kernel
theorem dX12_chosen_84 : decode cX12_chosen 84 = .ok (.bipush 62, 2) := by decide +kernel
theorem dX12_chosen_86 : decode cX12_chosen 86 = .ok (.if_icmp .ne 8, 3) := by decide +kernel
theorem dX12_chosen_89 : decode cX12_chosen 89 = .ok (.bipush 10, 2) := by decide +kernel
theorem dX12_chosen_91 : decode cX12_chosen 91 = .ok (.goto 5, 3) := by decide +kernel
theorem dX12_chosen_94 : decode cX12_chosen 94 = .ok (.bipush 11, 2) := by decide +kernel
theorem dX12_chosen_96 : decode cX12_chosen 96 = .ok (.iconst 0, 1) := by decide +kernel
theorem dX12_chosen_97 : decode cX12_chosen 97 = .ok (.invokevirtual 305, 3) := by decide +kernel
theorem dX12_chosen_100 : decode cX12_chosen 100 = .ok (.aload_n 0, 1) := by decide +kernel
theorem dX12_chosen_101 : decode cX12_chosen 101 = .ok (.bipush 44, 2) := by decide +kernel
theorem dX12_chosen_103 : decode cX12_chosen 103 = .ok (.invokevirtual 298, 3) := by decide +kernel
theorem dX12_chosen_106 : decode cX12_chosen 106 = .ok (.aload_n 0, 1) := by decide +kernel
theorem dX12_chosen_107 : decode cX12_chosen 107 = .ok (.invokevirtual 332, 3) := by decide +kernel
theorem dX12_chosen_110 : decode cX12_chosen 110 = .ok (.aload_n 0, 1) := by decide +kernel
theorem dX12_chosen_111 : decode cX12_chosen 111 = .ok (.bipush 44, 2) := by decide +kernel
theorem dX12_chosen_113 : decode cX12_chosen 113 = .ok (.invokevirtual 298, 3) := by decide +kernel
theorem dX12_chosen_116 : decode cX12_chosen 116 = .ok (.aload_n 0, 1) := by decide +kernel
theorem dX12_chosen_117 : decode cX12_chosen 117 = .ok (.invokevirtual 332, 3) := by decide +kernel
theorem dX12_chosen_120 : decode cX12_chosen 120 = .ok (.aload_n 0, 1) := by decide +kernel
theorem dX12_chosen_121 : decode cX12_chosen 121 = .ok (.invokevirtual 335, 3) := by decide +kernel
theorem dX12_chosen_124 : decode cX12_chosen 124 = .ok (.aload_n 0, 1) := by decide +kernel
theorem dX12_chosen_125 : decode cX12_chosen 125 = .ok (.bipush 8, 2) := by decide +kernel
theorem dX12_chosen_127 : decode cX12_chosen 127 = .ok (.iconst 0, 1) := by decide +kernel
theorem dX12_chosen_128 : decode cX12_chosen 128 = .ok (.invokevirtual 305, 3) := by decide +kernel
theorem dX12_chosen_131 : decode cX12_chosen 131 = .ok (.return_, 1) := by decide +kernel
theorem dX12_formula_0 : decode cX12_formula 0 = .ok (.aload_n 0, 1) := by decide +kernel
theorem dX12_formula_1 : decode cX12_formula 1 = .ok (.getfield 90, 3) := by decide +kernel
theorem dX12_formula_4 : decode cX12_formula 4 = .ok (.iload_n 1, 1) := by decide +kernel
theorem dX12_formula_5 : decode cX12_formula 5 = .ok (.iload_n 2, 1) := by decide +kernel
theorem dX12_formula_6 : decode cX12_formula 6 = .ok (.iastore, 1) := by decide +kernel
theorem dX12_formula_7 : decode cX12_formula 7 = .ok (.aload_n 0, 1) := by decide +kernel
theorem dX12_formula_8 : decode cX12_formula 8 = .ok (.getfield 93, 3) := by decide +kernel
theorem dX12_formula_11 : decode cX12_formula 11 = .ok (.iload_n 1, 1) := by decide +kernel
theorem dX12_formula_12 : decode cX12_formula 12 = .ok (.aload_n 0, 1) := by decide +kernel
theorem dX12_formula_13 : decode cX12_formula 13 = .ok (.getfield 292, 3) := by decide +kernel
theorem dX12_formula_16 : decode cX12_formula 16 = .ok (.iastore, 1) := by decide +kernel
theorem dX12_formula_17 : decode cX12_formula 17 = .ok (.aload_n 0, 1) := by decide +kernel
theorem dX12_formula_18 : decode cX12_formula 18 = .ok (.invokevirtual 332, 3) := by decide +kernel
theorem dX12_formula_21 : decode cX12_formula 21 = .ok (.aload_n 0, 1) := by decide +kernel
theorem dX12_formula_22 : decode cX12_formula 22 = .ok (.bipush 12, 2) := by decide +kernel
theorem dX12_formula_24 : decode cX12_formula 24 = .ok (.iconst 0, 1) := by decide +kernel
theorem dX12_formula_25 : decode cX12_formula 25 = .ok (.invokevirtual 305, 3) := by decide +kernel
theorem dX12_formula_28 : decode cX12_formula 28 = .ok (.return_, 1) := by decide +kernel
theorem dX12_oneOf_0 : decode cX12_oneOf 0 = .ok (.iconst 0, 1) := by decide +kernel
theorem dX12_oneOf_1 : decode cX12_oneOf 1 = .ok (.istore_n 3, 1) := by decide +kernel
theorem dX12_oneOf_2 : decode cX12_oneOf 2 = .ok (.iload_n 3, 1) := by decide +kernel
theorem dX12_oneOf_3 : decode cX12_oneOf 3 = .ok (.iload_n 1, 1) := by decide +kernel
theorem dX12_oneOf_4 : decode cX12_oneOf 4 = .ok (.if_icmp .ge 33, 3) := by decide +kernel
theorem dX12_oneOf_7 : decode cX12_oneOf 7 = .ok (.aload_n 0, 1) := by decide +kernel
theorem dX12_oneOf_8 : decode cX12_oneOf 8 = .ok (.iload_n 2, 1) := by decide +kernel
theorem dX12_oneOf_9 : decode cX12_oneOf 9 = .ok (.ifCond .eq 10, 3) := by decide +kernel
theorem dX12_oneOf_12 : decode cX12_oneOf 12 = .ok (.iload_n 3, 1) := by decide +kernel
theorem dX12_oneOf_13 : decode cX12_oneOf 13 = .ok (.invokestatic 338, 3) := by decide +kernel
theorem dX12_oneOf_16 : decode cX12_oneOf 16 = .ok (.goto 7, 3) := by decide +kernel
theorem dX12_oneOf_19 : decode cX12_oneOf 19 = .ok (.iload_n 3, 1) := by decide +kernel
theorem dX12_oneOf_20 : decode cX12_oneOf 20 = .ok (.invokestatic 341, 3) := by decide +kernel
theorem dX12_oneOf_23 : decode cX12_oneOf 23 = .ok (.invokevirtual 317, 3) := by decide +kernel
theorem dX12_oneOf_26 : decode cX12_oneOf 26 = .ok (.ifCond .eq 5, 3) := by decide +kernel
theorem dX12_oneOf_29 : decode cX12_oneOf 29 = .ok (.iload_n 3, 1) := by decide +kernel
theorem dX12_oneOf_30 : decode cX12_oneOf 30 = .ok (.ireturn, 1) := by decide +kernel
theorem dX12_oneOf_31 : decode cX12_oneOf 31 = .ok (.iinc 3 1, 3) := by decide +kernel
theorem dX12_oneOf_34 : decode cX12_oneOf 34 = .ok (.goto (-32), 3) := by decide +kernel
theorem dX12_oneOf_37 : decode cX12_oneOf 37 = .ok (.aload_n 0, 1) := by decide +kernel
theorem dX12_oneOf_38 : decode cX12_oneOf 38 = .ok (.invokevirtual 225, 3) := by decide +kernel
theorem dX12_oneOf_41 : decode cX12_oneOf 41 = .ok (.aload_n 0, 1) := by decide +kernel
theorem dX12_oneOf_42 : decode cX12_oneOf 42 = .ok (.iconst 1, 1) := by decide +kernel
theorem dX12_oneOf_43 : decode cX12_oneOf 43 = .ok (.aload_n 0, 1) := by decide +kernel
theorem dX12_oneOf_44 : decode cX12_oneOf 44 = .ok (.getfield 215, 3) := by decide +kernel
theorem dX12_oneOf_47 : decode cX12_oneOf 47 = .ok (.invokevirtual 285, 3) := by decide +kernel
theorem dX12_oneOf_50 : decode cX12_oneOf 50 = .ok (.iconst 0, 1) := by decide +kernel
theorem dX12_oneOf_51 : decode cX12_oneOf 51 = .ok (.ireturn, 1) := by decide +kernel
theorem dX12_clause_0 : decode cX12_clause 0 = .ok (.aload_n 0, 1) := by decide +kernel
theorem dX12_clause_1 : decode cX12_clause 1 = .ok (.invokevirtual 344, 3) := by decide +kernel
theorem dX12_clause_4 : decode cX12_clause 4 = .ok (.istore_n 2, 1) := by decide +kernel
theorem dX12_clause_5 : decode cX12_clause 5 = .ok (.iload_n 2, 1) := by decide +kernel
theorem dX12_clause_6 : decode cX12_clause 6 = .ok (.ifCond .ge 13, 3) := by decide +kernel
theorem dX12_clause_9 : decode cX12_clause 9 = .ok (.aload_n 0, 1) := by decide +kernel
theorem dX12_clause_10 : decode cX12_clause 10 = .ok (.iconst 1, 1) := by decide +kernel
theorem dX12_clause_11 : decode cX12_clause 11 = .ok (.aload_n 0, 1) := by decide +kernel
theorem dX12_clause_12 : decode cX12_clause 12 = .ok (.getfield 215, 3) := by decide +kernel
theorem dX12_clause_15 : decode cX12_clause 15 = .ok (.invokevirtual 285, 3) := by decide +kernel
theorem dX12_clause_18 : decode cX12_clause 18 = .ok (.return_, 1) := by decide +kernel
theorem dX12_clause_19 : decode cX12_clause 19 = .ok (.aload_n 0, 1) := by decide +kernel
theorem dX12_clause_20 : decode cX12_clause 20 = .ok (.dup, 1) := by decide +kernel
theorem dX12_clause_21 : decode cX12_clause 21 = .ok (.getfield 215, 3) := by decide +kernel
theorem dX12_clause_24 : decode cX12_clause 24 = .ok (.iload_n 2, 1) := by decide +kernel
theorem dX12_clause_25 : decode cX12_clause 25 = .ok (.invokestatic 278, 3) := by decide +kernel
theorem dX12_clause_28 : decode cX12_clause 28 = .ok (.invokevirtual 228, 3) := by decide +kernel
theorem dX12_clause_31 : decode cX12_clause 31 = .ok (.iadd, 1) := by decide +kernel
theorem dX12_clause_32 : decode cX12_clause 32 = .ok (.putfield 215, 3) := by decide +kernel
theorem dX12_clause_35 : decode cX12_clause 35 = .ok (.iload_n 2, 1) := by decide +kernel
theorem dX12_clause_36 : decode cX12_clause 36 = .ok (.ifCond .ne 12, 3) := by decide +kernel
theorem dX12_clause_39 : decode cX12_clause 39 = .ok (.aload_n 0, 1) := by decide +kernel
theorem dX12_clause_40 : decode cX12_clause 40 = .ok (.iload_n 1, 1) := by decide +kernel
theorem dX12_clause_41 : decode cX12_clause 41 = .ok (.iconst 0, 1) := by decide +kernel
theorem dX12_clause_42 : decode cX12_clause 42 = .ok (.invokevirtual 347, 3) := by decide +kernel
theorem dX12_clause_45 : decode cX12_clause 45 = .ok (.goto 189, 3) := by decide +kernel
theorem dX12_clause_48 : decode cX12_clause 48 = .ok (.iload_n 2, 1) := by decide +kernel
theorem dX12_clause_49 : decode cX12_clause 49 = .ok (.iconst 1, 1) := by decide +kernel
theorem dX12_clause_50 : decode cX12_clause 50 = .ok (.if_icmp .ne 33, 3) := by decide +kernel
theorem dX12_clause_53 : decode cX12_clause 53 = .ok (.aload_n 0, 1) := by decide +kernel
theorem dX12_clause_54 : decode cX12_clause 54 = .ok (.getfield 90, 3) := by decide +kernel
theorem dX12_clause_57 : decode cX12_clause 57 = .ok (.iload_n 1, 1) := by decide +kernel
theorem dX12_clause_58 : decode cX12_clause 58 = .ok (.iconst 1, 1) := by decide +kernel
theorem dX12_clause_59 : decode cX12_clause 59 = .ok (.aload_n 0, 1) := by decide +kernel
theorem dX12_clause_60 : decode cX12_clause 60 = .ok (.iconst 3, 1) := by decide +kernel
theorem dX12_clause_61 : decode cX12_clause 61 = .ok (.iconst 1, 1) := by decide +kernel
theorem dX12_clause_62 : decode cX12_clause 62 = .ok (.invokevirtual 350, 3) := by decide +kernel
theorem dX12_clause_65 : decode cX12_clause 65 = .ok (.iadd, 1) := by decide +kernel
theorem dX12_clause_66 : decode cX12_clause 66 = .ok (.iastore, 1) := by decide +kernel
theorem dX12_clause_67 : decode cX12_clause 67 = .ok (.aload_n 0, 1) := by decide +kernel
theorem dX12_clause_68 : decode cX12_clause 68 = .ok (.getfield 93, 3) := by decide +kernel
theorem dX12_clause_71 : decode cX12_clause 71 = .ok (.iload_n 1, 1) := by decide +kernel
theorem dX12_clause_72 : decode cX12_clause 72 = .ok (.aload_n 0, 1) := by decide +kernel
theorem dX12_clause_73 : decode cX12_clause 73 = .ok (.iconst 2, 1) := by decide +kernel
theorem dX12_clause_74 : decode cX12_clause 74 = .ok (.bipush 64, 2) := by decide +kernel
theorem dX12_clause_76 : decode cX12_clause 76 = .ok (.invokevirtual 311, 3) := by decide +kernel
theorem dX12_clause_79 : decode cX12_clause 79 = .ok (.iastore, 1) := by decide +kernel
theorem dX12_clause_80 : decode cX12_clause 80 = .ok (.goto 154, 3) := by decide +kernel
theorem dX12_clause_83 : decode cX12_clause 83 = .ok (.iload_n 2, 1) := by decide +kernel
theorem dX12_clause_84 : decode cX12_clause 84 = .ok (.iconst 2, 1) := by decide +kernel
theorem dX12_clause_85 : decode cX12_clause 85 = .ok (.if_icmp .ne 12, 3) := by decide +kernel
theorem dX12_clause_88 : decode cX12_clause 88 = .ok (.aload_n 0, 1) := by decide +kernel
theorem dX12_clause_89 : decode cX12_clause 89 = .ok (.iload_n 1, 1) := by decide +kernel
theorem dX12_clause_90 : decode cX12_clause 90 = .ok (.iconst 4, 1) := by decide +kernel
theorem dX12_clause_91 : decode cX12_clause 91 = .ok (.invokevirtual 347, 3) := by decide +kernel
theorem dX12_clause_94 : decode cX12_clause 94 = .ok (.goto 140, 3) := by decide +kernel
theorem dX12_clause_97 : decode cX12_clause 97 = .ok (.iload_n 2, 1) := by decide +kernel
theorem dX12_clause_98 : decode cX12_clause 98 = .ok (.bipush 8, 2) := by decide +kernel
theorem dX12_clause_100 : decode cX12_clause 100 = .ok (.if_icmp .ge 47, 3) := by decide +kernel
theorem dX12_clause_103 : decode cX12_clause 103 = .ok (.aload_n 0, 1) := by decide +kernel
theorem dX12_clause_104 : decode cX12_clause 104 = .ok (.getfield 90, 3) := by decide +kernel
theorem dX12_clause_107 : decode cX12_clause 107 = .ok (.iload_n 1, 1) := by decide +kernel
theorem dX12_clause_108 : decode cX12_clause 108 = .ok (.iconst 5, 1) := by decide +kernel
theorem dX12_clause_109 : decode cX12_clause 109 = .ok (.iload_n 2, 1) := by decide +kernel
theorem dX12_clause_110 : decode cX12_clause 110 = .ok (.iadd, 1) := by decide +kernel
theorem dX12_clause_111 : decode cX12_clause 111 = .ok (.iconst 3, 1) := by decide +kernel
theorem dX12_clause_112 : decode cX12_clause 112 = .ok (.isub, 1) := by decide +kernel
theorem dX12_clause_113 : decode cX12_clause 113 = .ok (.iastore, 1) := by decide +kernel
theorem dX12_clause_114 : decode cX12_clause 114 = .ok (.aload_n 0, 1) := by decide +kernel
theorem dX12_clause_115 : decode cX12_clause 115 = .ok (.getfield 93, 3) := by decide +kernel
theorem dX12_clause_118 : decode cX12_clause 118 = .ok (.iload_n 1, 1) := by decide +kernel
theorem dX12_clause_119 : decode cX12_clause 119 = .ok (.aload_n 0, 1) := by decide +kernel
theorem dX12_clause_120 : decode cX12_clause 120 = .ok (.iconst 0, 1) := by decide +kernel
theorem dX12_clause_121 : decode cX12_clause 121 = .ok (.iload_n 2, 1) := by decide +kernel
theorem dX12_clause_122 : decode cX12_clause 122 = .ok (.iconst 5, 1) := by decide +kernel
theorem dX12_clause_123 : decode cX12_clause 123 = .ok (.if_icmp .eq 9, 3) := by decide +kernel
theorem dX12_clause_126 : decode cX12_clause 126 = .ok (.iload_n 2, 1) := by decide +kernel
theorem dX12_clause_127 : decode cX12_clause 127 = .ok (.bipush 6, 2) := by decide +kernel
theorem dX12_clause_129 : decode cX12_clause 129 = .ok (.if_icmp .ne 8, 3) := by decide +kernel
theorem dX12_clause_132 : decode cX12_clause 132 = .ok (.bipush 100, 2) := by decide +kernel
theorem dX12_clause_134 : decode cX12_clause 134 = .ok (.goto 6, 3) := by decide +kernel
theorem dX12_clause_137 : decode cX12_clause 137 = .ok (.sipush 9999, 3) := by decide +kernel
theorem dX12_clause_140 : decode cX12_clause 140 = .ok (.invokevirtual 311, 3) := by decide +kernel
theorem dX12_clause_143 : decode cX12_clause 143 = .ok (.iastore, 1) := by decide +kernel
theorem dX12_clause_144 : decode cX12_clause 144 = .ok (.goto 90, 3) := by decide +kernel
theorem dX12_clause_147 : decode cX12_clause 147 = .ok (.iload_n 2, 1) := by decide +kernel
theorem dX12_clause_148 : decode cX12_clause 148 = .ok (.bipush 8, 2) := by decide +kernel
theorem dX12_clause_150 : decode cX12_clause 150 = .ok (.if_icmp .ne 64, 3) := by decide +kernel
theorem dX12_clause_153 : decode cX12_clause 153 = .ok (.aload_n 0, 1) := by decide +kernel
theorem dX12_clause_154 : decode cX12_clause 154 = .ok (.getfield 90, 3) := by decide +kernel
theorem dX12_clause_157 : decode cX12_clause 157 = .ok (.iload_n 1, 1) := by decide +kernel
theorem dX12_clause_158 : decode cX12_clause 158 = .ok (.bipush 10, 2) := by decide +kernel
theorem dX12_clause_160 : decode cX12_clause 160 = .ok (.iastore, 1) := by decide +kernel
theorem dX12_clause_161 : decode cX12_clause 161 = .ok (.aload_n 0, 1) := by decide +kernel
theorem dX12_clause_162 : decode cX12_clause 162 = .ok (.ldc_w 354, 3) := by decide +kernel
theorem dX12_clause_165 : decode cX12_clause 165 = .ok (.invokevirtual 317, 3) := by decide +kernel
theorem dX12_clause_168 : decode cX12_clause 168 = .ok (.istore_n 3, 1) := by decide +kernel
theorem dX12_clause_169 : decode cX12_clause 169 = .ok (.iload_n 3, 1) := by decide +kernel
theorem dX12_clause_170 : decode cX12_clause 170 = .ok (.ifCond .ne 26, 3) := by decide +kernel
theorem dX12_clause_173 : decode cX12_clause 173 = .ok (.aload_n 0, 1) := by decide +kernel
theorem dX12_clause_174 : decode cX12_clause 174 = .ok (.ldc_w 356, 3) := by decide +kernel
theorem dX12_clause_177 : decode cX12_clause 177 = .ok (.invokevirtual 317, 3) := by decide +kernel
theorem dX12_clause_180 : decode cX12_clause 180 = .ok (.ifCond .ne 16, 3) := by decide +kernel
theorem dX12_clause_183 : decode cX12_clause 183 = .ok (.aload_n 0, 1) := by decide +kernel
theorem dX12_clause_184 : decode cX12_clause 184 = .ok (.invokevirtual 225, 3) := by decide +kernel
theorem dX12_clause_187 : decode cX12_clause 187 = .ok (.aload_n 0, 1) := by decide +kernel
theorem dX12_clause_188 : decode cX12_clause 188 = .ok (.iconst 1, 1) := by decide +kernel
theorem dX12_clause_189 : decode cX12_clause 189 = .ok (.aload_n 0, 1) := by decide +kernel
theorem dX12_clause_190 : decode cX12_clause 190 = .ok (.getfield 215, 3) := by decide +kernel
theorem dX12_clause_193 : decode cX12_clause 193 = .ok (.invokevirtual 285, 3) := by decide +kernel
theorem dX12_clause_196 : decode cX12_clause 196 = .ok (.aload_n 0, 1) := by decide +kernel
theorem dX12_clause_197 : decode cX12_clause 197 = .ok (.getfield 93, 3) := by decide +kernel
theorem dX12_clause_200 : decode cX12_clause 200 = .ok (.iload_n 1, 1) := by decide +kernel
theorem dX12_clause_201 : decode cX12_clause 201 = .ok (.iload_n 3, 1) := by decide +kernel
theorem dX12_clause_202 : decode cX12_clause 202 = .ok (.ifCond .eq 7, 3) := by decide +kernel
theorem dX12_clause_205 : decode cX12_clause 205 = .ok (.iconst 1, 1) := by decide +kernel
theorem dX12_clause_206 : decode cX12_clause 206 = .ok (.goto 4, 3) := by decide +kernel
theorem dX12_clause_209 : decode cX12_clause 209 = .ok (.iconst 0, 1) := by decide +kernel
theorem dX12_clause_210 : decode cX12_clause 210 = .ok (.iastore, 1) := by decide +kernel
theorem dX12_clause_211 : decode cX12_clause 211 = .ok (.goto 23, 3) := by decide +kernel
theorem dX12_clause_214 : decode cX12_clause 214 = .ok (.aload_n 0, 1) := by decide +kernel
theorem dX12_clause_215 : decode cX12_clause 215 = .ok (.getfield 90, 3) := by decide +kernel
theorem dX12_clause_218 : decode cX12_clause 218 = .ok (.iload_n 1, 1) := by decide +kernel
theorem dX12_clause_219 : decode cX12_clause 219 = .ok (.bipush 11, 2) := by decide +kernel
theorem dX12_clause_221 : decode cX12_clause 221 = .ok (.iastore, 1) := by decide +kernel
theorem dX12_clause_222 : decode cX12_clause 222 = .ok (.aload_n 0, 1) := by decide +kernel
theorem dX12_clause_223 : decode cX12_clause 223 = .ok (.getfield 93, 3) := by decide +kernel
theorem dX12_clause_226 : decode cX12_clause 226 = .ok (.iload_n 1, 1) := by decide +kernel
theorem dX12_clause_227 : decode cX12_clause 227 = .ok (.aload_n 0, 1) := by decide +kernel
theorem dX12_clause_228 : decode cX12_clause 228 = .ok (.iconst 4, 1) := by decide +kernel
theorem dX12_clause_229 : decode cX12_clause 229 = .ok (.iconst 0, 1) := by decide +kernel
theorem dX12_clause_230 : decode cX12_clause 230 = .ok (.invokevirtual 350, 3) := by decide +kernel
theorem dX12_clause_233 : decode cX12_clause 233 = .ok (.iastore, 1) := by decide +kernel
theorem dX12_clause_234 : decode cX12_clause 234 = .ok (.aload_n 0, 1) := by decide +kernel
theorem dX12_clause_235 : decode cX12_clause 235 = .ok (.bipush 59, 2) := by decide +kernel
theorem dX12_clause_237 : decode cX12_clause 237 = .ok (.invokevirtual 298, 3) := by decide +kernel
theorem dX12_clause_240 : decode cX12_clause 240 = .ok (.return_, 1) := by decide +kernel
theorem dX12_order_0 : decode cX12_order 0 = .ok (.aload_n 0, 1) := by decide +kernel
theorem dX12_order_1 : decode cX12_order 1 = .ok (.iconst 0, 1) := by decide +kernel
theorem dX12_order_2 : decode cX12_order 2 = .ok (.putfield 173, 3) := by decide +kernel
theorem dX12_order_5 : decode cX12_order 5 = .ok (.aload_n 0, 1) := by decide +kernel
theorem dX12_order_6 : decode cX12_order 6 = .ok (.iload_n 1, 1) := by decide +kernel
theorem dX12_order_7 : decode cX12_order 7 = .ok (.iconst 0, 1) := by decide +kernel
theorem dX12_order_8 : decode cX12_order 8 = .ok (.sipush 600, 3) := by decide +kernel
theorem dX12_order_11 : decode cX12_order 11 = .ok (.invokestatic 176, 3) := by decide +kernel
theorem dX12_order_14 : decode cX12_order 14 = .ok (.ifCond .eq 15, 3) := by decide +kernel
theorem dX12_order_17 : decode cX12_order 17 = .ok (.iload_n 2, 1) := by decide +kernel
theorem dX12_order_18 : decode cX12_order 18 = .ok (.ifCond .lt 11, 3) := by decide +kernel
theorem dX12_order_21 : decode cX12_order 21 = .ok (.iload_n 2, 1) := by decide +kernel
theorem dX12_order_22 : decode cX12_order 22 = .ok (.aload_n 0, 1) := by decide +kernel
theorem dX12_order_23 : decode cX12_order 23 = .ok (.getfield 209, 3) := by decide +kernel
theorem dX12_order_26 : decode cX12_order 26 = .ok (.if_icmp .le 7, 3) := by decide +kernel
theorem dX12_order_29 : decode cX12_order 29 = .ok (.iconst 1, 1) := by decide +kernel
theorem dX12_order_30 : decode cX12_order 30 = .ok (.goto 4, 3) := by decide +kernel
theorem dX12_order_33 : decode cX12_order 33 = .ok (.iconst 0, 1) := by decide +kernel
theorem dX12_order_34 : decode cX12_order 34 = .ok (.iconst 1, 1) := by decide +kernel
theorem dX12_order_35 : decode cX12_order 35 = .ok (.invokevirtual 181, 3) := by decide +kernel
theorem dX12_order_38 : decode cX12_order 38 = .ok (.ifCond .eq 5, 3) := by decide +kernel
theorem dX12_order_41 : decode cX12_order 41 = .ok (.iconst 0, 1) := by decide +kernel
theorem dX12_order_42 : decode cX12_order 42 = .ok (.ireturn, 1) := by decide +kernel
theorem dX12_order_43 : decode cX12_order 43 = .ok (.aload_n 0, 1) := by decide +kernel
theorem dX12_order_44 : decode cX12_order 44 = .ok (.iload_n 2, 1) := by decide +kernel
theorem dX12_order_45 : decode cX12_order 45 = .ok (.putfield 212, 3) := by decide +kernel
theorem dX12_order_48 : decode cX12_order 48 = .ok (.aload_n 0, 1) := by decide +kernel
theorem dX12_order_49 : decode cX12_order 49 = .ok (.iconst 0, 1) := by decide +kernel
theorem dX12_order_50 : decode cX12_order 50 = .ok (.putfield 209, 3) := by decide +kernel
theorem dX12_order_53 : decode cX12_order 53 = .ok (.aload_n 0, 1) := by decide +kernel
theorem dX12_order_54 : decode cX12_order 54 = .ok (.getfield 289, 3) := by decide +kernel
theorem dX12_order_57 : decode cX12_order 57 = .ok (.bipush 10, 2) := by decide +kernel
theorem dX12_order_59 : decode cX12_order 59 = .ok (.if_icmp .ne 5, 3) := by decide +kernel
theorem dX12_order_62 : decode cX12_order 62 = .ok (.iconst (-1), 1) := by decide +kernel
theorem dX12_order_63 : decode cX12_order 63 = .ok (.ireturn, 1) := by decide +kernel
theorem dX12_order_64 : decode cX12_order 64 = .ok (.aload_n 0, 1) := by decide +kernel
theorem dX12_order_65 : decode cX12_order 65 = .ok (.iconst 0, 1) := by decide +kernel
theorem dX12_order_66 : decode cX12_order 66 = .ok (.putfield 215, 3) := by decide +kernel
theorem dX12_order_69 : decode cX12_order 69 = .ok (.aload_n 0, 1) := by decide +kernel
theorem dX12_order_70 : decode cX12_order 70 = .ok (.iconst 0, 1) := by decide +kernel
theorem dX12_order_71 : decode cX12_order 71 = .ok (.putfield 222, 3) := by decide +kernel
theorem dX12_order_74 : decode cX12_order 74 = .ok (.aload_n 0, 1) := by decide +kernel
theorem dX12_order_75 : decode cX12_order 75 = .ok (.iconst (-1), 1) := by decide +kernel
theorem dX12_order_76 : decode cX12_order 76 = .ok (.putfield 80, 3) := by decide +kernel
theorem dX12_order_79 : decode cX12_order 79 = .ok (.aload_n 0, 1) := by decide +kernel
theorem dX12_order_80 : decode cX12_order 80 = .ok (.iconst 0, 1) := by decide +kernel
theorem dX12_order_81 : decode cX12_order 81 = .ok (.putfield 295, 3) := by decide +kernel
theorem dX12_order_84 : decode cX12_order 84 = .ok (.aload_n 0, 1) := by decide +kernel
theorem dX12_order_85 : decode cX12_order 85 = .ok (.iconst 0, 1) := by decide +kernel
theorem dX12_order_86 : decode cX12_order 86 = .ok (.putfield 292, 3) := by decide +kernel
theorem dX12_order_89 : decode cX12_order 89 = .ok (.iconst 0, 1) := by decide +kernel
theorem dX12_order_90 : decode cX12_order 90 = .ok (.istore_n 3, 1) := by decide +kernel
theorem dX12_order_91 : decode cX12_order 91 = .ok (.aload_n 0, 1) := by decide +kernel
theorem dX12_order_92 : decode cX12_order 92 = .ok (.invokevirtual 225, 3) := by decide +kernel
theorem dX12_order_95 : decode cX12_order 95 = .ok (.aload_n 0, 1) := by decide +kernel
theorem dX12_order_96 : decode cX12_order 96 = .ok (.getfield 222, 3) := by decide +kernel
theorem dX12_order_99 : decode cX12_order 99 = .ok (.ifCond .ne 66, 3) := by decide +kernel
theorem dX12_order_102 : decode cX12_order 102 = .ok (.aload_n 0, 1) := by decide +kernel
theorem dX12_order_103 : decode cX12_order 103 = .ok (.getfield 215, 3) := by decide +kernel
theorem dX12_order_106 : decode cX12_order 106 = .ok (.aload_n 0, 1) := by decide +kernel
theorem dX12_order_107 : decode cX12_order 107 = .ok (.getfield 212, 3) := by decide +kernel
theorem dX12_order_110 : decode cX12_order 110 = .ok (.if_icmp .ge 55, 3) := by decide +kernel
theorem dX12_order_113 : decode cX12_order 113 = .ok (.iload_n 3, 1) := by decide +kernel
theorem dX12_order_114 : decode cX12_order 114 = .ok (.bipush 12, 2) := by decide +kernel
theorem dX12_order_116 : decode cX12_order 116 = .ok (.if_icmp .ne 26, 3) := by decide +kernel
theorem dX12_order_119 : decode cX12_order 119 = .ok (.aload_n 0, 1) := by decide +kernel
theorem dX12_order_120 : decode cX12_order 120 = .ok (.aload_n 0, 1) := by decide +kernel
theorem dX12_order_121 : decode cX12_order 121 = .ok (.invokevirtual 344, 3) := by decide +kernel
theorem dX12_order_124 : decode cX12_order 124 = .ok (.ifCond .lt 7, 3) := by decide +kernel
theorem dX12_order_127 : decode cX12_order 127 = .ok (.iconst 3, 1) := by decide +kernel
theorem dX12_order_128 : decode cX12_order 128 = .ok (.goto 4, 3) := by decide +kernel
theorem dX12_order_131 : decode cX12_order 131 = .ok (.iconst 1, 1) := by decide +kernel
theorem dX12_order_132 : decode cX12_order 132 = .ok (.aload_n 0, 1) := by decide +kernel
theorem dX12_order_133 : decode cX12_order 133 = .ok (.getfield 215, 3) := by decide +kernel
theorem dX12_order_136 : decode cX12_order 136 = .ok (.invokevirtual 285, 3) := by decide +kernel
theorem dX12_order_139 : decode cX12_order 139 = .ok (.goto (-44), 3) := by decide +kernel
theorem dX12_order_142 : decode cX12_order 142 = .ok (.aload_n 0, 1) := by decide +kernel
theorem dX12_order_143 : decode cX12_order 143 = .ok (.bipush 12, 2) := by decide +kernel
theorem dX12_order_145 : decode cX12_order 145 = .ok (.aload_n 0, 1) := by decide +kernel
theorem dX12_order_146 : decode cX12_order 146 = .ok (.getfield 289, 3) := by decide +kernel
theorem dX12_order_149 : decode cX12_order 149 = .ok (.imul, 1) := by decide +kernel
theorem dX12_order_150 : decode cX12_order 150 = .ok (.iload_n 3, 1) := by decide +kernel
theorem dX12_order_151 : decode cX12_order 151 = .ok (.iadd, 1) := by decide +kernel
theorem dX12_order_152 : decode cX12_order 152 = .ok (.invokevirtual 358, 3) := by decide +kernel
theorem dX12_order_155 : decode cX12_order 155 = .ok (.iinc 3 1, 3) := by decide +kernel
theorem dX12_order_158 : decode cX12_order 158 = .ok (.aload_n 0, 1) := by decide +kernel
theorem dX12_order_159 : decode cX12_order 159 = .ok (.invokevirtual 225, 3) := by decide +kernel
theorem dX12_order_162 : decode cX12_order 162 = .ok (.goto (-67), 3) := by decide +kernel
theorem dX12_order_165 : decode cX12_order 165 = .ok (.aload_n 0, 1) := by decide +kernel
theorem dX12_order_166 : decode cX12_order 166 = .ok (.getfield 222, 3) := by decide +kernel
theorem dX12_order_169 : decode cX12_order 169 = .ok (.ifCond .le 11, 3) := by decide +kernel
theorem dX12_order_172 : decode cX12_order 172 = .ok (.aload_n 0, 1) := by decide +kernel
theorem dX12_order_173 : decode cX12_order 173 = .ok (.getfield 222, 3) := by decide +kernel
theorem dX12_order_176 : decode cX12_order 176 = .ok (.bipush 10, 2) := by decide +kernel
theorem dX12_order_178 : decode cX12_order 178 = .ok (.isub, 1) := by decide +kernel
theorem dX12_order_179 : decode cX12_order 179 = .ok (.ireturn, 1) := by decide +kernel
theorem dX12_order_180 : decode cX12_order 180 = .ok (.aload_n 0, 1) := by decide +kernel
theorem dX12_order_181 : decode cX12_order 181 = .ok (.getfield 84, 3) := by decide +kernel
theorem dX12_order_184 : decode cX12_order 184 = .ok (.aload_n 0, 1) := by decide +kernel
theorem dX12_order_185 : decode cX12_order 185 = .ok (.getfield 289, 3) := by decide +kernel
theorem dX12_order_188 : decode cX12_order 188 = .ok (.iload_n 1, 1) := by decide +kernel
theorem dX12_order_189 : decode cX12_order 189 = .ok (.iastore, 1) := by decide +kernel
theorem dX12_order_190 : decode cX12_order 190 = .ok (.aload_n 0, 1) := by decide +kernel
theorem dX12_order_191 : decode cX12_order 191 = .ok (.getfield 87, 3) := by decide +kernel
theorem dX12_order_194 : decode cX12_order 194 = .ok (.aload_n 0, 1) := by decide +kernel
theorem dX12_order_195 : decode cX12_order 195 = .ok (.getfield 289, 3) := by decide +kernel
theorem dX12_order_198 : decode cX12_order 198 = .ok (.iload_n 3, 1) := by decide +kernel
theorem dX12_order_199 : decode cX12_order 199 = .ok (.iastore, 1) := by decide +kernel
theorem dX12_order_200 : decode cX12_order 200 = .ok (.aload_n 0, 1) := by decide +kernel
theorem dX12_order_201 : decode cX12_order 201 = .ok (.dup, 1) := by decide +kernel
theorem dX12_order_202 : decode cX12_order 202 = .ok (.getfield 289, 3) := by decide +kernel
theorem dX12_order_205 : decode cX12_order 205 = .ok (.iconst 1, 1) := by decide +kernel
theorem dX12_order_206 : decode cX12_order 206 = .ok (.iadd, 1) := by decide +kernel
theorem dX12_order_207 : decode cX12_order 207 = .ok (.putfield 289, 3) := by decide +kernel
theorem dX12_order_210 : decode cX12_order 210 = .ok (.aload_n 0, 1) := by decide +kernel
theorem dX12_order_211 : decode cX12_order 211 = .ok (.getfield 289, 3) := by decide +kernel
theorem dX12_order_214 : decode cX12_order 214 = .ok (.iconst 1, 1) := by decide +kernel
theorem dX12_order_215 : decode cX12_order 215 = .ok (.isub, 1) := by decide +kernel
theorem dX12_order_216 : decode cX12_order 216 = .ok (.ireturn, 1) := by decide +kernel
theorem dX12_fault_0 : decode cX12_fault 0 = .ok (.aload_n 0, 1) := by decide +kernel
theorem dX12_fault_1 : decode cX12_fault 1 = .ok (.iconst 0, 1) := by decide +kernel
theorem dX12_fault_2 : decode cX12_fault 2 = .ok (.putfield 173, 3) := by decide +kernel
theorem dX12_fault_5 : decode cX12_fault 5 = .ok (.aload_n 0, 1) := by decide +kernel
theorem dX12_fault_6 : decode cX12_fault 6 = .ok (.getfield 80, 3) := by decide +kernel
theorem dX12_fault_9 : decode cX12_fault 9 = .ok (.ireturn, 1) := by decide +kernel
theorem dX12_forceIn_0 : decode cX12_forceIn 0 = .ok (.iconst (-1), 1) := by decide +kernel
theorem dX12_forceIn_1 : decode cX12_forceIn 1 = .ok (.istore_n 2, 1) := by decide +kernel
theorem dX12_forceIn_2 : decode cX12_forceIn 2 = .ok (.iconst 0, 1) := by decide +kernel
theorem dX12_forceIn_3 : decode cX12_forceIn 3 = .ok (.istore_n 3, 1) := by decide +kernel
theorem dX12_forceIn_4 : decode cX12_forceIn 4 = .ok (.iload_n 3, 1) := by decide +kernel
theorem dX12_forceIn_5 : decode cX12_forceIn 5 = .ok (.aload_n 0, 1) := by decide +kernel
theorem dX12_forceIn_6 : decode cX12_forceIn 6 = .ok (.getfield 289, 3) := by decide +kernel
theorem dX12_forceIn_9 : decode cX12_forceIn 9 = .ok (.if_icmp .ge 40, 3) := by decide +kernel
theorem dX12_forceIn_12 : decode cX12_forceIn 12 = .ok (.aload_n 0, 1) := by decide +kernel
theorem dX12_forceIn_13 : decode cX12_forceIn 13 = .ok (.getfield 84, 3) := by decide +kernel
theorem dX12_forceIn_16 : decode cX12_forceIn 16 = .ok (.iload_n 3, 1) := by decide +kernel
theorem dX12_forceIn_17 : decode cX12_forceIn 17 = .ok (.iaload, 1) := by decide +kernel
theorem dX12_forceIn_18 : decode cX12_forceIn 18 = .ok (.iload_n 1, 1) := by decide +kernel
theorem dX12_forceIn_19 : decode cX12_forceIn 19 = .ok (.if_icmp .gt 24, 3) := by decide +kernel
theorem dX12_forceIn_22 : decode cX12_forceIn 22 = .ok (.iload_n 2, 1) := by decide +kernel
theorem dX12_forceIn_23 : decode cX12_forceIn 23 = .ok (.ifCond .lt 18, 3) := by decide +kernel
theorem dX12_forceIn_26 : decode cX12_forceIn 26 = .ok (.aload_n 0, 1) := by decide +kernel
theorem dX12_forceIn_27 : decode cX12_forceIn 27 = .ok (.getfield 84, 3) := by decide +kernel
theorem dX12_forceIn_30 : decode cX12_forceIn 30 = .ok (.iload_n 3, 1) := by decide +kernel
theorem dX12_forceIn_31 : decode cX12_forceIn 31 = .ok (.iaload, 1) := by decide +kernel
theorem dX12_forceIn_32 : decode cX12_forceIn 32 = .ok (.aload_n 0, 1) := by decide +kernel
theorem dX12_forceIn_33 : decode cX12_forceIn 33 = .ok (.getfield 84, 3) := by decide +kernel
theorem dX12_forceIn_36 : decode cX12_forceIn 36 = .ok (.iload_n 2, 1) := by decide +kernel
theorem dX12_forceIn_37 : decode cX12_forceIn 37 = .ok (.iaload, 1) := by decide +kernel
theorem dX12_forceIn_38 : decode cX12_forceIn 38 = .ok (.if_icmp .lt 5, 3) := by decide +kernel
theorem dX12_forceIn_41 : decode cX12_forceIn 41 = .ok (.iload_n 3, 1) := by decide +kernel
theorem dX12_forceIn_42 : decode cX12_forceIn 42 = .ok (.istore_n 2, 1) := by decide +kernel
theorem dX12_forceIn_43 : decode cX12_forceIn 43 = .ok (.iinc 3 1, 3) := by decide +kernel
theorem dX12_forceIn_46 : decode cX12_forceIn 46 = .ok (.goto (-42), 3) := by decide +kernel
theorem dX12_forceIn_49 : decode cX12_forceIn 49 = .ok (.iload_n 2, 1) := by decide +kernel
theorem dX12_forceIn_50 : decode cX12_forceIn 50 = .ok (.ireturn, 1) := by decide +kernel
theorem dX12_force_0 : decode cX12_force 0 = .ok (.aload_n 0, 1) := by decide +kernel
theorem dX12_force_1 : decode cX12_force 1 = .ok (.iconst 0, 1) := by decide +kernel
theorem dX12_force_2 : decode cX12_force 2 = .ok (.putfield 173, 3) := by decide +kernel
theorem dX12_force_5 : decode cX12_force 5 = .ok (.aload_n 0, 1) := by decide +kernel
theorem dX12_force_6 : decode cX12_force 6 = .ok (.iload_n 1, 1) := by decide +kernel
theorem dX12_force_7 : decode cX12_force 7 = .ok (.iconst 0, 1) := by decide +kernel
theorem dX12_force_8 : decode cX12_force 8 = .ok (.sipush 600, 3) := by decide +kernel
theorem dX12_force_11 : decode cX12_force 11 = .ok (.invokestatic 176, 3) := by decide +kernel
theorem dX12_force_14 : decode cX12_force 14 = .ok (.ifCond .ne 7, 3) := by decide +kernel
theorem dX12_force_17 : decode cX12_force 17 = .ok (.iconst 1, 1) := by decide +kernel
theorem dX12_force_18 : decode cX12_force 18 = .ok (.goto 4, 3) := by decide +kernel
theorem dX12_force_21 : decode cX12_force 21 = .ok (.iconst 0, 1) := by decide +kernel
theorem dX12_force_22 : decode cX12_force 22 = .ok (.iconst 1, 1) := by decide +kernel
theorem dX12_force_23 : decode cX12_force 23 = .ok (.invokevirtual 181, 3) := by decide +kernel
theorem dX12_force_26 : decode cX12_force 26 = .ok (.ifCond .eq 7, 3) := by decide +kernel
theorem dX12_force_29 : decode cX12_force 29 = .ok (.iconst 0, 1) := by decide +kernel
theorem dX12_force_30 : decode cX12_force 30 = .ok (.goto 8, 3) := by decide +kernel
theorem dX12_force_33 : decode cX12_force 33 = .ok (.aload_n 0, 1) := by decide +kernel
theorem dX12_force_34 : decode cX12_force 34 = .ok (.iload_n 1, 1) := by decide +kernel
theorem dX12_force_35 : decode cX12_force 35 = .ok (.invokevirtual 361, 3) := by decide +kernel
theorem dX12_force_38 : decode cX12_force 38 = .ok (.ireturn, 1) := by decide +kernel
theorem dX12_teller_0 : decode cX12_teller 0 = .ok (.aload_n 0, 1) := by decide +kernel
theorem dX12_teller_1 : decode cX12_teller 1 = .ok (.aload_n 0, 1) := by decide +kernel
theorem dX12_teller_2 : decode cX12_teller 2 = .ok (.getfield 364, 3) := by decide +kernel
theorem dX12_teller_5 : decode cX12_teller 5 = .ok (.invokevirtual 361, 3) := by decide +kernel
theorem dX12_teller_8 : decode cX12_teller 8 = .ok (.istore_n 2, 1) := by decide +kernel
theorem dX12_teller_9 : decode cX12_teller 9 = .ok (.iconst (-1), 1) := by decide +kernel
theorem dX12_teller_10 : decode cX12_teller 10 = .ok (.istore_n 3, 1) := by decide +kernel
theorem dX12_teller_11 : decode cX12_teller 11 = .ok (.iconst 0, 1) := by decide +kernel
theorem dX12_teller_12 : decode cX12_teller 12 = .ok (.istore 4, 2) := by decide +kernel
theorem dX12_teller_14 : decode cX12_teller 14 = .ok (.iload_n 2, 1) := by decide +kernel
theorem dX12_teller_15 : decode cX12_teller 15 = .ok (.ifCond .lt 44, 3) := by decide +kernel
theorem dX12_teller_18 : decode cX12_teller 18 = .ok (.iload 4, 2) := by decide +kernel
theorem dX12_teller_20 : decode cX12_teller 20 = .ok (.aload_n 0, 1) := by decide +kernel
theorem dX12_teller_21 : decode cX12_teller 21 = .ok (.getfield 87, 3) := by decide +kernel
theorem dX12_teller_24 : decode cX12_teller 24 = .ok (.iload_n 2, 1) := by decide +kernel
theorem dX12_teller_25 : decode cX12_teller 25 = .ok (.iaload, 1) := by decide +kernel
theorem dX12_teller_26 : decode cX12_teller 26 = .ok (.if_icmp .ge 33, 3) := by decide +kernel
theorem dX12_teller_29 : decode cX12_teller 29 = .ok (.aload_n 0, 1) := by decide +kernel
theorem dX12_teller_30 : decode cX12_teller 30 = .ok (.getfield 90, 3) := by decide +kernel
theorem dX12_teller_33 : decode cX12_teller 33 = .ok (.bipush 12, 2) := by decide +kernel
theorem dX12_teller_35 : decode cX12_teller 35 = .ok (.iload_n 2, 1) := by decide +kernel
theorem dX12_teller_36 : decode cX12_teller 36 = .ok (.imul, 1) := by decide +kernel
theorem dX12_teller_37 : decode cX12_teller 37 = .ok (.iload 4, 2) := by decide +kernel
theorem dX12_teller_39 : decode cX12_teller 39 = .ok (.iadd, 1) := by decide +kernel
theorem dX12_teller_40 : decode cX12_teller 40 = .ok (.iaload, 1) := by decide +kernel
theorem dX12_teller_41 : decode cX12_teller 41 = .ok (.iload_n 1, 1) := by decide +kernel
theorem dX12_teller_42 : decode cX12_teller 42 = .ok (.if_icmp .ne 11, 3) := by decide +kernel
theorem dX12_teller_45 : decode cX12_teller 45 = .ok (.bipush 12, 2) := by decide +kernel
theorem dX12_teller_47 : decode cX12_teller 47 = .ok (.iload_n 2, 1) := by decide +kernel
theorem dX12_teller_48 : decode cX12_teller 48 = .ok (.imul, 1) := by decide +kernel
theorem dX12_teller_49 : decode cX12_teller 49 = .ok (.iload 4, 2) := by decide +kernel
theorem dX12_teller_51 : decode cX12_teller 51 = .ok (.iadd, 1) := by decide +kernel
theorem dX12_teller_52 : decode cX12_teller 52 = .ok (.istore_n 3, 1) := by decide +kernel
theorem dX12_teller_53 : decode cX12_teller 53 = .ok (.iinc 4 1, 3) := by decide +kernel
theorem dX12_teller_56 : decode cX12_teller 56 = .ok (.goto (-42), 3) := by decide +kernel
theorem dX12_teller_59 : decode cX12_teller 59 = .ok (.iload_n 3, 1) := by decide +kernel
theorem dX12_teller_60 : decode cX12_teller 60 = .ok (.ireturn, 1) := by decide +kernel
theorem dX12_without_0 : decode cX12_without 0 = .ok (.iload_n 0, 1) := by decide +kernel
theorem dX12_without_1 : decode cX12_without 1 = .ok (.tableswitch 56 5 11 #[43, 46, 49, 52, 52, 54, 52], 43) := by decide +kernel
theorem dX12_without_44 : decode cX12_without 44 = .ok (.bipush 10, 2) := by decide +kernel
theorem dX12_without_46 : decode cX12_without 46 = .ok (.ireturn, 1) := by decide +kernel
theorem dX12_without_47 : decode cX12_without 47 = .ok (.bipush 12, 2) := by decide +kernel
theorem dX12_without_49 : decode cX12_without 49 = .ok (.ireturn, 1) := by decide +kernel
theorem dX12_without_50 : decode cX12_without 50 = .ok (.bipush 100, 2) := by decide +kernel
theorem dX12_without_52 : decode cX12_without 52 = .ok (.ireturn, 1) := by decide +kernel
theorem dX12_without_53 : decode cX12_without 53 = .ok (.iconst 0, 1) := by decide +kernel
theorem dX12_without_54 : decode cX12_without 54 = .ok (.ireturn, 1) := by decide +kernel
theorem dX12_without_55 : decode cX12_without 55 = .ok (.iconst 1, 1) := by decide +kernel
theorem dX12_without_56 : decode cX12_without 56 = .ok (.ireturn, 1) := by decide +kernel
theorem dX12_without_57 : decode cX12_without 57 = .ok (.bipush 64, 2) := by decide +kernel
theorem dX12_without_59 : decode cX12_without 59 = .ok (.ireturn, 1) := by decide +kernel
theorem dX12_much_0 : decode cX12_much 0 = .ok (.aload_n 0, 1) := by decide +kernel
theorem dX12_much_1 : decode cX12_much 1 = .ok (.iload_n 1, 1) := by decide +kernel
theorem dX12_much_2 : decode cX12_much 2 = .ok (.invokevirtual 366, 3) := by decide +kernel
theorem dX12_much_5 : decode cX12_much 5 = .ok (.istore_n 2, 1) := by decide +kernel
theorem dX12_much_6 : decode cX12_much 6 = .ok (.iload_n 2, 1) := by decide +kernel
theorem dX12_much_7 : decode cX12_much 7 = .ok (.ifCond .ge 10, 3) := by decide +kernel
theorem dX12_much_10 : decode cX12_much 10 = .ok (.iload_n 1, 1) := by decide +kernel
theorem dX12_much_11 : decode cX12_much 11 = .ok (.invokestatic 369, 3) := by decide +kernel
theorem dX12_much_14 : decode cX12_much 14 = .ok (.goto 9, 3) := by decide +kernel
theorem dX12_much_17 : decode cX12_much 17 = .ok (.aload_n 0, 1) := by decide +kernel
theorem dX12_much_18 : decode cX12_much 18 = .ok (.getfield 93, 3) := by decide +kernel
theorem dX12_much_21 : decode cX12_much 21 = .ok (.iload_n 2, 1) := by decide +kernel
theorem dX12_much_22 : decode cX12_much 22 = .ok (.iaload, 1) := by decide +kernel
theorem dX12_much_23 : decode cX12_much 23 = .ok (.ireturn, 1) := by decide +kernel
theorem dX12_means_0 : decode cX12_means 0 = .ok (.aload_n 0, 1) := by decide +kernel
theorem dX12_means_1 : decode cX12_means 1 = .ok (.aload_n 0, 1) := by decide +kernel
theorem dX12_means_2 : decode cX12_means 2 = .ok (.getfield 9, 3) := by decide +kernel
theorem dX12_means_5 : decode cX12_means 5 = .ok (.iload_n 1, 1) := by decide +kernel
theorem dX12_means_6 : decode cX12_means 6 = .ok (.iaload, 1) := by decide +kernel
theorem dX12_means_7 : decode cX12_means 7 = .ok (.putfield 371, 3) := by decide +kernel
theorem dX12_means_10 : decode cX12_means 10 = .ok (.aload_n 0, 1) := by decide +kernel
theorem dX12_means_11 : decode cX12_means 11 = .ok (.aload_n 0, 1) := by decide +kernel
theorem dX12_means_12 : decode cX12_means 12 = .ok (.getfield 13, 3) := by decide +kernel
theorem dX12_means_15 : decode cX12_means 15 = .ok (.iload_n 1, 1) := by decide +kernel
theorem dX12_means_16 : decode cX12_means 16 = .ok (.iaload, 1) := by decide +kernel
theorem dX12_means_17 : decode cX12_means 17 = .ok (.putfield 374, 3) := by decide +kernel
theorem dX12_means_20 : decode cX12_means 20 = .ok (.aload_n 0, 1) := by decide +kernel
theorem dX12_means_21 : decode cX12_means 21 = .ok (.aload_n 0, 1) := by decide +kernel
theorem dX12_means_22 : decode cX12_means 22 = .ok (.getfield 16, 3) := by decide +kernel
theorem dX12_means_25 : decode cX12_means 25 = .ok (.iload_n 1, 1) := by decide +kernel
theorem dX12_means_26 : decode cX12_means 26 = .ok (.iaload, 1) := by decide +kernel
theorem dX12_means_27 : decode cX12_means 27 = .ok (.putfield 377, 3) := by decide +kernel
theorem dX12_means_30 : decode cX12_means 30 = .ok (.aload_n 0, 1) := by decide +kernel
theorem dX12_means_31 : decode cX12_means 31 = .ok (.aload_n 0, 1) := by decide +kernel
theorem dX12_means_32 : decode cX12_means 32 = .ok (.getfield 19, 3) := by decide +kernel
theorem dX12_means_35 : decode cX12_means 35 = .ok (.iload_n 1, 1) := by decide +kernel
theorem dX12_means_36 : decode cX12_means 36 = .ok (.iaload, 1) := by decide +kernel
theorem dX12_means_37 : decode cX12_means 37 = .ok (.putfield 380, 3) := by decide +kernel
theorem dX12_means_40 : decode cX12_means 40 = .ok (.aload_n 0, 1) := by decide +kernel
theorem dX12_means_41 : decode cX12_means 41 = .ok (.aload_n 0, 1) := by decide +kernel
theorem dX12_means_42 : decode cX12_means 42 = .ok (.getfield 22, 3) := by decide +kernel
theorem dX12_means_45 : decode cX12_means 45 = .ok (.iload_n 1, 1) := by decide +kernel
theorem dX12_means_46 : decode cX12_means 46 = .ok (.iaload, 1) := by decide +kernel
theorem dX12_means_47 : decode cX12_means 47 = .ok (.putfield 383, 3) := by decide +kernel
theorem dX12_means_50 : decode cX12_means 50 = .ok (.aload_n 0, 1) := by decide +kernel
theorem dX12_means_51 : decode cX12_means 51 = .ok (.aload_n 0, 1) := by decide +kernel
theorem dX12_means_52 : decode cX12_means 52 = .ok (.getfield 31, 3) := by decide +kernel
theorem dX12_means_55 : decode cX12_means 55 = .ok (.iload_n 1, 1) := by decide +kernel
theorem dX12_means_56 : decode cX12_means 56 = .ok (.iaload, 1) := by decide +kernel
theorem dX12_means_57 : decode cX12_means 57 = .ok (.putfield 386, 3) := by decide +kernel
theorem dX12_means_60 : decode cX12_means 60 = .ok (.aload_n 0, 1) := by decide +kernel
theorem dX12_means_61 : decode cX12_means 61 = .ok (.aload_n 0, 1) := by decide +kernel
theorem dX12_means_62 : decode cX12_means 62 = .ok (.getfield 40, 3) := by decide +kernel
theorem dX12_means_65 : decode cX12_means 65 = .ok (.iload_n 1, 1) := by decide +kernel
theorem dX12_means_66 : decode cX12_means 66 = .ok (.iaload, 1) := by decide +kernel
theorem dX12_means_67 : decode cX12_means 67 = .ok (.putfield 389, 3) := by decide +kernel
theorem dX12_means_70 : decode cX12_means 70 = .ok (.return_, 1) := by decide +kernel
theorem dX12_named_0 : decode cX12_named 0 = .ok (.iload_n 1, 1) := by decide +kernel
theorem dX12_named_1 : decode cX12_named 1 = .ok (.tableswitch 78 0 6 #[43, 48, 53, 58, 63, 68, 73], 43) := by decide +kernel
theorem dX12_named_44 : decode cX12_named 44 = .ok (.aload_n 0, 1) := by decide +kernel
theorem dX12_named_45 : decode cX12_named 45 = .ok (.getfield 374, 3) := by decide +kernel
theorem dX12_named_48 : decode cX12_named 48 = .ok (.ireturn, 1) := by decide +kernel
theorem dX12_named_49 : decode cX12_named 49 = .ok (.aload_n 0, 1) := by decide +kernel
theorem dX12_named_50 : decode cX12_named 50 = .ok (.getfield 377, 3) := by decide +kernel
theorem dX12_named_53 : decode cX12_named 53 = .ok (.ireturn, 1) := by decide +kernel
theorem dX12_named_54 : decode cX12_named 54 = .ok (.aload_n 0, 1) := by decide +kernel
theorem dX12_named_55 : decode cX12_named 55 = .ok (.getfield 380, 3) := by decide +kernel
theorem dX12_named_58 : decode cX12_named 58 = .ok (.ireturn, 1) := by decide +kernel
theorem dX12_named_59 : decode cX12_named 59 = .ok (.aload_n 0, 1) := by decide +kernel
theorem dX12_named_60 : decode cX12_named 60 = .ok (.getfield 383, 3) := by decide +kernel
theorem dX12_named_63 : decode cX12_named 63 = .ok (.ireturn, 1) := by decide +kernel
theorem dX12_named_64 : decode cX12_named 64 = .ok (.aload_n 0, 1) := by decide +kernel
theorem dX12_named_65 : decode cX12_named 65 = .ok (.getfield 371, 3) := by decide +kernel
theorem dX12_named_68 : decode cX12_named 68 = .ok (.ireturn, 1) := by decide +kernel
theorem dX12_named_69 : decode cX12_named 69 = .ok (.aload_n 0, 1) := by decide +kernel
theorem dX12_named_70 : decode cX12_named 70 = .ok (.getfield 364, 3) := by decide +kernel
theorem dX12_named_73 : decode cX12_named 73 = .ok (.ireturn, 1) := by decide +kernel
theorem dX12_named_74 : decode cX12_named 74 = .ok (.aload_n 0, 1) := by decide +kernel
theorem dX12_named_75 : decode cX12_named 75 = .ok (.getfield 386, 3) := by decide +kernel
theorem dX12_named_78 : decode cX12_named 78 = .ok (.ireturn, 1) := by decide +kernel
theorem dX12_named_79 : decode cX12_named 79 = .ok (.aload_n 0, 1) := by decide +kernel
theorem dX12_named_80 : decode cX12_named 80 = .ok (.getfield 389, 3) := by decide +kernel
theorem dX12_named_83 : decode cX12_named 83 = .ok (.ireturn, 1) := by decide +kernel
theorem dX12_worked_0 : decode cX12_worked 0 = .ok (.iload_n 0, 1) := by decide +kernel
theorem dX12_worked_1 : decode cX12_worked 1 = .ok (.tableswitch 119 2 10 #[51, 55, 59, 63, 75, 86, 119, 97, 108], 51) := by decide +kernel
theorem dX12_worked_52 : decode cX12_worked 52 = .ok (.iload_n 1, 1) := by decide +kernel
theorem dX12_worked_53 : decode cX12_worked 53 = .ok (.iload_n 2, 1) := by decide +kernel
theorem dX12_worked_54 : decode cX12_worked 54 = .ok (.iadd, 1) := by decide +kernel
theorem dX12_worked_55 : decode cX12_worked 55 = .ok (.ireturn, 1) := by decide +kernel
theorem dX12_worked_56 : decode cX12_worked 56 = .ok (.iload_n 1, 1) := by decide +kernel
theorem dX12_worked_57 : decode cX12_worked 57 = .ok (.iload_n 2, 1) := by decide +kernel
theorem dX12_worked_58 : decode cX12_worked 58 = .ok (.isub, 1) := by decide +kernel
theorem dX12_worked_59 : decode cX12_worked 59 = .ok (.ireturn, 1) := by decide +kernel
theorem dX12_worked_60 : decode cX12_worked 60 = .ok (.iload_n 1, 1) := by decide +kernel
theorem dX12_worked_61 : decode cX12_worked 61 = .ok (.iload_n 2, 1) := by decide +kernel
theorem dX12_worked_62 : decode cX12_worked 62 = .ok (.imul, 1) := by decide +kernel
theorem dX12_worked_63 : decode cX12_worked 63 = .ok (.ireturn, 1) := by decide +kernel
theorem dX12_worked_64 : decode cX12_worked 64 = .ok (.iload_n 2, 1) := by decide +kernel
theorem dX12_worked_65 : decode cX12_worked 65 = .ok (.ifCond .ne 7, 3) := by decide +kernel
theorem dX12_worked_68 : decode cX12_worked 68 = .ok (.iconst 0, 1) := by decide +kernel
theorem dX12_worked_69 : decode cX12_worked 69 = .ok (.goto 6, 3) := by decide +kernel
theorem dX12_worked_72 : decode cX12_worked 72 = .ok (.iload_n 1, 1) := by decide +kernel
theorem dX12_worked_73 : decode cX12_worked 73 = .ok (.iload_n 2, 1) := by decide +kernel
theorem dX12_worked_74 : decode cX12_worked 74 = .ok (.idiv, 1) := by decide +kernel
theorem dX12_worked_75 : decode cX12_worked 75 = .ok (.ireturn, 1) := by decide +kernel
theorem dX12_worked_76 : decode cX12_worked 76 = .ok (.iload_n 1, 1) := by decide +kernel
theorem dX12_worked_77 : decode cX12_worked 77 = .ok (.iload_n 2, 1) := by decide +kernel
theorem dX12_worked_78 : decode cX12_worked 78 = .ok (.if_icmp .ge 7, 3) := by decide +kernel
theorem dX12_worked_81 : decode cX12_worked 81 = .ok (.iload_n 1, 1) := by decide +kernel
theorem dX12_worked_82 : decode cX12_worked 82 = .ok (.goto 4, 3) := by decide +kernel
theorem dX12_worked_85 : decode cX12_worked 85 = .ok (.iload_n 2, 1) := by decide +kernel
theorem dX12_worked_86 : decode cX12_worked 86 = .ok (.ireturn, 1) := by decide +kernel
theorem dX12_worked_87 : decode cX12_worked 87 = .ok (.iload_n 1, 1) := by decide +kernel
theorem dX12_worked_88 : decode cX12_worked 88 = .ok (.iload_n 2, 1) := by decide +kernel
theorem dX12_worked_89 : decode cX12_worked 89 = .ok (.if_icmp .le 7, 3) := by decide +kernel
theorem dX12_worked_92 : decode cX12_worked 92 = .ok (.iload_n 1, 1) := by decide +kernel
theorem dX12_worked_93 : decode cX12_worked 93 = .ok (.goto 4, 3) := by decide +kernel
theorem dX12_worked_96 : decode cX12_worked 96 = .ok (.iload_n 2, 1) := by decide +kernel
theorem dX12_worked_97 : decode cX12_worked 97 = .ok (.ireturn, 1) := by decide +kernel
theorem dX12_worked_98 : decode cX12_worked 98 = .ok (.iload_n 1, 1) := by decide +kernel
theorem dX12_worked_99 : decode cX12_worked 99 = .ok (.iload_n 2, 1) := by decide +kernel
theorem dX12_worked_100 : decode cX12_worked 100 = .ok (.if_icmp .ge 7, 3) := by decide +kernel
theorem dX12_worked_103 : decode cX12_worked 103 = .ok (.iconst 1, 1) := by decide +kernel
theorem dX12_worked_104 : decode cX12_worked 104 = .ok (.goto 4, 3) := by decide +kernel
theorem dX12_worked_107 : decode cX12_worked 107 = .ok (.iconst 0, 1) := by decide +kernel
theorem dX12_worked_108 : decode cX12_worked 108 = .ok (.ireturn, 1) := by decide +kernel
theorem dX12_worked_109 : decode cX12_worked 109 = .ok (.iload_n 1, 1) := by decide +kernel
theorem dX12_worked_110 : decode cX12_worked 110 = .ok (.iload_n 2, 1) := by decide +kernel
theorem dX12_worked_111 : decode cX12_worked 111 = .ok (.if_icmp .le 7, 3) := by decide +kernel
theorem dX12_worked_114 : decode cX12_worked 114 = .ok (.iconst 1, 1) := by decide +kernel
theorem dX12_worked_115 : decode cX12_worked 115 = .ok (.goto 4, 3) := by decide +kernel
theorem dX12_worked_118 : decode cX12_worked 118 = .ok (.iconst 0, 1) := by decide +kernel
theorem dX12_worked_119 : decode cX12_worked 119 = .ok (.ireturn, 1) := by decide +kernel
theorem dX12_worked_120 : decode cX12_worked 120 = .ok (.iload_n 1, 1) := by decide +kernel
theorem dX12_worked_121 : decode cX12_worked 121 = .ok (.iload_n 2, 1) := by decide +kernel
theorem dX12_worked_122 : decode cX12_worked 122 = .ok (.if_icmp .ne 7, 3) := by decide +kernel
theorem dX12_worked_125 : decode cX12_worked 125 = .ok (.iconst 1, 1) := by decide +kernel
theorem dX12_worked_126 : decode cX12_worked 126 = .ok (.goto 4, 3) := by decide +kernel
theorem dX12_worked_129 : decode cX12_worked 129 = .ok (.iconst 0, 1) := by decide +kernel
theorem dX12_worked_130 : decode cX12_worked 130 = .ok (.ireturn, 1) := by decide +kernel
theorem dX12_value_0 : decode cX12_value 0 = .ok (.iconst 0, 1) := by decide +kernel
theorem dX12_value_1 : decode cX12_value 1 = .ok (.istore_n 2, 1) := by decide +kernel
theorem dX12_value_2 : decode cX12_value 2 = .ok (.sipush 350, 3) := by decide +kernel
theorem dX12_value_5 : decode cX12_value 5 = .ok (.iload_n 1, 1) := by decide +kernel
theorem dX12_value_6 : decode cX12_value 6 = .ok (.bipush 12, 2) := by decide +kernel
theorem dX12_value_8 : decode cX12_value 8 = .ok (.idiv, 1) := by decide +kernel
theorem dX12_value_9 : decode cX12_value 9 = .ok (.imul, 1) := by decide +kernel
theorem dX12_value_10 : decode cX12_value 10 = .ok (.aload_n 0, 1) := by decide +kernel
theorem dX12_value_11 : decode cX12_value 11 = .ok (.getfield 93, 3) := by decide +kernel
theorem dX12_value_14 : decode cX12_value 14 = .ok (.iload_n 1, 1) := by decide +kernel
theorem dX12_value_15 : decode cX12_value 15 = .ok (.iaload, 1) := by decide +kernel
theorem dX12_value_16 : decode cX12_value 16 = .ok (.iadd, 1) := by decide +kernel
theorem dX12_value_17 : decode cX12_value 17 = .ok (.istore_n 3, 1) := by decide +kernel
theorem dX12_value_18 : decode cX12_value 18 = .ok (.aload_n 0, 1) := by decide +kernel
theorem dX12_value_19 : decode cX12_value 19 = .ok (.getfield 96, 3) := by decide +kernel
theorem dX12_value_22 : decode cX12_value 22 = .ok (.iload_n 3, 1) := by decide +kernel
theorem dX12_value_23 : decode cX12_value 23 = .ok (.iaload, 1) := by decide +kernel
theorem dX12_value_24 : decode cX12_value 24 = .ok (.bipush 12, 2) := by decide +kernel
theorem dX12_value_26 : decode cX12_value 26 = .ok (.if_icmp .eq 144, 3) := by decide +kernel
theorem dX12_value_29 : decode cX12_value 29 = .ok (.aload_n 0, 1) := by decide +kernel
theorem dX12_value_30 : decode cX12_value 30 = .ok (.getfield 96, 3) := by decide +kernel
theorem dX12_value_33 : decode cX12_value 33 = .ok (.iload_n 3, 1) := by decide +kernel
theorem dX12_value_34 : decode cX12_value 34 = .ok (.iaload, 1) := by decide +kernel
theorem dX12_value_35 : decode cX12_value 35 = .ok (.istore 4, 2) := by decide +kernel
theorem dX12_value_37 : decode cX12_value 37 = .ok (.iload 4, 2) := by decide +kernel
theorem dX12_value_39 : decode cX12_value 39 = .ok (.ifCond .eq 9, 3) := by decide +kernel
theorem dX12_value_42 : decode cX12_value 42 = .ok (.iload 4, 2) := by decide +kernel
theorem dX12_value_44 : decode cX12_value 44 = .ok (.iconst 1, 1) := by decide +kernel
theorem dX12_value_45 : decode cX12_value 45 = .ok (.if_icmp .ne 39, 3) := by decide +kernel
theorem dX12_value_48 : decode cX12_value 48 = .ok (.aload_n 0, 1) := by decide +kernel
theorem dX12_value_49 : decode cX12_value 49 = .ok (.getfield 102, 3) := by decide +kernel
theorem dX12_value_52 : decode cX12_value 52 = .ok (.iload_n 2, 1) := by decide +kernel
theorem dX12_value_53 : decode cX12_value 53 = .ok (.iload 4, 2) := by decide +kernel
theorem dX12_value_55 : decode cX12_value 55 = .ok (.ifCond .ne 12, 3) := by decide +kernel
theorem dX12_value_58 : decode cX12_value 58 = .ok (.aload_n 0, 1) := by decide +kernel
theorem dX12_value_59 : decode cX12_value 59 = .ok (.getfield 99, 3) := by decide +kernel
theorem dX12_value_62 : decode cX12_value 62 = .ok (.iload_n 3, 1) := by decide +kernel
theorem dX12_value_63 : decode cX12_value 63 = .ok (.iaload, 1) := by decide +kernel
theorem dX12_value_64 : decode cX12_value 64 = .ok (.goto 13, 3) := by decide +kernel
theorem dX12_value_67 : decode cX12_value 67 = .ok (.aload_n 0, 1) := by decide +kernel
theorem dX12_value_68 : decode cX12_value 68 = .ok (.aload_n 0, 1) := by decide +kernel
theorem dX12_value_69 : decode cX12_value 69 = .ok (.getfield 99, 3) := by decide +kernel
theorem dX12_value_72 : decode cX12_value 72 = .ok (.iload_n 3, 1) := by decide +kernel
theorem dX12_value_73 : decode cX12_value 73 = .ok (.iaload, 1) := by decide +kernel
theorem dX12_value_74 : decode cX12_value 74 = .ok (.invokevirtual 392, 3) := by decide +kernel
theorem dX12_value_77 : decode cX12_value 77 = .ok (.iastore, 1) := by decide +kernel
theorem dX12_value_78 : decode cX12_value 78 = .ok (.iinc 2 1, 3) := by decide +kernel
theorem dX12_value_81 : decode cX12_value 81 = .ok (.goto 83, 3) := by decide +kernel
theorem dX12_value_84 : decode cX12_value 84 = .ok (.iload 4, 2) := by decide +kernel
theorem dX12_value_86 : decode cX12_value 86 = .ok (.bipush 8, 2) := by decide +kernel
theorem dX12_value_88 : decode cX12_value 88 = .ok (.if_icmp .ne 46, 3) := by decide +kernel
theorem dX12_value_91 : decode cX12_value 91 = .ok (.iinc 2 (-2), 3) := by decide +kernel
theorem dX12_value_94 : decode cX12_value 94 = .ok (.aload_n 0, 1) := by decide +kernel
theorem dX12_value_95 : decode cX12_value 95 = .ok (.getfield 102, 3) := by decide +kernel
theorem dX12_value_98 : decode cX12_value 98 = .ok (.iload_n 2, 1) := by decide +kernel
theorem dX12_value_99 : decode cX12_value 99 = .ok (.iconst 1, 1) := by decide +kernel
theorem dX12_value_100 : decode cX12_value 100 = .ok (.isub, 1) := by decide +kernel
theorem dX12_value_101 : decode cX12_value 101 = .ok (.aload_n 0, 1) := by decide +kernel
theorem dX12_value_102 : decode cX12_value 102 = .ok (.getfield 102, 3) := by decide +kernel
theorem dX12_value_105 : decode cX12_value 105 = .ok (.iload_n 2, 1) := by decide +kernel
theorem dX12_value_106 : decode cX12_value 106 = .ok (.iconst 1, 1) := by decide +kernel
theorem dX12_value_107 : decode cX12_value 107 = .ok (.isub, 1) := by decide +kernel
theorem dX12_value_108 : decode cX12_value 108 = .ok (.iaload, 1) := by decide +kernel
theorem dX12_value_109 : decode cX12_value 109 = .ok (.iconst 1, 1) := by decide +kernel
theorem dX12_value_110 : decode cX12_value 110 = .ok (.if_icmp .ne 12, 3) := by decide +kernel
theorem dX12_value_113 : decode cX12_value 113 = .ok (.aload_n 0, 1) := by decide +kernel
theorem dX12_value_114 : decode cX12_value 114 = .ok (.getfield 102, 3) := by decide +kernel
theorem dX12_value_117 : decode cX12_value 117 = .ok (.iload_n 2, 1) := by decide +kernel
theorem dX12_value_118 : decode cX12_value 118 = .ok (.iaload, 1) := by decide +kernel
theorem dX12_value_119 : decode cX12_value 119 = .ok (.goto 11, 3) := by decide +kernel
theorem dX12_value_122 : decode cX12_value 122 = .ok (.aload_n 0, 1) := by decide +kernel
theorem dX12_value_123 : decode cX12_value 123 = .ok (.getfield 102, 3) := by decide +kernel
theorem dX12_value_126 : decode cX12_value 126 = .ok (.iload_n 2, 1) := by decide +kernel
theorem dX12_value_127 : decode cX12_value 127 = .ok (.iconst 1, 1) := by decide +kernel
theorem dX12_value_128 : decode cX12_value 128 = .ok (.iadd, 1) := by decide +kernel
theorem dX12_value_129 : decode cX12_value 129 = .ok (.iaload, 1) := by decide +kernel
theorem dX12_value_130 : decode cX12_value 130 = .ok (.iastore, 1) := by decide +kernel
theorem dX12_value_131 : decode cX12_value 131 = .ok (.goto 33, 3) := by decide +kernel
theorem dX12_value_134 : decode cX12_value 134 = .ok (.iinc 2 (-1), 3) := by decide +kernel
theorem dX12_value_137 : decode cX12_value 137 = .ok (.aload_n 0, 1) := by decide +kernel
theorem dX12_value_138 : decode cX12_value 138 = .ok (.getfield 102, 3) := by decide +kernel
theorem dX12_value_141 : decode cX12_value 141 = .ok (.iload_n 2, 1) := by decide +kernel
theorem dX12_value_142 : decode cX12_value 142 = .ok (.iconst 1, 1) := by decide +kernel
theorem dX12_value_143 : decode cX12_value 143 = .ok (.isub, 1) := by decide +kernel
theorem dX12_value_144 : decode cX12_value 144 = .ok (.iload 4, 2) := by decide +kernel
theorem dX12_value_146 : decode cX12_value 146 = .ok (.aload_n 0, 1) := by decide +kernel
theorem dX12_value_147 : decode cX12_value 147 = .ok (.getfield 102, 3) := by decide +kernel
theorem dX12_value_150 : decode cX12_value 150 = .ok (.iload_n 2, 1) := by decide +kernel
theorem dX12_value_151 : decode cX12_value 151 = .ok (.iconst 1, 1) := by decide +kernel
theorem dX12_value_152 : decode cX12_value 152 = .ok (.isub, 1) := by decide +kernel
theorem dX12_value_153 : decode cX12_value 153 = .ok (.iaload, 1) := by decide +kernel
theorem dX12_value_154 : decode cX12_value 154 = .ok (.aload_n 0, 1) := by decide +kernel
theorem dX12_value_155 : decode cX12_value 155 = .ok (.getfield 102, 3) := by decide +kernel
theorem dX12_value_158 : decode cX12_value 158 = .ok (.iload_n 2, 1) := by decide +kernel
theorem dX12_value_159 : decode cX12_value 159 = .ok (.iaload, 1) := by decide +kernel
theorem dX12_value_160 : decode cX12_value 160 = .ok (.invokestatic 395, 3) := by decide +kernel
theorem dX12_value_163 : decode cX12_value 163 = .ok (.iastore, 1) := by decide +kernel
theorem dX12_value_164 : decode cX12_value 164 = .ok (.iinc 3 1, 3) := by decide +kernel
theorem dX12_value_167 : decode cX12_value 167 = .ok (.goto (-149), 3) := by decide +kernel
theorem dX12_value_170 : decode cX12_value 170 = .ok (.aload_n 0, 1) := by decide +kernel
theorem dX12_value_171 : decode cX12_value 171 = .ok (.getfield 102, 3) := by decide +kernel
theorem dX12_value_174 : decode cX12_value 174 = .ok (.iconst 0, 1) := by decide +kernel
theorem dX12_value_175 : decode cX12_value 175 = .ok (.iaload, 1) := by decide +kernel
theorem dX12_value_176 : decode cX12_value 176 = .ok (.ireturn, 1) := by decide +kernel
theorem dX12_bounded_0 : decode cX12_bounded 0 = .ok (.iload_n 0, 1) := by decide +kernel
theorem dX12_bounded_1 : decode cX12_bounded 1 = .ok (.iload_n 1, 1) := by decide +kernel
theorem dX12_bounded_2 : decode cX12_bounded 2 = .ok (.if_icmp .ge 7, 3) := by decide +kernel
theorem dX12_bounded_5 : decode cX12_bounded 5 = .ok (.iload_n 1, 1) := by decide +kernel
theorem dX12_bounded_6 : decode cX12_bounded 6 = .ok (.goto 13, 3) := by decide +kernel
theorem dX12_bounded_9 : decode cX12_bounded 9 = .ok (.iload_n 0, 1) := by decide +kernel
theorem dX12_bounded_10 : decode cX12_bounded 10 = .ok (.iload_n 2, 1) := by decide +kernel
theorem dX12_bounded_11 : decode cX12_bounded 11 = .ok (.if_icmp .le 7, 3) := by decide +kernel
theorem dX12_bounded_14 : decode cX12_bounded 14 = .ok (.iload_n 2, 1) := by decide +kernel
theorem dX12_bounded_15 : decode cX12_bounded 15 = .ok (.goto 4, 3) := by decide +kernel
theorem dX12_bounded_18 : decode cX12_bounded 18 = .ok (.iload_n 0, 1) := by decide +kernel
theorem dX12_bounded_19 : decode cX12_bounded 19 = .ok (.ireturn, 1) := by decide +kernel
theorem dX12_partNow_0 : decode cX12_partNow 0 = .ok (.aload_n 0, 1) := by decide +kernel
theorem dX12_partNow_1 : decode cX12_partNow 1 = .ok (.iconst 0, 1) := by decide +kernel
theorem dX12_partNow_2 : decode cX12_partNow 2 = .ok (.invokevirtual 366, 3) := by decide +kernel
theorem dX12_partNow_5 : decode cX12_partNow 5 = .ok (.istore_n 1, 1) := by decide +kernel
theorem dX12_partNow_6 : decode cX12_partNow 6 = .ok (.iload_n 1, 1) := by decide +kernel
theorem dX12_partNow_7 : decode cX12_partNow 7 = .ok (.ifCond .ge 10, 3) := by decide +kernel
theorem dX12_partNow_10 : decode cX12_partNow 10 = .ok (.aload_n 0, 1) := by decide +kernel
theorem dX12_partNow_11 : decode cX12_partNow 11 = .ok (.getfield 374, 3) := by decide +kernel
theorem dX12_partNow_14 : decode cX12_partNow 14 = .ok (.goto 15, 3) := by decide +kernel
theorem dX12_partNow_17 : decode cX12_partNow 17 = .ok (.aload_n 0, 1) := by decide +kernel
theorem dX12_partNow_18 : decode cX12_partNow 18 = .ok (.iload_n 1, 1) := by decide +kernel
theorem dX12_partNow_19 : decode cX12_partNow 19 = .ok (.invokevirtual 399, 3) := by decide +kernel
theorem dX12_partNow_22 : decode cX12_partNow 22 = .ok (.iconst 0, 1) := by decide +kernel
theorem dX12_partNow_23 : decode cX12_partNow 23 = .ok (.ldc_w 402, 3) := by decide +kernel
theorem dX12_partNow_26 : decode cX12_partNow 26 = .ok (.invokestatic 403, 3) := by decide +kernel
theorem dX12_partNow_29 : decode cX12_partNow 29 = .ok (.ireturn, 1) := by decide +kernel
theorem dX12_priceNow_0 : decode cX12_priceNow 0 = .ok (.aload_n 0, 1) := by decide +kernel
theorem dX12_priceNow_1 : decode cX12_priceNow 1 = .ok (.iconst 4, 1) := by decide +kernel
theorem dX12_priceNow_2 : decode cX12_priceNow 2 = .ok (.invokevirtual 366, 3) := by decide +kernel
theorem dX12_priceNow_5 : decode cX12_priceNow 5 = .ok (.istore_n 1, 1) := by decide +kernel
theorem dX12_priceNow_6 : decode cX12_priceNow 6 = .ok (.iload_n 1, 1) := by decide +kernel
theorem dX12_priceNow_7 : decode cX12_priceNow 7 = .ok (.ifCond .ge 7, 3) := by decide +kernel
theorem dX12_priceNow_10 : decode cX12_priceNow 10 = .ok (.iconst (-1), 1) := by decide +kernel
theorem dX12_priceNow_11 : decode cX12_priceNow 11 = .ok (.goto 14, 3) := by decide +kernel
theorem dX12_priceNow_14 : decode cX12_priceNow 14 = .ok (.aload_n 0, 1) := by decide +kernel
theorem dX12_priceNow_15 : decode cX12_priceNow 15 = .ok (.iload_n 1, 1) := by decide +kernel
theorem dX12_priceNow_16 : decode cX12_priceNow 16 = .ok (.invokevirtual 399, 3) := by decide +kernel
theorem dX12_priceNow_19 : decode cX12_priceNow 19 = .ok (.iconst 1, 1) := by decide +kernel
theorem dX12_priceNow_20 : decode cX12_priceNow 20 = .ok (.bipush 100, 2) := by decide +kernel
theorem dX12_priceNow_22 : decode cX12_priceNow 22 = .ok (.invokestatic 403, 3) := by decide +kernel
theorem dX12_priceNow_25 : decode cX12_priceNow 25 = .ok (.ireturn, 1) := by decide +kernel
theorem dX12_tells_0 : decode cX12_tells 0 = .ok (.aload_n 0, 1) := by decide +kernel
theorem dX12_tells_1 : decode cX12_tells 1 = .ok (.iload_n 1, 1) := by decide +kernel
theorem dX12_tells_2 : decode cX12_tells 2 = .ok (.invokevirtual 188, 3) := by decide +kernel
theorem dX12_tells_5 : decode cX12_tells 5 = .ok (.ifCond .eq 26, 3) := by decide +kernel
theorem dX12_tells_8 : decode cX12_tells 8 = .ok (.aload_n 0, 1) := by decide +kernel
theorem dX12_tells_9 : decode cX12_tells 9 = .ok (.iload_n 2, 1) := by decide +kernel
theorem dX12_tells_10 : decode cX12_tells 10 = .ok (.iconst 0, 1) := by decide +kernel
theorem dX12_tells_11 : decode cX12_tells 11 = .ok (.bipush 8, 2) := by decide +kernel
theorem dX12_tells_13 : decode cX12_tells 13 = .ok (.invokestatic 176, 3) := by decide +kernel
theorem dX12_tells_16 : decode cX12_tells 16 = .ok (.ifCond .ne 7, 3) := by decide +kernel
theorem dX12_tells_19 : decode cX12_tells 19 = .ok (.iconst 1, 1) := by decide +kernel
theorem dX12_tells_20 : decode cX12_tells 20 = .ok (.goto 4, 3) := by decide +kernel
theorem dX12_tells_23 : decode cX12_tells 23 = .ok (.iconst 0, 1) := by decide +kernel
theorem dX12_tells_24 : decode cX12_tells 24 = .ok (.iconst 2, 1) := by decide +kernel
theorem dX12_tells_25 : decode cX12_tells 25 = .ok (.invokevirtual 181, 3) := by decide +kernel
theorem dX12_tells_28 : decode cX12_tells 28 = .ok (.ifCond .eq 5, 3) := by decide +kernel
theorem dX12_tells_31 : decode cX12_tells 31 = .ok (.iconst 0, 1) := by decide +kernel
theorem dX12_tells_32 : decode cX12_tells 32 = .ok (.ireturn, 1) := by decide +kernel
theorem dX12_tells_33 : decode cX12_tells 33 = .ok (.aload_n 0, 1) := by decide +kernel
theorem dX12_tells_34 : decode cX12_tells 34 = .ok (.iload_n 1, 1) := by decide +kernel
theorem dX12_tells_35 : decode cX12_tells 35 = .ok (.invokevirtual 406, 3) := by decide +kernel
theorem dX12_tells_38 : decode cX12_tells 38 = .ok (.iload_n 2, 1) := by decide +kernel
theorem dX12_tells_39 : decode cX12_tells 39 = .ok (.tableswitch 79 0 8 #[49, 54, 67, 79, 79, 79, 79, 79, 72], 49) := by decide +kernel
theorem dX12_tells_88 : decode cX12_tells 88 = .ok (.aload_n 0, 1) := by decide +kernel
theorem dX12_tells_89 : decode cX12_tells 89 = .ok (.invokevirtual 409, 3) := by decide +kernel
theorem dX12_tells_92 : decode cX12_tells 92 = .ok (.ireturn, 1) := by decide +kernel
theorem dX12_tells_93 : decode cX12_tells 93 = .ok (.aload_n 0, 1) := by decide +kernel
theorem dX12_tells_94 : decode cX12_tells 94 = .ok (.iconst 1, 1) := by decide +kernel
theorem dX12_tells_95 : decode cX12_tells 95 = .ok (.aload_n 0, 1) := by decide +kernel
theorem dX12_tells_96 : decode cX12_tells 96 = .ok (.getfield 9, 3) := by decide +kernel
theorem dX12_tells_99 : decode cX12_tells 99 = .ok (.iload_n 1, 1) := by decide +kernel
theorem dX12_tells_100 : decode cX12_tells 100 = .ok (.iaload, 1) := by decide +kernel
theorem dX12_tells_101 : decode cX12_tells 101 = .ok (.iadd, 1) := by decide +kernel
theorem dX12_tells_102 : decode cX12_tells 102 = .ok (.invokevirtual 412, 3) := by decide +kernel
theorem dX12_tells_105 : decode cX12_tells 105 = .ok (.ireturn, 1) := by decide +kernel
theorem dX12_tells_106 : decode cX12_tells 106 = .ok (.aload_n 0, 1) := by decide +kernel
theorem dX12_tells_107 : decode cX12_tells 107 = .ok (.invokevirtual 415, 3) := by decide +kernel
theorem dX12_tells_110 : decode cX12_tells 110 = .ok (.ireturn, 1) := by decide +kernel
theorem dX12_tells_111 : decode cX12_tells 111 = .ok (.aload_n 0, 1) := by decide +kernel
theorem dX12_tells_112 : decode cX12_tells 112 = .ok (.bipush 11, 2) := by decide +kernel
theorem dX12_tells_114 : decode cX12_tells 114 = .ok (.invokevirtual 412, 3) := by decide +kernel
theorem dX12_tells_117 : decode cX12_tells 117 = .ok (.ireturn, 1) := by decide +kernel
theorem dX12_tells_118 : decode cX12_tells 118 = .ok (.aload_n 0, 1) := by decide +kernel
theorem dX12_tells_119 : decode cX12_tells 119 = .ok (.iconst 5, 1) := by decide +kernel
theorem dX12_tells_120 : decode cX12_tells 120 = .ok (.iload_n 2, 1) := by decide +kernel
theorem dX12_tells_121 : decode cX12_tells 121 = .ok (.iadd, 1) := by decide +kernel
theorem dX12_tells_122 : decode cX12_tells 122 = .ok (.iconst 3, 1) := by decide +kernel
theorem dX12_tells_123 : decode cX12_tells 123 = .ok (.isub, 1) := by decide +kernel
theorem dX12_tells_124 : decode cX12_tells 124 = .ok (.invokevirtual 412, 3) := by decide +kernel
theorem dX12_tells_127 : decode cX12_tells 127 = .ok (.ireturn, 1) := by decide +kernel
theorem dX12_isIn_0 : decode cX12_isIn 0 = .ok (.aload_n 0, 1) := by decide +kernel
theorem dX12_isIn_1 : decode cX12_isIn 1 = .ok (.getfield 37, 3) := by decide +kernel
theorem dX12_isIn_4 : decode cX12_isIn 4 = .ok (.iload_n 1, 1) := by decide +kernel
theorem dX12_isIn_5 : decode cX12_isIn 5 = .ok (.iaload, 1) := by decide +kernel
theorem dX12_isIn_6 : decode cX12_isIn 6 = .ok (.iconst 1, 1) := by decide +kernel
theorem dX12_isIn_7 : decode cX12_isIn 7 = .ok (.if_icmp .ne 15, 3) := by decide +kernel
theorem dX12_isIn_10 : decode cX12_isIn 10 = .ok (.iload_n 1, 1) := by decide +kernel
theorem dX12_isIn_11 : decode cX12_isIn 11 = .ok (.aload_n 0, 1) := by decide +kernel
theorem dX12_isIn_12 : decode cX12_isIn 12 = .ok (.getfield 115, 3) := by decide +kernel
theorem dX12_isIn_15 : decode cX12_isIn 15 = .ok (.if_icmp .eq 7, 3) := by decide +kernel
theorem dX12_isIn_18 : decode cX12_isIn 18 = .ok (.iconst 1, 1) := by decide +kernel
theorem dX12_isIn_19 : decode cX12_isIn 19 = .ok (.goto 4, 3) := by decide +kernel
theorem dX12_isIn_22 : decode cX12_isIn 22 = .ok (.iconst 0, 1) := by decide +kernel
theorem dX12_isIn_23 : decode cX12_isIn 23 = .ok (.ireturn, 1) := by decide +kernel
theorem dX12_bid_0 : decode cX12_bid 0 = .ok (.aload_n 0, 1) := by decide +kernel
theorem dX12_bid_1 : decode cX12_bid 1 = .ok (.iload_n 1, 1) := by decide +kernel
theorem dX12_bid_2 : decode cX12_bid 2 = .ok (.invokevirtual 188, 3) := by decide +kernel
theorem dX12_bid_5 : decode cX12_bid 5 = .ok (.ifCond .eq 36, 3) := by decide +kernel
theorem dX12_bid_8 : decode cX12_bid 8 = .ok (.aload_n 0, 1) := by decide +kernel
theorem dX12_bid_9 : decode cX12_bid 9 = .ok (.iload_n 2, 1) := by decide +kernel
theorem dX12_bid_10 : decode cX12_bid 10 = .ok (.iconst 1, 1) := by decide +kernel
theorem dX12_bid_11 : decode cX12_bid 11 = .ok (.ldc 180, 2) := by decide +kernel
theorem dX12_bid_13 : decode cX12_bid 13 = .ok (.invokestatic 176, 3) := by decide +kernel
theorem dX12_bid_16 : decode cX12_bid 16 = .ok (.ifCond .eq 13, 3) := by decide +kernel
theorem dX12_bid_19 : decode cX12_bid 19 = .ok (.iload_n 3, 1) := by decide +kernel
theorem dX12_bid_20 : decode cX12_bid 20 = .ok (.iconst 0, 1) := by decide +kernel
theorem dX12_bid_21 : decode cX12_bid 21 = .ok (.bipush 100, 2) := by decide +kernel
theorem dX12_bid_23 : decode cX12_bid 23 = .ok (.invokestatic 176, 3) := by decide +kernel
theorem dX12_bid_26 : decode cX12_bid 26 = .ok (.ifCond .ne 7, 3) := by decide +kernel
theorem dX12_bid_29 : decode cX12_bid 29 = .ok (.iconst 1, 1) := by decide +kernel
theorem dX12_bid_30 : decode cX12_bid 30 = .ok (.goto 4, 3) := by decide +kernel
theorem dX12_bid_33 : decode cX12_bid 33 = .ok (.iconst 0, 1) := by decide +kernel
theorem dX12_bid_34 : decode cX12_bid 34 = .ok (.iconst 2, 1) := by decide +kernel
theorem dX12_bid_35 : decode cX12_bid 35 = .ok (.invokevirtual 181, 3) := by decide +kernel
theorem dX12_bid_38 : decode cX12_bid 38 = .ok (.ifCond .eq 5, 3) := by decide +kernel
theorem dX12_bid_41 : decode cX12_bid 41 = .ok (.iconst 0, 1) := by decide +kernel
theorem dX12_bid_42 : decode cX12_bid 42 = .ok (.ireturn, 1) := by decide +kernel
theorem dX12_bid_43 : decode cX12_bid 43 = .ok (.aload_n 0, 1) := by decide +kernel
theorem dX12_bid_44 : decode cX12_bid 44 = .ok (.getfield 37, 3) := by decide +kernel
theorem dX12_bid_47 : decode cX12_bid 47 = .ok (.iload_n 1, 1) := by decide +kernel
theorem dX12_bid_48 : decode cX12_bid 48 = .ok (.iaload, 1) := by decide +kernel
theorem dX12_bid_49 : decode cX12_bid 49 = .ok (.iconst 1, 1) := by decide +kernel
theorem dX12_bid_50 : decode cX12_bid 50 = .ok (.if_icmp .eq 5, 3) := by decide +kernel
theorem dX12_bid_53 : decode cX12_bid 53 = .ok (.iconst (-1), 1) := by decide +kernel
theorem dX12_bid_54 : decode cX12_bid 54 = .ok (.ireturn, 1) := by decide +kernel
theorem dX12_bid_55 : decode cX12_bid 55 = .ok (.aload_n 0, 1) := by decide +kernel
theorem dX12_bid_56 : decode cX12_bid 56 = .ok (.getfield 43, 3) := by decide +kernel
theorem dX12_bid_59 : decode cX12_bid 59 = .ok (.iload_n 1, 1) := by decide +kernel
theorem dX12_bid_60 : decode cX12_bid 60 = .ok (.iload_n 2, 1) := by decide +kernel
theorem dX12_bid_61 : decode cX12_bid 61 = .ok (.iastore, 1) := by decide +kernel
theorem dX12_bid_62 : decode cX12_bid 62 = .ok (.aload_n 0, 1) := by decide +kernel
theorem dX12_bid_63 : decode cX12_bid 63 = .ok (.getfield 46, 3) := by decide +kernel
theorem dX12_bid_66 : decode cX12_bid 66 = .ok (.iload_n 1, 1) := by decide +kernel
theorem dX12_bid_67 : decode cX12_bid 67 = .ok (.iload_n 3, 1) := by decide +kernel
theorem dX12_bid_68 : decode cX12_bid 68 = .ok (.iastore, 1) := by decide +kernel
theorem dX12_bid_69 : decode cX12_bid 69 = .ok (.iconst 1, 1) := by decide +kernel
theorem dX12_bid_70 : decode cX12_bid 70 = .ok (.ireturn, 1) := by decide +kernel
theorem dX12_byBids_0 : decode cX12_byBids 0 = .ok (.iload_n 1, 1) := by decide +kernel
theorem dX12_byBids_1 : decode cX12_byBids 1 = .ok (.istore_n 2, 1) := by decide +kernel
theorem dX12_byBids_2 : decode cX12_byBids 2 = .ok (.bipush 100, 2) := by decide +kernel
theorem dX12_byBids_4 : decode cX12_byBids 4 = .ok (.istore_n 3, 1) := by decide +kernel
theorem dX12_byBids_5 : decode cX12_byBids 5 = .ok (.iload_n 3, 1) := by decide +kernel
theorem dX12_byBids_6 : decode cX12_byBids 6 = .ok (.ifCond .lt 88, 3) := by decide +kernel
theorem dX12_byBids_9 : decode cX12_byBids 9 = .ok (.iconst 0, 1) := by decide +kernel
theorem dX12_byBids_10 : decode cX12_byBids 10 = .ok (.istore 4, 2) := by decide +kernel
theorem dX12_byBids_12 : decode cX12_byBids 12 = .ok (.iload 4, 2) := by decide +kernel
theorem dX12_byBids_14 : decode cX12_byBids 14 = .ok (.aload_n 0, 1) := by decide +kernel
theorem dX12_byBids_15 : decode cX12_byBids 15 = .ok (.getfield 185, 3) := by decide +kernel
theorem dX12_byBids_18 : decode cX12_byBids 18 = .ok (.if_icmp .ge 70, 3) := by decide +kernel
theorem dX12_byBids_21 : decode cX12_byBids 21 = .ok (.aload_n 0, 1) := by decide +kernel
theorem dX12_byBids_22 : decode cX12_byBids 22 = .ok (.iload 4, 2) := by decide +kernel
theorem dX12_byBids_24 : decode cX12_byBids 24 = .ok (.invokevirtual 418, 3) := by decide +kernel
theorem dX12_byBids_27 : decode cX12_byBids 27 = .ok (.ifCond .eq 55, 3) := by decide +kernel
theorem dX12_byBids_30 : decode cX12_byBids 30 = .ok (.aload_n 0, 1) := by decide +kernel
theorem dX12_byBids_31 : decode cX12_byBids 31 = .ok (.getfield 43, 3) := by decide +kernel
theorem dX12_byBids_34 : decode cX12_byBids 34 = .ok (.iload 4, 2) := by decide +kernel
theorem dX12_byBids_36 : decode cX12_byBids 36 = .ok (.iaload, 1) := by decide +kernel
theorem dX12_byBids_37 : decode cX12_byBids 37 = .ok (.ifCond .eq 45, 3) := by decide +kernel
theorem dX12_byBids_40 : decode cX12_byBids 40 = .ok (.aload_n 0, 1) := by decide +kernel
theorem dX12_byBids_41 : decode cX12_byBids 41 = .ok (.getfield 46, 3) := by decide +kernel
theorem dX12_byBids_44 : decode cX12_byBids 44 = .ok (.iload 4, 2) := by decide +kernel
theorem dX12_byBids_46 : decode cX12_byBids 46 = .ok (.iaload, 1) := by decide +kernel
theorem dX12_byBids_47 : decode cX12_byBids 47 = .ok (.iload_n 3, 1) := by decide +kernel
theorem dX12_byBids_48 : decode cX12_byBids 48 = .ok (.if_icmp .eq 6, 3) := by decide +kernel
theorem dX12_byBids_51 : decode cX12_byBids 51 = .ok (.goto 31, 3) := by decide +kernel
theorem dX12_byBids_54 : decode cX12_byBids 54 = .ok (.aload_n 0, 1) := by decide +kernel
theorem dX12_byBids_55 : decode cX12_byBids 55 = .ok (.getfield 108, 3) := by decide +kernel
theorem dX12_byBids_58 : decode cX12_byBids 58 = .ok (.iload 4, 2) := by decide +kernel
theorem dX12_byBids_60 : decode cX12_byBids 60 = .ok (.aload_n 0, 1) := by decide +kernel
theorem dX12_byBids_61 : decode cX12_byBids 61 = .ok (.getfield 43, 3) := by decide +kernel
theorem dX12_byBids_64 : decode cX12_byBids 64 = .ok (.iload 4, 2) := by decide +kernel
theorem dX12_byBids_66 : decode cX12_byBids 66 = .ok (.iaload, 1) := by decide +kernel
theorem dX12_byBids_67 : decode cX12_byBids 67 = .ok (.iload_n 2, 1) := by decide +kernel
theorem dX12_byBids_68 : decode cX12_byBids 68 = .ok (.invokestatic 421, 3) := by decide +kernel
theorem dX12_byBids_71 : decode cX12_byBids 71 = .ok (.iastore, 1) := by decide +kernel
theorem dX12_byBids_72 : decode cX12_byBids 72 = .ok (.iload_n 2, 1) := by decide +kernel
theorem dX12_byBids_73 : decode cX12_byBids 73 = .ok (.aload_n 0, 1) := by decide +kernel
theorem dX12_byBids_74 : decode cX12_byBids 74 = .ok (.getfield 108, 3) := by decide +kernel
theorem dX12_byBids_77 : decode cX12_byBids 77 = .ok (.iload 4, 2) := by decide +kernel
theorem dX12_byBids_79 : decode cX12_byBids 79 = .ok (.iaload, 1) := by decide +kernel
theorem dX12_byBids_80 : decode cX12_byBids 80 = .ok (.isub, 1) := by decide +kernel
theorem dX12_byBids_81 : decode cX12_byBids 81 = .ok (.istore_n 2, 1) := by decide +kernel
theorem dX12_byBids_82 : decode cX12_byBids 82 = .ok (.iinc 4 1, 3) := by decide +kernel
theorem dX12_byBids_85 : decode cX12_byBids 85 = .ok (.goto (-73), 3) := by decide +kernel
theorem dX12_byBids_88 : decode cX12_byBids 88 = .ok (.iinc 3 (-1), 3) := by decide +kernel
theorem dX12_byBids_91 : decode cX12_byBids 91 = .ok (.goto (-86), 3) := by decide +kernel
theorem dX12_byBids_94 : decode cX12_byBids 94 = .ok (.return_, 1) := by decide +kernel
theorem dX12_weightOf_0 : decode cX12_weightOf 0 = .ok (.iload_n 2, 1) := by decide +kernel
theorem dX12_weightOf_1 : decode cX12_weightOf 1 = .ok (.ifCond .le 19, 3) := by decide +kernel
theorem dX12_weightOf_4 : decode cX12_weightOf 4 = .ok (.iload_n 2, 1) := by decide +kernel
theorem dX12_weightOf_5 : decode cX12_weightOf 5 = .ok (.iconst 1, 1) := by decide +kernel
theorem dX12_weightOf_6 : decode cX12_weightOf 6 = .ok (.if_icmp .ne 12, 3) := by decide +kernel
theorem dX12_weightOf_9 : decode cX12_weightOf 9 = .ok (.aload_n 0, 1) := by decide +kernel
theorem dX12_weightOf_10 : decode cX12_weightOf 10 = .ok (.getfield 25, 3) := by decide +kernel
theorem dX12_weightOf_13 : decode cX12_weightOf 13 = .ok (.iload_n 1, 1) := by decide +kernel
theorem dX12_weightOf_14 : decode cX12_weightOf 14 = .ok (.iaload, 1) := by decide +kernel
theorem dX12_weightOf_15 : decode cX12_weightOf 15 = .ok (.goto 4, 3) := by decide +kernel
theorem dX12_weightOf_18 : decode cX12_weightOf 18 = .ok (.iconst 1, 1) := by decide +kernel
theorem dX12_weightOf_19 : decode cX12_weightOf 19 = .ok (.ireturn, 1) := by decide +kernel
theorem dX12_weightOf_20 : decode cX12_weightOf 20 = .ok (.aload_n 0, 1) := by decide +kernel
theorem dX12_weightOf_21 : decode cX12_weightOf 21 = .ok (.iload_n 1, 1) := by decide +kernel
theorem dX12_weightOf_22 : decode cX12_weightOf 22 = .ok (.invokevirtual 406, 3) := by decide +kernel
theorem dX12_weightOf_25 : decode cX12_weightOf 25 = .ok (.iload_n 1, 1) := by decide +kernel
theorem dX12_weightOf_26 : decode cX12_weightOf 26 = .ok (.aload_n 0, 1) := by decide +kernel
theorem dX12_weightOf_27 : decode cX12_weightOf 27 = .ok (.getfield 118, 3) := by decide +kernel
theorem dX12_weightOf_30 : decode cX12_weightOf 30 = .ok (.if_icmp .ne 74, 3) := by decide +kernel
theorem dX12_weightOf_33 : decode cX12_weightOf 33 = .ok (.aload_n 0, 1) := by decide +kernel
theorem dX12_weightOf_34 : decode cX12_weightOf 34 = .ok (.aload_n 0, 1) := by decide +kernel
theorem dX12_weightOf_35 : decode cX12_weightOf 35 = .ok (.getfield 13, 3) := by decide +kernel
theorem dX12_weightOf_38 : decode cX12_weightOf 38 = .ok (.iload_n 1, 1) := by decide +kernel
theorem dX12_weightOf_39 : decode cX12_weightOf 39 = .ok (.iaload, 1) := by decide +kernel
theorem dX12_weightOf_40 : decode cX12_weightOf 40 = .ok (.aload_n 0, 1) := by decide +kernel
theorem dX12_weightOf_41 : decode cX12_weightOf 41 = .ok (.getfield 13, 3) := by decide +kernel
theorem dX12_weightOf_44 : decode cX12_weightOf 44 = .ok (.aload_n 0, 1) := by decide +kernel
theorem dX12_weightOf_45 : decode cX12_weightOf 45 = .ok (.getfield 115, 3) := by decide +kernel
theorem dX12_weightOf_48 : decode cX12_weightOf 48 = .ok (.iaload, 1) := by decide +kernel
theorem dX12_weightOf_49 : decode cX12_weightOf 49 = .ok (.iadd, 1) := by decide +kernel
theorem dX12_weightOf_50 : decode cX12_weightOf 50 = .ok (.ldc 180, 2) := by decide +kernel
theorem dX12_weightOf_52 : decode cX12_weightOf 52 = .ok (.invokestatic 421, 3) := by decide +kernel
theorem dX12_weightOf_55 : decode cX12_weightOf 55 = .ok (.putfield 374, 3) := by decide +kernel
theorem dX12_weightOf_58 : decode cX12_weightOf 58 = .ok (.aload_n 0, 1) := by decide +kernel
theorem dX12_weightOf_59 : decode cX12_weightOf 59 = .ok (.aload_n 0, 1) := by decide +kernel
theorem dX12_weightOf_60 : decode cX12_weightOf 60 = .ok (.getfield 16, 3) := by decide +kernel
theorem dX12_weightOf_63 : decode cX12_weightOf 63 = .ok (.iload_n 1, 1) := by decide +kernel
theorem dX12_weightOf_64 : decode cX12_weightOf 64 = .ok (.iaload, 1) := by decide +kernel
theorem dX12_weightOf_65 : decode cX12_weightOf 65 = .ok (.aload_n 0, 1) := by decide +kernel
theorem dX12_weightOf_66 : decode cX12_weightOf 66 = .ok (.getfield 16, 3) := by decide +kernel
theorem dX12_weightOf_69 : decode cX12_weightOf 69 = .ok (.aload_n 0, 1) := by decide +kernel
theorem dX12_weightOf_70 : decode cX12_weightOf 70 = .ok (.getfield 115, 3) := by decide +kernel
theorem dX12_weightOf_73 : decode cX12_weightOf 73 = .ok (.iaload, 1) := by decide +kernel
theorem dX12_weightOf_74 : decode cX12_weightOf 74 = .ok (.iadd, 1) := by decide +kernel
theorem dX12_weightOf_75 : decode cX12_weightOf 75 = .ok (.sipush 1000, 3) := by decide +kernel
theorem dX12_weightOf_78 : decode cX12_weightOf 78 = .ok (.invokestatic 421, 3) := by decide +kernel
theorem dX12_weightOf_81 : decode cX12_weightOf 81 = .ok (.putfield 377, 3) := by decide +kernel
theorem dX12_weightOf_84 : decode cX12_weightOf 84 = .ok (.aload_n 0, 1) := by decide +kernel
theorem dX12_weightOf_85 : decode cX12_weightOf 85 = .ok (.aload_n 0, 1) := by decide +kernel
theorem dX12_weightOf_86 : decode cX12_weightOf 86 = .ok (.getfield 31, 3) := by decide +kernel
theorem dX12_weightOf_89 : decode cX12_weightOf 89 = .ok (.iload_n 1, 1) := by decide +kernel
theorem dX12_weightOf_90 : decode cX12_weightOf 90 = .ok (.iaload, 1) := by decide +kernel
theorem dX12_weightOf_91 : decode cX12_weightOf 91 = .ok (.aload_n 0, 1) := by decide +kernel
theorem dX12_weightOf_92 : decode cX12_weightOf 92 = .ok (.getfield 31, 3) := by decide +kernel
theorem dX12_weightOf_95 : decode cX12_weightOf 95 = .ok (.aload_n 0, 1) := by decide +kernel
theorem dX12_weightOf_96 : decode cX12_weightOf 96 = .ok (.getfield 115, 3) := by decide +kernel
theorem dX12_weightOf_99 : decode cX12_weightOf 99 = .ok (.iaload, 1) := by decide +kernel
theorem dX12_weightOf_100 : decode cX12_weightOf 100 = .ok (.iadd, 1) := by decide +kernel
theorem dX12_weightOf_101 : decode cX12_weightOf 101 = .ok (.putfield 386, 3) := by decide +kernel
theorem dX12_weightOf_104 : decode cX12_weightOf 104 = .ok (.aload_n 0, 1) := by decide +kernel
theorem dX12_weightOf_105 : decode cX12_weightOf 105 = .ok (.invokevirtual 409, 3) := by decide +kernel
theorem dX12_weightOf_108 : decode cX12_weightOf 108 = .ok (.ireturn, 1) := by decide +kernel
theorem dX12_parts_0 : decode cX12_parts 0 = .ok (.iconst 0, 1) := by decide +kernel
theorem dX12_parts_1 : decode cX12_parts 1 = .ok (.istore_n 3, 1) := by decide +kernel
theorem dX12_parts_2 : decode cX12_parts 2 = .ok (.iload_n 3, 1) := by decide +kernel
theorem dX12_parts_3 : decode cX12_parts 3 = .ok (.bipush 12, 2) := by decide +kernel
theorem dX12_parts_5 : decode cX12_parts 5 = .ok (.if_icmp .ge 16, 3) := by decide +kernel
theorem dX12_parts_8 : decode cX12_parts 8 = .ok (.aload_n 0, 1) := by decide +kernel
theorem dX12_parts_9 : decode cX12_parts 9 = .ok (.getfield 108, 3) := by decide +kernel
theorem dX12_parts_12 : decode cX12_parts 12 = .ok (.iload_n 3, 1) := by decide +kernel
theorem dX12_parts_13 : decode cX12_parts 13 = .ok (.iconst 0, 1) := by decide +kernel
theorem dX12_parts_14 : decode cX12_parts 14 = .ok (.iastore, 1) := by decide +kernel
theorem dX12_parts_15 : decode cX12_parts 15 = .ok (.iinc 3 1, 3) := by decide +kernel
theorem dX12_parts_18 : decode cX12_parts 18 = .ok (.goto (-16), 3) := by decide +kernel
theorem dX12_parts_21 : decode cX12_parts 21 = .ok (.iload_n 2, 1) := by decide +kernel
theorem dX12_parts_22 : decode cX12_parts 22 = .ok (.iconst 3, 1) := by decide +kernel
theorem dX12_parts_23 : decode cX12_parts 23 = .ok (.if_icmp .ne 9, 3) := by decide +kernel
theorem dX12_parts_26 : decode cX12_parts 26 = .ok (.aload_n 0, 1) := by decide +kernel
theorem dX12_parts_27 : decode cX12_parts 27 = .ok (.iload_n 1, 1) := by decide +kernel
theorem dX12_parts_28 : decode cX12_parts 28 = .ok (.invokevirtual 423, 3) := by decide +kernel
theorem dX12_parts_31 : decode cX12_parts 31 = .ok (.return_, 1) := by decide +kernel
theorem dX12_parts_32 : decode cX12_parts 32 = .ok (.aload_n 0, 1) := by decide +kernel
theorem dX12_parts_33 : decode cX12_parts 33 = .ok (.bipush 9, 2) := by decide +kernel
theorem dX12_parts_35 : decode cX12_parts 35 = .ok (.invokevirtual 412, 3) := by decide +kernel
theorem dX12_parts_38 : decode cX12_parts 38 = .ok (.istore_n 3, 1) := by decide +kernel
theorem dX12_parts_39 : decode cX12_parts 39 = .ok (.iload_n 1, 1) := by decide +kernel
theorem dX12_parts_40 : decode cX12_parts 40 = .ok (.istore 4, 2) := by decide +kernel
theorem dX12_parts_42 : decode cX12_parts 42 = .ok (.lconst 0, 1) := by decide +kernel
theorem dX12_parts_43 : decode cX12_parts 43 = .ok (.lstore 6, 2) := by decide +kernel
theorem dX12_parts_45 : decode cX12_parts 45 = .ok (.iconst 0, 1) := by decide +kernel
theorem dX12_parts_46 : decode cX12_parts 46 = .ok (.istore 8, 2) := by decide +kernel
theorem dX12_parts_48 : decode cX12_parts 48 = .ok (.iload 8, 2) := by decide +kernel
theorem dX12_parts_50 : decode cX12_parts 50 = .ok (.aload_n 0, 1) := by decide +kernel
theorem dX12_parts_51 : decode cX12_parts 51 = .ok (.getfield 185, 3) := by decide +kernel
theorem dX12_parts_54 : decode cX12_parts 54 = .ok (.if_icmp .ge 73, 3) := by decide +kernel
theorem dX12_parts_57 : decode cX12_parts 57 = .ok (.aload_n 0, 1) := by decide +kernel
theorem dX12_parts_58 : decode cX12_parts 58 = .ok (.iload 8, 2) := by decide +kernel
theorem dX12_parts_60 : decode cX12_parts 60 = .ok (.invokevirtual 418, 3) := by decide +kernel
theorem dX12_parts_63 : decode cX12_parts 63 = .ok (.ifCond .ne 6, 3) := by decide +kernel
theorem dX12_parts_66 : decode cX12_parts 66 = .ok (.goto 55, 3) := by decide +kernel
theorem dX12_parts_69 : decode cX12_parts 69 = .ok (.aload_n 0, 1) := by decide +kernel
theorem dX12_parts_70 : decode cX12_parts 70 = .ok (.getfield 108, 3) := by decide +kernel
theorem dX12_parts_73 : decode cX12_parts 73 = .ok (.iload 8, 2) := by decide +kernel
theorem dX12_parts_75 : decode cX12_parts 75 = .ok (.iload_n 3, 1) := by decide +kernel
theorem dX12_parts_76 : decode cX12_parts 76 = .ok (.iload 4, 2) := by decide +kernel
theorem dX12_parts_78 : decode cX12_parts 78 = .ok (.invokestatic 421, 3) := by decide +kernel
theorem dX12_parts_81 : decode cX12_parts 81 = .ok (.iastore, 1) := by decide +kernel
theorem dX12_parts_82 : decode cX12_parts 82 = .ok (.iload 4, 2) := by decide +kernel
theorem dX12_parts_84 : decode cX12_parts 84 = .ok (.aload_n 0, 1) := by decide +kernel
theorem dX12_parts_85 : decode cX12_parts 85 = .ok (.getfield 108, 3) := by decide +kernel
theorem dX12_parts_88 : decode cX12_parts 88 = .ok (.iload 8, 2) := by decide +kernel
theorem dX12_parts_90 : decode cX12_parts 90 = .ok (.iaload, 1) := by decide +kernel
theorem dX12_parts_91 : decode cX12_parts 91 = .ok (.isub, 1) := by decide +kernel
theorem dX12_parts_92 : decode cX12_parts 92 = .ok (.istore 4, 2) := by decide +kernel
theorem dX12_parts_94 : decode cX12_parts 94 = .ok (.aload_n 0, 1) := by decide +kernel
theorem dX12_parts_95 : decode cX12_parts 95 = .ok (.getfield 105, 3) := by decide +kernel
theorem dX12_parts_98 : decode cX12_parts 98 = .ok (.iload 8, 2) := by decide +kernel
theorem dX12_parts_100 : decode cX12_parts 100 = .ok (.aload_n 0, 1) := by decide +kernel
theorem dX12_parts_101 : decode cX12_parts 101 = .ok (.iload 8, 2) := by decide +kernel
theorem dX12_parts_103 : decode cX12_parts 103 = .ok (.iload_n 2, 1) := by decide +kernel
theorem dX12_parts_104 : decode cX12_parts 104 = .ok (.invokevirtual 426, 3) := by decide +kernel
theorem dX12_parts_107 : decode cX12_parts 107 = .ok (.iastore, 1) := by decide +kernel
theorem dX12_parts_108 : decode cX12_parts 108 = .ok (.lload 6, 2) := by decide +kernel
theorem dX12_parts_110 : decode cX12_parts 110 = .ok (.aload_n 0, 1) := by decide +kernel
theorem dX12_parts_111 : decode cX12_parts 111 = .ok (.getfield 105, 3) := by decide +kernel
theorem dX12_parts_114 : decode cX12_parts 114 = .ok (.iload 8, 2) := by decide +kernel
theorem dX12_parts_116 : decode cX12_parts 116 = .ok (.iaload, 1) := by decide +kernel
theorem dX12_parts_117 : decode cX12_parts 117 = .ok (.i2l, 1) := by decide +kernel
theorem dX12_parts_118 : decode cX12_parts 118 = .ok (.ladd, 1) := by decide +kernel
theorem dX12_parts_119 : decode cX12_parts 119 = .ok (.lstore 6, 2) := by decide +kernel
theorem dX12_parts_121 : decode cX12_parts 121 = .ok (.iinc 8 1, 3) := by decide +kernel
theorem dX12_parts_124 : decode cX12_parts 124 = .ok (.goto (-76), 3) := by decide +kernel
theorem dX12_parts_127 : decode cX12_parts 127 = .ok (.lload 6, 2) := by decide +kernel
theorem dX12_parts_129 : decode cX12_parts 129 = .ok (.lconst 0, 1) := by decide +kernel
theorem dX12_parts_130 : decode cX12_parts 130 = .ok (.lcmp, 1) := by decide +kernel
theorem dX12_parts_131 : decode cX12_parts 131 = .ok (.ifCond .ne 4, 3) := by decide +kernel
theorem dX12_parts_134 : decode cX12_parts 134 = .ok (.return_, 1) := by decide +kernel
theorem dX12_parts_135 : decode cX12_parts 135 = .ok (.iload 4, 2) := by decide +kernel
theorem dX12_parts_137 : decode cX12_parts 137 = .ok (.istore 5, 2) := by decide +kernel
theorem dX12_parts_139 : decode cX12_parts 139 = .ok (.iconst 0, 1) := by decide +kernel
theorem dX12_parts_140 : decode cX12_parts 140 = .ok (.istore 8, 2) := by decide +kernel
theorem dX12_parts_142 : decode cX12_parts 142 = .ok (.iload 8, 2) := by decide +kernel
theorem dX12_parts_144 : decode cX12_parts 144 = .ok (.aload_n 0, 1) := by decide +kernel
theorem dX12_parts_145 : decode cX12_parts 145 = .ok (.getfield 185, 3) := by decide +kernel
theorem dX12_parts_148 : decode cX12_parts 148 = .ok (.if_icmp .ge 90, 3) := by decide +kernel
theorem dX12_parts_151 : decode cX12_parts 151 = .ok (.aload_n 0, 1) := by decide +kernel
theorem dX12_parts_152 : decode cX12_parts 152 = .ok (.iload 8, 2) := by decide +kernel
theorem dX12_parts_154 : decode cX12_parts 154 = .ok (.invokevirtual 418, 3) := by decide +kernel
theorem dX12_parts_157 : decode cX12_parts 157 = .ok (.ifCond .ne 6, 3) := by decide +kernel
theorem dX12_parts_160 : decode cX12_parts 160 = .ok (.goto 72, 3) := by decide +kernel
theorem dX12_parts_163 : decode cX12_parts 163 = .ok (.iload 4, 2) := by decide +kernel
theorem dX12_parts_165 : decode cX12_parts 165 = .ok (.i2l, 1) := by decide +kernel
theorem dX12_parts_166 : decode cX12_parts 166 = .ok (.aload_n 0, 1) := by decide +kernel
theorem dX12_parts_167 : decode cX12_parts 167 = .ok (.getfield 105, 3) := by decide +kernel
theorem dX12_parts_170 : decode cX12_parts 170 = .ok (.iload 8, 2) := by decide +kernel
theorem dX12_parts_172 : decode cX12_parts 172 = .ok (.iaload, 1) := by decide +kernel
theorem dX12_parts_173 : decode cX12_parts 173 = .ok (.i2l, 1) := by decide +kernel
theorem dX12_parts_174 : decode cX12_parts 174 = .ok (.lmul, 1) := by decide +kernel
theorem dX12_parts_175 : decode cX12_parts 175 = .ok (.lstore 9, 2) := by decide +kernel
theorem dX12_parts_177 : decode cX12_parts 177 = .ok (.aload_n 0, 1) := by decide +kernel
theorem dX12_parts_178 : decode cX12_parts 178 = .ok (.getfield 108, 3) := by decide +kernel
theorem dX12_parts_181 : decode cX12_parts 181 = .ok (.iload 8, 2) := by decide +kernel
theorem dX12_parts_183 : decode cX12_parts 183 = .ok (.dup2, 1) := by decide +kernel
theorem dX12_parts_184 : decode cX12_parts 184 = .ok (.iaload, 1) := by decide +kernel
theorem dX12_parts_185 : decode cX12_parts 185 = .ok (.lload 9, 2) := by decide +kernel
theorem dX12_parts_187 : decode cX12_parts 187 = .ok (.lload 6, 2) := by decide +kernel
theorem dX12_parts_189 : decode cX12_parts 189 = .ok (.ldiv, 1) := by decide +kernel
theorem dX12_parts_190 : decode cX12_parts 190 = .ok (.l2i, 1) := by decide +kernel
theorem dX12_parts_191 : decode cX12_parts 191 = .ok (.iadd, 1) := by decide +kernel
theorem dX12_parts_192 : decode cX12_parts 192 = .ok (.iastore, 1) := by decide +kernel
theorem dX12_parts_193 : decode cX12_parts 193 = .ok (.iload 5, 2) := by decide +kernel
theorem dX12_parts_195 : decode cX12_parts 195 = .ok (.lload 9, 2) := by decide +kernel
theorem dX12_parts_197 : decode cX12_parts 197 = .ok (.lload 6, 2) := by decide +kernel
theorem dX12_parts_199 : decode cX12_parts 199 = .ok (.ldiv, 1) := by decide +kernel
theorem dX12_parts_200 : decode cX12_parts 200 = .ok (.l2i, 1) := by decide +kernel
theorem dX12_parts_201 : decode cX12_parts 201 = .ok (.isub, 1) := by decide +kernel
theorem dX12_parts_202 : decode cX12_parts 202 = .ok (.istore 5, 2) := by decide +kernel
theorem dX12_parts_204 : decode cX12_parts 204 = .ok (.aload_n 0, 1) := by decide +kernel
theorem dX12_parts_205 : decode cX12_parts 205 = .ok (.getfield 111, 3) := by decide +kernel
theorem dX12_parts_208 : decode cX12_parts 208 = .ok (.iload 8, 2) := by decide +kernel
theorem dX12_parts_210 : decode cX12_parts 210 = .ok (.aload_n 0, 1) := by decide +kernel
theorem dX12_parts_211 : decode cX12_parts 211 = .ok (.getfield 105, 3) := by decide +kernel
theorem dX12_parts_214 : decode cX12_parts 214 = .ok (.iload 8, 2) := by decide +kernel
theorem dX12_parts_216 : decode cX12_parts 216 = .ok (.iaload, 1) := by decide +kernel
theorem dX12_parts_217 : decode cX12_parts 217 = .ok (.ifCond .ne 9, 3) := by decide +kernel
theorem dX12_parts_220 : decode cX12_parts 220 = .ok (.ldc2_w 429, 3) := by decide +kernel
theorem dX12_parts_223 : decode cX12_parts 223 = .ok (.goto 8, 3) := by decide +kernel
theorem dX12_parts_226 : decode cX12_parts 226 = .ok (.lload 9, 2) := by decide +kernel
theorem dX12_parts_228 : decode cX12_parts 228 = .ok (.lload 6, 2) := by decide +kernel
theorem dX12_parts_230 : decode cX12_parts 230 = .ok (.lrem, 1) := by decide +kernel
theorem dX12_parts_231 : decode cX12_parts 231 = .ok (.lastore, 1) := by decide +kernel
theorem dX12_parts_232 : decode cX12_parts 232 = .ok (.iinc 8 1, 3) := by decide +kernel
theorem dX12_parts_235 : decode cX12_parts 235 = .ok (.goto (-93), 3) := by decide +kernel
theorem dX12_parts_238 : decode cX12_parts 238 = .ok (.iload 5, 2) := by decide +kernel
theorem dX12_parts_240 : decode cX12_parts 240 = .ok (.ifCond .le 109, 3) := by decide +kernel
theorem dX12_parts_243 : decode cX12_parts 243 = .ok (.aload_n 0, 1) := by decide +kernel
theorem dX12_parts_244 : decode cX12_parts 244 = .ok (.bipush 10, 2) := by decide +kernel
theorem dX12_parts_246 : decode cX12_parts 246 = .ok (.invokevirtual 412, 3) := by decide +kernel
theorem dX12_parts_249 : decode cX12_parts 249 = .ok (.iconst 1, 1) := by decide +kernel
theorem dX12_parts_250 : decode cX12_parts 250 = .ok (.if_icmp .ne 99, 3) := by decide +kernel
theorem dX12_parts_253 : decode cX12_parts 253 = .ok (.iconst (-1), 1) := by decide +kernel
theorem dX12_parts_254 : decode cX12_parts 254 = .ok (.istore 8, 2) := by decide +kernel
theorem dX12_parts_256 : decode cX12_parts 256 = .ok (.iconst 0, 1) := by decide +kernel
theorem dX12_parts_257 : decode cX12_parts 257 = .ok (.istore 9, 2) := by decide +kernel
theorem dX12_parts_259 : decode cX12_parts 259 = .ok (.iload 9, 2) := by decide +kernel
theorem dX12_parts_261 : decode cX12_parts 261 = .ok (.aload_n 0, 1) := by decide +kernel
theorem dX12_parts_262 : decode cX12_parts 262 = .ok (.getfield 185, 3) := by decide +kernel
theorem dX12_parts_265 : decode cX12_parts 265 = .ok (.if_icmp .ge 57, 3) := by decide +kernel
theorem dX12_parts_268 : decode cX12_parts 268 = .ok (.aload_n 0, 1) := by decide +kernel
theorem dX12_parts_269 : decode cX12_parts 269 = .ok (.iload 9, 2) := by decide +kernel
theorem dX12_parts_271 : decode cX12_parts 271 = .ok (.invokevirtual 418, 3) := by decide +kernel
theorem dX12_parts_274 : decode cX12_parts 274 = .ok (.ifCond .eq 42, 3) := by decide +kernel
theorem dX12_parts_277 : decode cX12_parts 277 = .ok (.aload_n 0, 1) := by decide +kernel
theorem dX12_parts_278 : decode cX12_parts 278 = .ok (.getfield 111, 3) := by decide +kernel
theorem dX12_parts_281 : decode cX12_parts 281 = .ok (.iload 9, 2) := by decide +kernel
theorem dX12_parts_283 : decode cX12_parts 283 = .ok (.laload, 1) := by decide +kernel
theorem dX12_parts_284 : decode cX12_parts 284 = .ok (.lconst 0, 1) := by decide +kernel
theorem dX12_parts_285 : decode cX12_parts 285 = .ok (.lcmp, 1) := by decide +kernel
theorem dX12_parts_286 : decode cX12_parts 286 = .ok (.ifCond .lt 30, 3) := by decide +kernel
theorem dX12_parts_289 : decode cX12_parts 289 = .ok (.iload 8, 2) := by decide +kernel
theorem dX12_parts_291 : decode cX12_parts 291 = .ok (.ifCond .lt 21, 3) := by decide +kernel
theorem dX12_parts_294 : decode cX12_parts 294 = .ok (.aload_n 0, 1) := by decide +kernel
theorem dX12_parts_295 : decode cX12_parts 295 = .ok (.getfield 111, 3) := by decide +kernel
theorem dX12_parts_298 : decode cX12_parts 298 = .ok (.iload 9, 2) := by decide +kernel
theorem dX12_parts_300 : decode cX12_parts 300 = .ok (.laload, 1) := by decide +kernel
theorem dX12_parts_301 : decode cX12_parts 301 = .ok (.aload_n 0, 1) := by decide +kernel
theorem dX12_parts_302 : decode cX12_parts 302 = .ok (.getfield 111, 3) := by decide +kernel
theorem dX12_parts_305 : decode cX12_parts 305 = .ok (.iload 8, 2) := by decide +kernel
theorem dX12_parts_307 : decode cX12_parts 307 = .ok (.laload, 1) := by decide +kernel
theorem dX12_parts_308 : decode cX12_parts 308 = .ok (.lcmp, 1) := by decide +kernel
theorem dX12_parts_309 : decode cX12_parts 309 = .ok (.ifCond .le 7, 3) := by decide +kernel
theorem dX12_parts_312 : decode cX12_parts 312 = .ok (.iload 9, 2) := by decide +kernel
theorem dX12_parts_314 : decode cX12_parts 314 = .ok (.istore 8, 2) := by decide +kernel
theorem dX12_parts_316 : decode cX12_parts 316 = .ok (.iinc 9 1, 3) := by decide +kernel
theorem dX12_parts_319 : decode cX12_parts 319 = .ok (.goto (-60), 3) := by decide +kernel
theorem dX12_parts_322 : decode cX12_parts 322 = .ok (.aload_n 0, 1) := by decide +kernel
theorem dX12_parts_323 : decode cX12_parts 323 = .ok (.getfield 108, 3) := by decide +kernel
theorem dX12_parts_326 : decode cX12_parts 326 = .ok (.iload 8, 2) := by decide +kernel
theorem dX12_parts_328 : decode cX12_parts 328 = .ok (.dup2, 1) := by decide +kernel
theorem dX12_parts_329 : decode cX12_parts 329 = .ok (.iaload, 1) := by decide +kernel
theorem dX12_parts_330 : decode cX12_parts 330 = .ok (.iconst 1, 1) := by decide +kernel
theorem dX12_parts_331 : decode cX12_parts 331 = .ok (.iadd, 1) := by decide +kernel
theorem dX12_parts_332 : decode cX12_parts 332 = .ok (.iastore, 1) := by decide +kernel
theorem dX12_parts_333 : decode cX12_parts 333 = .ok (.aload_n 0, 1) := by decide +kernel
theorem dX12_parts_334 : decode cX12_parts 334 = .ok (.getfield 111, 3) := by decide +kernel
theorem dX12_parts_337 : decode cX12_parts 337 = .ok (.iload 8, 2) := by decide +kernel
theorem dX12_parts_339 : decode cX12_parts 339 = .ok (.ldc2_w 429, 3) := by decide +kernel
theorem dX12_parts_342 : decode cX12_parts 342 = .ok (.lastore, 1) := by decide +kernel
theorem dX12_parts_343 : decode cX12_parts 343 = .ok (.iinc 5 (-1), 3) := by decide +kernel
theorem dX12_parts_346 : decode cX12_parts 346 = .ok (.goto (-108), 3) := by decide +kernel
theorem dX12_parts_349 : decode cX12_parts 349 = .ok (.return_, 1) := by decide +kernel
theorem dX12_parted_0 : decode cX12_parted 0 = .ok (.aload_n 0, 1) := by decide +kernel
theorem dX12_parted_1 : decode cX12_parted 1 = .ok (.iload_n 1, 1) := by decide +kernel
theorem dX12_parted_2 : decode cX12_parted 2 = .ok (.invokevirtual 188, 3) := by decide +kernel
theorem dX12_parted_5 : decode cX12_parted 5 = .ok (.ifCond .eq 25, 3) := by decide +kernel
theorem dX12_parted_8 : decode cX12_parted 8 = .ok (.aload_n 0, 1) := by decide +kernel
theorem dX12_parted_9 : decode cX12_parted 9 = .ok (.iload_n 2, 1) := by decide +kernel
theorem dX12_parted_10 : decode cX12_parted 10 = .ok (.iconst (-1), 1) := by decide +kernel
theorem dX12_parted_11 : decode cX12_parted 11 = .ok (.iconst 3, 1) := by decide +kernel
theorem dX12_parted_12 : decode cX12_parted 12 = .ok (.invokestatic 176, 3) := by decide +kernel
theorem dX12_parted_15 : decode cX12_parted 15 = .ok (.ifCond .ne 7, 3) := by decide +kernel
theorem dX12_parted_18 : decode cX12_parted 18 = .ok (.iconst 1, 1) := by decide +kernel
theorem dX12_parted_19 : decode cX12_parted 19 = .ok (.goto 4, 3) := by decide +kernel
theorem dX12_parted_22 : decode cX12_parted 22 = .ok (.iconst 0, 1) := by decide +kernel
theorem dX12_parted_23 : decode cX12_parted 23 = .ok (.iconst 2, 1) := by decide +kernel
theorem dX12_parted_24 : decode cX12_parted 24 = .ok (.invokevirtual 181, 3) := by decide +kernel
theorem dX12_parted_27 : decode cX12_parted 27 = .ok (.ifCond .eq 5, 3) := by decide +kernel
theorem dX12_parted_30 : decode cX12_parted 30 = .ok (.iconst 0, 1) := by decide +kernel
theorem dX12_parted_31 : decode cX12_parted 31 = .ok (.ireturn, 1) := by decide +kernel
theorem dX12_parted_32 : decode cX12_parted 32 = .ok (.aload_n 0, 1) := by decide +kernel
theorem dX12_parted_33 : decode cX12_parted 33 = .ok (.getfield 37, 3) := by decide +kernel
theorem dX12_parted_36 : decode cX12_parted 36 = .ok (.iload_n 1, 1) := by decide +kernel
theorem dX12_parted_37 : decode cX12_parted 37 = .ok (.iaload, 1) := by decide +kernel
theorem dX12_parted_38 : decode cX12_parted 38 = .ok (.iconst 1, 1) := by decide +kernel
theorem dX12_parted_39 : decode cX12_parted 39 = .ok (.if_icmp .eq 5, 3) := by decide +kernel
theorem dX12_parted_42 : decode cX12_parted 42 = .ok (.iconst 0, 1) := by decide +kernel
theorem dX12_parted_43 : decode cX12_parted 43 = .ok (.ireturn, 1) := by decide +kernel
theorem dX12_parted_44 : decode cX12_parted 44 = .ok (.aload_n 0, 1) := by decide +kernel
theorem dX12_parted_45 : decode cX12_parted 45 = .ok (.aload_n 0, 1) := by decide +kernel
theorem dX12_parted_46 : decode cX12_parted 46 = .ok (.invokevirtual 431, 3) := by decide +kernel
theorem dX12_parted_49 : decode cX12_parted 49 = .ok (.iload_n 2, 1) := by decide +kernel
theorem dX12_parted_50 : decode cX12_parted 50 = .ok (.ifCond .ge 12, 3) := by decide +kernel
theorem dX12_parted_53 : decode cX12_parted 53 = .ok (.aload_n 0, 1) := by decide +kernel
theorem dX12_parted_54 : decode cX12_parted 54 = .ok (.bipush 11, 2) := by decide +kernel
theorem dX12_parted_56 : decode cX12_parted 56 = .ok (.invokevirtual 412, 3) := by decide +kernel
theorem dX12_parted_59 : decode cX12_parted 59 = .ok (.goto 4, 3) := by decide +kernel
theorem dX12_parted_62 : decode cX12_parted 62 = .ok (.iload_n 2, 1) := by decide +kernel
theorem dX12_parted_63 : decode cX12_parted 63 = .ok (.invokevirtual 434, 3) := by decide +kernel
theorem dX12_parted_66 : decode cX12_parted 66 = .ok (.aload_n 0, 1) := by decide +kernel
theorem dX12_parted_67 : decode cX12_parted 67 = .ok (.getfield 108, 3) := by decide +kernel
theorem dX12_parted_70 : decode cX12_parted 70 = .ok (.iload_n 1, 1) := by decide +kernel
theorem dX12_parted_71 : decode cX12_parted 71 = .ok (.iaload, 1) := by decide +kernel
theorem dX12_parted_72 : decode cX12_parted 72 = .ok (.ireturn, 1) := by decide +kernel
theorem dX12_admits_0 : decode cX12_admits 0 = .ok (.aload_n 0, 1) := by decide +kernel
theorem dX12_admits_1 : decode cX12_admits 1 = .ok (.bipush 6, 2) := by decide +kernel
theorem dX12_admits_3 : decode cX12_admits 3 = .ok (.invokevirtual 412, 3) := by decide +kernel
theorem dX12_admits_6 : decode cX12_admits 6 = .ok (.istore_n 1, 1) := by decide +kernel
theorem dX12_admits_7 : decode cX12_admits 7 = .ok (.iconst 0, 1) := by decide +kernel
theorem dX12_admits_8 : decode cX12_admits 8 = .ok (.istore_n 2, 1) := by decide +kernel
theorem dX12_admits_9 : decode cX12_admits 9 = .ok (.iload_n 2, 1) := by decide +kernel
theorem dX12_admits_10 : decode cX12_admits 10 = .ok (.aload_n 0, 1) := by decide +kernel
theorem dX12_admits_11 : decode cX12_admits 11 = .ok (.getfield 185, 3) := by decide +kernel
theorem dX12_admits_14 : decode cX12_admits 14 = .ok (.if_icmp .ge 35, 3) := by decide +kernel
theorem dX12_admits_17 : decode cX12_admits 17 = .ok (.iload_n 1, 1) := by decide +kernel
theorem dX12_admits_18 : decode cX12_admits 18 = .ok (.ifCond .le 31, 3) := by decide +kernel
theorem dX12_admits_21 : decode cX12_admits 21 = .ok (.aload_n 0, 1) := by decide +kernel
theorem dX12_admits_22 : decode cX12_admits 22 = .ok (.getfield 37, 3) := by decide +kernel
theorem dX12_admits_25 : decode cX12_admits 25 = .ok (.iload_n 2, 1) := by decide +kernel
theorem dX12_admits_26 : decode cX12_admits 26 = .ok (.iaload, 1) := by decide +kernel
theorem dX12_admits_27 : decode cX12_admits 27 = .ok (.ifCond .eq 6, 3) := by decide +kernel
theorem dX12_admits_30 : decode cX12_admits 30 = .ok (.goto 13, 3) := by decide +kernel
theorem dX12_admits_33 : decode cX12_admits 33 = .ok (.aload_n 0, 1) := by decide +kernel
theorem dX12_admits_34 : decode cX12_admits 34 = .ok (.getfield 37, 3) := by decide +kernel
theorem dX12_admits_37 : decode cX12_admits 37 = .ok (.iload_n 2, 1) := by decide +kernel
theorem dX12_admits_38 : decode cX12_admits 38 = .ok (.iconst 1, 1) := by decide +kernel
theorem dX12_admits_39 : decode cX12_admits 39 = .ok (.iastore, 1) := by decide +kernel
theorem dX12_admits_40 : decode cX12_admits 40 = .ok (.iinc 1 (-1), 3) := by decide +kernel
theorem dX12_admits_43 : decode cX12_admits 43 = .ok (.iinc 2 1, 3) := by decide +kernel
theorem dX12_admits_46 : decode cX12_admits 46 = .ok (.goto (-37), 3) := by decide +kernel
theorem dX12_admits_49 : decode cX12_admits 49 = .ok (.return_, 1) := by decide +kernel
theorem dX12_divides_0 : decode cX12_divides 0 = .ok (.aload_n 0, 1) := by decide +kernel
theorem dX12_divides_1 : decode cX12_divides 1 = .ok (.bipush 11, 2) := by decide +kernel
theorem dX12_divides_3 : decode cX12_divides 3 = .ok (.invokevirtual 412, 3) := by decide +kernel
theorem dX12_divides_6 : decode cX12_divides 6 = .ok (.istore_n 1, 1) := by decide +kernel
theorem dX12_divides_7 : decode cX12_divides 7 = .ok (.aload_n 0, 1) := by decide +kernel
theorem dX12_divides_8 : decode cX12_divides 8 = .ok (.aload_n 0, 1) := by decide +kernel
theorem dX12_divides_9 : decode cX12_divides 9 = .ok (.invokevirtual 431, 3) := by decide +kernel
theorem dX12_divides_12 : decode cX12_divides 12 = .ok (.iload_n 1, 1) := by decide +kernel
theorem dX12_divides_13 : decode cX12_divides 13 = .ok (.invokevirtual 434, 3) := by decide +kernel
theorem dX12_divides_16 : decode cX12_divides 16 = .ok (.iconst 0, 1) := by decide +kernel
theorem dX12_divides_17 : decode cX12_divides 17 = .ok (.istore_n 2, 1) := by decide +kernel
theorem dX12_divides_18 : decode cX12_divides 18 = .ok (.iload_n 2, 1) := by decide +kernel
theorem dX12_divides_19 : decode cX12_divides 19 = .ok (.aload_n 0, 1) := by decide +kernel
theorem dX12_divides_20 : decode cX12_divides 20 = .ok (.getfield 185, 3) := by decide +kernel
theorem dX12_divides_23 : decode cX12_divides 23 = .ok (.if_icmp .ge 77, 3) := by decide +kernel
theorem dX12_divides_26 : decode cX12_divides 26 = .ok (.aload_n 0, 1) := by decide +kernel
theorem dX12_divides_27 : decode cX12_divides 27 = .ok (.getfield 128, 3) := by decide +kernel
theorem dX12_divides_30 : decode cX12_divides 30 = .ok (.iload_n 2, 1) := by decide +kernel
theorem dX12_divides_31 : decode cX12_divides 31 = .ok (.aload_n 0, 1) := by decide +kernel
theorem dX12_divides_32 : decode cX12_divides 32 = .ok (.getfield 108, 3) := by decide +kernel
theorem dX12_divides_35 : decode cX12_divides 35 = .ok (.iload_n 2, 1) := by decide +kernel
theorem dX12_divides_36 : decode cX12_divides 36 = .ok (.iaload, 1) := by decide +kernel
theorem dX12_divides_37 : decode cX12_divides 37 = .ok (.iastore, 1) := by decide +kernel
theorem dX12_divides_38 : decode cX12_divides 38 = .ok (.aload_n 0, 1) := by decide +kernel
theorem dX12_divides_39 : decode cX12_divides 39 = .ok (.getfield 34, 3) := by decide +kernel
theorem dX12_divides_42 : decode cX12_divides 42 = .ok (.iload_n 2, 1) := by decide +kernel
theorem dX12_divides_43 : decode cX12_divides 43 = .ok (.dup2, 1) := by decide +kernel
theorem dX12_divides_44 : decode cX12_divides 44 = .ok (.iaload, 1) := by decide +kernel
theorem dX12_divides_45 : decode cX12_divides 45 = .ok (.aload_n 0, 1) := by decide +kernel
theorem dX12_divides_46 : decode cX12_divides 46 = .ok (.getfield 108, 3) := by decide +kernel
theorem dX12_divides_49 : decode cX12_divides 49 = .ok (.iload_n 2, 1) := by decide +kernel
theorem dX12_divides_50 : decode cX12_divides 50 = .ok (.iaload, 1) := by decide +kernel
theorem dX12_divides_51 : decode cX12_divides 51 = .ok (.iadd, 1) := by decide +kernel
theorem dX12_divides_52 : decode cX12_divides 52 = .ok (.iastore, 1) := by decide +kernel
theorem dX12_divides_53 : decode cX12_divides 53 = .ok (.iload_n 1, 1) := by decide +kernel
theorem dX12_divides_54 : decode cX12_divides 54 = .ok (.iconst 3, 1) := by decide +kernel
theorem dX12_divides_55 : decode cX12_divides 55 = .ok (.if_icmp .ne 25, 3) := by decide +kernel
theorem dX12_divides_58 : decode cX12_divides 58 = .ok (.aload_n 0, 1) := by decide +kernel
theorem dX12_divides_59 : decode cX12_divides 59 = .ok (.getfield 28, 3) := by decide +kernel
theorem dX12_divides_62 : decode cX12_divides 62 = .ok (.iload_n 2, 1) := by decide +kernel
theorem dX12_divides_63 : decode cX12_divides 63 = .ok (.dup2, 1) := by decide +kernel
theorem dX12_divides_64 : decode cX12_divides 64 = .ok (.iaload, 1) := by decide +kernel
theorem dX12_divides_65 : decode cX12_divides 65 = .ok (.aload_n 0, 1) := by decide +kernel
theorem dX12_divides_66 : decode cX12_divides 66 = .ok (.getfield 108, 3) := by decide +kernel
theorem dX12_divides_69 : decode cX12_divides 69 = .ok (.iload_n 2, 1) := by decide +kernel
theorem dX12_divides_70 : decode cX12_divides 70 = .ok (.iaload, 1) := by decide +kernel
theorem dX12_divides_71 : decode cX12_divides 71 = .ok (.aload_n 0, 1) := by decide +kernel
theorem dX12_divides_72 : decode cX12_divides 72 = .ok (.getfield 46, 3) := by decide +kernel
theorem dX12_divides_75 : decode cX12_divides 75 = .ok (.iload_n 2, 1) := by decide +kernel
theorem dX12_divides_76 : decode cX12_divides 76 = .ok (.iaload, 1) := by decide +kernel
theorem dX12_divides_77 : decode cX12_divides 77 = .ok (.imul, 1) := by decide +kernel
theorem dX12_divides_78 : decode cX12_divides 78 = .ok (.isub, 1) := by decide +kernel
theorem dX12_divides_79 : decode cX12_divides 79 = .ok (.iastore, 1) := by decide +kernel
theorem dX12_divides_80 : decode cX12_divides 80 = .ok (.aload_n 0, 1) := by decide +kernel
theorem dX12_divides_81 : decode cX12_divides 81 = .ok (.getfield 43, 3) := by decide +kernel
theorem dX12_divides_84 : decode cX12_divides 84 = .ok (.iload_n 2, 1) := by decide +kernel
theorem dX12_divides_85 : decode cX12_divides 85 = .ok (.iconst 0, 1) := by decide +kernel
theorem dX12_divides_86 : decode cX12_divides 86 = .ok (.iastore, 1) := by decide +kernel
theorem dX12_divides_87 : decode cX12_divides 87 = .ok (.aload_n 0, 1) := by decide +kernel
theorem dX12_divides_88 : decode cX12_divides 88 = .ok (.getfield 46, 3) := by decide +kernel
theorem dX12_divides_91 : decode cX12_divides 91 = .ok (.iload_n 2, 1) := by decide +kernel
theorem dX12_divides_92 : decode cX12_divides 92 = .ok (.iconst 0, 1) := by decide +kernel
theorem dX12_divides_93 : decode cX12_divides 93 = .ok (.iastore, 1) := by decide +kernel
theorem dX12_divides_94 : decode cX12_divides 94 = .ok (.iinc 2 1, 3) := by decide +kernel
theorem dX12_divides_97 : decode cX12_divides 97 = .ok (.goto (-79), 3) := by decide +kernel
theorem dX12_divides_100 : decode cX12_divides 100 = .ok (.return_, 1) := by decide +kernel
theorem dX12_hands_0 : decode cX12_hands 0 = .ok (.iconst 0, 1) := by decide +kernel
theorem dX12_hands_1 : decode cX12_hands 1 = .ok (.istore_n 1, 1) := by decide +kernel
theorem dX12_hands_2 : decode cX12_hands 2 = .ok (.iload_n 1, 1) := by decide +kernel
theorem dX12_hands_3 : decode cX12_hands 3 = .ok (.aload_n 0, 1) := by decide +kernel
theorem dX12_hands_4 : decode cX12_hands 4 = .ok (.getfield 196, 3) := by decide +kernel
theorem dX12_hands_7 : decode cX12_hands 7 = .ok (.if_icmp .ge 122, 3) := by decide +kernel
theorem dX12_hands_10 : decode cX12_hands 10 = .ok (.aload_n 0, 1) := by decide +kernel
theorem dX12_hands_11 : decode cX12_hands 11 = .ok (.getfield 67, 3) := by decide +kernel
theorem dX12_hands_14 : decode cX12_hands 14 = .ok (.iload_n 1, 1) := by decide +kernel
theorem dX12_hands_15 : decode cX12_hands 15 = .ok (.iaload, 1) := by decide +kernel
theorem dX12_hands_16 : decode cX12_hands 16 = .ok (.iconst (-1), 1) := by decide +kernel
theorem dX12_hands_17 : decode cX12_hands 17 = .ok (.if_icmp .eq 6, 3) := by decide +kernel
theorem dX12_hands_20 : decode cX12_hands 20 = .ok (.goto 103, 3) := by decide +kernel
theorem dX12_hands_23 : decode cX12_hands 23 = .ok (.iconst (-1), 1) := by decide +kernel
theorem dX12_hands_24 : decode cX12_hands 24 = .ok (.istore_n 2, 1) := by decide +kernel
theorem dX12_hands_25 : decode cX12_hands 25 = .ok (.iconst 0, 1) := by decide +kernel
theorem dX12_hands_26 : decode cX12_hands 26 = .ok (.istore_n 3, 1) := by decide +kernel
theorem dX12_hands_27 : decode cX12_hands 27 = .ok (.iload_n 3, 1) := by decide +kernel
theorem dX12_hands_28 : decode cX12_hands 28 = .ok (.aload_n 0, 1) := by decide +kernel
theorem dX12_hands_29 : decode cX12_hands 29 = .ok (.getfield 185, 3) := by decide +kernel
theorem dX12_hands_32 : decode cX12_hands 32 = .ok (.if_icmp .ge 49, 3) := by decide +kernel
theorem dX12_hands_35 : decode cX12_hands 35 = .ok (.aload_n 0, 1) := by decide +kernel
theorem dX12_hands_36 : decode cX12_hands 36 = .ok (.getfield 37, 3) := by decide +kernel
theorem dX12_hands_39 : decode cX12_hands 39 = .ok (.iload_n 3, 1) := by decide +kernel
theorem dX12_hands_40 : decode cX12_hands 40 = .ok (.iaload, 1) := by decide +kernel
theorem dX12_hands_41 : decode cX12_hands 41 = .ok (.iconst 1, 1) := by decide +kernel
theorem dX12_hands_42 : decode cX12_hands 42 = .ok (.if_icmp .ne 33, 3) := by decide +kernel
theorem dX12_hands_45 : decode cX12_hands 45 = .ok (.aload_n 0, 1) := by decide +kernel
theorem dX12_hands_46 : decode cX12_hands 46 = .ok (.getfield 34, 3) := by decide +kernel
theorem dX12_hands_49 : decode cX12_hands 49 = .ok (.iload_n 3, 1) := by decide +kernel
theorem dX12_hands_50 : decode cX12_hands 50 = .ok (.iaload, 1) := by decide +kernel
theorem dX12_hands_51 : decode cX12_hands 51 = .ok (.ifCond .le 24, 3) := by decide +kernel
theorem dX12_hands_54 : decode cX12_hands 54 = .ok (.iload_n 2, 1) := by decide +kernel
theorem dX12_hands_55 : decode cX12_hands 55 = .ok (.ifCond .lt 18, 3) := by decide +kernel
theorem dX12_hands_58 : decode cX12_hands 58 = .ok (.aload_n 0, 1) := by decide +kernel
theorem dX12_hands_59 : decode cX12_hands 59 = .ok (.getfield 34, 3) := by decide +kernel
theorem dX12_hands_62 : decode cX12_hands 62 = .ok (.iload_n 3, 1) := by decide +kernel
theorem dX12_hands_63 : decode cX12_hands 63 = .ok (.iaload, 1) := by decide +kernel
theorem dX12_hands_64 : decode cX12_hands 64 = .ok (.aload_n 0, 1) := by decide +kernel
theorem dX12_hands_65 : decode cX12_hands 65 = .ok (.getfield 34, 3) := by decide +kernel
theorem dX12_hands_68 : decode cX12_hands 68 = .ok (.iload_n 2, 1) := by decide +kernel
theorem dX12_hands_69 : decode cX12_hands 69 = .ok (.iaload, 1) := by decide +kernel
theorem dX12_hands_70 : decode cX12_hands 70 = .ok (.if_icmp .le 5, 3) := by decide +kernel
theorem dX12_hands_73 : decode cX12_hands 73 = .ok (.iload_n 3, 1) := by decide +kernel
theorem dX12_hands_74 : decode cX12_hands 74 = .ok (.istore_n 2, 1) := by decide +kernel
theorem dX12_hands_75 : decode cX12_hands 75 = .ok (.iinc 3 1, 3) := by decide +kernel
theorem dX12_hands_78 : decode cX12_hands 78 = .ok (.goto (-51), 3) := by decide +kernel
theorem dX12_hands_81 : decode cX12_hands 81 = .ok (.iload_n 2, 1) := by decide +kernel
theorem dX12_hands_82 : decode cX12_hands 82 = .ok (.ifCond .ge 4, 3) := by decide +kernel
theorem dX12_hands_85 : decode cX12_hands 85 = .ok (.return_, 1) := by decide +kernel
theorem dX12_hands_86 : decode cX12_hands 86 = .ok (.aload_n 0, 1) := by decide +kernel
theorem dX12_hands_87 : decode cX12_hands 87 = .ok (.getfield 67, 3) := by decide +kernel
theorem dX12_hands_90 : decode cX12_hands 90 = .ok (.iload_n 1, 1) := by decide +kernel
theorem dX12_hands_91 : decode cX12_hands 91 = .ok (.iload_n 2, 1) := by decide +kernel
theorem dX12_hands_92 : decode cX12_hands 92 = .ok (.iastore, 1) := by decide +kernel
theorem dX12_hands_93 : decode cX12_hands 93 = .ok (.aload_n 0, 1) := by decide +kernel
theorem dX12_hands_94 : decode cX12_hands 94 = .ok (.getfield 31, 3) := by decide +kernel
theorem dX12_hands_97 : decode cX12_hands 97 = .ok (.iload_n 2, 1) := by decide +kernel
theorem dX12_hands_98 : decode cX12_hands 98 = .ok (.dup2, 1) := by decide +kernel
theorem dX12_hands_99 : decode cX12_hands 99 = .ok (.iaload, 1) := by decide +kernel
theorem dX12_hands_100 : decode cX12_hands 100 = .ok (.aload_n 0, 1) := by decide +kernel
theorem dX12_hands_101 : decode cX12_hands 101 = .ok (.getfield 64, 3) := by decide +kernel
theorem dX12_hands_104 : decode cX12_hands 104 = .ok (.iload_n 1, 1) := by decide +kernel
theorem dX12_hands_105 : decode cX12_hands 105 = .ok (.iaload, 1) := by decide +kernel
theorem dX12_hands_106 : decode cX12_hands 106 = .ok (.iadd, 1) := by decide +kernel
theorem dX12_hands_107 : decode cX12_hands 107 = .ok (.iastore, 1) := by decide +kernel
theorem dX12_hands_108 : decode cX12_hands 108 = .ok (.aload_n 0, 1) := by decide +kernel
theorem dX12_hands_109 : decode cX12_hands 109 = .ok (.getfield 34, 3) := by decide +kernel
theorem dX12_hands_112 : decode cX12_hands 112 = .ok (.iload_n 2, 1) := by decide +kernel
theorem dX12_hands_113 : decode cX12_hands 113 = .ok (.dup2, 1) := by decide +kernel
theorem dX12_hands_114 : decode cX12_hands 114 = .ok (.iaload, 1) := by decide +kernel
theorem dX12_hands_115 : decode cX12_hands 115 = .ok (.aload_n 0, 1) := by decide +kernel
theorem dX12_hands_116 : decode cX12_hands 116 = .ok (.getfield 64, 3) := by decide +kernel
theorem dX12_hands_119 : decode cX12_hands 119 = .ok (.iload_n 1, 1) := by decide +kernel
theorem dX12_hands_120 : decode cX12_hands 120 = .ok (.iaload, 1) := by decide +kernel
theorem dX12_hands_121 : decode cX12_hands 121 = .ok (.isub, 1) := by decide +kernel
theorem dX12_hands_122 : decode cX12_hands 122 = .ok (.iastore, 1) := by decide +kernel
theorem dX12_hands_123 : decode cX12_hands 123 = .ok (.iinc 1 1, 3) := by decide +kernel
theorem dX12_hands_126 : decode cX12_hands 126 = .ok (.goto (-124), 3) := by decide +kernel
theorem dX12_hands_129 : decode cX12_hands 129 = .ok (.return_, 1) := by decide +kernel
theorem dX12_kilograms_0 : decode cX12_kilograms 0 = .ok (.iload_n 0, 1) := by decide +kernel
theorem dX12_kilograms_1 : decode cX12_kilograms 1 = .ok (.iload_n 1, 1) := by decide +kernel
theorem dX12_kilograms_2 : decode cX12_kilograms 2 = .ok (.imul, 1) := by decide +kernel
theorem dX12_kilograms_3 : decode cX12_kilograms 3 = .ok (.iconst 3, 1) := by decide +kernel
theorem dX12_kilograms_4 : decode cX12_kilograms 4 = .ok (.imul, 1) := by decide +kernel
theorem dX12_kilograms_5 : decode cX12_kilograms 5 = .ok (.bipush 10, 2) := by decide +kernel
theorem dX12_kilograms_7 : decode cX12_kilograms 7 = .ok (.idiv, 1) := by decide +kernel
theorem dX12_kilograms_8 : decode cX12_kilograms 8 = .ok (.ireturn, 1) := by decide +kernel
theorem dX12_printable_0 : decode cX12_printable 0 = .ok (.iload_n 0, 1) := by decide +kernel
theorem dX12_printable_1 : decode cX12_printable 1 = .ok (.istore_n 3, 1) := by decide +kernel
theorem dX12_printable_2 : decode cX12_printable 2 = .ok (.bipush 10, 2) := by decide +kernel
theorem dX12_printable_4 : decode cX12_printable 4 = .ok (.iload_n 2, 1) := by decide +kernel
theorem dX12_printable_5 : decode cX12_printable 5 = .ok (.imul, 1) := by decide +kernel
theorem dX12_printable_6 : decode cX12_printable 6 = .ok (.bipush 9, 2) := by decide +kernel
theorem dX12_printable_8 : decode cX12_printable 8 = .ok (.iadd, 1) := by decide +kernel
theorem dX12_printable_9 : decode cX12_printable 9 = .ok (.iconst 3, 1) := by decide +kernel
theorem dX12_printable_10 : decode cX12_printable 10 = .ok (.iload_n 1, 1) := by decide +kernel
theorem dX12_printable_11 : decode cX12_printable 11 = .ok (.imul, 1) := by decide +kernel
theorem dX12_printable_12 : decode cX12_printable 12 = .ok (.idiv, 1) := by decide +kernel
theorem dX12_printable_13 : decode cX12_printable 13 = .ok (.istore 4, 2) := by decide +kernel
theorem dX12_printable_15 : decode cX12_printable 15 = .ok (.iload_n 3, 1) := by decide +kernel
theorem dX12_printable_16 : decode cX12_printable 16 = .ok (.iload 4, 2) := by decide +kernel
theorem dX12_printable_18 : decode cX12_printable 18 = .ok (.if_icmp .ge 7, 3) := by decide +kernel
theorem dX12_printable_21 : decode cX12_printable 21 = .ok (.iload_n 3, 1) := by decide +kernel
theorem dX12_printable_22 : decode cX12_printable 22 = .ok (.goto 5, 3) := by decide +kernel
theorem dX12_printable_25 : decode cX12_printable 25 = .ok (.iload 4, 2) := by decide +kernel
theorem dX12_printable_27 : decode cX12_printable 27 = .ok (.ireturn, 1) := by decide +kernel
theorem dX12_prints_0 : decode cX12_prints 0 = .ok (.aload_n 0, 1) := by decide +kernel
theorem dX12_prints_1 : decode cX12_prints 1 = .ok (.getfield 16, 3) := by decide +kernel
theorem dX12_prints_4 : decode cX12_prints 4 = .ok (.iload_n 1, 1) := by decide +kernel
theorem dX12_prints_5 : decode cX12_prints 5 = .ok (.iaload, 1) := by decide +kernel
theorem dX12_prints_6 : decode cX12_prints 6 = .ok (.aload_n 0, 1) := by decide +kernel
theorem dX12_prints_7 : decode cX12_prints 7 = .ok (.getfield 19, 3) := by decide +kernel
theorem dX12_prints_10 : decode cX12_prints 10 = .ok (.iload_n 1, 1) := by decide +kernel
theorem dX12_prints_11 : decode cX12_prints 11 = .ok (.iaload, 1) := by decide +kernel
theorem dX12_prints_12 : decode cX12_prints 12 = .ok (.aload_n 0, 1) := by decide +kernel
theorem dX12_prints_13 : decode cX12_prints 13 = .ok (.getfield 31, 3) := by decide +kernel
theorem dX12_prints_16 : decode cX12_prints 16 = .ok (.iload_n 1, 1) := by decide +kernel
theorem dX12_prints_17 : decode cX12_prints 17 = .ok (.iaload, 1) := by decide +kernel
theorem dX12_prints_18 : decode cX12_prints 18 = .ok (.invokestatic 437, 3) := by decide +kernel
theorem dX12_prints_21 : decode cX12_prints 21 = .ok (.istore_n 2, 1) := by decide +kernel
theorem dX12_prints_22 : decode cX12_prints 22 = .ok (.iload_n 2, 1) := by decide +kernel
theorem dX12_prints_23 : decode cX12_prints 23 = .ok (.aload_n 0, 1) := by decide +kernel
theorem dX12_prints_24 : decode cX12_prints 24 = .ok (.getfield 19, 3) := by decide +kernel
theorem dX12_prints_27 : decode cX12_prints 27 = .ok (.iload_n 1, 1) := by decide +kernel
theorem dX12_prints_28 : decode cX12_prints 28 = .ok (.iaload, 1) := by decide +kernel
theorem dX12_prints_29 : decode cX12_prints 29 = .ok (.invokestatic 440, 3) := by decide +kernel
theorem dX12_prints_32 : decode cX12_prints 32 = .ok (.istore_n 3, 1) := by decide +kernel
theorem dX12_prints_33 : decode cX12_prints 33 = .ok (.aload_n 0, 1) := by decide +kernel
theorem dX12_prints_34 : decode cX12_prints 34 = .ok (.getfield 31, 3) := by decide +kernel
theorem dX12_prints_37 : decode cX12_prints 37 = .ok (.iload_n 1, 1) := by decide +kernel
theorem dX12_prints_38 : decode cX12_prints 38 = .ok (.dup2, 1) := by decide +kernel
theorem dX12_prints_39 : decode cX12_prints 39 = .ok (.iaload, 1) := by decide +kernel
theorem dX12_prints_40 : decode cX12_prints 40 = .ok (.iload_n 3, 1) := by decide +kernel
theorem dX12_prints_41 : decode cX12_prints 41 = .ok (.isub, 1) := by decide +kernel
theorem dX12_prints_42 : decode cX12_prints 42 = .ok (.iastore, 1) := by decide +kernel
theorem dX12_prints_43 : decode cX12_prints 43 = .ok (.aload_n 0, 1) := by decide +kernel
theorem dX12_prints_44 : decode cX12_prints 44 = .ok (.getfield 28, 3) := by decide +kernel
theorem dX12_prints_47 : decode cX12_prints 47 = .ok (.iload_n 1, 1) := by decide +kernel
theorem dX12_prints_48 : decode cX12_prints 48 = .ok (.dup2, 1) := by decide +kernel
theorem dX12_prints_49 : decode cX12_prints 49 = .ok (.iaload, 1) := by decide +kernel
theorem dX12_prints_50 : decode cX12_prints 50 = .ok (.iload_n 2, 1) := by decide +kernel
theorem dX12_prints_51 : decode cX12_prints 51 = .ok (.aload_n 0, 1) := by decide +kernel
theorem dX12_prints_52 : decode cX12_prints 52 = .ok (.iload_n 1, 1) := by decide +kernel
theorem dX12_prints_53 : decode cX12_prints 53 = .ok (.aload_n 0, 1) := by decide +kernel
theorem dX12_prints_54 : decode cX12_prints 54 = .ok (.getfield 22, 3) := by decide +kernel
theorem dX12_prints_57 : decode cX12_prints 57 = .ok (.iload_n 1, 1) := by decide +kernel
theorem dX12_prints_58 : decode cX12_prints 58 = .ok (.iaload, 1) := by decide +kernel
theorem dX12_prints_59 : decode cX12_prints 59 = .ok (.invokevirtual 205, 3) := by decide +kernel
theorem dX12_prints_62 : decode cX12_prints 62 = .ok (.invokestatic 421, 3) := by decide +kernel
theorem dX12_prints_65 : decode cX12_prints 65 = .ok (.aload_n 0, 1) := by decide +kernel
theorem dX12_prints_66 : decode cX12_prints 66 = .ok (.getfield 22, 3) := by decide +kernel
theorem dX12_prints_69 : decode cX12_prints 69 = .ok (.iload_n 1, 1) := by decide +kernel
theorem dX12_prints_70 : decode cX12_prints 70 = .ok (.iaload, 1) := by decide +kernel
theorem dX12_prints_71 : decode cX12_prints 71 = .ok (.imul, 1) := by decide +kernel
theorem dX12_prints_72 : decode cX12_prints 72 = .ok (.iadd, 1) := by decide +kernel
theorem dX12_prints_73 : decode cX12_prints 73 = .ok (.iastore, 1) := by decide +kernel
theorem dX12_prints_74 : decode cX12_prints 74 = .ok (.iload_n 2, 1) := by decide +kernel
theorem dX12_prints_75 : decode cX12_prints 75 = .ok (.ifCond .le 8, 3) := by decide +kernel
theorem dX12_prints_78 : decode cX12_prints 78 = .ok (.aload_n 0, 1) := by decide +kernel
theorem dX12_prints_79 : decode cX12_prints 79 = .ok (.iload_n 1, 1) := by decide +kernel
theorem dX12_prints_80 : decode cX12_prints 80 = .ok (.invokevirtual 443, 3) := by decide +kernel
theorem dX12_prints_83 : decode cX12_prints 83 = .ok (.aload_n 0, 1) := by decide +kernel
theorem dX12_prints_84 : decode cX12_prints 84 = .ok (.getfield 40, 3) := by decide +kernel
theorem dX12_prints_87 : decode cX12_prints 87 = .ok (.iload_n 1, 1) := by decide +kernel
theorem dX12_prints_88 : decode cX12_prints 88 = .ok (.iload_n 3, 1) := by decide +kernel
theorem dX12_prints_89 : decode cX12_prints 89 = .ok (.iastore, 1) := by decide +kernel
theorem dX12_prints_90 : decode cX12_prints 90 = .ok (.aload_n 0, 1) := by decide +kernel
theorem dX12_prints_91 : decode cX12_prints 91 = .ok (.getfield 31, 3) := by decide +kernel
theorem dX12_prints_94 : decode cX12_prints 94 = .ok (.iload_n 1, 1) := by decide +kernel
theorem dX12_prints_95 : decode cX12_prints 95 = .ok (.dup2, 1) := by decide +kernel
theorem dX12_prints_96 : decode cX12_prints 96 = .ok (.iaload, 1) := by decide +kernel
theorem dX12_prints_97 : decode cX12_prints 97 = .ok (.iload_n 3, 1) := by decide +kernel
theorem dX12_prints_98 : decode cX12_prints 98 = .ok (.bipush 20, 2) := by decide +kernel
theorem dX12_prints_100 : decode cX12_prints 100 = .ok (.idiv, 1) := by decide +kernel
theorem dX12_prints_101 : decode cX12_prints 101 = .ok (.aload_n 0, 1) := by decide +kernel
theorem dX12_prints_102 : decode cX12_prints 102 = .ok (.bipush 8, 2) := by decide +kernel
theorem dX12_prints_104 : decode cX12_prints 104 = .ok (.invokevirtual 412, 3) := by decide +kernel
theorem dX12_prints_107 : decode cX12_prints 107 = .ok (.imul, 1) := by decide +kernel
theorem dX12_prints_108 : decode cX12_prints 108 = .ok (.bipush 100, 2) := by decide +kernel
theorem dX12_prints_110 : decode cX12_prints 110 = .ok (.idiv, 1) := by decide +kernel
theorem dX12_prints_111 : decode cX12_prints 111 = .ok (.iadd, 1) := by decide +kernel
theorem dX12_prints_112 : decode cX12_prints 112 = .ok (.iastore, 1) := by decide +kernel
theorem dX12_prints_113 : decode cX12_prints 113 = .ok (.return_, 1) := by decide +kernel
theorem dX12_breaks_0 : decode cX12_breaks 0 = .ok (.aload_n 0, 1) := by decide +kernel
theorem dX12_breaks_1 : decode cX12_breaks 1 = .ok (.iconst 1, 1) := by decide +kernel
theorem dX12_breaks_2 : decode cX12_breaks 2 = .ok (.aload_n 0, 1) := by decide +kernel
theorem dX12_breaks_3 : decode cX12_breaks 3 = .ok (.getfield 9, 3) := by decide +kernel
theorem dX12_breaks_6 : decode cX12_breaks 6 = .ok (.iload_n 1, 1) := by decide +kernel
theorem dX12_breaks_7 : decode cX12_breaks 7 = .ok (.iaload, 1) := by decide +kernel
theorem dX12_breaks_8 : decode cX12_breaks 8 = .ok (.iadd, 1) := by decide +kernel
theorem dX12_breaks_9 : decode cX12_breaks 9 = .ok (.invokevirtual 412, 3) := by decide +kernel
theorem dX12_breaks_12 : decode cX12_breaks 12 = .ok (.istore_n 2, 1) := by decide +kernel
theorem dX12_breaks_13 : decode cX12_breaks 13 = .ok (.iconst 0, 1) := by decide +kernel
theorem dX12_breaks_14 : decode cX12_breaks 14 = .ok (.istore_n 3, 1) := by decide +kernel
theorem dX12_breaks_15 : decode cX12_breaks 15 = .ok (.iconst (-1), 1) := by decide +kernel
theorem dX12_breaks_16 : decode cX12_breaks 16 = .ok (.istore 4, 2) := by decide +kernel
theorem dX12_breaks_18 : decode cX12_breaks 18 = .ok (.aload_n 0, 1) := by decide +kernel
theorem dX12_breaks_19 : decode cX12_breaks 19 = .ok (.iload_n 1, 1) := by decide +kernel
theorem dX12_breaks_20 : decode cX12_breaks 20 = .ok (.invokevirtual 406, 3) := by decide +kernel
theorem dX12_breaks_23 : decode cX12_breaks 23 = .ok (.aload_n 0, 1) := by decide +kernel
theorem dX12_breaks_24 : decode cX12_breaks 24 = .ok (.invokevirtual 415, 3) := by decide +kernel
theorem dX12_breaks_27 : decode cX12_breaks 27 = .ok (.istore 5, 2) := by decide +kernel
theorem dX12_breaks_29 : decode cX12_breaks 29 = .ok (.iload 5, 2) := by decide +kernel
theorem dX12_breaks_31 : decode cX12_breaks 31 = .ok (.ifCond .lt 37, 3) := by decide +kernel
theorem dX12_breaks_34 : decode cX12_breaks 34 = .ok (.iload 5, 2) := by decide +kernel
theorem dX12_breaks_36 : decode cX12_breaks 36 = .ok (.aload_n 0, 1) := by decide +kernel
theorem dX12_breaks_37 : decode cX12_breaks 37 = .ok (.getfield 22, 3) := by decide +kernel
theorem dX12_breaks_40 : decode cX12_breaks 40 = .ok (.iload_n 1, 1) := by decide +kernel
theorem dX12_breaks_41 : decode cX12_breaks 41 = .ok (.iaload, 1) := by decide +kernel
theorem dX12_breaks_42 : decode cX12_breaks 42 = .ok (.if_icmp .eq 26, 3) := by decide +kernel
theorem dX12_breaks_45 : decode cX12_breaks 45 = .ok (.iconst 2, 1) := by decide +kernel
theorem dX12_breaks_46 : decode cX12_breaks 46 = .ok (.istore_n 3, 1) := by decide +kernel
theorem dX12_breaks_47 : decode cX12_breaks 47 = .ok (.aload_n 0, 1) := by decide +kernel
theorem dX12_breaks_48 : decode cX12_breaks 48 = .ok (.iconst 4, 1) := by decide +kernel
theorem dX12_breaks_49 : decode cX12_breaks 49 = .ok (.invokevirtual 366, 3) := by decide +kernel
theorem dX12_breaks_52 : decode cX12_breaks 52 = .ok (.istore 4, 2) := by decide +kernel
theorem dX12_breaks_54 : decode cX12_breaks 54 = .ok (.aload_n 0, 1) := by decide +kernel
theorem dX12_breaks_55 : decode cX12_breaks 55 = .ok (.getfield 28, 3) := by decide +kernel
theorem dX12_breaks_58 : decode cX12_breaks 58 = .ok (.iload_n 1, 1) := by decide +kernel
theorem dX12_breaks_59 : decode cX12_breaks 59 = .ok (.dup2, 1) := by decide +kernel
theorem dX12_breaks_60 : decode cX12_breaks 60 = .ok (.iaload, 1) := by decide +kernel
theorem dX12_breaks_61 : decode cX12_breaks 61 = .ok (.aload_n 0, 1) := by decide +kernel
theorem dX12_breaks_62 : decode cX12_breaks 62 = .ok (.iconst 5, 1) := by decide +kernel
theorem dX12_breaks_63 : decode cX12_breaks 63 = .ok (.invokevirtual 412, 3) := by decide +kernel
theorem dX12_breaks_66 : decode cX12_breaks 66 = .ok (.isub, 1) := by decide +kernel
theorem dX12_breaks_67 : decode cX12_breaks 67 = .ok (.iastore, 1) := by decide +kernel
theorem dX12_breaks_68 : decode cX12_breaks 68 = .ok (.aload_n 0, 1) := by decide +kernel
theorem dX12_breaks_69 : decode cX12_breaks 69 = .ok (.getfield 19, 3) := by decide +kernel
theorem dX12_breaks_72 : decode cX12_breaks 72 = .ok (.iload_n 1, 1) := by decide +kernel
theorem dX12_breaks_73 : decode cX12_breaks 73 = .ok (.iaload, 1) := by decide +kernel
theorem dX12_breaks_74 : decode cX12_breaks 74 = .ok (.iload_n 2, 1) := by decide +kernel
theorem dX12_breaks_75 : decode cX12_breaks 75 = .ok (.if_icmp .le 43, 3) := by decide +kernel
theorem dX12_breaks_78 : decode cX12_breaks 78 = .ok (.iinc 3 1, 3) := by decide +kernel
theorem dX12_breaks_81 : decode cX12_breaks 81 = .ok (.aload_n 0, 1) := by decide +kernel
theorem dX12_breaks_82 : decode cX12_breaks 82 = .ok (.iconst 1, 1) := by decide +kernel
theorem dX12_breaks_83 : decode cX12_breaks 83 = .ok (.aload_n 0, 1) := by decide +kernel
theorem dX12_breaks_84 : decode cX12_breaks 84 = .ok (.getfield 9, 3) := by decide +kernel
theorem dX12_breaks_87 : decode cX12_breaks 87 = .ok (.iload_n 1, 1) := by decide +kernel
theorem dX12_breaks_88 : decode cX12_breaks 88 = .ok (.iaload, 1) := by decide +kernel
theorem dX12_breaks_89 : decode cX12_breaks 89 = .ok (.iadd, 1) := by decide +kernel
theorem dX12_breaks_90 : decode cX12_breaks 90 = .ok (.invokevirtual 366, 3) := by decide +kernel
theorem dX12_breaks_93 : decode cX12_breaks 93 = .ok (.istore 4, 2) := by decide +kernel
theorem dX12_breaks_95 : decode cX12_breaks 95 = .ok (.aload_n 0, 1) := by decide +kernel
theorem dX12_breaks_96 : decode cX12_breaks 96 = .ok (.getfield 28, 3) := by decide +kernel
theorem dX12_breaks_99 : decode cX12_breaks 99 = .ok (.iload_n 1, 1) := by decide +kernel
theorem dX12_breaks_100 : decode cX12_breaks 100 = .ok (.dup2, 1) := by decide +kernel
theorem dX12_breaks_101 : decode cX12_breaks 101 = .ok (.iaload, 1) := by decide +kernel
theorem dX12_breaks_102 : decode cX12_breaks 102 = .ok (.aload_n 0, 1) := by decide +kernel
theorem dX12_breaks_103 : decode cX12_breaks 103 = .ok (.iconst 5, 1) := by decide +kernel
theorem dX12_breaks_104 : decode cX12_breaks 104 = .ok (.invokevirtual 412, 3) := by decide +kernel
theorem dX12_breaks_107 : decode cX12_breaks 107 = .ok (.aload_n 0, 1) := by decide +kernel
theorem dX12_breaks_108 : decode cX12_breaks 108 = .ok (.getfield 19, 3) := by decide +kernel
theorem dX12_breaks_111 : decode cX12_breaks 111 = .ok (.iload_n 1, 1) := by decide +kernel
theorem dX12_breaks_112 : decode cX12_breaks 112 = .ok (.iaload, 1) := by decide +kernel
theorem dX12_breaks_113 : decode cX12_breaks 113 = .ok (.iload_n 2, 1) := by decide +kernel
theorem dX12_breaks_114 : decode cX12_breaks 114 = .ok (.isub, 1) := by decide +kernel
theorem dX12_breaks_115 : decode cX12_breaks 115 = .ok (.imul, 1) := by decide +kernel
theorem dX12_breaks_116 : decode cX12_breaks 116 = .ok (.isub, 1) := by decide +kernel
theorem dX12_breaks_117 : decode cX12_breaks 117 = .ok (.iastore, 1) := by decide +kernel
theorem dX12_breaks_118 : decode cX12_breaks 118 = .ok (.iload_n 3, 1) := by decide +kernel
theorem dX12_breaks_119 : decode cX12_breaks 119 = .ok (.ifCond .ne 4, 3) := by decide +kernel
theorem dX12_breaks_122 : decode cX12_breaks 122 = .ok (.return_, 1) := by decide +kernel
theorem dX12_breaks_123 : decode cX12_breaks 123 = .ok (.aload_n 0, 1) := by decide +kernel
theorem dX12_breaks_124 : decode cX12_breaks 124 = .ok (.getfield 49, 3) := by decide +kernel
theorem dX12_breaks_127 : decode cX12_breaks 127 = .ok (.iload_n 1, 1) := by decide +kernel
theorem dX12_breaks_128 : decode cX12_breaks 128 = .ok (.dup2, 1) := by decide +kernel
theorem dX12_breaks_129 : decode cX12_breaks 129 = .ok (.iaload, 1) := by decide +kernel
theorem dX12_breaks_130 : decode cX12_breaks 130 = .ok (.iload_n 3, 1) := by decide +kernel
theorem dX12_breaks_131 : decode cX12_breaks 131 = .ok (.iconst 3, 1) := by decide +kernel
theorem dX12_breaks_132 : decode cX12_breaks 132 = .ok (.if_icmp .ne 7, 3) := by decide +kernel
theorem dX12_breaks_135 : decode cX12_breaks 135 = .ok (.iconst 2, 1) := by decide +kernel
theorem dX12_breaks_136 : decode cX12_breaks 136 = .ok (.goto 4, 3) := by decide +kernel
theorem dX12_breaks_139 : decode cX12_breaks 139 = .ok (.iconst 1, 1) := by decide +kernel
theorem dX12_breaks_140 : decode cX12_breaks 140 = .ok (.iadd, 1) := by decide +kernel
theorem dX12_breaks_141 : decode cX12_breaks 141 = .ok (.iastore, 1) := by decide +kernel
theorem dX12_breaks_142 : decode cX12_breaks 142 = .ok (.aload_n 0, 1) := by decide +kernel
theorem dX12_breaks_143 : decode cX12_breaks 143 = .ok (.getfield 52, 3) := by decide +kernel
theorem dX12_breaks_146 : decode cX12_breaks 146 = .ok (.iload_n 1, 1) := by decide +kernel
theorem dX12_breaks_147 : decode cX12_breaks 147 = .ok (.aload_n 0, 1) := by decide +kernel
theorem dX12_breaks_148 : decode cX12_breaks 148 = .ok (.getfield 364, 3) := by decide +kernel
theorem dX12_breaks_151 : decode cX12_breaks 151 = .ok (.iastore, 1) := by decide +kernel
theorem dX12_breaks_152 : decode cX12_breaks 152 = .ok (.aload_n 0, 1) := by decide +kernel
theorem dX12_breaks_153 : decode cX12_breaks 153 = .ok (.getfield 55, 3) := by decide +kernel
theorem dX12_breaks_156 : decode cX12_breaks 156 = .ok (.iload_n 1, 1) := by decide +kernel
theorem dX12_breaks_157 : decode cX12_breaks 157 = .ok (.iload_n 3, 1) := by decide +kernel
theorem dX12_breaks_158 : decode cX12_breaks 158 = .ok (.iastore, 1) := by decide +kernel
theorem dX12_breaks_159 : decode cX12_breaks 159 = .ok (.aload_n 0, 1) := by decide +kernel
theorem dX12_breaks_160 : decode cX12_breaks 160 = .ok (.getfield 58, 3) := by decide +kernel
theorem dX12_breaks_163 : decode cX12_breaks 163 = .ok (.iload_n 1, 1) := by decide +kernel
theorem dX12_breaks_164 : decode cX12_breaks 164 = .ok (.iload 4, 2) := by decide +kernel
theorem dX12_breaks_166 : decode cX12_breaks 166 = .ok (.bipush 12, 2) := by decide +kernel
theorem dX12_breaks_168 : decode cX12_breaks 168 = .ok (.idiv, 1) := by decide +kernel
theorem dX12_breaks_169 : decode cX12_breaks 169 = .ok (.iastore, 1) := by decide +kernel
theorem dX12_breaks_170 : decode cX12_breaks 170 = .ok (.aload_n 0, 1) := by decide +kernel
theorem dX12_breaks_171 : decode cX12_breaks 171 = .ok (.getfield 61, 3) := by decide +kernel
theorem dX12_breaks_174 : decode cX12_breaks 174 = .ok (.iload_n 1, 1) := by decide +kernel
theorem dX12_breaks_175 : decode cX12_breaks 175 = .ok (.iload 4, 2) := by decide +kernel
theorem dX12_breaks_177 : decode cX12_breaks 177 = .ok (.bipush 12, 2) := by decide +kernel
theorem dX12_breaks_179 : decode cX12_breaks 179 = .ok (.irem, 1) := by decide +kernel
theorem dX12_breaks_180 : decode cX12_breaks 180 = .ok (.iastore, 1) := by decide +kernel
theorem dX12_breaks_181 : decode cX12_breaks 181 = .ok (.return_, 1) := by decide +kernel
theorem dX12_goes_0 : decode cX12_goes 0 = .ok (.iconst 0, 1) := by decide +kernel
theorem dX12_goes_1 : decode cX12_goes 1 = .ok (.istore_n 1, 1) := by decide +kernel
theorem dX12_goes_2 : decode cX12_goes 2 = .ok (.iload_n 1, 1) := by decide +kernel
theorem dX12_goes_3 : decode cX12_goes 3 = .ok (.aload_n 0, 1) := by decide +kernel
theorem dX12_goes_4 : decode cX12_goes 4 = .ok (.getfield 446, 3) := by decide +kernel
theorem dX12_goes_7 : decode cX12_goes 7 = .ok (.if_icmp .ge 54, 3) := by decide +kernel
theorem dX12_goes_10 : decode cX12_goes 10 = .ok (.aload_n 0, 1) := by decide +kernel
theorem dX12_goes_11 : decode cX12_goes 11 = .ok (.getfield 158, 3) := by decide +kernel
theorem dX12_goes_14 : decode cX12_goes 14 = .ok (.iload_n 1, 1) := by decide +kernel
theorem dX12_goes_15 : decode cX12_goes 15 = .ok (.iaload, 1) := by decide +kernel
theorem dX12_goes_16 : decode cX12_goes 16 = .ok (.aload_n 0, 1) := by decide +kernel
theorem dX12_goes_17 : decode cX12_goes 17 = .ok (.getfield 364, 3) := by decide +kernel
theorem dX12_goes_20 : decode cX12_goes 20 = .ok (.if_icmp .ne 35, 3) := by decide +kernel
theorem dX12_goes_23 : decode cX12_goes 23 = .ok (.aload_n 0, 1) := by decide +kernel
theorem dX12_goes_24 : decode cX12_goes 24 = .ok (.getfield 37, 3) := by decide +kernel
theorem dX12_goes_27 : decode cX12_goes 27 = .ok (.aload_n 0, 1) := by decide +kernel
theorem dX12_goes_28 : decode cX12_goes 28 = .ok (.getfield 143, 3) := by decide +kernel
theorem dX12_goes_31 : decode cX12_goes 31 = .ok (.iload_n 1, 1) := by decide +kernel
theorem dX12_goes_32 : decode cX12_goes 32 = .ok (.iaload, 1) := by decide +kernel
theorem dX12_goes_33 : decode cX12_goes 33 = .ok (.iaload, 1) := by decide +kernel
theorem dX12_goes_34 : decode cX12_goes 34 = .ok (.iconst 1, 1) := by decide +kernel
theorem dX12_goes_35 : decode cX12_goes 35 = .ok (.if_icmp .ne 20, 3) := by decide +kernel
theorem dX12_goes_38 : decode cX12_goes 38 = .ok (.aload_n 0, 1) := by decide +kernel
theorem dX12_goes_39 : decode cX12_goes 39 = .ok (.getfield 13, 3) := by decide +kernel
theorem dX12_goes_42 : decode cX12_goes 42 = .ok (.aload_n 0, 1) := by decide +kernel
theorem dX12_goes_43 : decode cX12_goes 43 = .ok (.getfield 143, 3) := by decide +kernel
theorem dX12_goes_46 : decode cX12_goes 46 = .ok (.iload_n 1, 1) := by decide +kernel
theorem dX12_goes_47 : decode cX12_goes 47 = .ok (.iaload, 1) := by decide +kernel
theorem dX12_goes_48 : decode cX12_goes 48 = .ok (.aload_n 0, 1) := by decide +kernel
theorem dX12_goes_49 : decode cX12_goes 49 = .ok (.getfield 146, 3) := by decide +kernel
theorem dX12_goes_52 : decode cX12_goes 52 = .ok (.iload_n 1, 1) := by decide +kernel
theorem dX12_goes_53 : decode cX12_goes 53 = .ok (.iaload, 1) := by decide +kernel
theorem dX12_goes_54 : decode cX12_goes 54 = .ok (.iastore, 1) := by decide +kernel
theorem dX12_goes_55 : decode cX12_goes 55 = .ok (.iinc 1 1, 3) := by decide +kernel
theorem dX12_goes_58 : decode cX12_goes 58 = .ok (.goto (-56), 3) := by decide +kernel
theorem dX12_goes_61 : decode cX12_goes 61 = .ok (.aload_n 0, 1) := by decide +kernel
theorem dX12_goes_62 : decode cX12_goes 62 = .ok (.invokevirtual 449, 3) := by decide +kernel
theorem dX12_goes_65 : decode cX12_goes 65 = .ok (.aload_n 0, 1) := by decide +kernel
theorem dX12_goes_66 : decode cX12_goes 66 = .ok (.invokevirtual 452, 3) := by decide +kernel
theorem dX12_goes_69 : decode cX12_goes 69 = .ok (.aload_n 0, 1) := by decide +kernel
theorem dX12_goes_70 : decode cX12_goes 70 = .ok (.invokevirtual 455, 3) := by decide +kernel
theorem dX12_goes_73 : decode cX12_goes 73 = .ok (.iconst 0, 1) := by decide +kernel
theorem dX12_goes_74 : decode cX12_goes 74 = .ok (.istore_n 1, 1) := by decide +kernel
theorem dX12_goes_75 : decode cX12_goes 75 = .ok (.iload_n 1, 1) := by decide +kernel
theorem dX12_goes_76 : decode cX12_goes 76 = .ok (.aload_n 0, 1) := by decide +kernel
theorem dX12_goes_77 : decode cX12_goes 77 = .ok (.getfield 185, 3) := by decide +kernel
theorem dX12_goes_80 : decode cX12_goes 80 = .ok (.if_icmp .ge 106, 3) := by decide +kernel
theorem dX12_goes_83 : decode cX12_goes 83 = .ok (.aload_n 0, 1) := by decide +kernel
theorem dX12_goes_84 : decode cX12_goes 84 = .ok (.getfield 37, 3) := by decide +kernel
theorem dX12_goes_87 : decode cX12_goes 87 = .ok (.iload_n 1, 1) := by decide +kernel
theorem dX12_goes_88 : decode cX12_goes 88 = .ok (.iaload, 1) := by decide +kernel
theorem dX12_goes_89 : decode cX12_goes 89 = .ok (.iconst 1, 1) := by decide +kernel
theorem dX12_goes_90 : decode cX12_goes 90 = .ok (.if_icmp .eq 6, 3) := by decide +kernel
theorem dX12_goes_93 : decode cX12_goes 93 = .ok (.goto 87, 3) := by decide +kernel
theorem dX12_goes_96 : decode cX12_goes 96 = .ok (.aload_n 0, 1) := by decide +kernel
theorem dX12_goes_97 : decode cX12_goes 97 = .ok (.iload_n 1, 1) := by decide +kernel
theorem dX12_goes_98 : decode cX12_goes 98 = .ok (.invokevirtual 458, 3) := by decide +kernel
theorem dX12_goes_101 : decode cX12_goes 101 = .ok (.bipush 12, 2) := by decide +kernel
theorem dX12_goes_103 : decode cX12_goes 103 = .ok (.aload_n 0, 1) := by decide +kernel
theorem dX12_goes_104 : decode cX12_goes 104 = .ok (.getfield 364, 3) := by decide +kernel
theorem dX12_goes_107 : decode cX12_goes 107 = .ok (.imul, 1) := by decide +kernel
theorem dX12_goes_108 : decode cX12_goes 108 = .ok (.iload_n 1, 1) := by decide +kernel
theorem dX12_goes_109 : decode cX12_goes 109 = .ok (.iadd, 1) := by decide +kernel
theorem dX12_goes_110 : decode cX12_goes 110 = .ok (.istore_n 2, 1) := by decide +kernel
theorem dX12_goes_111 : decode cX12_goes 111 = .ok (.aload_n 0, 1) := by decide +kernel
theorem dX12_goes_112 : decode cX12_goes 112 = .ok (.getfield 124, 3) := by decide +kernel
theorem dX12_goes_115 : decode cX12_goes 115 = .ok (.iload_n 2, 1) := by decide +kernel
theorem dX12_goes_116 : decode cX12_goes 116 = .ok (.iconst 1, 1) := by decide +kernel
theorem dX12_goes_117 : decode cX12_goes 117 = .ok (.bastore, 1) := by decide +kernel
theorem dX12_goes_118 : decode cX12_goes 118 = .ok (.aload_n 0, 1) := by decide +kernel
theorem dX12_goes_119 : decode cX12_goes 119 = .ok (.getfield 121, 3) := by decide +kernel
theorem dX12_goes_122 : decode cX12_goes 122 = .ok (.iconst 4, 1) := by decide +kernel
theorem dX12_goes_123 : decode cX12_goes 123 = .ok (.iload_n 2, 1) := by decide +kernel
theorem dX12_goes_124 : decode cX12_goes 124 = .ok (.imul, 1) := by decide +kernel
theorem dX12_goes_125 : decode cX12_goes 125 = .ok (.aload_n 0, 1) := by decide +kernel
theorem dX12_goes_126 : decode cX12_goes 126 = .ok (.getfield 128, 3) := by decide +kernel
theorem dX12_goes_129 : decode cX12_goes 129 = .ok (.iload_n 1, 1) := by decide +kernel
theorem dX12_goes_130 : decode cX12_goes 130 = .ok (.iaload, 1) := by decide +kernel
theorem dX12_goes_131 : decode cX12_goes 131 = .ok (.iastore, 1) := by decide +kernel
theorem dX12_goes_132 : decode cX12_goes 132 = .ok (.aload_n 0, 1) := by decide +kernel
theorem dX12_goes_133 : decode cX12_goes 133 = .ok (.getfield 121, 3) := by decide +kernel
theorem dX12_goes_136 : decode cX12_goes 136 = .ok (.iconst 4, 1) := by decide +kernel
theorem dX12_goes_137 : decode cX12_goes 137 = .ok (.iload_n 2, 1) := by decide +kernel
theorem dX12_goes_138 : decode cX12_goes 138 = .ok (.imul, 1) := by decide +kernel
theorem dX12_goes_139 : decode cX12_goes 139 = .ok (.iconst 1, 1) := by decide +kernel
theorem dX12_goes_140 : decode cX12_goes 140 = .ok (.iadd, 1) := by decide +kernel
theorem dX12_goes_141 : decode cX12_goes 141 = .ok (.aload_n 0, 1) := by decide +kernel
theorem dX12_goes_142 : decode cX12_goes 142 = .ok (.getfield 40, 3) := by decide +kernel
theorem dX12_goes_145 : decode cX12_goes 145 = .ok (.iload_n 1, 1) := by decide +kernel
theorem dX12_goes_146 : decode cX12_goes 146 = .ok (.iaload, 1) := by decide +kernel
theorem dX12_goes_147 : decode cX12_goes 147 = .ok (.iastore, 1) := by decide +kernel
theorem dX12_goes_148 : decode cX12_goes 148 = .ok (.aload_n 0, 1) := by decide +kernel
theorem dX12_goes_149 : decode cX12_goes 149 = .ok (.getfield 121, 3) := by decide +kernel
theorem dX12_goes_152 : decode cX12_goes 152 = .ok (.iconst 4, 1) := by decide +kernel
theorem dX12_goes_153 : decode cX12_goes 153 = .ok (.iload_n 2, 1) := by decide +kernel
theorem dX12_goes_154 : decode cX12_goes 154 = .ok (.imul, 1) := by decide +kernel
theorem dX12_goes_155 : decode cX12_goes 155 = .ok (.iconst 2, 1) := by decide +kernel
theorem dX12_goes_156 : decode cX12_goes 156 = .ok (.iadd, 1) := by decide +kernel
theorem dX12_goes_157 : decode cX12_goes 157 = .ok (.aload_n 0, 1) := by decide +kernel
theorem dX12_goes_158 : decode cX12_goes 158 = .ok (.getfield 31, 3) := by decide +kernel
theorem dX12_goes_161 : decode cX12_goes 161 = .ok (.iload_n 1, 1) := by decide +kernel
theorem dX12_goes_162 : decode cX12_goes 162 = .ok (.iaload, 1) := by decide +kernel
theorem dX12_goes_163 : decode cX12_goes 163 = .ok (.iastore, 1) := by decide +kernel
theorem dX12_goes_164 : decode cX12_goes 164 = .ok (.aload_n 0, 1) := by decide +kernel
theorem dX12_goes_165 : decode cX12_goes 165 = .ok (.getfield 121, 3) := by decide +kernel
theorem dX12_goes_168 : decode cX12_goes 168 = .ok (.iconst 4, 1) := by decide +kernel
theorem dX12_goes_169 : decode cX12_goes 169 = .ok (.iload_n 2, 1) := by decide +kernel
theorem dX12_goes_170 : decode cX12_goes 170 = .ok (.imul, 1) := by decide +kernel
theorem dX12_goes_171 : decode cX12_goes 171 = .ok (.iconst 3, 1) := by decide +kernel
theorem dX12_goes_172 : decode cX12_goes 172 = .ok (.iadd, 1) := by decide +kernel
theorem dX12_goes_173 : decode cX12_goes 173 = .ok (.aload_n 0, 1) := by decide +kernel
theorem dX12_goes_174 : decode cX12_goes 174 = .ok (.getfield 28, 3) := by decide +kernel
theorem dX12_goes_177 : decode cX12_goes 177 = .ok (.iload_n 1, 1) := by decide +kernel
theorem dX12_goes_178 : decode cX12_goes 178 = .ok (.iaload, 1) := by decide +kernel
theorem dX12_goes_179 : decode cX12_goes 179 = .ok (.iastore, 1) := by decide +kernel
theorem dX12_goes_180 : decode cX12_goes 180 = .ok (.iinc 1 1, 3) := by decide +kernel
theorem dX12_goes_183 : decode cX12_goes 183 = .ok (.goto (-108), 3) := by decide +kernel
theorem dX12_goes_186 : decode cX12_goes 186 = .ok (.iconst 0, 1) := by decide +kernel
theorem dX12_goes_187 : decode cX12_goes 187 = .ok (.istore_n 1, 1) := by decide +kernel
theorem dX12_goes_188 : decode cX12_goes 188 = .ok (.iload_n 1, 1) := by decide +kernel
theorem dX12_goes_189 : decode cX12_goes 189 = .ok (.sipush 144, 3) := by decide +kernel
theorem dX12_goes_192 : decode cX12_goes 192 = .ok (.if_icmp .ge 16, 3) := by decide +kernel
theorem dX12_goes_195 : decode cX12_goes 195 = .ok (.aload_n 0, 1) := by decide +kernel
theorem dX12_goes_196 : decode cX12_goes 196 = .ok (.getfield 131, 3) := by decide +kernel
theorem dX12_goes_199 : decode cX12_goes 199 = .ok (.iload_n 1, 1) := by decide +kernel
theorem dX12_goes_200 : decode cX12_goes 200 = .ok (.iconst 0, 1) := by decide +kernel
theorem dX12_goes_201 : decode cX12_goes 201 = .ok (.iastore, 1) := by decide +kernel
theorem dX12_goes_202 : decode cX12_goes 202 = .ok (.iinc 1 1, 3) := by decide +kernel
theorem dX12_goes_205 : decode cX12_goes 205 = .ok (.goto (-17), 3) := by decide +kernel
theorem dX12_goes_208 : decode cX12_goes 208 = .ok (.aload_n 0, 1) := by decide +kernel
theorem dX12_goes_209 : decode cX12_goes 209 = .ok (.dup, 1) := by decide +kernel
theorem dX12_goes_210 : decode cX12_goes 210 = .ok (.getfield 364, 3) := by decide +kernel
theorem dX12_goes_213 : decode cX12_goes 213 = .ok (.iconst 1, 1) := by decide +kernel
theorem dX12_goes_214 : decode cX12_goes 214 = .ok (.iadd, 1) := by decide +kernel
theorem dX12_goes_215 : decode cX12_goes 215 = .ok (.putfield 364, 3) := by decide +kernel
theorem dX12_goes_218 : decode cX12_goes 218 = .ok (.return_, 1) := by decide +kernel
theorem dX12_months_0 : decode cX12_months 0 = .ok (.aload_n 0, 1) := by decide +kernel
theorem dX12_months_1 : decode cX12_months 1 = .ok (.iconst 0, 1) := by decide +kernel
theorem dX12_months_2 : decode cX12_months 2 = .ok (.putfield 173, 3) := by decide +kernel
theorem dX12_months_5 : decode cX12_months 5 = .ok (.aload_n 0, 1) := by decide +kernel
theorem dX12_months_6 : decode cX12_months 6 = .ok (.iload_n 1, 1) := by decide +kernel
theorem dX12_months_7 : decode cX12_months 7 = .ok (.iconst 0, 1) := by decide +kernel
theorem dX12_months_8 : decode cX12_months 8 = .ok (.bipush 24, 2) := by decide +kernel
theorem dX12_months_10 : decode cX12_months 10 = .ok (.invokestatic 176, 3) := by decide +kernel
theorem dX12_months_13 : decode cX12_months 13 = .ok (.ifCond .ne 7, 3) := by decide +kernel
theorem dX12_months_16 : decode cX12_months 16 = .ok (.iconst 1, 1) := by decide +kernel
theorem dX12_months_17 : decode cX12_months 17 = .ok (.goto 4, 3) := by decide +kernel
theorem dX12_months_20 : decode cX12_months 20 = .ok (.iconst 0, 1) := by decide +kernel
theorem dX12_months_21 : decode cX12_months 21 = .ok (.iconst 1, 1) := by decide +kernel
theorem dX12_months_22 : decode cX12_months 22 = .ok (.invokevirtual 181, 3) := by decide +kernel
theorem dX12_months_25 : decode cX12_months 25 = .ok (.ifCond .ne 28, 3) := by decide +kernel
theorem dX12_months_28 : decode cX12_months 28 = .ok (.aload_n 0, 1) := by decide +kernel
theorem dX12_months_29 : decode cX12_months 29 = .ok (.aload_n 0, 1) := by decide +kernel
theorem dX12_months_30 : decode cX12_months 30 = .ok (.getfield 364, 3) := by decide +kernel
theorem dX12_months_33 : decode cX12_months 33 = .ok (.iload_n 1, 1) := by decide +kernel
theorem dX12_months_34 : decode cX12_months 34 = .ok (.iadd, 1) := by decide +kernel
theorem dX12_months_35 : decode cX12_months 35 = .ok (.sipush 600, 3) := by decide +kernel
theorem dX12_months_38 : decode cX12_months 38 = .ok (.if_icmp .le 7, 3) := by decide +kernel
theorem dX12_months_41 : decode cX12_months 41 = .ok (.iconst 1, 1) := by decide +kernel
theorem dX12_months_42 : decode cX12_months 42 = .ok (.goto 4, 3) := by decide +kernel
theorem dX12_months_45 : decode cX12_months 45 = .ok (.iconst 0, 1) := by decide +kernel
theorem dX12_months_46 : decode cX12_months 46 = .ok (.iconst 2, 1) := by decide +kernel
theorem dX12_months_47 : decode cX12_months 47 = .ok (.invokevirtual 181, 3) := by decide +kernel
theorem dX12_months_50 : decode cX12_months 50 = .ok (.ifCond .eq 5, 3) := by decide +kernel
theorem dX12_months_53 : decode cX12_months 53 = .ok (.iconst 0, 1) := by decide +kernel
theorem dX12_months_54 : decode cX12_months 54 = .ok (.ireturn, 1) := by decide +kernel
theorem dX12_months_55 : decode cX12_months 55 = .ok (.iconst 0, 1) := by decide +kernel
theorem dX12_months_56 : decode cX12_months 56 = .ok (.istore_n 2, 1) := by decide +kernel
theorem dX12_months_57 : decode cX12_months 57 = .ok (.iload_n 2, 1) := by decide +kernel
theorem dX12_months_58 : decode cX12_months 58 = .ok (.iload_n 1, 1) := by decide +kernel
theorem dX12_months_59 : decode cX12_months 59 = .ok (.if_icmp .ge 13, 3) := by decide +kernel
theorem dX12_months_62 : decode cX12_months 62 = .ok (.aload_n 0, 1) := by decide +kernel
theorem dX12_months_63 : decode cX12_months 63 = .ok (.invokevirtual 461, 3) := by decide +kernel
theorem dX12_months_66 : decode cX12_months 66 = .ok (.iinc 2 1, 3) := by decide +kernel
theorem dX12_months_69 : decode cX12_months 69 = .ok (.goto (-12), 3) := by decide +kernel
theorem dX12_months_72 : decode cX12_months 72 = .ok (.aload_n 0, 1) := by decide +kernel
theorem dX12_months_73 : decode cX12_months 73 = .ok (.getfield 364, 3) := by decide +kernel
theorem dX12_months_76 : decode cX12_months 76 = .ok (.ireturn, 1) := by decide +kernel
theorem dX12_isTwo_0 : decode cX12_isTwo 0 = .ok (.aload_n 0, 1) := by decide +kernel
theorem dX12_isTwo_1 : decode cX12_isTwo 1 = .ok (.iload_n 1, 1) := by decide +kernel
theorem dX12_isTwo_2 : decode cX12_isTwo 2 = .ok (.iconst 0, 1) := by decide +kernel
theorem dX12_isTwo_3 : decode cX12_isTwo 3 = .ok (.aload_n 0, 1) := by decide +kernel
theorem dX12_isTwo_4 : decode cX12_isTwo 4 = .ok (.getfield 185, 3) := by decide +kernel
theorem dX12_isTwo_7 : decode cX12_isTwo 7 = .ok (.iconst 1, 1) := by decide +kernel
theorem dX12_isTwo_8 : decode cX12_isTwo 8 = .ok (.isub, 1) := by decide +kernel
theorem dX12_isTwo_9 : decode cX12_isTwo 9 = .ok (.invokestatic 176, 3) := by decide +kernel
theorem dX12_isTwo_12 : decode cX12_isTwo 12 = .ok (.ifCond .eq 21, 3) := by decide +kernel
theorem dX12_isTwo_15 : decode cX12_isTwo 15 = .ok (.iload_n 2, 1) := by decide +kernel
theorem dX12_isTwo_16 : decode cX12_isTwo 16 = .ok (.iconst 0, 1) := by decide +kernel
theorem dX12_isTwo_17 : decode cX12_isTwo 17 = .ok (.aload_n 0, 1) := by decide +kernel
theorem dX12_isTwo_18 : decode cX12_isTwo 18 = .ok (.getfield 185, 3) := by decide +kernel
theorem dX12_isTwo_21 : decode cX12_isTwo 21 = .ok (.iconst 1, 1) := by decide +kernel
theorem dX12_isTwo_22 : decode cX12_isTwo 22 = .ok (.isub, 1) := by decide +kernel
theorem dX12_isTwo_23 : decode cX12_isTwo 23 = .ok (.invokestatic 176, 3) := by decide +kernel
theorem dX12_isTwo_26 : decode cX12_isTwo 26 = .ok (.ifCond .eq 7, 3) := by decide +kernel
theorem dX12_isTwo_29 : decode cX12_isTwo 29 = .ok (.iconst 0, 1) := by decide +kernel
theorem dX12_isTwo_30 : decode cX12_isTwo 30 = .ok (.goto 4, 3) := by decide +kernel
theorem dX12_isTwo_33 : decode cX12_isTwo 33 = .ok (.iconst 1, 1) := by decide +kernel
theorem dX12_isTwo_34 : decode cX12_isTwo 34 = .ok (.putfield 173, 3) := by decide +kernel
theorem dX12_isTwo_37 : decode cX12_isTwo 37 = .ok (.aload_n 0, 1) := by decide +kernel
theorem dX12_isTwo_38 : decode cX12_isTwo 38 = .ok (.getfield 173, 3) := by decide +kernel
theorem dX12_isTwo_41 : decode cX12_isTwo 41 = .ok (.ifCond .ne 7, 3) := by decide +kernel
theorem dX12_isTwo_44 : decode cX12_isTwo 44 = .ok (.iconst 1, 1) := by decide +kernel
theorem dX12_isTwo_45 : decode cX12_isTwo 45 = .ok (.goto 4, 3) := by decide +kernel
theorem dX12_isTwo_48 : decode cX12_isTwo 48 = .ok (.iconst 0, 1) := by decide +kernel
theorem dX12_isTwo_49 : decode cX12_isTwo 49 = .ok (.ireturn, 1) := by decide +kernel
theorem dX12_areTwo_0 : decode cX12_areTwo 0 = .ok (.iload_n 1, 1) := by decide +kernel
theorem dX12_areTwo_1 : decode cX12_areTwo 1 = .ok (.iload_n 2, 1) := by decide +kernel
theorem dX12_areTwo_2 : decode cX12_areTwo 2 = .ok (.if_icmp .eq 27, 3) := by decide +kernel
theorem dX12_areTwo_5 : decode cX12_areTwo 5 = .ok (.aload_n 0, 1) := by decide +kernel
theorem dX12_areTwo_6 : decode cX12_areTwo 6 = .ok (.getfield 37, 3) := by decide +kernel
theorem dX12_areTwo_9 : decode cX12_areTwo 9 = .ok (.iload_n 1, 1) := by decide +kernel
theorem dX12_areTwo_10 : decode cX12_areTwo 10 = .ok (.iaload, 1) := by decide +kernel
theorem dX12_areTwo_11 : decode cX12_areTwo 11 = .ok (.iconst 1, 1) := by decide +kernel
theorem dX12_areTwo_12 : decode cX12_areTwo 12 = .ok (.if_icmp .ne 17, 3) := by decide +kernel
theorem dX12_areTwo_15 : decode cX12_areTwo 15 = .ok (.aload_n 0, 1) := by decide +kernel
theorem dX12_areTwo_16 : decode cX12_areTwo 16 = .ok (.getfield 37, 3) := by decide +kernel
theorem dX12_areTwo_19 : decode cX12_areTwo 19 = .ok (.iload_n 2, 1) := by decide +kernel
theorem dX12_areTwo_20 : decode cX12_areTwo 20 = .ok (.iaload, 1) := by decide +kernel
theorem dX12_areTwo_21 : decode cX12_areTwo 21 = .ok (.iconst 1, 1) := by decide +kernel
theorem dX12_areTwo_22 : decode cX12_areTwo 22 = .ok (.if_icmp .ne 7, 3) := by decide +kernel
theorem dX12_areTwo_25 : decode cX12_areTwo 25 = .ok (.iconst 1, 1) := by decide +kernel
theorem dX12_areTwo_26 : decode cX12_areTwo 26 = .ok (.goto 4, 3) := by decide +kernel
theorem dX12_areTwo_29 : decode cX12_areTwo 29 = .ok (.iconst 0, 1) := by decide +kernel
theorem dX12_areTwo_30 : decode cX12_areTwo 30 = .ok (.ireturn, 1) := by decide +kernel
theorem dX12_swap_0 : decode cX12_swap 0 = .ok (.aload_n 0, 1) := by decide +kernel
theorem dX12_swap_1 : decode cX12_swap 1 = .ok (.iload_n 1, 1) := by decide +kernel
theorem dX12_swap_2 : decode cX12_swap 2 = .ok (.iload_n 2, 1) := by decide +kernel
theorem dX12_swap_3 : decode cX12_swap 3 = .ok (.invokevirtual 464, 3) := by decide +kernel
theorem dX12_swap_6 : decode cX12_swap 6 = .ok (.ifCond .eq 26, 3) := by decide +kernel
theorem dX12_swap_9 : decode cX12_swap 9 = .ok (.aload_n 0, 1) := by decide +kernel
theorem dX12_swap_10 : decode cX12_swap 10 = .ok (.iload_n 3, 1) := by decide +kernel
theorem dX12_swap_11 : decode cX12_swap 11 = .ok (.iconst 1, 1) := by decide +kernel
theorem dX12_swap_12 : decode cX12_swap 12 = .ok (.ldc 180, 2) := by decide +kernel
theorem dX12_swap_14 : decode cX12_swap 14 = .ok (.invokestatic 176, 3) := by decide +kernel
theorem dX12_swap_17 : decode cX12_swap 17 = .ok (.ifCond .ne 7, 3) := by decide +kernel
theorem dX12_swap_20 : decode cX12_swap 20 = .ok (.iconst 1, 1) := by decide +kernel
theorem dX12_swap_21 : decode cX12_swap 21 = .ok (.goto 4, 3) := by decide +kernel
theorem dX12_swap_24 : decode cX12_swap 24 = .ok (.iconst 0, 1) := by decide +kernel
theorem dX12_swap_25 : decode cX12_swap 25 = .ok (.iconst 2, 1) := by decide +kernel
theorem dX12_swap_26 : decode cX12_swap 26 = .ok (.invokevirtual 181, 3) := by decide +kernel
theorem dX12_swap_29 : decode cX12_swap 29 = .ok (.ifCond .eq 5, 3) := by decide +kernel
theorem dX12_swap_32 : decode cX12_swap 32 = .ok (.iconst 0, 1) := by decide +kernel
theorem dX12_swap_33 : decode cX12_swap 33 = .ok (.ireturn, 1) := by decide +kernel
theorem dX12_swap_34 : decode cX12_swap 34 = .ok (.aload_n 0, 1) := by decide +kernel
theorem dX12_swap_35 : decode cX12_swap 35 = .ok (.iload_n 1, 1) := by decide +kernel
theorem dX12_swap_36 : decode cX12_swap 36 = .ok (.iload_n 2, 1) := by decide +kernel
theorem dX12_swap_37 : decode cX12_swap 37 = .ok (.invokevirtual 467, 3) := by decide +kernel
theorem dX12_swap_40 : decode cX12_swap 40 = .ok (.ifCond .ne 5, 3) := by decide +kernel
theorem dX12_swap_43 : decode cX12_swap 43 = .ok (.iconst (-1), 1) := by decide +kernel
theorem dX12_swap_44 : decode cX12_swap 44 = .ok (.ireturn, 1) := by decide +kernel
theorem dX12_swap_45 : decode cX12_swap 45 = .ok (.aload_n 0, 1) := by decide +kernel
theorem dX12_swap_46 : decode cX12_swap 46 = .ok (.getfield 31, 3) := by decide +kernel
theorem dX12_swap_49 : decode cX12_swap 49 = .ok (.iload_n 1, 1) := by decide +kernel
theorem dX12_swap_50 : decode cX12_swap 50 = .ok (.iaload, 1) := by decide +kernel
theorem dX12_swap_51 : decode cX12_swap 51 = .ok (.iload_n 3, 1) := by decide +kernel
theorem dX12_swap_52 : decode cX12_swap 52 = .ok (.if_icmp .ge 6, 3) := by decide +kernel
theorem dX12_swap_55 : decode cX12_swap 55 = .ok (.bipush (-2), 2) := by decide +kernel
theorem dX12_swap_57 : decode cX12_swap 57 = .ok (.ireturn, 1) := by decide +kernel
theorem dX12_swap_58 : decode cX12_swap 58 = .ok (.aload_n 0, 1) := by decide +kernel
theorem dX12_swap_59 : decode cX12_swap 59 = .ok (.bipush 7, 2) := by decide +kernel
theorem dX12_swap_61 : decode cX12_swap 61 = .ok (.invokevirtual 412, 3) := by decide +kernel
theorem dX12_swap_64 : decode cX12_swap 64 = .ok (.ifCond .ne 6, 3) := by decide +kernel
theorem dX12_swap_67 : decode cX12_swap 67 = .ok (.bipush (-3), 2) := by decide +kernel
theorem dX12_swap_69 : decode cX12_swap 69 = .ok (.ireturn, 1) := by decide +kernel
theorem dX12_swap_70 : decode cX12_swap 70 = .ok (.iload_n 3, 1) := by decide +kernel
theorem dX12_swap_71 : decode cX12_swap 71 = .ok (.aload_n 0, 1) := by decide +kernel
theorem dX12_swap_72 : decode cX12_swap 72 = .ok (.bipush 7, 2) := by decide +kernel
theorem dX12_swap_74 : decode cX12_swap 74 = .ok (.invokevirtual 412, 3) := by decide +kernel
theorem dX12_swap_77 : decode cX12_swap 77 = .ok (.imul, 1) := by decide +kernel
theorem dX12_swap_78 : decode cX12_swap 78 = .ok (.bipush 100, 2) := by decide +kernel
theorem dX12_swap_80 : decode cX12_swap 80 = .ok (.idiv, 1) := by decide +kernel
theorem dX12_swap_81 : decode cX12_swap 81 = .ok (.istore 4, 2) := by decide +kernel
theorem dX12_swap_83 : decode cX12_swap 83 = .ok (.aload_n 0, 1) := by decide +kernel
theorem dX12_swap_84 : decode cX12_swap 84 = .ok (.getfield 31, 3) := by decide +kernel
theorem dX12_swap_87 : decode cX12_swap 87 = .ok (.iload_n 1, 1) := by decide +kernel
theorem dX12_swap_88 : decode cX12_swap 88 = .ok (.dup2, 1) := by decide +kernel
theorem dX12_swap_89 : decode cX12_swap 89 = .ok (.iaload, 1) := by decide +kernel
theorem dX12_swap_90 : decode cX12_swap 90 = .ok (.iload_n 3, 1) := by decide +kernel
theorem dX12_swap_91 : decode cX12_swap 91 = .ok (.isub, 1) := by decide +kernel
theorem dX12_swap_92 : decode cX12_swap 92 = .ok (.iastore, 1) := by decide +kernel
theorem dX12_swap_93 : decode cX12_swap 93 = .ok (.aload_n 0, 1) := by decide +kernel
theorem dX12_swap_94 : decode cX12_swap 94 = .ok (.getfield 31, 3) := by decide +kernel
theorem dX12_swap_97 : decode cX12_swap 97 = .ok (.iload_n 2, 1) := by decide +kernel
theorem dX12_swap_98 : decode cX12_swap 98 = .ok (.dup2, 1) := by decide +kernel
theorem dX12_swap_99 : decode cX12_swap 99 = .ok (.iaload, 1) := by decide +kernel
theorem dX12_swap_100 : decode cX12_swap 100 = .ok (.iload 4, 2) := by decide +kernel
theorem dX12_swap_102 : decode cX12_swap 102 = .ok (.iadd, 1) := by decide +kernel
theorem dX12_swap_103 : decode cX12_swap 103 = .ok (.iastore, 1) := by decide +kernel
theorem dX12_swap_104 : decode cX12_swap 104 = .ok (.aload_n 0, 1) := by decide +kernel
theorem dX12_swap_105 : decode cX12_swap 105 = .ok (.getfield 131, 3) := by decide +kernel
theorem dX12_swap_108 : decode cX12_swap 108 = .ok (.bipush 12, 2) := by decide +kernel
theorem dX12_swap_110 : decode cX12_swap 110 = .ok (.iload_n 2, 1) := by decide +kernel
theorem dX12_swap_111 : decode cX12_swap 111 = .ok (.imul, 1) := by decide +kernel
theorem dX12_swap_112 : decode cX12_swap 112 = .ok (.iload_n 1, 1) := by decide +kernel
theorem dX12_swap_113 : decode cX12_swap 113 = .ok (.iadd, 1) := by decide +kernel
theorem dX12_swap_114 : decode cX12_swap 114 = .ok (.dup2, 1) := by decide +kernel
theorem dX12_swap_115 : decode cX12_swap 115 = .ok (.iaload, 1) := by decide +kernel
theorem dX12_swap_116 : decode cX12_swap 116 = .ok (.iload 4, 2) := by decide +kernel
theorem dX12_swap_118 : decode cX12_swap 118 = .ok (.iadd, 1) := by decide +kernel
theorem dX12_swap_119 : decode cX12_swap 119 = .ok (.iastore, 1) := by decide +kernel
theorem dX12_swap_120 : decode cX12_swap 120 = .ok (.iload 4, 2) := by decide +kernel
theorem dX12_swap_122 : decode cX12_swap 122 = .ok (.ireturn, 1) := by decide +kernel
theorem dX12_netted_0 : decode cX12_netted 0 = .ok (.aload_n 0, 1) := by decide +kernel
theorem dX12_netted_1 : decode cX12_netted 1 = .ok (.iload_n 1, 1) := by decide +kernel
theorem dX12_netted_2 : decode cX12_netted 2 = .ok (.iload_n 2, 1) := by decide +kernel
theorem dX12_netted_3 : decode cX12_netted 3 = .ok (.invokevirtual 464, 3) := by decide +kernel
theorem dX12_netted_6 : decode cX12_netted 6 = .ok (.ifCond .eq 29, 3) := by decide +kernel
theorem dX12_netted_9 : decode cX12_netted 9 = .ok (.aload_n 0, 1) := by decide +kernel
theorem dX12_netted_10 : decode cX12_netted 10 = .ok (.getfield 131, 3) := by decide +kernel
theorem dX12_netted_13 : decode cX12_netted 13 = .ok (.bipush 12, 2) := by decide +kernel
theorem dX12_netted_15 : decode cX12_netted 15 = .ok (.iload_n 1, 1) := by decide +kernel
theorem dX12_netted_16 : decode cX12_netted 16 = .ok (.imul, 1) := by decide +kernel
theorem dX12_netted_17 : decode cX12_netted 17 = .ok (.iload_n 2, 1) := by decide +kernel
theorem dX12_netted_18 : decode cX12_netted 18 = .ok (.iadd, 1) := by decide +kernel
theorem dX12_netted_19 : decode cX12_netted 19 = .ok (.iaload, 1) := by decide +kernel
theorem dX12_netted_20 : decode cX12_netted 20 = .ok (.aload_n 0, 1) := by decide +kernel
theorem dX12_netted_21 : decode cX12_netted 21 = .ok (.getfield 131, 3) := by decide +kernel
theorem dX12_netted_24 : decode cX12_netted 24 = .ok (.bipush 12, 2) := by decide +kernel
theorem dX12_netted_26 : decode cX12_netted 26 = .ok (.iload_n 2, 1) := by decide +kernel
theorem dX12_netted_27 : decode cX12_netted 27 = .ok (.imul, 1) := by decide +kernel
theorem dX12_netted_28 : decode cX12_netted 28 = .ok (.iload_n 1, 1) := by decide +kernel
theorem dX12_netted_29 : decode cX12_netted 29 = .ok (.iadd, 1) := by decide +kernel
theorem dX12_netted_30 : decode cX12_netted 30 = .ok (.iaload, 1) := by decide +kernel
theorem dX12_netted_31 : decode cX12_netted 31 = .ok (.isub, 1) := by decide +kernel
theorem dX12_netted_32 : decode cX12_netted 32 = .ok (.goto 4, 3) := by decide +kernel
theorem dX12_netted_35 : decode cX12_netted 35 = .ok (.iconst 0, 1) := by decide +kernel
theorem dX12_netted_36 : decode cX12_netted 36 = .ok (.ireturn, 1) := by decide +kernel
theorem dX12_merge_0 : decode cX12_merge 0 = .ok (.aload_n 0, 1) := by decide +kernel
theorem dX12_merge_1 : decode cX12_merge 1 = .ok (.iload_n 1, 1) := by decide +kernel
theorem dX12_merge_2 : decode cX12_merge 2 = .ok (.iload_n 2, 1) := by decide +kernel
theorem dX12_merge_3 : decode cX12_merge 3 = .ok (.invokevirtual 464, 3) := by decide +kernel
theorem dX12_merge_6 : decode cX12_merge 6 = .ok (.ifCond .ne 5, 3) := by decide +kernel
theorem dX12_merge_9 : decode cX12_merge 9 = .ok (.iconst 0, 1) := by decide +kernel
theorem dX12_merge_10 : decode cX12_merge 10 = .ok (.ireturn, 1) := by decide +kernel
theorem dX12_merge_11 : decode cX12_merge 11 = .ok (.aload_n 0, 1) := by decide +kernel
theorem dX12_merge_12 : decode cX12_merge 12 = .ok (.iload_n 1, 1) := by decide +kernel
theorem dX12_merge_13 : decode cX12_merge 13 = .ok (.iload_n 2, 1) := by decide +kernel
theorem dX12_merge_14 : decode cX12_merge 14 = .ok (.invokevirtual 467, 3) := by decide +kernel
theorem dX12_merge_17 : decode cX12_merge 17 = .ok (.ifCond .ne 5, 3) := by decide +kernel
theorem dX12_merge_20 : decode cX12_merge 20 = .ok (.iconst (-1), 1) := by decide +kernel
theorem dX12_merge_21 : decode cX12_merge 21 = .ok (.ireturn, 1) := by decide +kernel
theorem dX12_merge_22 : decode cX12_merge 22 = .ok (.aload_n 0, 1) := by decide +kernel
theorem dX12_merge_23 : decode cX12_merge 23 = .ok (.getfield 13, 3) := by decide +kernel
theorem dX12_merge_26 : decode cX12_merge 26 = .ok (.iload_n 1, 1) := by decide +kernel
theorem dX12_merge_27 : decode cX12_merge 27 = .ok (.aload_n 0, 1) := by decide +kernel
theorem dX12_merge_28 : decode cX12_merge 28 = .ok (.getfield 13, 3) := by decide +kernel
theorem dX12_merge_31 : decode cX12_merge 31 = .ok (.iload_n 1, 1) := by decide +kernel
theorem dX12_merge_32 : decode cX12_merge 32 = .ok (.iaload, 1) := by decide +kernel
theorem dX12_merge_33 : decode cX12_merge 33 = .ok (.aload_n 0, 1) := by decide +kernel
theorem dX12_merge_34 : decode cX12_merge 34 = .ok (.getfield 13, 3) := by decide +kernel
theorem dX12_merge_37 : decode cX12_merge 37 = .ok (.iload_n 2, 1) := by decide +kernel
theorem dX12_merge_38 : decode cX12_merge 38 = .ok (.iaload, 1) := by decide +kernel
theorem dX12_merge_39 : decode cX12_merge 39 = .ok (.iadd, 1) := by decide +kernel
theorem dX12_merge_40 : decode cX12_merge 40 = .ok (.ldc 180, 2) := by decide +kernel
theorem dX12_merge_42 : decode cX12_merge 42 = .ok (.invokestatic 421, 3) := by decide +kernel
theorem dX12_merge_45 : decode cX12_merge 45 = .ok (.iastore, 1) := by decide +kernel
theorem dX12_merge_46 : decode cX12_merge 46 = .ok (.aload_n 0, 1) := by decide +kernel
theorem dX12_merge_47 : decode cX12_merge 47 = .ok (.getfield 16, 3) := by decide +kernel
theorem dX12_merge_50 : decode cX12_merge 50 = .ok (.iload_n 1, 1) := by decide +kernel
theorem dX12_merge_51 : decode cX12_merge 51 = .ok (.aload_n 0, 1) := by decide +kernel
theorem dX12_merge_52 : decode cX12_merge 52 = .ok (.getfield 16, 3) := by decide +kernel
theorem dX12_merge_55 : decode cX12_merge 55 = .ok (.iload_n 1, 1) := by decide +kernel
theorem dX12_merge_56 : decode cX12_merge 56 = .ok (.iaload, 1) := by decide +kernel
theorem dX12_merge_57 : decode cX12_merge 57 = .ok (.aload_n 0, 1) := by decide +kernel
theorem dX12_merge_58 : decode cX12_merge 58 = .ok (.getfield 16, 3) := by decide +kernel
theorem dX12_merge_61 : decode cX12_merge 61 = .ok (.iload_n 2, 1) := by decide +kernel
theorem dX12_merge_62 : decode cX12_merge 62 = .ok (.iaload, 1) := by decide +kernel
theorem dX12_merge_63 : decode cX12_merge 63 = .ok (.iadd, 1) := by decide +kernel
theorem dX12_merge_64 : decode cX12_merge 64 = .ok (.sipush 1000, 3) := by decide +kernel
theorem dX12_merge_67 : decode cX12_merge 67 = .ok (.invokestatic 421, 3) := by decide +kernel
theorem dX12_merge_70 : decode cX12_merge 70 = .ok (.iastore, 1) := by decide +kernel
theorem dX12_merge_71 : decode cX12_merge 71 = .ok (.aload_n 0, 1) := by decide +kernel
theorem dX12_merge_72 : decode cX12_merge 72 = .ok (.getfield 31, 3) := by decide +kernel
theorem dX12_merge_75 : decode cX12_merge 75 = .ok (.iload_n 1, 1) := by decide +kernel
theorem dX12_merge_76 : decode cX12_merge 76 = .ok (.dup2, 1) := by decide +kernel
theorem dX12_merge_77 : decode cX12_merge 77 = .ok (.iaload, 1) := by decide +kernel
theorem dX12_merge_78 : decode cX12_merge 78 = .ok (.aload_n 0, 1) := by decide +kernel
theorem dX12_merge_79 : decode cX12_merge 79 = .ok (.getfield 31, 3) := by decide +kernel
theorem dX12_merge_82 : decode cX12_merge 82 = .ok (.iload_n 2, 1) := by decide +kernel
theorem dX12_merge_83 : decode cX12_merge 83 = .ok (.iaload, 1) := by decide +kernel
theorem dX12_merge_84 : decode cX12_merge 84 = .ok (.iadd, 1) := by decide +kernel
theorem dX12_merge_85 : decode cX12_merge 85 = .ok (.iastore, 1) := by decide +kernel
theorem dX12_merge_86 : decode cX12_merge 86 = .ok (.aload_n 0, 1) := by decide +kernel
theorem dX12_merge_87 : decode cX12_merge 87 = .ok (.getfield 34, 3) := by decide +kernel
theorem dX12_merge_90 : decode cX12_merge 90 = .ok (.iload_n 1, 1) := by decide +kernel
theorem dX12_merge_91 : decode cX12_merge 91 = .ok (.dup2, 1) := by decide +kernel
theorem dX12_merge_92 : decode cX12_merge 92 = .ok (.iaload, 1) := by decide +kernel
theorem dX12_merge_93 : decode cX12_merge 93 = .ok (.aload_n 0, 1) := by decide +kernel
theorem dX12_merge_94 : decode cX12_merge 94 = .ok (.getfield 34, 3) := by decide +kernel
theorem dX12_merge_97 : decode cX12_merge 97 = .ok (.iload_n 2, 1) := by decide +kernel
theorem dX12_merge_98 : decode cX12_merge 98 = .ok (.iaload, 1) := by decide +kernel
theorem dX12_merge_99 : decode cX12_merge 99 = .ok (.iadd, 1) := by decide +kernel
theorem dX12_merge_100 : decode cX12_merge 100 = .ok (.iastore, 1) := by decide +kernel
theorem dX12_merge_101 : decode cX12_merge 101 = .ok (.aload_n 0, 1) := by decide +kernel
theorem dX12_merge_102 : decode cX12_merge 102 = .ok (.getfield 28, 3) := by decide +kernel
theorem dX12_merge_105 : decode cX12_merge 105 = .ok (.iload_n 1, 1) := by decide +kernel
theorem dX12_merge_106 : decode cX12_merge 106 = .ok (.dup2, 1) := by decide +kernel
theorem dX12_merge_107 : decode cX12_merge 107 = .ok (.iaload, 1) := by decide +kernel
theorem dX12_merge_108 : decode cX12_merge 108 = .ok (.aload_n 0, 1) := by decide +kernel
theorem dX12_merge_109 : decode cX12_merge 109 = .ok (.getfield 28, 3) := by decide +kernel
theorem dX12_merge_112 : decode cX12_merge 112 = .ok (.iload_n 2, 1) := by decide +kernel
theorem dX12_merge_113 : decode cX12_merge 113 = .ok (.iaload, 1) := by decide +kernel
theorem dX12_merge_114 : decode cX12_merge 114 = .ok (.iadd, 1) := by decide +kernel
theorem dX12_merge_115 : decode cX12_merge 115 = .ok (.iastore, 1) := by decide +kernel
theorem dX12_merge_116 : decode cX12_merge 116 = .ok (.aload_n 0, 1) := by decide +kernel
theorem dX12_merge_117 : decode cX12_merge 117 = .ok (.getfield 13, 3) := by decide +kernel
theorem dX12_merge_120 : decode cX12_merge 120 = .ok (.iload_n 2, 1) := by decide +kernel
theorem dX12_merge_121 : decode cX12_merge 121 = .ok (.iconst 0, 1) := by decide +kernel
theorem dX12_merge_122 : decode cX12_merge 122 = .ok (.iastore, 1) := by decide +kernel
theorem dX12_merge_123 : decode cX12_merge 123 = .ok (.aload_n 0, 1) := by decide +kernel
theorem dX12_merge_124 : decode cX12_merge 124 = .ok (.getfield 16, 3) := by decide +kernel
theorem dX12_merge_127 : decode cX12_merge 127 = .ok (.iload_n 2, 1) := by decide +kernel
theorem dX12_merge_128 : decode cX12_merge 128 = .ok (.iconst 0, 1) := by decide +kernel
theorem dX12_merge_129 : decode cX12_merge 129 = .ok (.iastore, 1) := by decide +kernel
theorem dX12_merge_130 : decode cX12_merge 130 = .ok (.aload_n 0, 1) := by decide +kernel
theorem dX12_merge_131 : decode cX12_merge 131 = .ok (.getfield 31, 3) := by decide +kernel
theorem dX12_merge_134 : decode cX12_merge 134 = .ok (.iload_n 2, 1) := by decide +kernel
theorem dX12_merge_135 : decode cX12_merge 135 = .ok (.iconst 0, 1) := by decide +kernel
theorem dX12_merge_136 : decode cX12_merge 136 = .ok (.iastore, 1) := by decide +kernel
theorem dX12_merge_137 : decode cX12_merge 137 = .ok (.aload_n 0, 1) := by decide +kernel
theorem dX12_merge_138 : decode cX12_merge 138 = .ok (.getfield 34, 3) := by decide +kernel
theorem dX12_merge_141 : decode cX12_merge 141 = .ok (.iload_n 2, 1) := by decide +kernel
theorem dX12_merge_142 : decode cX12_merge 142 = .ok (.iconst 0, 1) := by decide +kernel
theorem dX12_merge_143 : decode cX12_merge 143 = .ok (.iastore, 1) := by decide +kernel
theorem dX12_merge_144 : decode cX12_merge 144 = .ok (.aload_n 0, 1) := by decide +kernel
theorem dX12_merge_145 : decode cX12_merge 145 = .ok (.getfield 28, 3) := by decide +kernel
theorem dX12_merge_148 : decode cX12_merge 148 = .ok (.iload_n 2, 1) := by decide +kernel
theorem dX12_merge_149 : decode cX12_merge 149 = .ok (.iconst 0, 1) := by decide +kernel
theorem dX12_merge_150 : decode cX12_merge 150 = .ok (.iastore, 1) := by decide +kernel
theorem dX12_merge_151 : decode cX12_merge 151 = .ok (.aload_n 0, 1) := by decide +kernel
theorem dX12_merge_152 : decode cX12_merge 152 = .ok (.getfield 43, 3) := by decide +kernel
theorem dX12_merge_155 : decode cX12_merge 155 = .ok (.iload_n 2, 1) := by decide +kernel
theorem dX12_merge_156 : decode cX12_merge 156 = .ok (.iconst 0, 1) := by decide +kernel
theorem dX12_merge_157 : decode cX12_merge 157 = .ok (.iastore, 1) := by decide +kernel
theorem dX12_merge_158 : decode cX12_merge 158 = .ok (.aload_n 0, 1) := by decide +kernel
theorem dX12_merge_159 : decode cX12_merge 159 = .ok (.getfield 46, 3) := by decide +kernel
theorem dX12_merge_162 : decode cX12_merge 162 = .ok (.iload_n 2, 1) := by decide +kernel
theorem dX12_merge_163 : decode cX12_merge 163 = .ok (.iconst 0, 1) := by decide +kernel
theorem dX12_merge_164 : decode cX12_merge 164 = .ok (.iastore, 1) := by decide +kernel
theorem dX12_merge_165 : decode cX12_merge 165 = .ok (.iconst 0, 1) := by decide +kernel
theorem dX12_merge_166 : decode cX12_merge 166 = .ok (.istore_n 3, 1) := by decide +kernel
theorem dX12_merge_167 : decode cX12_merge 167 = .ok (.iload_n 3, 1) := by decide +kernel
theorem dX12_merge_168 : decode cX12_merge 168 = .ok (.aload_n 0, 1) := by decide +kernel
theorem dX12_merge_169 : decode cX12_merge 169 = .ok (.getfield 196, 3) := by decide +kernel
theorem dX12_merge_172 : decode cX12_merge 172 = .ok (.if_icmp .ge 26, 3) := by decide +kernel
theorem dX12_merge_175 : decode cX12_merge 175 = .ok (.aload_n 0, 1) := by decide +kernel
theorem dX12_merge_176 : decode cX12_merge 176 = .ok (.getfield 67, 3) := by decide +kernel
theorem dX12_merge_179 : decode cX12_merge 179 = .ok (.iload_n 3, 1) := by decide +kernel
theorem dX12_merge_180 : decode cX12_merge 180 = .ok (.iaload, 1) := by decide +kernel
theorem dX12_merge_181 : decode cX12_merge 181 = .ok (.iload_n 2, 1) := by decide +kernel
theorem dX12_merge_182 : decode cX12_merge 182 = .ok (.if_icmp .ne 10, 3) := by decide +kernel
theorem dX12_merge_185 : decode cX12_merge 185 = .ok (.aload_n 0, 1) := by decide +kernel
theorem dX12_merge_186 : decode cX12_merge 186 = .ok (.getfield 67, 3) := by decide +kernel
theorem dX12_merge_189 : decode cX12_merge 189 = .ok (.iload_n 3, 1) := by decide +kernel
theorem dX12_merge_190 : decode cX12_merge 190 = .ok (.iload_n 1, 1) := by decide +kernel
theorem dX12_merge_191 : decode cX12_merge 191 = .ok (.iastore, 1) := by decide +kernel
theorem dX12_merge_192 : decode cX12_merge 192 = .ok (.iinc 3 1, 3) := by decide +kernel
theorem dX12_merge_195 : decode cX12_merge 195 = .ok (.goto (-28), 3) := by decide +kernel
theorem dX12_merge_198 : decode cX12_merge 198 = .ok (.iconst 0, 1) := by decide +kernel
theorem dX12_merge_199 : decode cX12_merge 199 = .ok (.istore_n 3, 1) := by decide +kernel
theorem dX12_merge_200 : decode cX12_merge 200 = .ok (.iload_n 3, 1) := by decide +kernel
theorem dX12_merge_201 : decode cX12_merge 201 = .ok (.aload_n 0, 1) := by decide +kernel
theorem dX12_merge_202 : decode cX12_merge 202 = .ok (.getfield 202, 3) := by decide +kernel
theorem dX12_merge_205 : decode cX12_merge 205 = .ok (.if_icmp .ge 60, 3) := by decide +kernel
theorem dX12_merge_208 : decode cX12_merge 208 = .ok (.aload_n 0, 1) := by decide +kernel
theorem dX12_merge_209 : decode cX12_merge 209 = .ok (.getfield 73, 3) := by decide +kernel
theorem dX12_merge_212 : decode cX12_merge 212 = .ok (.bipush 12, 2) := by decide +kernel
theorem dX12_merge_214 : decode cX12_merge 214 = .ok (.iload_n 3, 1) := by decide +kernel
theorem dX12_merge_215 : decode cX12_merge 215 = .ok (.imul, 1) := by decide +kernel
theorem dX12_merge_216 : decode cX12_merge 216 = .ok (.iload_n 1, 1) := by decide +kernel
theorem dX12_merge_217 : decode cX12_merge 217 = .ok (.iadd, 1) := by decide +kernel
theorem dX12_merge_218 : decode cX12_merge 218 = .ok (.aload_n 0, 1) := by decide +kernel
theorem dX12_merge_219 : decode cX12_merge 219 = .ok (.getfield 73, 3) := by decide +kernel
theorem dX12_merge_222 : decode cX12_merge 222 = .ok (.bipush 12, 2) := by decide +kernel
theorem dX12_merge_224 : decode cX12_merge 224 = .ok (.iload_n 3, 1) := by decide +kernel
theorem dX12_merge_225 : decode cX12_merge 225 = .ok (.imul, 1) := by decide +kernel
theorem dX12_merge_226 : decode cX12_merge 226 = .ok (.iload_n 1, 1) := by decide +kernel
theorem dX12_merge_227 : decode cX12_merge 227 = .ok (.iadd, 1) := by decide +kernel
theorem dX12_merge_228 : decode cX12_merge 228 = .ok (.iaload, 1) := by decide +kernel
theorem dX12_merge_229 : decode cX12_merge 229 = .ok (.aload_n 0, 1) := by decide +kernel
theorem dX12_merge_230 : decode cX12_merge 230 = .ok (.getfield 73, 3) := by decide +kernel
theorem dX12_merge_233 : decode cX12_merge 233 = .ok (.bipush 12, 2) := by decide +kernel
theorem dX12_merge_235 : decode cX12_merge 235 = .ok (.iload_n 3, 1) := by decide +kernel
theorem dX12_merge_236 : decode cX12_merge 236 = .ok (.imul, 1) := by decide +kernel
theorem dX12_merge_237 : decode cX12_merge 237 = .ok (.iload_n 2, 1) := by decide +kernel
theorem dX12_merge_238 : decode cX12_merge 238 = .ok (.iadd, 1) := by decide +kernel
theorem dX12_merge_239 : decode cX12_merge 239 = .ok (.iaload, 1) := by decide +kernel
theorem dX12_merge_240 : decode cX12_merge 240 = .ok (.iadd, 1) := by decide +kernel
theorem dX12_merge_241 : decode cX12_merge 241 = .ok (.bipush 100, 2) := by decide +kernel
theorem dX12_merge_243 : decode cX12_merge 243 = .ok (.invokestatic 421, 3) := by decide +kernel
theorem dX12_merge_246 : decode cX12_merge 246 = .ok (.iastore, 1) := by decide +kernel
theorem dX12_merge_247 : decode cX12_merge 247 = .ok (.aload_n 0, 1) := by decide +kernel
theorem dX12_merge_248 : decode cX12_merge 248 = .ok (.getfield 73, 3) := by decide +kernel
theorem dX12_merge_251 : decode cX12_merge 251 = .ok (.bipush 12, 2) := by decide +kernel
theorem dX12_merge_253 : decode cX12_merge 253 = .ok (.iload_n 3, 1) := by decide +kernel
theorem dX12_merge_254 : decode cX12_merge 254 = .ok (.imul, 1) := by decide +kernel
theorem dX12_merge_255 : decode cX12_merge 255 = .ok (.iload_n 2, 1) := by decide +kernel
theorem dX12_merge_256 : decode cX12_merge 256 = .ok (.iadd, 1) := by decide +kernel
theorem dX12_merge_257 : decode cX12_merge 257 = .ok (.iconst 0, 1) := by decide +kernel
theorem dX12_merge_258 : decode cX12_merge 258 = .ok (.iastore, 1) := by decide +kernel
theorem dX12_merge_259 : decode cX12_merge 259 = .ok (.iinc 3 1, 3) := by decide +kernel
theorem dX12_merge_262 : decode cX12_merge 262 = .ok (.goto (-62), 3) := by decide +kernel
theorem dX12_merge_265 : decode cX12_merge 265 = .ok (.aload_n 0, 1) := by decide +kernel
theorem dX12_merge_266 : decode cX12_merge 266 = .ok (.getfield 37, 3) := by decide +kernel
theorem dX12_merge_269 : decode cX12_merge 269 = .ok (.iload_n 2, 1) := by decide +kernel
theorem dX12_merge_270 : decode cX12_merge 270 = .ok (.iconst 2, 1) := by decide +kernel
theorem dX12_merge_271 : decode cX12_merge 271 = .ok (.iastore, 1) := by decide +kernel
theorem dX12_merge_272 : decode cX12_merge 272 = .ok (.iconst 1, 1) := by decide +kernel
theorem dX12_merge_273 : decode cX12_merge 273 = .ok (.ireturn, 1) := by decide +kernel
theorem dX12_gain_0 : decode cX12_gain 0 = .ok (.aload_n 0, 1) := by decide +kernel
theorem dX12_gain_1 : decode cX12_gain 1 = .ok (.iload_n 1, 1) := by decide +kernel
theorem dX12_gain_2 : decode cX12_gain 2 = .ok (.iload_n 2, 1) := by decide +kernel
theorem dX12_gain_3 : decode cX12_gain 3 = .ok (.invokevirtual 464, 3) := by decide +kernel
theorem dX12_gain_6 : decode cX12_gain 6 = .ok (.ifCond .ne 5, 3) := by decide +kernel
theorem dX12_gain_9 : decode cX12_gain 9 = .ok (.iconst 0, 1) := by decide +kernel
theorem dX12_gain_10 : decode cX12_gain 10 = .ok (.ireturn, 1) := by decide +kernel
theorem dX12_gain_11 : decode cX12_gain 11 = .ok (.aload_n 0, 1) := by decide +kernel
theorem dX12_gain_12 : decode cX12_gain 12 = .ok (.iload_n 1, 1) := by decide +kernel
theorem dX12_gain_13 : decode cX12_gain 13 = .ok (.iload_n 2, 1) := by decide +kernel
theorem dX12_gain_14 : decode cX12_gain 14 = .ok (.invokevirtual 467, 3) := by decide +kernel
theorem dX12_gain_17 : decode cX12_gain 17 = .ok (.ifCond .ne 7, 3) := by decide +kernel
theorem dX12_gain_20 : decode cX12_gain 20 = .ok (.ldc_w 470, 3) := by decide +kernel
theorem dX12_gain_23 : decode cX12_gain 23 = .ok (.ireturn, 1) := by decide +kernel
theorem dX12_gain_24 : decode cX12_gain 24 = .ok (.aload_n 0, 1) := by decide +kernel
theorem dX12_gain_25 : decode cX12_gain 25 = .ok (.bipush 11, 2) := by decide +kernel
theorem dX12_gain_27 : decode cX12_gain 27 = .ok (.invokevirtual 412, 3) := by decide +kernel
theorem dX12_gain_30 : decode cX12_gain 30 = .ok (.istore_n 3, 1) := by decide +kernel
theorem dX12_gain_31 : decode cX12_gain 31 = .ok (.aload_n 0, 1) := by decide +kernel
theorem dX12_gain_32 : decode cX12_gain 32 = .ok (.aload_n 0, 1) := by decide +kernel
theorem dX12_gain_33 : decode cX12_gain 33 = .ok (.invokevirtual 431, 3) := by decide +kernel
theorem dX12_gain_36 : decode cX12_gain 36 = .ok (.iload_n 3, 1) := by decide +kernel
theorem dX12_gain_37 : decode cX12_gain 37 = .ok (.invokevirtual 434, 3) := by decide +kernel
theorem dX12_gain_40 : decode cX12_gain 40 = .ok (.aload_n 0, 1) := by decide +kernel
theorem dX12_gain_41 : decode cX12_gain 41 = .ok (.getfield 108, 3) := by decide +kernel
theorem dX12_gain_44 : decode cX12_gain 44 = .ok (.iload_n 1, 1) := by decide +kernel
theorem dX12_gain_45 : decode cX12_gain 45 = .ok (.iaload, 1) := by decide +kernel
theorem dX12_gain_46 : decode cX12_gain 46 = .ok (.aload_n 0, 1) := by decide +kernel
theorem dX12_gain_47 : decode cX12_gain 47 = .ok (.getfield 108, 3) := by decide +kernel
theorem dX12_gain_50 : decode cX12_gain 50 = .ok (.iload_n 2, 1) := by decide +kernel
theorem dX12_gain_51 : decode cX12_gain 51 = .ok (.iaload, 1) := by decide +kernel
theorem dX12_gain_52 : decode cX12_gain 52 = .ok (.iadd, 1) := by decide +kernel
theorem dX12_gain_53 : decode cX12_gain 53 = .ok (.istore 4, 2) := by decide +kernel
theorem dX12_gain_55 : decode cX12_gain 55 = .ok (.aload_n 0, 1) := by decide +kernel
theorem dX12_gain_56 : decode cX12_gain 56 = .ok (.iload_n 2, 1) := by decide +kernel
theorem dX12_gain_57 : decode cX12_gain 57 = .ok (.putfield 115, 3) := by decide +kernel
theorem dX12_gain_60 : decode cX12_gain 60 = .ok (.aload_n 0, 1) := by decide +kernel
theorem dX12_gain_61 : decode cX12_gain 61 = .ok (.iload_n 1, 1) := by decide +kernel
theorem dX12_gain_62 : decode cX12_gain 62 = .ok (.putfield 118, 3) := by decide +kernel
theorem dX12_gain_65 : decode cX12_gain 65 = .ok (.aload_n 0, 1) := by decide +kernel
theorem dX12_gain_66 : decode cX12_gain 66 = .ok (.aload_n 0, 1) := by decide +kernel
theorem dX12_gain_67 : decode cX12_gain 67 = .ok (.invokevirtual 431, 3) := by decide +kernel
theorem dX12_gain_70 : decode cX12_gain 70 = .ok (.iload_n 3, 1) := by decide +kernel
theorem dX12_gain_71 : decode cX12_gain 71 = .ok (.invokevirtual 434, 3) := by decide +kernel
theorem dX12_gain_74 : decode cX12_gain 74 = .ok (.aload_n 0, 1) := by decide +kernel
theorem dX12_gain_75 : decode cX12_gain 75 = .ok (.iconst (-1), 1) := by decide +kernel
theorem dX12_gain_76 : decode cX12_gain 76 = .ok (.putfield 115, 3) := by decide +kernel
theorem dX12_gain_79 : decode cX12_gain 79 = .ok (.aload_n 0, 1) := by decide +kernel
theorem dX12_gain_80 : decode cX12_gain 80 = .ok (.iconst (-1), 1) := by decide +kernel
theorem dX12_gain_81 : decode cX12_gain 81 = .ok (.putfield 118, 3) := by decide +kernel
theorem dX12_gain_84 : decode cX12_gain 84 = .ok (.aload_n 0, 1) := by decide +kernel
theorem dX12_gain_85 : decode cX12_gain 85 = .ok (.getfield 108, 3) := by decide +kernel
theorem dX12_gain_88 : decode cX12_gain 88 = .ok (.iload_n 1, 1) := by decide +kernel
theorem dX12_gain_89 : decode cX12_gain 89 = .ok (.iaload, 1) := by decide +kernel
theorem dX12_gain_90 : decode cX12_gain 90 = .ok (.iload 4, 2) := by decide +kernel
theorem dX12_gain_92 : decode cX12_gain 92 = .ok (.isub, 1) := by decide +kernel
theorem dX12_gain_93 : decode cX12_gain 93 = .ok (.ireturn, 1) := by decide +kernel
theorem dX12_breach_0 : decode cX12_breach 0 = .ok (.aload_n 0, 1) := by decide +kernel
theorem dX12_breach_1 : decode cX12_breach 1 = .ok (.iload_n 1, 1) := by decide +kernel
theorem dX12_breach_2 : decode cX12_breach 2 = .ok (.invokevirtual 188, 3) := by decide +kernel
theorem dX12_breach_5 : decode cX12_breach 5 = .ok (.ifCond .eq 25, 3) := by decide +kernel
theorem dX12_breach_8 : decode cX12_breach 8 = .ok (.aload_n 0, 1) := by decide +kernel
theorem dX12_breach_9 : decode cX12_breach 9 = .ok (.iload_n 2, 1) := by decide +kernel
theorem dX12_breach_10 : decode cX12_breach 10 = .ok (.iconst 0, 1) := by decide +kernel
theorem dX12_breach_11 : decode cX12_breach 11 = .ok (.iconst 4, 1) := by decide +kernel
theorem dX12_breach_12 : decode cX12_breach 12 = .ok (.invokestatic 176, 3) := by decide +kernel
theorem dX12_breach_15 : decode cX12_breach 15 = .ok (.ifCond .ne 7, 3) := by decide +kernel
theorem dX12_breach_18 : decode cX12_breach 18 = .ok (.iconst 1, 1) := by decide +kernel
theorem dX12_breach_19 : decode cX12_breach 19 = .ok (.goto 4, 3) := by decide +kernel
theorem dX12_breach_22 : decode cX12_breach 22 = .ok (.iconst 0, 1) := by decide +kernel
theorem dX12_breach_23 : decode cX12_breach 23 = .ok (.iconst 2, 1) := by decide +kernel
theorem dX12_breach_24 : decode cX12_breach 24 = .ok (.invokevirtual 181, 3) := by decide +kernel
theorem dX12_breach_27 : decode cX12_breach 27 = .ok (.ifCond .eq 5, 3) := by decide +kernel
theorem dX12_breach_30 : decode cX12_breach 30 = .ok (.iconst 0, 1) := by decide +kernel
theorem dX12_breach_31 : decode cX12_breach 31 = .ok (.ireturn, 1) := by decide +kernel
theorem dX12_breach_32 : decode cX12_breach 32 = .ok (.iload_n 2, 1) := by decide +kernel
theorem dX12_breach_33 : decode cX12_breach 33 = .ok (.ifCond .ne 12, 3) := by decide +kernel
theorem dX12_breach_36 : decode cX12_breach 36 = .ok (.aload_n 0, 1) := by decide +kernel
theorem dX12_breach_37 : decode cX12_breach 37 = .ok (.getfield 49, 3) := by decide +kernel
theorem dX12_breach_40 : decode cX12_breach 40 = .ok (.iload_n 1, 1) := by decide +kernel
theorem dX12_breach_41 : decode cX12_breach 41 = .ok (.iaload, 1) := by decide +kernel
theorem dX12_breach_42 : decode cX12_breach 42 = .ok (.goto 51, 3) := by decide +kernel
theorem dX12_breach_45 : decode cX12_breach 45 = .ok (.iload_n 2, 1) := by decide +kernel
theorem dX12_breach_46 : decode cX12_breach 46 = .ok (.iconst 1, 1) := by decide +kernel
theorem dX12_breach_47 : decode cX12_breach 47 = .ok (.if_icmp .ne 12, 3) := by decide +kernel
theorem dX12_breach_50 : decode cX12_breach 50 = .ok (.aload_n 0, 1) := by decide +kernel
theorem dX12_breach_51 : decode cX12_breach 51 = .ok (.getfield 52, 3) := by decide +kernel
theorem dX12_breach_54 : decode cX12_breach 54 = .ok (.iload_n 1, 1) := by decide +kernel
theorem dX12_breach_55 : decode cX12_breach 55 = .ok (.iaload, 1) := by decide +kernel
theorem dX12_breach_56 : decode cX12_breach 56 = .ok (.goto 37, 3) := by decide +kernel
theorem dX12_breach_59 : decode cX12_breach 59 = .ok (.iload_n 2, 1) := by decide +kernel
theorem dX12_breach_60 : decode cX12_breach 60 = .ok (.iconst 2, 1) := by decide +kernel
theorem dX12_breach_61 : decode cX12_breach 61 = .ok (.if_icmp .ne 12, 3) := by decide +kernel
theorem dX12_breach_64 : decode cX12_breach 64 = .ok (.aload_n 0, 1) := by decide +kernel
theorem dX12_breach_65 : decode cX12_breach 65 = .ok (.getfield 55, 3) := by decide +kernel
theorem dX12_breach_68 : decode cX12_breach 68 = .ok (.iload_n 1, 1) := by decide +kernel
theorem dX12_breach_69 : decode cX12_breach 69 = .ok (.iaload, 1) := by decide +kernel
theorem dX12_breach_70 : decode cX12_breach 70 = .ok (.goto 23, 3) := by decide +kernel
theorem dX12_breach_73 : decode cX12_breach 73 = .ok (.iload_n 2, 1) := by decide +kernel
theorem dX12_breach_74 : decode cX12_breach 74 = .ok (.iconst 3, 1) := by decide +kernel
theorem dX12_breach_75 : decode cX12_breach 75 = .ok (.if_icmp .ne 12, 3) := by decide +kernel
theorem dX12_breach_78 : decode cX12_breach 78 = .ok (.aload_n 0, 1) := by decide +kernel
theorem dX12_breach_79 : decode cX12_breach 79 = .ok (.getfield 58, 3) := by decide +kernel
theorem dX12_breach_82 : decode cX12_breach 82 = .ok (.iload_n 1, 1) := by decide +kernel
theorem dX12_breach_83 : decode cX12_breach 83 = .ok (.iaload, 1) := by decide +kernel
theorem dX12_breach_84 : decode cX12_breach 84 = .ok (.goto 9, 3) := by decide +kernel
theorem dX12_breach_87 : decode cX12_breach 87 = .ok (.aload_n 0, 1) := by decide +kernel
theorem dX12_breach_88 : decode cX12_breach 88 = .ok (.getfield 61, 3) := by decide +kernel
theorem dX12_breach_91 : decode cX12_breach 91 = .ok (.iload_n 1, 1) := by decide +kernel
theorem dX12_breach_92 : decode cX12_breach 92 = .ok (.iaload, 1) := by decide +kernel
theorem dX12_breach_93 : decode cX12_breach 93 = .ok (.ireturn, 1) := by decide +kernel
theorem dX12_source_0 : decode cX12_source 0 = .ok (.aload_n 0, 1) := by decide +kernel
theorem dX12_source_1 : decode cX12_source 1 = .ok (.iload_n 1, 1) := by decide +kernel
theorem dX12_source_2 : decode cX12_source 2 = .ok (.invokevirtual 188, 3) := by decide +kernel
theorem dX12_source_5 : decode cX12_source 5 = .ok (.ifCond .eq 36, 3) := by decide +kernel
theorem dX12_source_8 : decode cX12_source 8 = .ok (.aload_n 0, 1) := by decide +kernel
theorem dX12_source_9 : decode cX12_source 9 = .ok (.iload_n 2, 1) := by decide +kernel
theorem dX12_source_10 : decode cX12_source 10 = .ok (.iconst 0, 1) := by decide +kernel
theorem dX12_source_11 : decode cX12_source 11 = .ok (.ldc 180, 2) := by decide +kernel
theorem dX12_source_13 : decode cX12_source 13 = .ok (.invokestatic 176, 3) := by decide +kernel
theorem dX12_source_16 : decode cX12_source 16 = .ok (.ifCond .eq 13, 3) := by decide +kernel
theorem dX12_source_19 : decode cX12_source 19 = .ok (.iload_n 3, 1) := by decide +kernel
theorem dX12_source_20 : decode cX12_source 20 = .ok (.iload_n 2, 1) := by decide +kernel
theorem dX12_source_21 : decode cX12_source 21 = .ok (.ldc 180, 2) := by decide +kernel
theorem dX12_source_23 : decode cX12_source 23 = .ok (.invokestatic 176, 3) := by decide +kernel
theorem dX12_source_26 : decode cX12_source 26 = .ok (.ifCond .ne 7, 3) := by decide +kernel
theorem dX12_source_29 : decode cX12_source 29 = .ok (.iconst 1, 1) := by decide +kernel
theorem dX12_source_30 : decode cX12_source 30 = .ok (.goto 4, 3) := by decide +kernel
theorem dX12_source_33 : decode cX12_source 33 = .ok (.iconst 0, 1) := by decide +kernel
theorem dX12_source_34 : decode cX12_source 34 = .ok (.iconst 2, 1) := by decide +kernel
theorem dX12_source_35 : decode cX12_source 35 = .ok (.invokevirtual 181, 3) := by decide +kernel
theorem dX12_source_38 : decode cX12_source 38 = .ok (.ifCond .eq 5, 3) := by decide +kernel
theorem dX12_source_41 : decode cX12_source 41 = .ok (.iconst 0, 1) := by decide +kernel
theorem dX12_source_42 : decode cX12_source 42 = .ok (.ireturn, 1) := by decide +kernel
theorem dX12_source_43 : decode cX12_source 43 = .ok (.aload_n 0, 1) := by decide +kernel
theorem dX12_source_44 : decode cX12_source 44 = .ok (.getfield 134, 3) := by decide +kernel
theorem dX12_source_47 : decode cX12_source 47 = .ok (.iload_n 1, 1) := by decide +kernel
theorem dX12_source_48 : decode cX12_source 48 = .ok (.iaload, 1) := by decide +kernel
theorem dX12_source_49 : decode cX12_source 49 = .ok (.bipush 8, 2) := by decide +kernel
theorem dX12_source_51 : decode cX12_source 51 = .ok (.if_icmp .ne 5, 3) := by decide +kernel
theorem dX12_source_54 : decode cX12_source 54 = .ok (.iconst (-1), 1) := by decide +kernel
theorem dX12_source_55 : decode cX12_source 55 = .ok (.ireturn, 1) := by decide +kernel
theorem dX12_source_56 : decode cX12_source 56 = .ok (.aload_n 0, 1) := by decide +kernel
theorem dX12_source_57 : decode cX12_source 57 = .ok (.getfield 137, 3) := by decide +kernel
theorem dX12_source_60 : decode cX12_source 60 = .ok (.bipush 8, 2) := by decide +kernel
theorem dX12_source_62 : decode cX12_source 62 = .ok (.iload_n 1, 1) := by decide +kernel
theorem dX12_source_63 : decode cX12_source 63 = .ok (.imul, 1) := by decide +kernel
theorem dX12_source_64 : decode cX12_source 64 = .ok (.aload_n 0, 1) := by decide +kernel
theorem dX12_source_65 : decode cX12_source 65 = .ok (.getfield 134, 3) := by decide +kernel
theorem dX12_source_68 : decode cX12_source 68 = .ok (.iload_n 1, 1) := by decide +kernel
theorem dX12_source_69 : decode cX12_source 69 = .ok (.iaload, 1) := by decide +kernel
theorem dX12_source_70 : decode cX12_source 70 = .ok (.iadd, 1) := by decide +kernel
theorem dX12_source_71 : decode cX12_source 71 = .ok (.iload_n 2, 1) := by decide +kernel
theorem dX12_source_72 : decode cX12_source 72 = .ok (.iastore, 1) := by decide +kernel
theorem dX12_source_73 : decode cX12_source 73 = .ok (.aload_n 0, 1) := by decide +kernel
theorem dX12_source_74 : decode cX12_source 74 = .ok (.getfield 140, 3) := by decide +kernel
theorem dX12_source_77 : decode cX12_source 77 = .ok (.bipush 8, 2) := by decide +kernel
theorem dX12_source_79 : decode cX12_source 79 = .ok (.iload_n 1, 1) := by decide +kernel
theorem dX12_source_80 : decode cX12_source 80 = .ok (.imul, 1) := by decide +kernel
theorem dX12_source_81 : decode cX12_source 81 = .ok (.aload_n 0, 1) := by decide +kernel
theorem dX12_source_82 : decode cX12_source 82 = .ok (.getfield 134, 3) := by decide +kernel
theorem dX12_source_85 : decode cX12_source 85 = .ok (.iload_n 1, 1) := by decide +kernel
theorem dX12_source_86 : decode cX12_source 86 = .ok (.iaload, 1) := by decide +kernel
theorem dX12_source_87 : decode cX12_source 87 = .ok (.iadd, 1) := by decide +kernel
theorem dX12_source_88 : decode cX12_source 88 = .ok (.iload_n 3, 1) := by decide +kernel
theorem dX12_source_89 : decode cX12_source 89 = .ok (.iastore, 1) := by decide +kernel
theorem dX12_source_90 : decode cX12_source 90 = .ok (.aload_n 0, 1) := by decide +kernel
theorem dX12_source_91 : decode cX12_source 91 = .ok (.getfield 134, 3) := by decide +kernel
theorem dX12_source_94 : decode cX12_source 94 = .ok (.iload_n 1, 1) := by decide +kernel
theorem dX12_source_95 : decode cX12_source 95 = .ok (.dup2, 1) := by decide +kernel
theorem dX12_source_96 : decode cX12_source 96 = .ok (.iaload, 1) := by decide +kernel
theorem dX12_source_97 : decode cX12_source 97 = .ok (.iconst 1, 1) := by decide +kernel
theorem dX12_source_98 : decode cX12_source 98 = .ok (.iadd, 1) := by decide +kernel
theorem dX12_source_99 : decode cX12_source 99 = .ok (.iastore, 1) := by decide +kernel
theorem dX12_source_100 : decode cX12_source 100 = .ok (.aload_n 0, 1) := by decide +kernel
theorem dX12_source_101 : decode cX12_source 101 = .ok (.getfield 134, 3) := by decide +kernel
theorem dX12_source_104 : decode cX12_source 104 = .ok (.iload_n 1, 1) := by decide +kernel
theorem dX12_source_105 : decode cX12_source 105 = .ok (.iaload, 1) := by decide +kernel
theorem dX12_source_106 : decode cX12_source 106 = .ok (.ireturn, 1) := by decide +kernel
theorem dX12_lies_0 : decode cX12_lies 0 = .ok (.iconst 0, 1) := by decide +kernel
theorem dX12_lies_1 : decode cX12_lies 1 = .ok (.istore_n 3, 1) := by decide +kernel
theorem dX12_lies_2 : decode cX12_lies 2 = .ok (.iconst 0, 1) := by decide +kernel
theorem dX12_lies_3 : decode cX12_lies 3 = .ok (.istore 4, 2) := by decide +kernel
theorem dX12_lies_5 : decode cX12_lies 5 = .ok (.iload 4, 2) := by decide +kernel
theorem dX12_lies_7 : decode cX12_lies 7 = .ok (.aload_n 0, 1) := by decide +kernel
theorem dX12_lies_8 : decode cX12_lies 8 = .ok (.getfield 134, 3) := by decide +kernel
theorem dX12_lies_11 : decode cX12_lies 11 = .ok (.iload_n 1, 1) := by decide +kernel
theorem dX12_lies_12 : decode cX12_lies 12 = .ok (.iaload, 1) := by decide +kernel
theorem dX12_lies_13 : decode cX12_lies 13 = .ok (.if_icmp .ge 51, 3) := by decide +kernel
theorem dX12_lies_16 : decode cX12_lies 16 = .ok (.iload_n 3, 1) := by decide +kernel
theorem dX12_lies_17 : decode cX12_lies 17 = .ok (.iload_n 2, 1) := by decide +kernel
theorem dX12_lies_18 : decode cX12_lies 18 = .ok (.aload_n 0, 1) := by decide +kernel
theorem dX12_lies_19 : decode cX12_lies 19 = .ok (.getfield 137, 3) := by decide +kernel
theorem dX12_lies_22 : decode cX12_lies 22 = .ok (.bipush 8, 2) := by decide +kernel
theorem dX12_lies_24 : decode cX12_lies 24 = .ok (.iload_n 1, 1) := by decide +kernel
theorem dX12_lies_25 : decode cX12_lies 25 = .ok (.imul, 1) := by decide +kernel
theorem dX12_lies_26 : decode cX12_lies 26 = .ok (.iload 4, 2) := by decide +kernel
theorem dX12_lies_28 : decode cX12_lies 28 = .ok (.iadd, 1) := by decide +kernel
theorem dX12_lies_29 : decode cX12_lies 29 = .ok (.iaload, 1) := by decide +kernel
theorem dX12_lies_30 : decode cX12_lies 30 = .ok (.aload_n 0, 1) := by decide +kernel
theorem dX12_lies_31 : decode cX12_lies 31 = .ok (.getfield 140, 3) := by decide +kernel
theorem dX12_lies_34 : decode cX12_lies 34 = .ok (.bipush 8, 2) := by decide +kernel
theorem dX12_lies_36 : decode cX12_lies 36 = .ok (.iload_n 1, 1) := by decide +kernel
theorem dX12_lies_37 : decode cX12_lies 37 = .ok (.imul, 1) := by decide +kernel
theorem dX12_lies_38 : decode cX12_lies 38 = .ok (.iload 4, 2) := by decide +kernel
theorem dX12_lies_40 : decode cX12_lies 40 = .ok (.iadd, 1) := by decide +kernel
theorem dX12_lies_41 : decode cX12_lies 41 = .ok (.iaload, 1) := by decide +kernel
theorem dX12_lies_42 : decode cX12_lies 42 = .ok (.invokestatic 176, 3) := by decide +kernel
theorem dX12_lies_45 : decode cX12_lies 45 = .ok (.ifCond .eq 10, 3) := by decide +kernel
theorem dX12_lies_48 : decode cX12_lies 48 = .ok (.iconst 1, 1) := by decide +kernel
theorem dX12_lies_49 : decode cX12_lies 49 = .ok (.iload 4, 2) := by decide +kernel
theorem dX12_lies_51 : decode cX12_lies 51 = .ok (.ishl, 1) := by decide +kernel
theorem dX12_lies_52 : decode cX12_lies 52 = .ok (.goto 4, 3) := by decide +kernel
theorem dX12_lies_55 : decode cX12_lies 55 = .ok (.iconst 0, 1) := by decide +kernel
theorem dX12_lies_56 : decode cX12_lies 56 = .ok (.ior, 1) := by decide +kernel
theorem dX12_lies_57 : decode cX12_lies 57 = .ok (.istore_n 3, 1) := by decide +kernel
theorem dX12_lies_58 : decode cX12_lies 58 = .ok (.iinc 4 1, 3) := by decide +kernel
theorem dX12_lies_61 : decode cX12_lies 61 = .ok (.goto (-56), 3) := by decide +kernel
theorem dX12_lies_64 : decode cX12_lies 64 = .ok (.iload_n 3, 1) := by decide +kernel
theorem dX12_lies_65 : decode cX12_lies 65 = .ok (.ireturn, 1) := by decide +kernel
theorem dX12_many_0 : decode cX12_many 0 = .ok (.iconst 0, 1) := by decide +kernel
theorem dX12_many_1 : decode cX12_many 1 = .ok (.istore_n 1, 1) := by decide +kernel
theorem dX12_many_2 : decode cX12_many 2 = .ok (.iconst 0, 1) := by decide +kernel
theorem dX12_many_3 : decode cX12_many 3 = .ok (.istore_n 2, 1) := by decide +kernel
theorem dX12_many_4 : decode cX12_many 4 = .ok (.iload_n 2, 1) := by decide +kernel
theorem dX12_many_5 : decode cX12_many 5 = .ok (.bipush 8, 2) := by decide +kernel
theorem dX12_many_7 : decode cX12_many 7 = .ok (.if_icmp .ge 17, 3) := by decide +kernel
theorem dX12_many_10 : decode cX12_many 10 = .ok (.iload_n 1, 1) := by decide +kernel
theorem dX12_many_11 : decode cX12_many 11 = .ok (.iload_n 0, 1) := by decide +kernel
theorem dX12_many_12 : decode cX12_many 12 = .ok (.iload_n 2, 1) := by decide +kernel
theorem dX12_many_13 : decode cX12_many 13 = .ok (.ishr, 1) := by decide +kernel
theorem dX12_many_14 : decode cX12_many 14 = .ok (.iconst 1, 1) := by decide +kernel
theorem dX12_many_15 : decode cX12_many 15 = .ok (.iand, 1) := by decide +kernel
theorem dX12_many_16 : decode cX12_many 16 = .ok (.iadd, 1) := by decide +kernel
theorem dX12_many_17 : decode cX12_many 17 = .ok (.istore_n 1, 1) := by decide +kernel
theorem dX12_many_18 : decode cX12_many 18 = .ok (.iinc 2 1, 3) := by decide +kernel
theorem dX12_many_21 : decode cX12_many 21 = .ok (.goto (-17), 3) := by decide +kernel
theorem dX12_many_24 : decode cX12_many 24 = .ok (.iload_n 1, 1) := by decide +kernel
theorem dX12_many_25 : decode cX12_many 25 = .ok (.ireturn, 1) := by decide +kernel
theorem dX12_borne_0 : decode cX12_borne 0 = .ok (.aload_n 0, 1) := by decide +kernel
theorem dX12_borne_1 : decode cX12_borne 1 = .ok (.iload_n 1, 1) := by decide +kernel
theorem dX12_borne_2 : decode cX12_borne 2 = .ok (.invokevirtual 188, 3) := by decide +kernel
theorem dX12_borne_5 : decode cX12_borne 5 = .ok (.ifCond .eq 25, 3) := by decide +kernel
theorem dX12_borne_8 : decode cX12_borne 8 = .ok (.aload_n 0, 1) := by decide +kernel
theorem dX12_borne_9 : decode cX12_borne 9 = .ok (.iload_n 2, 1) := by decide +kernel
theorem dX12_borne_10 : decode cX12_borne 10 = .ok (.iconst 0, 1) := by decide +kernel
theorem dX12_borne_11 : decode cX12_borne 11 = .ok (.iconst 3, 1) := by decide +kernel
theorem dX12_borne_12 : decode cX12_borne 12 = .ok (.invokestatic 176, 3) := by decide +kernel
theorem dX12_borne_15 : decode cX12_borne 15 = .ok (.ifCond .ne 7, 3) := by decide +kernel
theorem dX12_borne_18 : decode cX12_borne 18 = .ok (.iconst 1, 1) := by decide +kernel
theorem dX12_borne_19 : decode cX12_borne 19 = .ok (.goto 4, 3) := by decide +kernel
theorem dX12_borne_22 : decode cX12_borne 22 = .ok (.iconst 0, 1) := by decide +kernel
theorem dX12_borne_23 : decode cX12_borne 23 = .ok (.iconst 2, 1) := by decide +kernel
theorem dX12_borne_24 : decode cX12_borne 24 = .ok (.invokevirtual 181, 3) := by decide +kernel
theorem dX12_borne_27 : decode cX12_borne 27 = .ok (.ifCond .eq 5, 3) := by decide +kernel
theorem dX12_borne_30 : decode cX12_borne 30 = .ok (.iconst 0, 1) := by decide +kernel
theorem dX12_borne_31 : decode cX12_borne 31 = .ok (.ireturn, 1) := by decide +kernel
theorem dX12_borne_32 : decode cX12_borne 32 = .ok (.aload_n 0, 1) := by decide +kernel
theorem dX12_borne_33 : decode cX12_borne 33 = .ok (.getfield 134, 3) := by decide +kernel
theorem dX12_borne_36 : decode cX12_borne 36 = .ok (.iload_n 1, 1) := by decide +kernel
theorem dX12_borne_37 : decode cX12_borne 37 = .ok (.iaload, 1) := by decide +kernel
theorem dX12_borne_38 : decode cX12_borne 38 = .ok (.ifCond .ne 5, 3) := by decide +kernel
theorem dX12_borne_41 : decode cX12_borne 41 = .ok (.iconst (-1), 1) := by decide +kernel
theorem dX12_borne_42 : decode cX12_borne 42 = .ok (.ireturn, 1) := by decide +kernel
theorem dX12_borne_43 : decode cX12_borne 43 = .ok (.iconst (-1), 1) := by decide +kernel
theorem dX12_borne_44 : decode cX12_borne 44 = .ok (.istore_n 3, 1) := by decide +kernel
theorem dX12_borne_45 : decode cX12_borne 45 = .ok (.iconst 0, 1) := by decide +kernel
theorem dX12_borne_46 : decode cX12_borne 46 = .ok (.istore 4, 2) := by decide +kernel
theorem dX12_borne_48 : decode cX12_borne 48 = .ok (.ldc 180, 2) := by decide +kernel
theorem dX12_borne_50 : decode cX12_borne 50 = .ok (.istore 5, 2) := by decide +kernel
theorem dX12_borne_52 : decode cX12_borne 52 = .ok (.iconst 0, 1) := by decide +kernel
theorem dX12_borne_53 : decode cX12_borne 53 = .ok (.istore 6, 2) := by decide +kernel
theorem dX12_borne_55 : decode cX12_borne 55 = .ok (.iload 6, 2) := by decide +kernel
theorem dX12_borne_57 : decode cX12_borne 57 = .ok (.aload_n 0, 1) := by decide +kernel
theorem dX12_borne_58 : decode cX12_borne 58 = .ok (.getfield 134, 3) := by decide +kernel
theorem dX12_borne_61 : decode cX12_borne 61 = .ok (.iload_n 1, 1) := by decide +kernel
theorem dX12_borne_62 : decode cX12_borne 62 = .ok (.iaload, 1) := by decide +kernel
theorem dX12_borne_63 : decode cX12_borne 63 = .ok (.if_icmp .ge 77, 3) := by decide +kernel
theorem dX12_borne_66 : decode cX12_borne 66 = .ok (.aload_n 0, 1) := by decide +kernel
theorem dX12_borne_67 : decode cX12_borne 67 = .ok (.getfield 137, 3) := by decide +kernel
theorem dX12_borne_70 : decode cX12_borne 70 = .ok (.bipush 8, 2) := by decide +kernel
theorem dX12_borne_72 : decode cX12_borne 72 = .ok (.iload_n 1, 1) := by decide +kernel
theorem dX12_borne_73 : decode cX12_borne 73 = .ok (.imul, 1) := by decide +kernel
theorem dX12_borne_74 : decode cX12_borne 74 = .ok (.iload 6, 2) := by decide +kernel
theorem dX12_borne_76 : decode cX12_borne 76 = .ok (.iadd, 1) := by decide +kernel
theorem dX12_borne_77 : decode cX12_borne 77 = .ok (.iaload, 1) := by decide +kernel
theorem dX12_borne_78 : decode cX12_borne 78 = .ok (.istore 7, 2) := by decide +kernel
theorem dX12_borne_80 : decode cX12_borne 80 = .ok (.aload_n 0, 1) := by decide +kernel
theorem dX12_borne_81 : decode cX12_borne 81 = .ok (.iload_n 1, 1) := by decide +kernel
theorem dX12_borne_82 : decode cX12_borne 82 = .ok (.iload 7, 2) := by decide +kernel
theorem dX12_borne_84 : decode cX12_borne 84 = .ok (.invokevirtual 471, 3) := by decide +kernel
theorem dX12_borne_87 : decode cX12_borne 87 = .ok (.istore 8, 2) := by decide +kernel
theorem dX12_borne_89 : decode cX12_borne 89 = .ok (.iload_n 3, 1) := by decide +kernel
theorem dX12_borne_90 : decode cX12_borne 90 = .ok (.ifCond .lt 37, 3) := by decide +kernel
theorem dX12_borne_93 : decode cX12_borne 93 = .ok (.iload 8, 2) := by decide +kernel
theorem dX12_borne_95 : decode cX12_borne 95 = .ok (.invokestatic 474, 3) := by decide +kernel
theorem dX12_borne_98 : decode cX12_borne 98 = .ok (.iload_n 3, 1) := by decide +kernel
theorem dX12_borne_99 : decode cX12_borne 99 = .ok (.invokestatic 474, 3) := by decide +kernel
theorem dX12_borne_102 : decode cX12_borne 102 = .ok (.if_icmp .lt 32, 3) := by decide +kernel
theorem dX12_borne_105 : decode cX12_borne 105 = .ok (.iload 8, 2) := by decide +kernel
theorem dX12_borne_107 : decode cX12_borne 107 = .ok (.invokestatic 474, 3) := by decide +kernel
theorem dX12_borne_110 : decode cX12_borne 110 = .ok (.iload_n 3, 1) := by decide +kernel
theorem dX12_borne_111 : decode cX12_borne 111 = .ok (.invokestatic 474, 3) := by decide +kernel
theorem dX12_borne_114 : decode cX12_borne 114 = .ok (.if_icmp .ne 13, 3) := by decide +kernel
theorem dX12_borne_117 : decode cX12_borne 117 = .ok (.iload 7, 2) := by decide +kernel
theorem dX12_borne_119 : decode cX12_borne 119 = .ok (.iload 4, 2) := by decide +kernel
theorem dX12_borne_121 : decode cX12_borne 121 = .ok (.if_icmp .lt 6, 3) := by decide +kernel
theorem dX12_borne_124 : decode cX12_borne 124 = .ok (.goto 10, 3) := by decide +kernel
theorem dX12_borne_127 : decode cX12_borne 127 = .ok (.iload 8, 2) := by decide +kernel
theorem dX12_borne_129 : decode cX12_borne 129 = .ok (.istore_n 3, 1) := by decide +kernel
theorem dX12_borne_130 : decode cX12_borne 130 = .ok (.iload 7, 2) := by decide +kernel
theorem dX12_borne_132 : decode cX12_borne 132 = .ok (.istore 4, 2) := by decide +kernel
theorem dX12_borne_134 : decode cX12_borne 134 = .ok (.iinc 6 1, 3) := by decide +kernel
theorem dX12_borne_137 : decode cX12_borne 137 = .ok (.goto (-82), 3) := by decide +kernel
theorem dX12_borne_140 : decode cX12_borne 140 = .ok (.iconst 0, 1) := by decide +kernel
theorem dX12_borne_141 : decode cX12_borne 141 = .ok (.istore 6, 2) := by decide +kernel
theorem dX12_borne_143 : decode cX12_borne 143 = .ok (.iload 6, 2) := by decide +kernel
theorem dX12_borne_145 : decode cX12_borne 145 = .ok (.aload_n 0, 1) := by decide +kernel
theorem dX12_borne_146 : decode cX12_borne 146 = .ok (.getfield 134, 3) := by decide +kernel
theorem dX12_borne_149 : decode cX12_borne 149 = .ok (.iload_n 1, 1) := by decide +kernel
theorem dX12_borne_150 : decode cX12_borne 150 = .ok (.iaload, 1) := by decide +kernel
theorem dX12_borne_151 : decode cX12_borne 151 = .ok (.if_icmp .ge 38, 3) := by decide +kernel
theorem dX12_borne_154 : decode cX12_borne 154 = .ok (.iload_n 3, 1) := by decide +kernel
theorem dX12_borne_155 : decode cX12_borne 155 = .ok (.iload 6, 2) := by decide +kernel
theorem dX12_borne_157 : decode cX12_borne 157 = .ok (.ishr, 1) := by decide +kernel
theorem dX12_borne_158 : decode cX12_borne 158 = .ok (.iconst 1, 1) := by decide +kernel
theorem dX12_borne_159 : decode cX12_borne 159 = .ok (.iand, 1) := by decide +kernel
theorem dX12_borne_160 : decode cX12_borne 160 = .ok (.iconst 1, 1) := by decide +kernel
theorem dX12_borne_161 : decode cX12_borne 161 = .ok (.if_icmp .ne 22, 3) := by decide +kernel
theorem dX12_borne_164 : decode cX12_borne 164 = .ok (.iload 5, 2) := by decide +kernel
theorem dX12_borne_166 : decode cX12_borne 166 = .ok (.aload_n 0, 1) := by decide +kernel
theorem dX12_borne_167 : decode cX12_borne 167 = .ok (.getfield 140, 3) := by decide +kernel
theorem dX12_borne_170 : decode cX12_borne 170 = .ok (.bipush 8, 2) := by decide +kernel
theorem dX12_borne_172 : decode cX12_borne 172 = .ok (.iload_n 1, 1) := by decide +kernel
theorem dX12_borne_173 : decode cX12_borne 173 = .ok (.imul, 1) := by decide +kernel
theorem dX12_borne_174 : decode cX12_borne 174 = .ok (.iload 6, 2) := by decide +kernel
theorem dX12_borne_176 : decode cX12_borne 176 = .ok (.iadd, 1) := by decide +kernel
theorem dX12_borne_177 : decode cX12_borne 177 = .ok (.iaload, 1) := by decide +kernel
theorem dX12_borne_178 : decode cX12_borne 178 = .ok (.invokestatic 421, 3) := by decide +kernel
theorem dX12_borne_181 : decode cX12_borne 181 = .ok (.istore 5, 2) := by decide +kernel
theorem dX12_borne_183 : decode cX12_borne 183 = .ok (.iinc 6 1, 3) := by decide +kernel
theorem dX12_borne_186 : decode cX12_borne 186 = .ok (.goto (-43), 3) := by decide +kernel
theorem dX12_borne_189 : decode cX12_borne 189 = .ok (.iload_n 2, 1) := by decide +kernel
theorem dX12_borne_190 : decode cX12_borne 190 = .ok (.ifCond .ne 8, 3) := by decide +kernel
theorem dX12_borne_193 : decode cX12_borne 193 = .ok (.iload 4, 2) := by decide +kernel
theorem dX12_borne_195 : decode cX12_borne 195 = .ok (.goto 39, 3) := by decide +kernel
theorem dX12_borne_198 : decode cX12_borne 198 = .ok (.iload_n 2, 1) := by decide +kernel
theorem dX12_borne_199 : decode cX12_borne 199 = .ok (.iconst 1, 1) := by decide +kernel
theorem dX12_borne_200 : decode cX12_borne 200 = .ok (.if_icmp .ne 8, 3) := by decide +kernel
theorem dX12_borne_203 : decode cX12_borne 203 = .ok (.iload 5, 2) := by decide +kernel
theorem dX12_borne_205 : decode cX12_borne 205 = .ok (.goto 29, 3) := by decide +kernel
theorem dX12_borne_208 : decode cX12_borne 208 = .ok (.iload_n 2, 1) := by decide +kernel
theorem dX12_borne_209 : decode cX12_borne 209 = .ok (.iconst 2, 1) := by decide +kernel
theorem dX12_borne_210 : decode cX12_borne 210 = .ok (.if_icmp .ne 10, 3) := by decide +kernel
theorem dX12_borne_213 : decode cX12_borne 213 = .ok (.iload_n 3, 1) := by decide +kernel
theorem dX12_borne_214 : decode cX12_borne 214 = .ok (.invokestatic 474, 3) := by decide +kernel
theorem dX12_borne_217 : decode cX12_borne 217 = .ok (.goto 17, 3) := by decide +kernel
theorem dX12_borne_220 : decode cX12_borne 220 = .ok (.iconst 1, 1) := by decide +kernel
theorem dX12_borne_221 : decode cX12_borne 221 = .ok (.aload_n 0, 1) := by decide +kernel
theorem dX12_borne_222 : decode cX12_borne 222 = .ok (.getfield 134, 3) := by decide +kernel
theorem dX12_borne_225 : decode cX12_borne 225 = .ok (.iload_n 1, 1) := by decide +kernel
theorem dX12_borne_226 : decode cX12_borne 226 = .ok (.iaload, 1) := by decide +kernel
theorem dX12_borne_227 : decode cX12_borne 227 = .ok (.ishl, 1) := by decide +kernel
theorem dX12_borne_228 : decode cX12_borne 228 = .ok (.iconst 1, 1) := by decide +kernel
theorem dX12_borne_229 : decode cX12_borne 229 = .ok (.isub, 1) := by decide +kernel
theorem dX12_borne_230 : decode cX12_borne 230 = .ok (.iload_n 3, 1) := by decide +kernel
theorem dX12_borne_231 : decode cX12_borne 231 = .ok (.iconst (-1), 1) := by decide +kernel
theorem dX12_borne_232 : decode cX12_borne 232 = .ok (.ixor, 1) := by decide +kernel
theorem dX12_borne_233 : decode cX12_borne 233 = .ok (.iand, 1) := by decide +kernel
theorem dX12_borne_234 : decode cX12_borne 234 = .ok (.ireturn, 1) := by decide +kernel
theorem dX12_appeal_0 : decode cX12_appeal 0 = .ok (.aload_n 0, 1) := by decide +kernel
theorem dX12_appeal_1 : decode cX12_appeal 1 = .ok (.iload_n 1, 1) := by decide +kernel
theorem dX12_appeal_2 : decode cX12_appeal 2 = .ok (.invokevirtual 188, 3) := by decide +kernel
theorem dX12_appeal_5 : decode cX12_appeal 5 = .ok (.ifCond .eq 26, 3) := by decide +kernel
theorem dX12_appeal_8 : decode cX12_appeal 8 = .ok (.aload_n 0, 1) := by decide +kernel
theorem dX12_appeal_9 : decode cX12_appeal 9 = .ok (.iload_n 2, 1) := by decide +kernel
theorem dX12_appeal_10 : decode cX12_appeal 10 = .ok (.iconst 0, 1) := by decide +kernel
theorem dX12_appeal_11 : decode cX12_appeal 11 = .ok (.ldc 180, 2) := by decide +kernel
theorem dX12_appeal_13 : decode cX12_appeal 13 = .ok (.invokestatic 176, 3) := by decide +kernel
theorem dX12_appeal_16 : decode cX12_appeal 16 = .ok (.ifCond .ne 7, 3) := by decide +kernel
theorem dX12_appeal_19 : decode cX12_appeal 19 = .ok (.iconst 1, 1) := by decide +kernel
theorem dX12_appeal_20 : decode cX12_appeal 20 = .ok (.goto 4, 3) := by decide +kernel
theorem dX12_appeal_23 : decode cX12_appeal 23 = .ok (.iconst 0, 1) := by decide +kernel
theorem dX12_appeal_24 : decode cX12_appeal 24 = .ok (.iconst 2, 1) := by decide +kernel
theorem dX12_appeal_25 : decode cX12_appeal 25 = .ok (.invokevirtual 181, 3) := by decide +kernel
theorem dX12_appeal_28 : decode cX12_appeal 28 = .ok (.ifCond .eq 5, 3) := by decide +kernel
theorem dX12_appeal_31 : decode cX12_appeal 31 = .ok (.iconst 0, 1) := by decide +kernel
theorem dX12_appeal_32 : decode cX12_appeal 32 = .ok (.ireturn, 1) := by decide +kernel
theorem dX12_appeal_33 : decode cX12_appeal 33 = .ok (.aload_n 0, 1) := by decide +kernel
theorem dX12_appeal_34 : decode cX12_appeal 34 = .ok (.getfield 446, 3) := by decide +kernel
theorem dX12_appeal_37 : decode cX12_appeal 37 = .ok (.bipush 20, 2) := by decide +kernel
theorem dX12_appeal_39 : decode cX12_appeal 39 = .ok (.if_icmp .ne 5, 3) := by decide +kernel
theorem dX12_appeal_42 : decode cX12_appeal 42 = .ok (.iconst (-1), 1) := by decide +kernel
theorem dX12_appeal_43 : decode cX12_appeal 43 = .ok (.ireturn, 1) := by decide +kernel
theorem dX12_appeal_44 : decode cX12_appeal 44 = .ok (.aload_n 0, 1) := by decide +kernel
theorem dX12_appeal_45 : decode cX12_appeal 45 = .ok (.getfield 37, 3) := by decide +kernel
theorem dX12_appeal_48 : decode cX12_appeal 48 = .ok (.iload_n 1, 1) := by decide +kernel
theorem dX12_appeal_49 : decode cX12_appeal 49 = .ok (.iaload, 1) := by decide +kernel
theorem dX12_appeal_50 : decode cX12_appeal 50 = .ok (.iconst 1, 1) := by decide +kernel
theorem dX12_appeal_51 : decode cX12_appeal 51 = .ok (.if_icmp .eq 6, 3) := by decide +kernel
theorem dX12_appeal_54 : decode cX12_appeal 54 = .ok (.bipush (-2), 2) := by decide +kernel
theorem dX12_appeal_56 : decode cX12_appeal 56 = .ok (.ireturn, 1) := by decide +kernel
theorem dX12_appeal_57 : decode cX12_appeal 57 = .ok (.aload_n 0, 1) := by decide +kernel
theorem dX12_appeal_58 : decode cX12_appeal 58 = .ok (.getfield 143, 3) := by decide +kernel
theorem dX12_appeal_61 : decode cX12_appeal 61 = .ok (.aload_n 0, 1) := by decide +kernel
theorem dX12_appeal_62 : decode cX12_appeal 62 = .ok (.getfield 446, 3) := by decide +kernel
theorem dX12_appeal_65 : decode cX12_appeal 65 = .ok (.iload_n 1, 1) := by decide +kernel
theorem dX12_appeal_66 : decode cX12_appeal 66 = .ok (.iastore, 1) := by decide +kernel
theorem dX12_appeal_67 : decode cX12_appeal 67 = .ok (.aload_n 0, 1) := by decide +kernel
theorem dX12_appeal_68 : decode cX12_appeal 68 = .ok (.getfield 146, 3) := by decide +kernel
theorem dX12_appeal_71 : decode cX12_appeal 71 = .ok (.aload_n 0, 1) := by decide +kernel
theorem dX12_appeal_72 : decode cX12_appeal 72 = .ok (.getfield 446, 3) := by decide +kernel
theorem dX12_appeal_75 : decode cX12_appeal 75 = .ok (.iload_n 2, 1) := by decide +kernel
theorem dX12_appeal_76 : decode cX12_appeal 76 = .ok (.iastore, 1) := by decide +kernel
theorem dX12_appeal_77 : decode cX12_appeal 77 = .ok (.aload_n 0, 1) := by decide +kernel
theorem dX12_appeal_78 : decode cX12_appeal 78 = .ok (.getfield 149, 3) := by decide +kernel
theorem dX12_appeal_81 : decode cX12_appeal 81 = .ok (.aload_n 0, 1) := by decide +kernel
theorem dX12_appeal_82 : decode cX12_appeal 82 = .ok (.getfield 446, 3) := by decide +kernel
theorem dX12_appeal_85 : decode cX12_appeal 85 = .ok (.aload_n 0, 1) := by decide +kernel
theorem dX12_appeal_86 : decode cX12_appeal 86 = .ok (.getfield 13, 3) := by decide +kernel
theorem dX12_appeal_89 : decode cX12_appeal 89 = .ok (.iload_n 1, 1) := by decide +kernel
theorem dX12_appeal_90 : decode cX12_appeal 90 = .ok (.iaload, 1) := by decide +kernel
theorem dX12_appeal_91 : decode cX12_appeal 91 = .ok (.iastore, 1) := by decide +kernel
theorem dX12_appeal_92 : decode cX12_appeal 92 = .ok (.aload_n 0, 1) := by decide +kernel
theorem dX12_appeal_93 : decode cX12_appeal 93 = .ok (.getfield 152, 3) := by decide +kernel
theorem dX12_appeal_96 : decode cX12_appeal 96 = .ok (.aload_n 0, 1) := by decide +kernel
theorem dX12_appeal_97 : decode cX12_appeal 97 = .ok (.getfield 446, 3) := by decide +kernel
theorem dX12_appeal_100 : decode cX12_appeal 100 = .ok (.aload_n 0, 1) := by decide +kernel
theorem dX12_appeal_101 : decode cX12_appeal 101 = .ok (.getfield 16, 3) := by decide +kernel
theorem dX12_appeal_104 : decode cX12_appeal 104 = .ok (.iload_n 1, 1) := by decide +kernel
theorem dX12_appeal_105 : decode cX12_appeal 105 = .ok (.iaload, 1) := by decide +kernel
theorem dX12_appeal_106 : decode cX12_appeal 106 = .ok (.iastore, 1) := by decide +kernel
theorem dX12_appeal_107 : decode cX12_appeal 107 = .ok (.aload_n 0, 1) := by decide +kernel
theorem dX12_appeal_108 : decode cX12_appeal 108 = .ok (.getfield 155, 3) := by decide +kernel
theorem dX12_appeal_111 : decode cX12_appeal 111 = .ok (.aload_n 0, 1) := by decide +kernel
theorem dX12_appeal_112 : decode cX12_appeal 112 = .ok (.getfield 446, 3) := by decide +kernel
theorem dX12_appeal_115 : decode cX12_appeal 115 = .ok (.aload_n 0, 1) := by decide +kernel
theorem dX12_appeal_116 : decode cX12_appeal 116 = .ok (.getfield 9, 3) := by decide +kernel
theorem dX12_appeal_119 : decode cX12_appeal 119 = .ok (.iload_n 1, 1) := by decide +kernel
theorem dX12_appeal_120 : decode cX12_appeal 120 = .ok (.iaload, 1) := by decide +kernel
theorem dX12_appeal_121 : decode cX12_appeal 121 = .ok (.iastore, 1) := by decide +kernel
theorem dX12_appeal_122 : decode cX12_appeal 122 = .ok (.aload_n 0, 1) := by decide +kernel
theorem dX12_appeal_123 : decode cX12_appeal 123 = .ok (.getfield 158, 3) := by decide +kernel
theorem dX12_appeal_126 : decode cX12_appeal 126 = .ok (.aload_n 0, 1) := by decide +kernel
theorem dX12_appeal_127 : decode cX12_appeal 127 = .ok (.getfield 446, 3) := by decide +kernel
theorem dX12_appeal_130 : decode cX12_appeal 130 = .ok (.iconst (-1), 1) := by decide +kernel
theorem dX12_appeal_131 : decode cX12_appeal 131 = .ok (.iastore, 1) := by decide +kernel
theorem dX12_appeal_132 : decode cX12_appeal 132 = .ok (.aload_n 0, 1) := by decide +kernel
theorem dX12_appeal_133 : decode cX12_appeal 133 = .ok (.dup, 1) := by decide +kernel
theorem dX12_appeal_134 : decode cX12_appeal 134 = .ok (.getfield 446, 3) := by decide +kernel
theorem dX12_appeal_137 : decode cX12_appeal 137 = .ok (.iconst 1, 1) := by decide +kernel
theorem dX12_appeal_138 : decode cX12_appeal 138 = .ok (.iadd, 1) := by decide +kernel
theorem dX12_appeal_139 : decode cX12_appeal 139 = .ok (.putfield 446, 3) := by decide +kernel
theorem dX12_appeal_142 : decode cX12_appeal 142 = .ok (.aload_n 0, 1) := by decide +kernel
theorem dX12_appeal_143 : decode cX12_appeal 143 = .ok (.getfield 446, 3) := by decide +kernel
theorem dX12_appeal_146 : decode cX12_appeal 146 = .ok (.iconst 1, 1) := by decide +kernel
theorem dX12_appeal_147 : decode cX12_appeal 147 = .ok (.isub, 1) := by decide +kernel
theorem dX12_appeal_148 : decode cX12_appeal 148 = .ok (.ireturn, 1) := by decide +kernel
theorem dX12_far_0 : decode cX12_far 0 = .ok (.iload_n 0, 1) := by decide +kernel
theorem dX12_far_1 : decode cX12_far 1 = .ok (.iload_n 1, 1) := by decide +kernel
theorem dX12_far_2 : decode cX12_far 2 = .ok (.if_icmp .ge 9, 3) := by decide +kernel
theorem dX12_far_5 : decode cX12_far 5 = .ok (.iload_n 1, 1) := by decide +kernel
theorem dX12_far_6 : decode cX12_far 6 = .ok (.iload_n 0, 1) := by decide +kernel
theorem dX12_far_7 : decode cX12_far 7 = .ok (.isub, 1) := by decide +kernel
theorem dX12_far_8 : decode cX12_far 8 = .ok (.goto 6, 3) := by decide +kernel
theorem dX12_far_11 : decode cX12_far 11 = .ok (.iload_n 0, 1) := by decide +kernel
theorem dX12_far_12 : decode cX12_far 12 = .ok (.iload_n 1, 1) := by decide +kernel
theorem dX12_far_13 : decode cX12_far 13 = .ok (.isub, 1) := by decide +kernel
theorem dX12_far_14 : decode cX12_far 14 = .ok (.ireturn, 1) := by decide +kernel
theorem dX12_apartOf_0 : decode cX12_apartOf 0 = .ok (.aload_n 0, 1) := by decide +kernel
theorem dX12_apartOf_1 : decode cX12_apartOf 1 = .ok (.getfield 149, 3) := by decide +kernel
theorem dX12_apartOf_4 : decode cX12_apartOf 4 = .ok (.iload_n 1, 1) := by decide +kernel
theorem dX12_apartOf_5 : decode cX12_apartOf 5 = .ok (.iaload, 1) := by decide +kernel
theorem dX12_apartOf_6 : decode cX12_apartOf 6 = .ok (.aload_n 0, 1) := by decide +kernel
theorem dX12_apartOf_7 : decode cX12_apartOf 7 = .ok (.getfield 149, 3) := by decide +kernel
theorem dX12_apartOf_10 : decode cX12_apartOf 10 = .ok (.iload_n 2, 1) := by decide +kernel
theorem dX12_apartOf_11 : decode cX12_apartOf 11 = .ok (.iaload, 1) := by decide +kernel
theorem dX12_apartOf_12 : decode cX12_apartOf 12 = .ok (.invokestatic 477, 3) := by decide +kernel
theorem dX12_apartOf_15 : decode cX12_apartOf 15 = .ok (.bipush 100, 2) := by decide +kernel
theorem dX12_apartOf_17 : decode cX12_apartOf 17 = .ok (.aload_n 0, 1) := by decide +kernel
theorem dX12_apartOf_18 : decode cX12_apartOf 18 = .ok (.getfield 152, 3) := by decide +kernel
theorem dX12_apartOf_21 : decode cX12_apartOf 21 = .ok (.iload_n 1, 1) := by decide +kernel
theorem dX12_apartOf_22 : decode cX12_apartOf 22 = .ok (.iaload, 1) := by decide +kernel
theorem dX12_apartOf_23 : decode cX12_apartOf 23 = .ok (.aload_n 0, 1) := by decide +kernel
theorem dX12_apartOf_24 : decode cX12_apartOf 24 = .ok (.getfield 152, 3) := by decide +kernel
theorem dX12_apartOf_27 : decode cX12_apartOf 27 = .ok (.iload_n 2, 1) := by decide +kernel
theorem dX12_apartOf_28 : decode cX12_apartOf 28 = .ok (.iaload, 1) := by decide +kernel
theorem dX12_apartOf_29 : decode cX12_apartOf 29 = .ok (.invokestatic 477, 3) := by decide +kernel
theorem dX12_apartOf_32 : decode cX12_apartOf 32 = .ok (.imul, 1) := by decide +kernel
theorem dX12_apartOf_33 : decode cX12_apartOf 33 = .ok (.iadd, 1) := by decide +kernel
theorem dX12_apartOf_34 : decode cX12_apartOf 34 = .ok (.aload_n 0, 1) := by decide +kernel
theorem dX12_apartOf_35 : decode cX12_apartOf 35 = .ok (.getfield 155, 3) := by decide +kernel
theorem dX12_apartOf_38 : decode cX12_apartOf 38 = .ok (.iload_n 1, 1) := by decide +kernel
theorem dX12_apartOf_39 : decode cX12_apartOf 39 = .ok (.iaload, 1) := by decide +kernel
theorem dX12_apartOf_40 : decode cX12_apartOf 40 = .ok (.aload_n 0, 1) := by decide +kernel
theorem dX12_apartOf_41 : decode cX12_apartOf 41 = .ok (.getfield 155, 3) := by decide +kernel
theorem dX12_apartOf_44 : decode cX12_apartOf 44 = .ok (.iload_n 2, 1) := by decide +kernel
theorem dX12_apartOf_45 : decode cX12_apartOf 45 = .ok (.iaload, 1) := by decide +kernel
theorem dX12_apartOf_46 : decode cX12_apartOf 46 = .ok (.if_icmp .ne 7, 3) := by decide +kernel
theorem dX12_apartOf_49 : decode cX12_apartOf 49 = .ok (.iconst 0, 1) := by decide +kernel
theorem dX12_apartOf_50 : decode cX12_apartOf 50 = .ok (.goto 6, 3) := by decide +kernel
theorem dX12_apartOf_53 : decode cX12_apartOf 53 = .ok (.sipush 10000, 3) := by decide +kernel
theorem dX12_apartOf_56 : decode cX12_apartOf 56 = .ok (.iadd, 1) := by decide +kernel
theorem dX12_apartOf_57 : decode cX12_apartOf 57 = .ok (.ireturn, 1) := by decide +kernel
theorem dX12_isAppeal_0 : decode cX12_isAppeal 0 = .ok (.iload_n 1, 1) := by decide +kernel
theorem dX12_isAppeal_1 : decode cX12_isAppeal 1 = .ok (.iconst 0, 1) := by decide +kernel
theorem dX12_isAppeal_2 : decode cX12_isAppeal 2 = .ok (.aload_n 0, 1) := by decide +kernel
theorem dX12_isAppeal_3 : decode cX12_isAppeal 3 = .ok (.getfield 446, 3) := by decide +kernel
theorem dX12_isAppeal_6 : decode cX12_isAppeal 6 = .ok (.iconst 1, 1) := by decide +kernel
theorem dX12_isAppeal_7 : decode cX12_isAppeal 7 = .ok (.isub, 1) := by decide +kernel
theorem dX12_isAppeal_8 : decode cX12_isAppeal 8 = .ok (.invokestatic 176, 3) := by decide +kernel
theorem dX12_isAppeal_11 : decode cX12_isAppeal 11 = .ok (.ireturn, 1) := by decide +kernel
theorem dX12_alike_0 : decode cX12_alike 0 = .ok (.aload_n 0, 1) := by decide +kernel
theorem dX12_alike_1 : decode cX12_alike 1 = .ok (.iconst 0, 1) := by decide +kernel
theorem dX12_alike_2 : decode cX12_alike 2 = .ok (.putfield 173, 3) := by decide +kernel
theorem dX12_alike_5 : decode cX12_alike 5 = .ok (.aload_n 0, 1) := by decide +kernel
theorem dX12_alike_6 : decode cX12_alike 6 = .ok (.aload_n 0, 1) := by decide +kernel
theorem dX12_alike_7 : decode cX12_alike 7 = .ok (.iload_n 1, 1) := by decide +kernel
theorem dX12_alike_8 : decode cX12_alike 8 = .ok (.invokevirtual 480, 3) := by decide +kernel
theorem dX12_alike_11 : decode cX12_alike 11 = .ok (.ifCond .ne 7, 3) := by decide +kernel
theorem dX12_alike_14 : decode cX12_alike 14 = .ok (.iconst 1, 1) := by decide +kernel
theorem dX12_alike_15 : decode cX12_alike 15 = .ok (.goto 4, 3) := by decide +kernel
theorem dX12_alike_18 : decode cX12_alike 18 = .ok (.iconst 0, 1) := by decide +kernel
theorem dX12_alike_19 : decode cX12_alike 19 = .ok (.iconst 1, 1) := by decide +kernel
theorem dX12_alike_20 : decode cX12_alike 20 = .ok (.invokevirtual 181, 3) := by decide +kernel
theorem dX12_alike_23 : decode cX12_alike 23 = .ok (.ifCond .eq 5, 3) := by decide +kernel
theorem dX12_alike_26 : decode cX12_alike 26 = .ok (.iconst 0, 1) := by decide +kernel
theorem dX12_alike_27 : decode cX12_alike 27 = .ok (.ireturn, 1) := by decide +kernel
theorem dX12_alike_28 : decode cX12_alike 28 = .ok (.iconst (-1), 1) := by decide +kernel
theorem dX12_alike_29 : decode cX12_alike 29 = .ok (.istore_n 2, 1) := by decide +kernel
theorem dX12_alike_30 : decode cX12_alike 30 = .ok (.iconst 0, 1) := by decide +kernel
theorem dX12_alike_31 : decode cX12_alike 31 = .ok (.istore_n 3, 1) := by decide +kernel
theorem dX12_alike_32 : decode cX12_alike 32 = .ok (.iload_n 3, 1) := by decide +kernel
theorem dX12_alike_33 : decode cX12_alike 33 = .ok (.iload_n 1, 1) := by decide +kernel
theorem dX12_alike_34 : decode cX12_alike 34 = .ok (.if_icmp .ge 39, 3) := by decide +kernel
theorem dX12_alike_37 : decode cX12_alike 37 = .ok (.aload_n 0, 1) := by decide +kernel
theorem dX12_alike_38 : decode cX12_alike 38 = .ok (.getfield 158, 3) := by decide +kernel
theorem dX12_alike_41 : decode cX12_alike 41 = .ok (.iload_n 3, 1) := by decide +kernel
theorem dX12_alike_42 : decode cX12_alike 42 = .ok (.iaload, 1) := by decide +kernel
theorem dX12_alike_43 : decode cX12_alike 43 = .ok (.ifCond .lt 24, 3) := by decide +kernel
theorem dX12_alike_46 : decode cX12_alike 46 = .ok (.iload_n 2, 1) := by decide +kernel
theorem dX12_alike_47 : decode cX12_alike 47 = .ok (.ifCond .lt 18, 3) := by decide +kernel
theorem dX12_alike_50 : decode cX12_alike 50 = .ok (.aload_n 0, 1) := by decide +kernel
theorem dX12_alike_51 : decode cX12_alike 51 = .ok (.iload_n 3, 1) := by decide +kernel
theorem dX12_alike_52 : decode cX12_alike 52 = .ok (.iload_n 1, 1) := by decide +kernel
theorem dX12_alike_53 : decode cX12_alike 53 = .ok (.invokevirtual 483, 3) := by decide +kernel
theorem dX12_alike_56 : decode cX12_alike 56 = .ok (.aload_n 0, 1) := by decide +kernel
theorem dX12_alike_57 : decode cX12_alike 57 = .ok (.iload_n 2, 1) := by decide +kernel
theorem dX12_alike_58 : decode cX12_alike 58 = .ok (.iload_n 1, 1) := by decide +kernel
theorem dX12_alike_59 : decode cX12_alike 59 = .ok (.invokevirtual 483, 3) := by decide +kernel
theorem dX12_alike_62 : decode cX12_alike 62 = .ok (.if_icmp .gt 5, 3) := by decide +kernel
theorem dX12_alike_65 : decode cX12_alike 65 = .ok (.iload_n 3, 1) := by decide +kernel
theorem dX12_alike_66 : decode cX12_alike 66 = .ok (.istore_n 2, 1) := by decide +kernel
theorem dX12_alike_67 : decode cX12_alike 67 = .ok (.iinc 3 1, 3) := by decide +kernel
theorem dX12_alike_70 : decode cX12_alike 70 = .ok (.goto (-38), 3) := by decide +kernel
theorem dX12_alike_73 : decode cX12_alike 73 = .ok (.iload_n 2, 1) := by decide +kernel
theorem dX12_alike_74 : decode cX12_alike 74 = .ok (.ireturn, 1) := by decide +kernel
theorem dX12_apart_0 : decode cX12_apart 0 = .ok (.aload_n 0, 1) := by decide +kernel
theorem dX12_apart_1 : decode cX12_apart 1 = .ok (.iconst 0, 1) := by decide +kernel
theorem dX12_apart_2 : decode cX12_apart 2 = .ok (.putfield 173, 3) := by decide +kernel
theorem dX12_apart_5 : decode cX12_apart 5 = .ok (.aload_n 0, 1) := by decide +kernel
theorem dX12_apart_6 : decode cX12_apart 6 = .ok (.aload_n 0, 1) := by decide +kernel
theorem dX12_apart_7 : decode cX12_apart 7 = .ok (.iload_n 1, 1) := by decide +kernel
theorem dX12_apart_8 : decode cX12_apart 8 = .ok (.invokevirtual 480, 3) := by decide +kernel
theorem dX12_apart_11 : decode cX12_apart 11 = .ok (.ifCond .eq 11, 3) := by decide +kernel
theorem dX12_apart_14 : decode cX12_apart 14 = .ok (.aload_n 0, 1) := by decide +kernel
theorem dX12_apart_15 : decode cX12_apart 15 = .ok (.iload_n 2, 1) := by decide +kernel
theorem dX12_apart_16 : decode cX12_apart 16 = .ok (.invokevirtual 480, 3) := by decide +kernel
theorem dX12_apart_19 : decode cX12_apart 19 = .ok (.ifCond .ne 7, 3) := by decide +kernel
theorem dX12_apart_22 : decode cX12_apart 22 = .ok (.iconst 1, 1) := by decide +kernel
theorem dX12_apart_23 : decode cX12_apart 23 = .ok (.goto 4, 3) := by decide +kernel
theorem dX12_apart_26 : decode cX12_apart 26 = .ok (.iconst 0, 1) := by decide +kernel
theorem dX12_apart_27 : decode cX12_apart 27 = .ok (.iconst 1, 1) := by decide +kernel
theorem dX12_apart_28 : decode cX12_apart 28 = .ok (.invokevirtual 181, 3) := by decide +kernel
theorem dX12_apart_31 : decode cX12_apart 31 = .ok (.ifCond .eq 7, 3) := by decide +kernel
theorem dX12_apart_34 : decode cX12_apart 34 = .ok (.iconst 0, 1) := by decide +kernel
theorem dX12_apart_35 : decode cX12_apart 35 = .ok (.goto 9, 3) := by decide +kernel
theorem dX12_apart_38 : decode cX12_apart 38 = .ok (.aload_n 0, 1) := by decide +kernel
theorem dX12_apart_39 : decode cX12_apart 39 = .ok (.iload_n 1, 1) := by decide +kernel
theorem dX12_apart_40 : decode cX12_apart 40 = .ok (.iload_n 2, 1) := by decide +kernel
theorem dX12_apart_41 : decode cX12_apart 41 = .ok (.invokevirtual 483, 3) := by decide +kernel
theorem dX12_apart_44 : decode cX12_apart 44 = .ok (.ireturn, 1) := by decide +kernel
theorem dX12_grant_0 : decode cX12_grant 0 = .ok (.aload_n 0, 1) := by decide +kernel
theorem dX12_grant_1 : decode cX12_grant 1 = .ok (.iconst 0, 1) := by decide +kernel
theorem dX12_grant_2 : decode cX12_grant 2 = .ok (.putfield 173, 3) := by decide +kernel
theorem dX12_grant_5 : decode cX12_grant 5 = .ok (.aload_n 0, 1) := by decide +kernel
theorem dX12_grant_6 : decode cX12_grant 6 = .ok (.aload_n 0, 1) := by decide +kernel
theorem dX12_grant_7 : decode cX12_grant 7 = .ok (.iload_n 1, 1) := by decide +kernel
theorem dX12_grant_8 : decode cX12_grant 8 = .ok (.invokevirtual 480, 3) := by decide +kernel
theorem dX12_grant_11 : decode cX12_grant 11 = .ok (.ifCond .ne 7, 3) := by decide +kernel
theorem dX12_grant_14 : decode cX12_grant 14 = .ok (.iconst 1, 1) := by decide +kernel
theorem dX12_grant_15 : decode cX12_grant 15 = .ok (.goto 4, 3) := by decide +kernel
theorem dX12_grant_18 : decode cX12_grant 18 = .ok (.iconst 0, 1) := by decide +kernel
theorem dX12_grant_19 : decode cX12_grant 19 = .ok (.iconst 1, 1) := by decide +kernel
theorem dX12_grant_20 : decode cX12_grant 20 = .ok (.invokevirtual 181, 3) := by decide +kernel
theorem dX12_grant_23 : decode cX12_grant 23 = .ok (.ifCond .ne 30, 3) := by decide +kernel
theorem dX12_grant_26 : decode cX12_grant 26 = .ok (.aload_n 0, 1) := by decide +kernel
theorem dX12_grant_27 : decode cX12_grant 27 = .ok (.iload_n 2, 1) := by decide +kernel
theorem dX12_grant_28 : decode cX12_grant 28 = .ok (.aload_n 0, 1) := by decide +kernel
theorem dX12_grant_29 : decode cX12_grant 29 = .ok (.getfield 364, 3) := by decide +kernel
theorem dX12_grant_32 : decode cX12_grant 32 = .ok (.sipush 600, 3) := by decide +kernel
theorem dX12_grant_35 : decode cX12_grant 35 = .ok (.invokestatic 176, 3) := by decide +kernel
theorem dX12_grant_38 : decode cX12_grant 38 = .ok (.ifCond .ne 7, 3) := by decide +kernel
theorem dX12_grant_41 : decode cX12_grant 41 = .ok (.iconst 1, 1) := by decide +kernel
theorem dX12_grant_42 : decode cX12_grant 42 = .ok (.goto 4, 3) := by decide +kernel
theorem dX12_grant_45 : decode cX12_grant 45 = .ok (.iconst 0, 1) := by decide +kernel
theorem dX12_grant_46 : decode cX12_grant 46 = .ok (.iconst 2, 1) := by decide +kernel
theorem dX12_grant_47 : decode cX12_grant 47 = .ok (.invokevirtual 181, 3) := by decide +kernel
theorem dX12_grant_50 : decode cX12_grant 50 = .ok (.ifCond .eq 5, 3) := by decide +kernel
theorem dX12_grant_53 : decode cX12_grant 53 = .ok (.iconst 0, 1) := by decide +kernel
theorem dX12_grant_54 : decode cX12_grant 54 = .ok (.ireturn, 1) := by decide +kernel
theorem dX12_grant_55 : decode cX12_grant 55 = .ok (.aload_n 0, 1) := by decide +kernel
theorem dX12_grant_56 : decode cX12_grant 56 = .ok (.getfield 158, 3) := by decide +kernel
theorem dX12_grant_59 : decode cX12_grant 59 = .ok (.iload_n 1, 1) := by decide +kernel
theorem dX12_grant_60 : decode cX12_grant 60 = .ok (.iaload, 1) := by decide +kernel
theorem dX12_grant_61 : decode cX12_grant 61 = .ok (.ifCond .lt 5, 3) := by decide +kernel
theorem dX12_grant_64 : decode cX12_grant 64 = .ok (.iconst (-1), 1) := by decide +kernel
theorem dX12_grant_65 : decode cX12_grant 65 = .ok (.ireturn, 1) := by decide +kernel
theorem dX12_grant_66 : decode cX12_grant 66 = .ok (.aload_n 0, 1) := by decide +kernel
theorem dX12_grant_67 : decode cX12_grant 67 = .ok (.getfield 158, 3) := by decide +kernel
theorem dX12_grant_70 : decode cX12_grant 70 = .ok (.iload_n 1, 1) := by decide +kernel
theorem dX12_grant_71 : decode cX12_grant 71 = .ok (.iload_n 2, 1) := by decide +kernel
theorem dX12_grant_72 : decode cX12_grant 72 = .ok (.iastore, 1) := by decide +kernel
theorem dX12_grant_73 : decode cX12_grant 73 = .ok (.iconst 1, 1) := by decide +kernel
theorem dX12_grant_74 : decode cX12_grant 74 = .ok (.ireturn, 1) := by decide +kernel
theorem dX12_tries_0 : decode cX12_tries 0 = .ok (.aload_n 0, 1) := by decide +kernel
theorem dX12_tries_1 : decode cX12_tries 1 = .ok (.iload_n 1, 1) := by decide +kernel
theorem dX12_tries_2 : decode cX12_tries 2 = .ok (.iload_n 3, 1) := by decide +kernel
theorem dX12_tries_3 : decode cX12_tries 3 = .ok (.invokevirtual 205, 3) := by decide +kernel
theorem dX12_tries_6 : decode cX12_tries 6 = .ok (.iload_n 2, 1) := by decide +kernel
theorem dX12_tries_7 : decode cX12_tries 7 = .ok (.iload 4, 2) := by decide +kernel
theorem dX12_tries_9 : decode cX12_tries 9 = .ok (.invokestatic 437, 3) := by decide +kernel
theorem dX12_tries_12 : decode cX12_tries 12 = .ok (.istore 5, 2) := by decide +kernel
theorem dX12_tries_14 : decode cX12_tries 14 = .ok (.iload 5, 2) := by decide +kernel
theorem dX12_tries_16 : decode cX12_tries 16 = .ok (.iload_n 3, 1) := by decide +kernel
theorem dX12_tries_17 : decode cX12_tries 17 = .ok (.imul, 1) := by decide +kernel
theorem dX12_tries_18 : decode cX12_tries 18 = .ok (.iload 5, 2) := by decide +kernel
theorem dX12_tries_20 : decode cX12_tries 20 = .ok (.iload_n 2, 1) := by decide +kernel
theorem dX12_tries_21 : decode cX12_tries 21 = .ok (.imul, 1) := by decide +kernel
theorem dX12_tries_22 : decode cX12_tries 22 = .ok (.iconst 4, 1) := by decide +kernel
theorem dX12_tries_23 : decode cX12_tries 23 = .ok (.idiv, 1) := by decide +kernel
theorem dX12_tries_24 : decode cX12_tries 24 = .ok (.iadd, 1) := by decide +kernel
theorem dX12_tries_25 : decode cX12_tries 25 = .ok (.iconst 2, 1) := by decide +kernel
theorem dX12_tries_26 : decode cX12_tries 26 = .ok (.iload 5, 2) := by decide +kernel
theorem dX12_tries_28 : decode cX12_tries 28 = .ok (.iload_n 2, 1) := by decide +kernel
theorem dX12_tries_29 : decode cX12_tries 29 = .ok (.invokestatic 440, 3) := by decide +kernel
theorem dX12_tries_32 : decode cX12_tries 32 = .ok (.imul, 1) := by decide +kernel
theorem dX12_tries_33 : decode cX12_tries 33 = .ok (.isub, 1) := by decide +kernel
theorem dX12_tries_34 : decode cX12_tries 34 = .ok (.istore 6, 2) := by decide +kernel
theorem dX12_tries_36 : decode cX12_tries 36 = .ok (.aload_n 0, 1) := by decide +kernel
theorem dX12_tries_37 : decode cX12_tries 37 = .ok (.getfield 486, 3) := by decide +kernel
theorem dX12_tries_40 : decode cX12_tries 40 = .ok (.ifCond .le 13, 3) := by decide +kernel
theorem dX12_tries_43 : decode cX12_tries 43 = .ok (.iload 6, 2) := by decide +kernel
theorem dX12_tries_45 : decode cX12_tries 45 = .ok (.aload_n 0, 1) := by decide +kernel
theorem dX12_tries_46 : decode cX12_tries 46 = .ok (.getfield 489, 3) := by decide +kernel
theorem dX12_tries_49 : decode cX12_tries 49 = .ok (.if_icmp .gt 4, 3) := by decide +kernel
theorem dX12_tries_52 : decode cX12_tries 52 = .ok (.return_, 1) := by decide +kernel
theorem dX12_tries_53 : decode cX12_tries 53 = .ok (.aload_n 0, 1) := by decide +kernel
theorem dX12_tries_54 : decode cX12_tries 54 = .ok (.iload_n 2, 1) := by decide +kernel
theorem dX12_tries_55 : decode cX12_tries 55 = .ok (.putfield 486, 3) := by decide +kernel
theorem dX12_tries_58 : decode cX12_tries 58 = .ok (.aload_n 0, 1) := by decide +kernel
theorem dX12_tries_59 : decode cX12_tries 59 = .ok (.iload_n 3, 1) := by decide +kernel
theorem dX12_tries_60 : decode cX12_tries 60 = .ok (.putfield 492, 3) := by decide +kernel
theorem dX12_tries_63 : decode cX12_tries 63 = .ok (.aload_n 0, 1) := by decide +kernel
theorem dX12_tries_64 : decode cX12_tries 64 = .ok (.iload 5, 2) := by decide +kernel
theorem dX12_tries_66 : decode cX12_tries 66 = .ok (.putfield 495, 3) := by decide +kernel
theorem dX12_tries_69 : decode cX12_tries 69 = .ok (.aload_n 0, 1) := by decide +kernel
theorem dX12_tries_70 : decode cX12_tries 70 = .ok (.iload 6, 2) := by decide +kernel
theorem dX12_tries_72 : decode cX12_tries 72 = .ok (.putfield 489, 3) := by decide +kernel
theorem dX12_tries_75 : decode cX12_tries 75 = .ok (.return_, 1) := by decide +kernel
theorem dX12_best_0 : decode cX12_best 0 = .ok (.aload_n 0, 1) := by decide +kernel
theorem dX12_best_1 : decode cX12_best 1 = .ok (.iload_n 1, 1) := by decide +kernel
theorem dX12_best_2 : decode cX12_best 2 = .ok (.invokevirtual 188, 3) := by decide +kernel
theorem dX12_best_5 : decode cX12_best 5 = .ok (.ifCond .eq 25, 3) := by decide +kernel
theorem dX12_best_8 : decode cX12_best 8 = .ok (.aload_n 0, 1) := by decide +kernel
theorem dX12_best_9 : decode cX12_best 9 = .ok (.iload_n 2, 1) := by decide +kernel
theorem dX12_best_10 : decode cX12_best 10 = .ok (.iconst 0, 1) := by decide +kernel
theorem dX12_best_11 : decode cX12_best 11 = .ok (.iconst 3, 1) := by decide +kernel
theorem dX12_best_12 : decode cX12_best 12 = .ok (.invokestatic 176, 3) := by decide +kernel
theorem dX12_best_15 : decode cX12_best 15 = .ok (.ifCond .ne 7, 3) := by decide +kernel
theorem dX12_best_18 : decode cX12_best 18 = .ok (.iconst 1, 1) := by decide +kernel
theorem dX12_best_19 : decode cX12_best 19 = .ok (.goto 4, 3) := by decide +kernel
theorem dX12_best_22 : decode cX12_best 22 = .ok (.iconst 0, 1) := by decide +kernel
theorem dX12_best_23 : decode cX12_best 23 = .ok (.iconst 2, 1) := by decide +kernel
theorem dX12_best_24 : decode cX12_best 24 = .ok (.invokevirtual 181, 3) := by decide +kernel
theorem dX12_best_27 : decode cX12_best 27 = .ok (.ifCond .eq 5, 3) := by decide +kernel
theorem dX12_best_30 : decode cX12_best 30 = .ok (.iconst 0, 1) := by decide +kernel
theorem dX12_best_31 : decode cX12_best 31 = .ok (.ireturn, 1) := by decide +kernel
theorem dX12_best_32 : decode cX12_best 32 = .ok (.aload_n 0, 1) := by decide +kernel
theorem dX12_best_33 : decode cX12_best 33 = .ok (.getfield 37, 3) := by decide +kernel
theorem dX12_best_36 : decode cX12_best 36 = .ok (.iload_n 1, 1) := by decide +kernel
theorem dX12_best_37 : decode cX12_best 37 = .ok (.iaload, 1) := by decide +kernel
theorem dX12_best_38 : decode cX12_best 38 = .ok (.iconst 1, 1) := by decide +kernel
theorem dX12_best_39 : decode cX12_best 39 = .ok (.if_icmp .eq 7, 3) := by decide +kernel
theorem dX12_best_42 : decode cX12_best 42 = .ok (.ldc_w 470, 3) := by decide +kernel
theorem dX12_best_45 : decode cX12_best 45 = .ok (.ireturn, 1) := by decide +kernel
theorem dX12_best_46 : decode cX12_best 46 = .ok (.aload_n 0, 1) := by decide +kernel
theorem dX12_best_47 : decode cX12_best 47 = .ok (.iconst 0, 1) := by decide +kernel
theorem dX12_best_48 : decode cX12_best 48 = .ok (.putfield 486, 3) := by decide +kernel
theorem dX12_best_51 : decode cX12_best 51 = .ok (.aload_n 0, 1) := by decide +kernel
theorem dX12_best_52 : decode cX12_best 52 = .ok (.getfield 31, 3) := by decide +kernel
theorem dX12_best_55 : decode cX12_best 55 = .ok (.iload_n 1, 1) := by decide +kernel
theorem dX12_best_56 : decode cX12_best 56 = .ok (.iaload, 1) := by decide +kernel
theorem dX12_best_57 : decode cX12_best 57 = .ok (.aload_n 0, 1) := by decide +kernel
theorem dX12_best_58 : decode cX12_best 58 = .ok (.getfield 34, 3) := by decide +kernel
theorem dX12_best_61 : decode cX12_best 61 = .ok (.iload_n 1, 1) := by decide +kernel
theorem dX12_best_62 : decode cX12_best 62 = .ok (.iaload, 1) := by decide +kernel
theorem dX12_best_63 : decode cX12_best 63 = .ok (.ifCond .le 12, 3) := by decide +kernel
theorem dX12_best_66 : decode cX12_best 66 = .ok (.aload_n 0, 1) := by decide +kernel
theorem dX12_best_67 : decode cX12_best 67 = .ok (.getfield 34, 3) := by decide +kernel
theorem dX12_best_70 : decode cX12_best 70 = .ok (.iload_n 1, 1) := by decide +kernel
theorem dX12_best_71 : decode cX12_best 71 = .ok (.iaload, 1) := by decide +kernel
theorem dX12_best_72 : decode cX12_best 72 = .ok (.goto 4, 3) := by decide +kernel
theorem dX12_best_75 : decode cX12_best 75 = .ok (.iconst 0, 1) := by decide +kernel
theorem dX12_best_76 : decode cX12_best 76 = .ok (.iadd, 1) := by decide +kernel
theorem dX12_best_77 : decode cX12_best 77 = .ok (.istore_n 3, 1) := by decide +kernel
theorem dX12_best_78 : decode cX12_best 78 = .ok (.iconst 2, 1) := by decide +kernel
theorem dX12_best_79 : decode cX12_best 79 = .ok (.istore 4, 2) := by decide +kernel
theorem dX12_best_81 : decode cX12_best 81 = .ok (.iload 4, 2) := by decide +kernel
theorem dX12_best_83 : decode cX12_best 83 = .ok (.aload_n 0, 1) := by decide +kernel
theorem dX12_best_84 : decode cX12_best 84 = .ok (.iconst 1, 1) := by decide +kernel
theorem dX12_best_85 : decode cX12_best 85 = .ok (.aload_n 0, 1) := by decide +kernel
theorem dX12_best_86 : decode cX12_best 86 = .ok (.getfield 9, 3) := by decide +kernel
theorem dX12_best_89 : decode cX12_best 89 = .ok (.iload_n 1, 1) := by decide +kernel
theorem dX12_best_90 : decode cX12_best 90 = .ok (.iaload, 1) := by decide +kernel
theorem dX12_best_91 : decode cX12_best 91 = .ok (.iadd, 1) := by decide +kernel
theorem dX12_best_92 : decode cX12_best 92 = .ok (.invokevirtual 412, 3) := by decide +kernel
theorem dX12_best_95 : decode cX12_best 95 = .ok (.if_icmp .gt 72, 3) := by decide +kernel
theorem dX12_best_98 : decode cX12_best 98 = .ok (.aload_n 0, 1) := by decide +kernel
theorem dX12_best_99 : decode cX12_best 99 = .ok (.iload_n 1, 1) := by decide +kernel
theorem dX12_best_100 : decode cX12_best 100 = .ok (.invokevirtual 406, 3) := by decide +kernel
theorem dX12_best_103 : decode cX12_best 103 = .ok (.aload_n 0, 1) := by decide +kernel
theorem dX12_best_104 : decode cX12_best 104 = .ok (.iload 4, 2) := by decide +kernel
theorem dX12_best_106 : decode cX12_best 106 = .ok (.putfield 380, 3) := by decide +kernel
theorem dX12_best_109 : decode cX12_best 109 = .ok (.aload_n 0, 1) := by decide +kernel
theorem dX12_best_110 : decode cX12_best 110 = .ok (.invokevirtual 415, 3) := by decide +kernel
theorem dX12_best_113 : decode cX12_best 113 = .ok (.istore 5, 2) := by decide +kernel
theorem dX12_best_115 : decode cX12_best 115 = .ok (.iload 5, 2) := by decide +kernel
theorem dX12_best_117 : decode cX12_best 117 = .ok (.ifCond .lt 13, 3) := by decide +kernel
theorem dX12_best_120 : decode cX12_best 120 = .ok (.aload_n 0, 1) := by decide +kernel
theorem dX12_best_121 : decode cX12_best 121 = .ok (.iload_n 1, 1) := by decide +kernel
theorem dX12_best_122 : decode cX12_best 122 = .ok (.iload 4, 2) := by decide +kernel
theorem dX12_best_124 : decode cX12_best 124 = .ok (.iload 5, 2) := by decide +kernel
theorem dX12_best_126 : decode cX12_best 126 = .ok (.iload_n 3, 1) := by decide +kernel
theorem dX12_best_127 : decode cX12_best 127 = .ok (.invokevirtual 498, 3) := by decide +kernel
theorem dX12_best_130 : decode cX12_best 130 = .ok (.iconst 1, 1) := by decide +kernel
theorem dX12_best_131 : decode cX12_best 131 = .ok (.istore 6, 2) := by decide +kernel
theorem dX12_best_133 : decode cX12_best 133 = .ok (.iload 6, 2) := by decide +kernel
theorem dX12_best_135 : decode cX12_best 135 = .ok (.bipush 60, 2) := by decide +kernel
theorem dX12_best_137 : decode cX12_best 137 = .ok (.if_icmp .gt 24, 3) := by decide +kernel
theorem dX12_best_140 : decode cX12_best 140 = .ok (.iload 5, 2) := by decide +kernel
theorem dX12_best_142 : decode cX12_best 142 = .ok (.ifCond .ge 19, 3) := by decide +kernel
theorem dX12_best_145 : decode cX12_best 145 = .ok (.aload_n 0, 1) := by decide +kernel
theorem dX12_best_146 : decode cX12_best 146 = .ok (.iload_n 1, 1) := by decide +kernel
theorem dX12_best_147 : decode cX12_best 147 = .ok (.iload 4, 2) := by decide +kernel
theorem dX12_best_149 : decode cX12_best 149 = .ok (.iload 6, 2) := by decide +kernel
theorem dX12_best_151 : decode cX12_best 151 = .ok (.iload_n 3, 1) := by decide +kernel
theorem dX12_best_152 : decode cX12_best 152 = .ok (.invokevirtual 498, 3) := by decide +kernel
theorem dX12_best_155 : decode cX12_best 155 = .ok (.iinc 6 1, 3) := by decide +kernel
theorem dX12_best_158 : decode cX12_best 158 = .ok (.goto (-25), 3) := by decide +kernel
theorem dX12_best_161 : decode cX12_best 161 = .ok (.iinc 4 2, 3) := by decide +kernel
theorem dX12_best_164 : decode cX12_best 164 = .ok (.goto (-83), 3) := by decide +kernel
theorem dX12_best_167 : decode cX12_best 167 = .ok (.iload_n 2, 1) := by decide +kernel
theorem dX12_best_168 : decode cX12_best 168 = .ok (.ifCond .ne 10, 3) := by decide +kernel
theorem dX12_best_171 : decode cX12_best 171 = .ok (.aload_n 0, 1) := by decide +kernel
theorem dX12_best_172 : decode cX12_best 172 = .ok (.getfield 486, 3) := by decide +kernel
theorem dX12_best_175 : decode cX12_best 175 = .ok (.goto 31, 3) := by decide +kernel
theorem dX12_best_178 : decode cX12_best 178 = .ok (.iload_n 2, 1) := by decide +kernel
theorem dX12_best_179 : decode cX12_best 179 = .ok (.iconst 1, 1) := by decide +kernel
theorem dX12_best_180 : decode cX12_best 180 = .ok (.if_icmp .ne 10, 3) := by decide +kernel
theorem dX12_best_183 : decode cX12_best 183 = .ok (.aload_n 0, 1) := by decide +kernel
theorem dX12_best_184 : decode cX12_best 184 = .ok (.getfield 492, 3) := by decide +kernel
theorem dX12_best_187 : decode cX12_best 187 = .ok (.goto 19, 3) := by decide +kernel
theorem dX12_best_190 : decode cX12_best 190 = .ok (.iload_n 2, 1) := by decide +kernel
theorem dX12_best_191 : decode cX12_best 191 = .ok (.iconst 2, 1) := by decide +kernel
theorem dX12_best_192 : decode cX12_best 192 = .ok (.if_icmp .ne 10, 3) := by decide +kernel
theorem dX12_best_195 : decode cX12_best 195 = .ok (.aload_n 0, 1) := by decide +kernel
theorem dX12_best_196 : decode cX12_best 196 = .ok (.getfield 495, 3) := by decide +kernel
theorem dX12_best_199 : decode cX12_best 199 = .ok (.goto 7, 3) := by decide +kernel
theorem dX12_best_202 : decode cX12_best 202 = .ok (.aload_n 0, 1) := by decide +kernel
theorem dX12_best_203 : decode cX12_best 203 = .ok (.getfield 489, 3) := by decide +kernel
theorem dX12_best_206 : decode cX12_best 206 = .ok (.ireturn, 1) := by decide +kernel
theorem dX12_isRow_0 : decode cX12_isRow 0 = .ok (.iload_n 2, 1) := by decide +kernel
theorem dX12_isRow_1 : decode cX12_isRow 1 = .ok (.iconst 0, 1) := by decide +kernel
theorem dX12_isRow_2 : decode cX12_isRow 2 = .ok (.aload_n 0, 1) := by decide +kernel
theorem dX12_isRow_3 : decode cX12_isRow 3 = .ok (.getfield 364, 3) := by decide +kernel
theorem dX12_isRow_6 : decode cX12_isRow 6 = .ok (.iconst 1, 1) := by decide +kernel
theorem dX12_isRow_7 : decode cX12_isRow 7 = .ok (.isub, 1) := by decide +kernel
theorem dX12_isRow_8 : decode cX12_isRow 8 = .ok (.invokestatic 176, 3) := by decide +kernel
theorem dX12_isRow_11 : decode cX12_isRow 11 = .ok (.ifCond .eq 21, 3) := by decide +kernel
theorem dX12_isRow_14 : decode cX12_isRow 14 = .ok (.aload_n 0, 1) := by decide +kernel
theorem dX12_isRow_15 : decode cX12_isRow 15 = .ok (.getfield 124, 3) := by decide +kernel
theorem dX12_isRow_18 : decode cX12_isRow 18 = .ok (.bipush 12, 2) := by decide +kernel
theorem dX12_isRow_20 : decode cX12_isRow 20 = .ok (.iload_n 2, 1) := by decide +kernel
theorem dX12_isRow_21 : decode cX12_isRow 21 = .ok (.imul, 1) := by decide +kernel
theorem dX12_isRow_22 : decode cX12_isRow 22 = .ok (.iload_n 1, 1) := by decide +kernel
theorem dX12_isRow_23 : decode cX12_isRow 23 = .ok (.iadd, 1) := by decide +kernel
theorem dX12_isRow_24 : decode cX12_isRow 24 = .ok (.baload, 1) := by decide +kernel
theorem dX12_isRow_25 : decode cX12_isRow 25 = .ok (.ifCond .eq 7, 3) := by decide +kernel
theorem dX12_isRow_28 : decode cX12_isRow 28 = .ok (.iconst 1, 1) := by decide +kernel
theorem dX12_isRow_29 : decode cX12_isRow 29 = .ok (.goto 4, 3) := by decide +kernel
theorem dX12_isRow_32 : decode cX12_isRow 32 = .ok (.iconst 0, 1) := by decide +kernel
theorem dX12_isRow_33 : decode cX12_isRow 33 = .ok (.ireturn, 1) := by decide +kernel
theorem dX12_correct_0 : decode cX12_correct 0 = .ok (.aload_n 0, 1) := by decide +kernel
theorem dX12_correct_1 : decode cX12_correct 1 = .ok (.iload_n 1, 1) := by decide +kernel
theorem dX12_correct_2 : decode cX12_correct 2 = .ok (.invokevirtual 188, 3) := by decide +kernel
theorem dX12_correct_5 : decode cX12_correct 5 = .ok (.ifCond .eq 27, 3) := by decide +kernel
theorem dX12_correct_8 : decode cX12_correct 8 = .ok (.aload_n 0, 1) := by decide +kernel
theorem dX12_correct_9 : decode cX12_correct 9 = .ok (.iload_n 3, 1) := by decide +kernel
theorem dX12_correct_10 : decode cX12_correct 10 = .ok (.iconst 0, 1) := by decide +kernel
theorem dX12_correct_11 : decode cX12_correct 11 = .ok (.ldc_w 402, 3) := by decide +kernel
theorem dX12_correct_14 : decode cX12_correct 14 = .ok (.invokestatic 176, 3) := by decide +kernel
theorem dX12_correct_17 : decode cX12_correct 17 = .ok (.ifCond .ne 7, 3) := by decide +kernel
theorem dX12_correct_20 : decode cX12_correct 20 = .ok (.iconst 1, 1) := by decide +kernel
theorem dX12_correct_21 : decode cX12_correct 21 = .ok (.goto 4, 3) := by decide +kernel
theorem dX12_correct_24 : decode cX12_correct 24 = .ok (.iconst 0, 1) := by decide +kernel
theorem dX12_correct_25 : decode cX12_correct 25 = .ok (.iconst 2, 1) := by decide +kernel
theorem dX12_correct_26 : decode cX12_correct 26 = .ok (.invokevirtual 181, 3) := by decide +kernel
theorem dX12_correct_29 : decode cX12_correct 29 = .ok (.ifCond .eq 5, 3) := by decide +kernel
theorem dX12_correct_32 : decode cX12_correct 32 = .ok (.iconst 0, 1) := by decide +kernel
theorem dX12_correct_33 : decode cX12_correct 33 = .ok (.ireturn, 1) := by decide +kernel
theorem dX12_correct_34 : decode cX12_correct 34 = .ok (.aload_n 0, 1) := by decide +kernel
theorem dX12_correct_35 : decode cX12_correct 35 = .ok (.iload_n 1, 1) := by decide +kernel
theorem dX12_correct_36 : decode cX12_correct 36 = .ok (.iload_n 2, 1) := by decide +kernel
theorem dX12_correct_37 : decode cX12_correct 37 = .ok (.invokevirtual 502, 3) := by decide +kernel
theorem dX12_correct_40 : decode cX12_correct 40 = .ok (.ifCond .ne 5, 3) := by decide +kernel
theorem dX12_correct_43 : decode cX12_correct 43 = .ok (.iconst (-1), 1) := by decide +kernel
theorem dX12_correct_44 : decode cX12_correct 44 = .ok (.ireturn, 1) := by decide +kernel
theorem dX12_correct_45 : decode cX12_correct 45 = .ok (.aload_n 0, 1) := by decide +kernel
theorem dX12_correct_46 : decode cX12_correct 46 = .ok (.getfield 505, 3) := by decide +kernel
theorem dX12_correct_49 : decode cX12_correct 49 = .ok (.bipush 60, 2) := by decide +kernel
theorem dX12_correct_51 : decode cX12_correct 51 = .ok (.if_icmp .ne 6, 3) := by decide +kernel
theorem dX12_correct_54 : decode cX12_correct 54 = .ok (.bipush (-2), 2) := by decide +kernel
theorem dX12_correct_56 : decode cX12_correct 56 = .ok (.ireturn, 1) := by decide +kernel
theorem dX12_correct_57 : decode cX12_correct 57 = .ok (.aload_n 0, 1) := by decide +kernel
theorem dX12_correct_58 : decode cX12_correct 58 = .ok (.getfield 161, 3) := by decide +kernel
theorem dX12_correct_61 : decode cX12_correct 61 = .ok (.aload_n 0, 1) := by decide +kernel
theorem dX12_correct_62 : decode cX12_correct 62 = .ok (.getfield 505, 3) := by decide +kernel
theorem dX12_correct_65 : decode cX12_correct 65 = .ok (.iload_n 1, 1) := by decide +kernel
theorem dX12_correct_66 : decode cX12_correct 66 = .ok (.iastore, 1) := by decide +kernel
theorem dX12_correct_67 : decode cX12_correct 67 = .ok (.aload_n 0, 1) := by decide +kernel
theorem dX12_correct_68 : decode cX12_correct 68 = .ok (.getfield 164, 3) := by decide +kernel
theorem dX12_correct_71 : decode cX12_correct 71 = .ok (.aload_n 0, 1) := by decide +kernel
theorem dX12_correct_72 : decode cX12_correct 72 = .ok (.getfield 505, 3) := by decide +kernel
theorem dX12_correct_75 : decode cX12_correct 75 = .ok (.iload_n 2, 1) := by decide +kernel
theorem dX12_correct_76 : decode cX12_correct 76 = .ok (.iastore, 1) := by decide +kernel
theorem dX12_correct_77 : decode cX12_correct 77 = .ok (.aload_n 0, 1) := by decide +kernel
theorem dX12_correct_78 : decode cX12_correct 78 = .ok (.getfield 167, 3) := by decide +kernel
theorem dX12_correct_81 : decode cX12_correct 81 = .ok (.aload_n 0, 1) := by decide +kernel
theorem dX12_correct_82 : decode cX12_correct 82 = .ok (.getfield 505, 3) := by decide +kernel
theorem dX12_correct_85 : decode cX12_correct 85 = .ok (.iload_n 3, 1) := by decide +kernel
theorem dX12_correct_86 : decode cX12_correct 86 = .ok (.iastore, 1) := by decide +kernel
theorem dX12_correct_87 : decode cX12_correct 87 = .ok (.aload_n 0, 1) := by decide +kernel
theorem dX12_correct_88 : decode cX12_correct 88 = .ok (.getfield 170, 3) := by decide +kernel
theorem dX12_correct_91 : decode cX12_correct 91 = .ok (.aload_n 0, 1) := by decide +kernel
theorem dX12_correct_92 : decode cX12_correct 92 = .ok (.getfield 505, 3) := by decide +kernel
theorem dX12_correct_95 : decode cX12_correct 95 = .ok (.aload_n 0, 1) := by decide +kernel
theorem dX12_correct_96 : decode cX12_correct 96 = .ok (.getfield 364, 3) := by decide +kernel
theorem dX12_correct_99 : decode cX12_correct 99 = .ok (.iastore, 1) := by decide +kernel
theorem dX12_correct_100 : decode cX12_correct 100 = .ok (.aload_n 0, 1) := by decide +kernel
theorem dX12_correct_101 : decode cX12_correct 101 = .ok (.dup, 1) := by decide +kernel
theorem dX12_correct_102 : decode cX12_correct 102 = .ok (.getfield 505, 3) := by decide +kernel
theorem dX12_correct_105 : decode cX12_correct 105 = .ok (.iconst 1, 1) := by decide +kernel
theorem dX12_correct_106 : decode cX12_correct 106 = .ok (.iadd, 1) := by decide +kernel
theorem dX12_correct_107 : decode cX12_correct 107 = .ok (.putfield 505, 3) := by decide +kernel
theorem dX12_correct_110 : decode cX12_correct 110 = .ok (.iconst 1, 1) := by decide +kernel
theorem dX12_correct_111 : decode cX12_correct 111 = .ok (.ireturn, 1) := by decide +kernel
theorem dX12_row_0 : decode cX12_row 0 = .ok (.aload_n 0, 1) := by decide +kernel
theorem dX12_row_1 : decode cX12_row 1 = .ok (.iload_n 1, 1) := by decide +kernel
theorem dX12_row_2 : decode cX12_row 2 = .ok (.invokevirtual 188, 3) := by decide +kernel
theorem dX12_row_5 : decode cX12_row 5 = .ok (.ifCond .eq 25, 3) := by decide +kernel
theorem dX12_row_8 : decode cX12_row 8 = .ok (.aload_n 0, 1) := by decide +kernel
theorem dX12_row_9 : decode cX12_row 9 = .ok (.iload_n 3, 1) := by decide +kernel
theorem dX12_row_10 : decode cX12_row 10 = .ok (.iconst 0, 1) := by decide +kernel
theorem dX12_row_11 : decode cX12_row 11 = .ok (.iconst 3, 1) := by decide +kernel
theorem dX12_row_12 : decode cX12_row 12 = .ok (.invokestatic 176, 3) := by decide +kernel
theorem dX12_row_15 : decode cX12_row 15 = .ok (.ifCond .ne 7, 3) := by decide +kernel
theorem dX12_row_18 : decode cX12_row 18 = .ok (.iconst 1, 1) := by decide +kernel
theorem dX12_row_19 : decode cX12_row 19 = .ok (.goto 4, 3) := by decide +kernel
theorem dX12_row_22 : decode cX12_row 22 = .ok (.iconst 0, 1) := by decide +kernel
theorem dX12_row_23 : decode cX12_row 23 = .ok (.iconst 2, 1) := by decide +kernel
theorem dX12_row_24 : decode cX12_row 24 = .ok (.invokevirtual 181, 3) := by decide +kernel
theorem dX12_row_27 : decode cX12_row 27 = .ok (.ifCond .eq 5, 3) := by decide +kernel
theorem dX12_row_30 : decode cX12_row 30 = .ok (.iconst 0, 1) := by decide +kernel
theorem dX12_row_31 : decode cX12_row 31 = .ok (.ireturn, 1) := by decide +kernel
theorem dX12_row_32 : decode cX12_row 32 = .ok (.aload_n 0, 1) := by decide +kernel
theorem dX12_row_33 : decode cX12_row 33 = .ok (.iload_n 1, 1) := by decide +kernel
theorem dX12_row_34 : decode cX12_row 34 = .ok (.iload_n 2, 1) := by decide +kernel
theorem dX12_row_35 : decode cX12_row 35 = .ok (.invokevirtual 502, 3) := by decide +kernel
theorem dX12_row_38 : decode cX12_row 38 = .ok (.ifCond .eq 9, 3) := by decide +kernel
theorem dX12_row_41 : decode cX12_row 41 = .ok (.iload 4, 2) := by decide +kernel
theorem dX12_row_43 : decode cX12_row 43 = .ok (.iload_n 2, 1) := by decide +kernel
theorem dX12_row_44 : decode cX12_row 44 = .ok (.if_icmp .gt 7, 3) := by decide +kernel
theorem dX12_row_47 : decode cX12_row 47 = .ok (.ldc_w 470, 3) := by decide +kernel
theorem dX12_row_50 : decode cX12_row 50 = .ok (.ireturn, 1) := by decide +kernel
theorem dX12_row_51 : decode cX12_row 51 = .ok (.aload_n 0, 1) := by decide +kernel
theorem dX12_row_52 : decode cX12_row 52 = .ok (.getfield 121, 3) := by decide +kernel
theorem dX12_row_55 : decode cX12_row 55 = .ok (.iconst 4, 1) := by decide +kernel
theorem dX12_row_56 : decode cX12_row 56 = .ok (.bipush 12, 2) := by decide +kernel
theorem dX12_row_58 : decode cX12_row 58 = .ok (.iload_n 2, 1) := by decide +kernel
theorem dX12_row_59 : decode cX12_row 59 = .ok (.imul, 1) := by decide +kernel
theorem dX12_row_60 : decode cX12_row 60 = .ok (.iload_n 1, 1) := by decide +kernel
theorem dX12_row_61 : decode cX12_row 61 = .ok (.iadd, 1) := by decide +kernel
theorem dX12_row_62 : decode cX12_row 62 = .ok (.imul, 1) := by decide +kernel
theorem dX12_row_63 : decode cX12_row 63 = .ok (.iload_n 3, 1) := by decide +kernel
theorem dX12_row_64 : decode cX12_row 64 = .ok (.iadd, 1) := by decide +kernel
theorem dX12_row_65 : decode cX12_row 65 = .ok (.iaload, 1) := by decide +kernel
theorem dX12_row_66 : decode cX12_row 66 = .ok (.istore 5, 2) := by decide +kernel
theorem dX12_row_68 : decode cX12_row 68 = .ok (.iconst 0, 1) := by decide +kernel
theorem dX12_row_69 : decode cX12_row 69 = .ok (.istore 6, 2) := by decide +kernel
theorem dX12_row_71 : decode cX12_row 71 = .ok (.iload 6, 2) := by decide +kernel
theorem dX12_row_73 : decode cX12_row 73 = .ok (.aload_n 0, 1) := by decide +kernel
theorem dX12_row_74 : decode cX12_row 74 = .ok (.getfield 505, 3) := by decide +kernel
theorem dX12_row_77 : decode cX12_row 77 = .ok (.if_icmp .ge 57, 3) := by decide +kernel
theorem dX12_row_80 : decode cX12_row 80 = .ok (.iload_n 3, 1) := by decide +kernel
theorem dX12_row_81 : decode cX12_row 81 = .ok (.iconst 1, 1) := by decide +kernel
theorem dX12_row_82 : decode cX12_row 82 = .ok (.if_icmp .ne 52, 3) := by decide +kernel
theorem dX12_row_85 : decode cX12_row 85 = .ok (.aload_n 0, 1) := by decide +kernel
theorem dX12_row_86 : decode cX12_row 86 = .ok (.getfield 161, 3) := by decide +kernel
theorem dX12_row_89 : decode cX12_row 89 = .ok (.iload 6, 2) := by decide +kernel
theorem dX12_row_91 : decode cX12_row 91 = .ok (.iaload, 1) := by decide +kernel
theorem dX12_row_92 : decode cX12_row 92 = .ok (.iload_n 1, 1) := by decide +kernel
theorem dX12_row_93 : decode cX12_row 93 = .ok (.if_icmp .ne 35, 3) := by decide +kernel
theorem dX12_row_96 : decode cX12_row 96 = .ok (.aload_n 0, 1) := by decide +kernel
theorem dX12_row_97 : decode cX12_row 97 = .ok (.getfield 164, 3) := by decide +kernel
theorem dX12_row_100 : decode cX12_row 100 = .ok (.iload 6, 2) := by decide +kernel
theorem dX12_row_102 : decode cX12_row 102 = .ok (.iaload, 1) := by decide +kernel
theorem dX12_row_103 : decode cX12_row 103 = .ok (.iload_n 2, 1) := by decide +kernel
theorem dX12_row_104 : decode cX12_row 104 = .ok (.if_icmp .ne 24, 3) := by decide +kernel
theorem dX12_row_107 : decode cX12_row 107 = .ok (.aload_n 0, 1) := by decide +kernel
theorem dX12_row_108 : decode cX12_row 108 = .ok (.getfield 170, 3) := by decide +kernel
theorem dX12_row_111 : decode cX12_row 111 = .ok (.iload 6, 2) := by decide +kernel
theorem dX12_row_113 : decode cX12_row 113 = .ok (.iaload, 1) := by decide +kernel
theorem dX12_row_114 : decode cX12_row 114 = .ok (.iload 4, 2) := by decide +kernel
theorem dX12_row_116 : decode cX12_row 116 = .ok (.if_icmp .gt 12, 3) := by decide +kernel
theorem dX12_row_119 : decode cX12_row 119 = .ok (.aload_n 0, 1) := by decide +kernel
theorem dX12_row_120 : decode cX12_row 120 = .ok (.getfield 167, 3) := by decide +kernel
theorem dX12_row_123 : decode cX12_row 123 = .ok (.iload 6, 2) := by decide +kernel
theorem dX12_row_125 : decode cX12_row 125 = .ok (.iaload, 1) := by decide +kernel
theorem dX12_row_126 : decode cX12_row 126 = .ok (.istore 5, 2) := by decide +kernel
theorem dX12_row_128 : decode cX12_row 128 = .ok (.iinc 6 1, 3) := by decide +kernel
theorem dX12_row_131 : decode cX12_row 131 = .ok (.goto (-60), 3) := by decide +kernel
theorem dX12_row_134 : decode cX12_row 134 = .ok (.iload 5, 2) := by decide +kernel
theorem dX12_row_136 : decode cX12_row 136 = .ok (.ireturn, 1) := by decide +kernel
theorem dX12_paperMany_0 : decode cX12_paperMany 0 = .ok (.iconst 0, 1) := by decide +kernel
theorem dX12_paperMany_1 : decode cX12_paperMany 1 = .ok (.istore_n 2, 1) := by decide +kernel
theorem dX12_paperMany_2 : decode cX12_paperMany 2 = .ok (.iconst 0, 1) := by decide +kernel
theorem dX12_paperMany_3 : decode cX12_paperMany 3 = .ok (.istore_n 3, 1) := by decide +kernel
theorem dX12_paperMany_4 : decode cX12_paperMany 4 = .ok (.iload_n 3, 1) := by decide +kernel
theorem dX12_paperMany_5 : decode cX12_paperMany 5 = .ok (.aload_n 0, 1) := by decide +kernel
theorem dX12_paperMany_6 : decode cX12_paperMany 6 = .ok (.getfield 185, 3) := by decide +kernel
theorem dX12_paperMany_9 : decode cX12_paperMany 9 = .ok (.if_icmp .ge 27, 3) := by decide +kernel
theorem dX12_paperMany_12 : decode cX12_paperMany 12 = .ok (.iload_n 2, 1) := by decide +kernel
theorem dX12_paperMany_13 : decode cX12_paperMany 13 = .ok (.aload_n 0, 1) := by decide +kernel
theorem dX12_paperMany_14 : decode cX12_paperMany 14 = .ok (.getfield 37, 3) := by decide +kernel
theorem dX12_paperMany_17 : decode cX12_paperMany 17 = .ok (.iload_n 3, 1) := by decide +kernel
theorem dX12_paperMany_18 : decode cX12_paperMany 18 = .ok (.iaload, 1) := by decide +kernel
theorem dX12_paperMany_19 : decode cX12_paperMany 19 = .ok (.iload_n 1, 1) := by decide +kernel
theorem dX12_paperMany_20 : decode cX12_paperMany 20 = .ok (.if_icmp .ne 7, 3) := by decide +kernel
theorem dX12_paperMany_23 : decode cX12_paperMany 23 = .ok (.iconst 1, 1) := by decide +kernel
theorem dX12_paperMany_24 : decode cX12_paperMany 24 = .ok (.goto 4, 3) := by decide +kernel
theorem dX12_paperMany_27 : decode cX12_paperMany 27 = .ok (.iconst 0, 1) := by decide +kernel
theorem dX12_paperMany_28 : decode cX12_paperMany 28 = .ok (.iadd, 1) := by decide +kernel
theorem dX12_paperMany_29 : decode cX12_paperMany 29 = .ok (.istore_n 2, 1) := by decide +kernel
theorem dX12_paperMany_30 : decode cX12_paperMany 30 = .ok (.iinc 3 1, 3) := by decide +kernel
theorem dX12_paperMany_33 : decode cX12_paperMany 33 = .ok (.goto (-29), 3) := by decide +kernel
theorem dX12_paperMany_36 : decode cX12_paperMany 36 = .ok (.iload_n 2, 1) := by decide +kernel
theorem dX12_paperMany_37 : decode cX12_paperMany 37 = .ok (.ireturn, 1) := by decide +kernel
theorem dX12_count_0 : decode cX12_count 0 = .ok (.aload_n 0, 1) := by decide +kernel
theorem dX12_count_1 : decode cX12_count 1 = .ok (.iconst 0, 1) := by decide +kernel
theorem dX12_count_2 : decode cX12_count 2 = .ok (.putfield 173, 3) := by decide +kernel
theorem dX12_count_5 : decode cX12_count 5 = .ok (.iconst 0, 1) := by decide +kernel
theorem dX12_count_6 : decode cX12_count 6 = .ok (.istore_n 2, 1) := by decide +kernel
theorem dX12_count_7 : decode cX12_count 7 = .ok (.iload_n 1, 1) := by decide +kernel
theorem dX12_count_8 : decode cX12_count 8 = .ok (.tableswitch 158 0 11 #[64, 69, 74, 80, 86, 91, 96, 101, 106, 111, 116, 121], 64) := by decide +kernel
theorem dX12_count_72 : decode cX12_count 72 = .ok (.aload_n 0, 1) := by decide +kernel
theorem dX12_count_73 : decode cX12_count 73 = .ok (.getfield 364, 3) := by decide +kernel
theorem dX12_count_76 : decode cX12_count 76 = .ok (.ireturn, 1) := by decide +kernel
theorem dX12_count_77 : decode cX12_count 77 = .ok (.aload_n 0, 1) := by decide +kernel
theorem dX12_count_78 : decode cX12_count 78 = .ok (.getfield 185, 3) := by decide +kernel
theorem dX12_count_81 : decode cX12_count 81 = .ok (.ireturn, 1) := by decide +kernel
theorem dX12_count_82 : decode cX12_count 82 = .ok (.aload_n 0, 1) := by decide +kernel
theorem dX12_count_83 : decode cX12_count 83 = .ok (.iconst 1, 1) := by decide +kernel
theorem dX12_count_84 : decode cX12_count 84 = .ok (.invokevirtual 508, 3) := by decide +kernel
theorem dX12_count_87 : decode cX12_count 87 = .ok (.ireturn, 1) := by decide +kernel
theorem dX12_count_88 : decode cX12_count 88 = .ok (.aload_n 0, 1) := by decide +kernel
theorem dX12_count_89 : decode cX12_count 89 = .ok (.iconst 0, 1) := by decide +kernel
theorem dX12_count_90 : decode cX12_count 90 = .ok (.invokevirtual 508, 3) := by decide +kernel
theorem dX12_count_93 : decode cX12_count 93 = .ok (.ireturn, 1) := by decide +kernel
theorem dX12_count_94 : decode cX12_count 94 = .ok (.aload_n 0, 1) := by decide +kernel
theorem dX12_count_95 : decode cX12_count 95 = .ok (.getfield 196, 3) := by decide +kernel
theorem dX12_count_98 : decode cX12_count 98 = .ok (.ireturn, 1) := by decide +kernel
theorem dX12_count_99 : decode cX12_count 99 = .ok (.aload_n 0, 1) := by decide +kernel
theorem dX12_count_100 : decode cX12_count 100 = .ok (.invokevirtual 431, 3) := by decide +kernel
theorem dX12_count_103 : decode cX12_count 103 = .ok (.ireturn, 1) := by decide +kernel
theorem dX12_count_104 : decode cX12_count 104 = .ok (.aload_n 0, 1) := by decide +kernel
theorem dX12_count_105 : decode cX12_count 105 = .ok (.getfield 289, 3) := by decide +kernel
theorem dX12_count_108 : decode cX12_count 108 = .ok (.ireturn, 1) := by decide +kernel
theorem dX12_count_109 : decode cX12_count 109 = .ok (.aload_n 0, 1) := by decide +kernel
theorem dX12_count_110 : decode cX12_count 110 = .ok (.getfield 202, 3) := by decide +kernel
theorem dX12_count_113 : decode cX12_count 113 = .ok (.ireturn, 1) := by decide +kernel
theorem dX12_count_114 : decode cX12_count 114 = .ok (.aload_n 0, 1) := by decide +kernel
theorem dX12_count_115 : decode cX12_count 115 = .ok (.getfield 446, 3) := by decide +kernel
theorem dX12_count_118 : decode cX12_count 118 = .ok (.ireturn, 1) := by decide +kernel
theorem dX12_count_119 : decode cX12_count 119 = .ok (.aload_n 0, 1) := by decide +kernel
theorem dX12_count_120 : decode cX12_count 120 = .ok (.getfield 505, 3) := by decide +kernel
theorem dX12_count_123 : decode cX12_count 123 = .ok (.ireturn, 1) := by decide +kernel
theorem dX12_count_124 : decode cX12_count 124 = .ok (.aload_n 0, 1) := by decide +kernel
theorem dX12_count_125 : decode cX12_count 125 = .ok (.getfield 209, 3) := by decide +kernel
theorem dX12_count_128 : decode cX12_count 128 = .ok (.ireturn, 1) := by decide +kernel
theorem dX12_count_129 : decode cX12_count 129 = .ok (.iconst 0, 1) := by decide +kernel
theorem dX12_count_130 : decode cX12_count 130 = .ok (.istore_n 3, 1) := by decide +kernel
theorem dX12_count_131 : decode cX12_count 131 = .ok (.iload_n 3, 1) := by decide +kernel
theorem dX12_count_132 : decode cX12_count 132 = .ok (.aload_n 0, 1) := by decide +kernel
theorem dX12_count_133 : decode cX12_count 133 = .ok (.getfield 196, 3) := by decide +kernel
theorem dX12_count_136 : decode cX12_count 136 = .ok (.if_icmp .ge 28, 3) := by decide +kernel
theorem dX12_count_139 : decode cX12_count 139 = .ok (.iload_n 2, 1) := by decide +kernel
theorem dX12_count_140 : decode cX12_count 140 = .ok (.aload_n 0, 1) := by decide +kernel
theorem dX12_count_141 : decode cX12_count 141 = .ok (.getfield 67, 3) := by decide +kernel
theorem dX12_count_144 : decode cX12_count 144 = .ok (.iload_n 3, 1) := by decide +kernel
theorem dX12_count_145 : decode cX12_count 145 = .ok (.iaload, 1) := by decide +kernel
theorem dX12_count_146 : decode cX12_count 146 = .ok (.bipush (-2), 2) := by decide +kernel
theorem dX12_count_148 : decode cX12_count 148 = .ok (.if_icmp .ne 7, 3) := by decide +kernel
theorem dX12_count_151 : decode cX12_count 151 = .ok (.iconst 1, 1) := by decide +kernel
theorem dX12_count_152 : decode cX12_count 152 = .ok (.goto 4, 3) := by decide +kernel
theorem dX12_count_155 : decode cX12_count 155 = .ok (.iconst 0, 1) := by decide +kernel
theorem dX12_count_156 : decode cX12_count 156 = .ok (.iadd, 1) := by decide +kernel
theorem dX12_count_157 : decode cX12_count 157 = .ok (.istore_n 2, 1) := by decide +kernel
theorem dX12_count_158 : decode cX12_count 158 = .ok (.iinc 3 1, 3) := by decide +kernel
theorem dX12_count_161 : decode cX12_count 161 = .ok (.goto (-30), 3) := by decide +kernel
theorem dX12_count_164 : decode cX12_count 164 = .ok (.iload_n 2, 1) := by decide +kernel
theorem dX12_count_165 : decode cX12_count 165 = .ok (.ireturn, 1) := by decide +kernel
theorem dX12_count_166 : decode cX12_count 166 = .ok (.iconst (-1), 1) := by decide +kernel
theorem dX12_count_167 : decode cX12_count 167 = .ok (.ireturn, 1) := by decide +kernel
