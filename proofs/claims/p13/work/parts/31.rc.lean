theorem dX11_init_0 : decode cX11_init 0 = .ok (.aload_n 0, 1) := by decide +kernel
theorem dX11_init_1 : decode cX11_init 1 = .ok (.invokespecial 1, 3) := by decide +kernel
theorem dX11_init_4 : decode cX11_init 4 = .ok (.aload_n 0, 1) := by decide +kernel
theorem dX11_init_5 : decode cX11_init 5 = .ok (.sipush 3000, 3) := by decide +kernel
theorem dX11_init_8 : decode cX11_init 8 = .ok (.newarray .byte, 2) := by decide +kernel
theorem dX11_init_10 : decode cX11_init 10 = .ok (.putfield 7, 3) := by decide +kernel
theorem dX11_init_13 : decode cX11_init 13 = .ok (.aload_n 0, 1) := by decide +kernel
theorem dX11_init_14 : decode cX11_init 14 = .ok (.sipush 3000, 3) := by decide +kernel
theorem dX11_init_17 : decode cX11_init 17 = .ok (.newarray .byte, 2) := by decide +kernel
theorem dX11_init_19 : decode cX11_init 19 = .ok (.putfield 13, 3) := by decide +kernel
theorem dX11_init_22 : decode cX11_init 22 = .ok (.aload_n 0, 1) := by decide +kernel
theorem dX11_init_23 : decode cX11_init 23 = .ok (.sipush 3000, 3) := by decide +kernel
theorem dX11_init_26 : decode cX11_init 26 = .ok (.newarray .byte, 2) := by decide +kernel
theorem dX11_init_28 : decode cX11_init 28 = .ok (.putfield 16, 3) := by decide +kernel
theorem dX11_init_31 : decode cX11_init 31 = .ok (.aload_n 0, 1) := by decide +kernel
theorem dX11_init_32 : decode cX11_init 32 = .ok (.iconst (-1), 1) := by decide +kernel
theorem dX11_init_33 : decode cX11_init 33 = .ok (.putfield 19, 3) := by decide +kernel
theorem dX11_init_36 : decode cX11_init 36 = .ok (.aload_n 0, 1) := by decide +kernel
theorem dX11_init_37 : decode cX11_init 37 = .ok (.iconst (-1), 1) := by decide +kernel
theorem dX11_init_38 : decode cX11_init 38 = .ok (.putfield 23, 3) := by decide +kernel
theorem dX11_init_41 : decode cX11_init 41 = .ok (.aload_n 0, 1) := by decide +kernel
theorem dX11_init_42 : decode cX11_init 42 = .ok (.sipush 6000, 3) := by decide +kernel
theorem dX11_init_45 : decode cX11_init 45 = .ok (.newarray .int, 2) := by decide +kernel
theorem dX11_init_47 : decode cX11_init 47 = .ok (.putfield 26, 3) := by decide +kernel
theorem dX11_init_50 : decode cX11_init 50 = .ok (.aload_n 0, 1) := by decide +kernel
theorem dX11_init_51 : decode cX11_init 51 = .ok (.sipush 6000, 3) := by decide +kernel
theorem dX11_init_54 : decode cX11_init 54 = .ok (.newarray .int, 2) := by decide +kernel
theorem dX11_init_56 : decode cX11_init 56 = .ok (.putfield 30, 3) := by decide +kernel
theorem dX11_init_59 : decode cX11_init 59 = .ok (.aload_n 0, 1) := by decide +kernel
theorem dX11_init_60 : decode cX11_init 60 = .ok (.sipush 6000, 3) := by decide +kernel
theorem dX11_init_63 : decode cX11_init 63 = .ok (.newarray .int, 2) := by decide +kernel
theorem dX11_init_65 : decode cX11_init 65 = .ok (.putfield 33, 3) := by decide +kernel
theorem dX11_init_68 : decode cX11_init 68 = .ok (.aload_n 0, 1) := by decide +kernel
theorem dX11_init_69 : decode cX11_init 69 = .ok (.sipush 6000, 3) := by decide +kernel
theorem dX11_init_72 : decode cX11_init 72 = .ok (.newarray .int, 2) := by decide +kernel
theorem dX11_init_74 : decode cX11_init 74 = .ok (.putfield 36, 3) := by decide +kernel
theorem dX11_init_77 : decode cX11_init 77 = .ok (.aload_n 0, 1) := by decide +kernel
theorem dX11_init_78 : decode cX11_init 78 = .ok (.sipush 6000, 3) := by decide +kernel
theorem dX11_init_81 : decode cX11_init 81 = .ok (.newarray .boolean, 2) := by decide +kernel
theorem dX11_init_83 : decode cX11_init 83 = .ok (.putfield 39, 3) := by decide +kernel
theorem dX11_init_86 : decode cX11_init 86 = .ok (.aload_n 0, 1) := by decide +kernel
theorem dX11_init_87 : decode cX11_init 87 = .ok (.sipush 20000, 3) := by decide +kernel
theorem dX11_init_90 : decode cX11_init 90 = .ok (.newarray .int, 2) := by decide +kernel
theorem dX11_init_92 : decode cX11_init 92 = .ok (.putfield 43, 3) := by decide +kernel
theorem dX11_init_95 : decode cX11_init 95 = .ok (.aload_n 0, 1) := by decide +kernel
theorem dX11_init_96 : decode cX11_init 96 = .ok (.sipush 3100, 3) := by decide +kernel
theorem dX11_init_99 : decode cX11_init 99 = .ok (.newarray .int, 2) := by decide +kernel
theorem dX11_init_101 : decode cX11_init 101 = .ok (.putfield 46, 3) := by decide +kernel
theorem dX11_init_104 : decode cX11_init 104 = .ok (.aload_n 0, 1) := by decide +kernel
theorem dX11_init_105 : decode cX11_init 105 = .ok (.bipush 41, 2) := by decide +kernel
theorem dX11_init_107 : decode cX11_init 107 = .ok (.newarray .long, 2) := by decide +kernel
theorem dX11_init_109 : decode cX11_init 109 = .ok (.putfield 49, 3) := by decide +kernel
theorem dX11_init_112 : decode cX11_init 112 = .ok (.aload_n 0, 1) := by decide +kernel
theorem dX11_init_113 : decode cX11_init 113 = .ok (.bipush 41, 2) := by decide +kernel
theorem dX11_init_115 : decode cX11_init 115 = .ok (.newarray .int, 2) := by decide +kernel
theorem dX11_init_117 : decode cX11_init 117 = .ok (.putfield 53, 3) := by decide +kernel
theorem dX11_init_120 : decode cX11_init 120 = .ok (.aload_n 0, 1) := by decide +kernel
theorem dX11_init_121 : decode cX11_init 121 = .ok (.bipush 41, 2) := by decide +kernel
theorem dX11_init_123 : decode cX11_init 123 = .ok (.newarray .int, 2) := by decide +kernel
theorem dX11_init_125 : decode cX11_init 125 = .ok (.putfield 56, 3) := by decide +kernel
theorem dX11_init_128 : decode cX11_init 128 = .ok (.aload_n 0, 1) := by decide +kernel
theorem dX11_init_129 : decode cX11_init 129 = .ok (.bipush 41, 2) := by decide +kernel
theorem dX11_init_131 : decode cX11_init 131 = .ok (.newarray .int, 2) := by decide +kernel
theorem dX11_init_133 : decode cX11_init 133 = .ok (.putfield 59, 3) := by decide +kernel
theorem dX11_init_136 : decode cX11_init 136 = .ok (.aload_n 0, 1) := by decide +kernel
theorem dX11_init_137 : decode cX11_init 137 = .ok (.bipush 41, 2) := by decide +kernel
theorem dX11_init_139 : decode cX11_init 139 = .ok (.newarray .int, 2) := by decide +kernel
theorem dX11_init_141 : decode cX11_init 141 = .ok (.putfield 62, 3) := by decide +kernel
theorem dX11_init_144 : decode cX11_init 144 = .ok (.aload_n 0, 1) := by decide +kernel
theorem dX11_init_145 : decode cX11_init 145 = .ok (.sipush 164, 3) := by decide +kernel
theorem dX11_init_148 : decode cX11_init 148 = .ok (.newarray .int, 2) := by decide +kernel
theorem dX11_init_150 : decode cX11_init 150 = .ok (.putfield 65, 3) := by decide +kernel
theorem dX11_init_153 : decode cX11_init 153 = .ok (.aload_n 0, 1) := by decide +kernel
theorem dX11_init_154 : decode cX11_init 154 = .ok (.bipush 41, 2) := by decide +kernel
theorem dX11_init_156 : decode cX11_init 156 = .ok (.newarray .int, 2) := by decide +kernel
theorem dX11_init_158 : decode cX11_init 158 = .ok (.putfield 68, 3) := by decide +kernel
theorem dX11_init_161 : decode cX11_init 161 = .ok (.aload_n 0, 1) := by decide +kernel
theorem dX11_init_162 : decode cX11_init 162 = .ok (.bipush 41, 2) := by decide +kernel
theorem dX11_init_164 : decode cX11_init 164 = .ok (.newarray .int, 2) := by decide +kernel
theorem dX11_init_166 : decode cX11_init 166 = .ok (.putfield 71, 3) := by decide +kernel
theorem dX11_init_169 : decode cX11_init 169 = .ok (.aload_n 0, 1) := by decide +kernel
theorem dX11_init_170 : decode cX11_init 170 = .ok (.bipush 41, 2) := by decide +kernel
theorem dX11_init_172 : decode cX11_init 172 = .ok (.newarray .boolean, 2) := by decide +kernel
theorem dX11_init_174 : decode cX11_init 174 = .ok (.putfield 74, 3) := by decide +kernel
theorem dX11_init_177 : decode cX11_init 177 = .ok (.aload_n 0, 1) := by decide +kernel
theorem dX11_init_178 : decode cX11_init 178 = .ok (.sipush 3100, 3) := by decide +kernel
theorem dX11_init_181 : decode cX11_init 181 = .ok (.newarray .int, 2) := by decide +kernel
theorem dX11_init_183 : decode cX11_init 183 = .ok (.putfield 77, 3) := by decide +kernel
theorem dX11_init_186 : decode cX11_init 186 = .ok (.aload_n 0, 1) := by decide +kernel
theorem dX11_init_187 : decode cX11_init 187 = .ok (.sipush 3100, 3) := by decide +kernel
theorem dX11_init_190 : decode cX11_init 190 = .ok (.newarray .int, 2) := by decide +kernel
theorem dX11_init_192 : decode cX11_init 192 = .ok (.putfield 80, 3) := by decide +kernel
theorem dX11_init_195 : decode cX11_init 195 = .ok (.aload_n 0, 1) := by decide +kernel
theorem dX11_init_196 : decode cX11_init 196 = .ok (.sipush 3100, 3) := by decide +kernel
theorem dX11_init_199 : decode cX11_init 199 = .ok (.newarray .int, 2) := by decide +kernel
theorem dX11_init_201 : decode cX11_init 201 = .ok (.putfield 83, 3) := by decide +kernel
theorem dX11_init_204 : decode cX11_init 204 = .ok (.aload_n 0, 1) := by decide +kernel
theorem dX11_init_205 : decode cX11_init 205 = .ok (.sipush 3100, 3) := by decide +kernel
theorem dX11_init_208 : decode cX11_init 208 = .ok (.newarray .int, 2) := by decide +kernel
theorem dX11_init_210 : decode cX11_init 210 = .ok (.putfield 86, 3) := by decide +kernel
theorem dX11_init_213 : decode cX11_init 213 = .ok (.aload_n 0, 1) := by decide +kernel
theorem dX11_init_214 : decode cX11_init 214 = .ok (.sipush 3100, 3) := by decide +kernel
theorem dX11_init_217 : decode cX11_init 217 = .ok (.newarray .int, 2) := by decide +kernel
theorem dX11_init_219 : decode cX11_init 219 = .ok (.putfield 89, 3) := by decide +kernel
theorem dX11_init_222 : decode cX11_init 222 = .ok (.aload_n 0, 1) := by decide +kernel
theorem dX11_init_223 : decode cX11_init 223 = .ok (.sipush 3100, 3) := by decide +kernel
theorem dX11_init_226 : decode cX11_init 226 = .ok (.newarray .int, 2) := by decide +kernel
theorem dX11_init_228 : decode cX11_init 228 = .ok (.putfield 92, 3) := by decide +kernel
theorem dX11_init_231 : decode cX11_init 231 = .ok (.aload_n 0, 1) := by decide +kernel
theorem dX11_init_232 : decode cX11_init 232 = .ok (.sipush 3100, 3) := by decide +kernel
theorem dX11_init_235 : decode cX11_init 235 = .ok (.newarray .int, 2) := by decide +kernel
theorem dX11_init_237 : decode cX11_init 237 = .ok (.putfield 95, 3) := by decide +kernel
theorem dX11_init_240 : decode cX11_init 240 = .ok (.aload_n 0, 1) := by decide +kernel
theorem dX11_init_241 : decode cX11_init 241 = .ok (.sipush 3100, 3) := by decide +kernel
theorem dX11_init_244 : decode cX11_init 244 = .ok (.newarray .int, 2) := by decide +kernel
theorem dX11_init_246 : decode cX11_init 246 = .ok (.putfield 98, 3) := by decide +kernel
theorem dX11_init_249 : decode cX11_init 249 = .ok (.aload_n 0, 1) := by decide +kernel
theorem dX11_init_250 : decode cX11_init 250 = .ok (.sipush 3100, 3) := by decide +kernel
theorem dX11_init_253 : decode cX11_init 253 = .ok (.newarray .int, 2) := by decide +kernel
theorem dX11_init_255 : decode cX11_init 255 = .ok (.putfield 101, 3) := by decide +kernel
theorem dX11_init_258 : decode cX11_init 258 = .ok (.aload_n 0, 1) := by decide +kernel
theorem dX11_init_259 : decode cX11_init 259 = .ok (.sipush 3100, 3) := by decide +kernel
theorem dX11_init_262 : decode cX11_init 262 = .ok (.newarray .long, 2) := by decide +kernel
theorem dX11_init_264 : decode cX11_init 264 = .ok (.putfield 104, 3) := by decide +kernel
theorem dX11_init_267 : decode cX11_init 267 = .ok (.aload_n 0, 1) := by decide +kernel
theorem dX11_init_268 : decode cX11_init 268 = .ok (.bipush 60, 2) := by decide +kernel
theorem dX11_init_270 : decode cX11_init 270 = .ok (.newarray .long, 2) := by decide +kernel
theorem dX11_init_272 : decode cX11_init 272 = .ok (.putfield 107, 3) := by decide +kernel
theorem dX11_init_275 : decode cX11_init 275 = .ok (.aload_n 0, 1) := by decide +kernel
theorem dX11_init_276 : decode cX11_init 276 = .ok (.sipush 6000, 3) := by decide +kernel
theorem dX11_init_279 : decode cX11_init 279 = .ok (.newarray .int, 2) := by decide +kernel
theorem dX11_init_281 : decode cX11_init 281 = .ok (.putfield 110, 3) := by decide +kernel
theorem dX11_init_284 : decode cX11_init 284 = .ok (.aload_n 0, 1) := by decide +kernel
theorem dX11_init_285 : decode cX11_init 285 = .ok (.sipush 6000, 3) := by decide +kernel
theorem dX11_init_288 : decode cX11_init 288 = .ok (.newarray .int, 2) := by decide +kernel
theorem dX11_init_290 : decode cX11_init 290 = .ok (.putfield 113, 3) := by decide +kernel
theorem dX11_init_293 : decode cX11_init 293 = .ok (.aload_n 0, 1) := by decide +kernel
theorem dX11_init_294 : decode cX11_init 294 = .ok (.bipush 100, 2) := by decide +kernel
theorem dX11_init_296 : decode cX11_init 296 = .ok (.newarray .int, 2) := by decide +kernel
theorem dX11_init_298 : decode cX11_init 298 = .ok (.putfield 116, 3) := by decide +kernel
theorem dX11_init_301 : decode cX11_init 301 = .ok (.aload_n 0, 1) := by decide +kernel
theorem dX11_init_302 : decode cX11_init 302 = .ok (.bipush 100, 2) := by decide +kernel
theorem dX11_init_304 : decode cX11_init 304 = .ok (.newarray .int, 2) := by decide +kernel
theorem dX11_init_306 : decode cX11_init 306 = .ok (.putfield 119, 3) := by decide +kernel
theorem dX11_init_309 : decode cX11_init 309 = .ok (.aload_n 0, 1) := by decide +kernel
theorem dX11_init_310 : decode cX11_init 310 = .ok (.sipush 400, 3) := by decide +kernel
theorem dX11_init_313 : decode cX11_init 313 = .ok (.newarray .int, 2) := by decide +kernel
theorem dX11_init_315 : decode cX11_init 315 = .ok (.putfield 122, 3) := by decide +kernel
theorem dX11_init_318 : decode cX11_init 318 = .ok (.aload_n 0, 1) := by decide +kernel
theorem dX11_init_319 : decode cX11_init 319 = .ok (.sipush 400, 3) := by decide +kernel
theorem dX11_init_322 : decode cX11_init 322 = .ok (.newarray .int, 2) := by decide +kernel
theorem dX11_init_324 : decode cX11_init 324 = .ok (.putfield 125, 3) := by decide +kernel
theorem dX11_init_327 : decode cX11_init 327 = .ok (.aload_n 0, 1) := by decide +kernel
theorem dX11_init_328 : decode cX11_init 328 = .ok (.sipush 400, 3) := by decide +kernel
theorem dX11_init_331 : decode cX11_init 331 = .ok (.newarray .int, 2) := by decide +kernel
theorem dX11_init_333 : decode cX11_init 333 = .ok (.putfield 128, 3) := by decide +kernel
theorem dX11_init_336 : decode cX11_init 336 = .ok (.aload_n 0, 1) := by decide +kernel
theorem dX11_init_337 : decode cX11_init 337 = .ok (.sipush 400, 3) := by decide +kernel
theorem dX11_init_340 : decode cX11_init 340 = .ok (.newarray .int, 2) := by decide +kernel
theorem dX11_init_342 : decode cX11_init 342 = .ok (.putfield 131, 3) := by decide +kernel
theorem dX11_init_345 : decode cX11_init 345 = .ok (.aload_n 0, 1) := by decide +kernel
theorem dX11_init_346 : decode cX11_init 346 = .ok (.sipush 3100, 3) := by decide +kernel
theorem dX11_init_349 : decode cX11_init 349 = .ok (.newarray .int, 2) := by decide +kernel
theorem dX11_init_351 : decode cX11_init 351 = .ok (.putfield 134, 3) := by decide +kernel
theorem dX11_init_354 : decode cX11_init 354 = .ok (.aload_n 0, 1) := by decide +kernel
theorem dX11_init_355 : decode cX11_init 355 = .ok (.sipush 24000, 3) := by decide +kernel
theorem dX11_init_358 : decode cX11_init 358 = .ok (.newarray .int, 2) := by decide +kernel
theorem dX11_init_360 : decode cX11_init 360 = .ok (.putfield 137, 3) := by decide +kernel
theorem dX11_init_363 : decode cX11_init 363 = .ok (.aload_n 0, 1) := by decide +kernel
theorem dX11_init_364 : decode cX11_init 364 = .ok (.sipush 24000, 3) := by decide +kernel
theorem dX11_init_367 : decode cX11_init 367 = .ok (.newarray .int, 2) := by decide +kernel
theorem dX11_init_369 : decode cX11_init 369 = .ok (.putfield 140, 3) := by decide +kernel
theorem dX11_init_372 : decode cX11_init 372 = .ok (.aload_n 0, 1) := by decide +kernel
theorem dX11_init_373 : decode cX11_init 373 = .ok (.sipush 24000, 3) := by decide +kernel
theorem dX11_init_376 : decode cX11_init 376 = .ok (.newarray .int, 2) := by decide +kernel
theorem dX11_init_378 : decode cX11_init 378 = .ok (.putfield 143, 3) := by decide +kernel
theorem dX11_init_381 : decode cX11_init 381 = .ok (.aload_n 0, 1) := by decide +kernel
theorem dX11_init_382 : decode cX11_init 382 = .ok (.sipush 24000, 3) := by decide +kernel
theorem dX11_init_385 : decode cX11_init 385 = .ok (.newarray .int, 2) := by decide +kernel
theorem dX11_init_387 : decode cX11_init 387 = .ok (.putfield 146, 3) := by decide +kernel
theorem dX11_init_390 : decode cX11_init 390 = .ok (.aload_n 0, 1) := by decide +kernel
theorem dX11_init_391 : decode cX11_init 391 = .ok (.bipush 41, 2) := by decide +kernel
theorem dX11_init_393 : decode cX11_init 393 = .ok (.newarray .int, 2) := by decide +kernel
theorem dX11_init_395 : decode cX11_init 395 = .ok (.putfield 149, 3) := by decide +kernel
theorem dX11_init_398 : decode cX11_init 398 = .ok (.aload_n 0, 1) := by decide +kernel
theorem dX11_init_399 : decode cX11_init 399 = .ok (.sipush 3100, 3) := by decide +kernel
theorem dX11_init_402 : decode cX11_init 402 = .ok (.newarray .int, 2) := by decide +kernel
theorem dX11_init_404 : decode cX11_init 404 = .ok (.putfield 152, 3) := by decide +kernel
theorem dX11_init_407 : decode cX11_init 407 = .ok (.aload_n 0, 1) := by decide +kernel
theorem dX11_init_408 : decode cX11_init 408 = .ok (.sipush 3100, 3) := by decide +kernel
theorem dX11_init_411 : decode cX11_init 411 = .ok (.newarray .int, 2) := by decide +kernel
theorem dX11_init_413 : decode cX11_init 413 = .ok (.putfield 155, 3) := by decide +kernel
theorem dX11_init_416 : decode cX11_init 416 = .ok (.aload_n 0, 1) := by decide +kernel
theorem dX11_init_417 : decode cX11_init 417 = .ok (.sipush 3100, 3) := by decide +kernel
theorem dX11_init_420 : decode cX11_init 420 = .ok (.newarray .int, 2) := by decide +kernel
theorem dX11_init_422 : decode cX11_init 422 = .ok (.putfield 158, 3) := by decide +kernel
theorem dX11_init_425 : decode cX11_init 425 = .ok (.aload_n 0, 1) := by decide +kernel
theorem dX11_init_426 : decode cX11_init 426 = .ok (.sipush 13000, 3) := by decide +kernel
theorem dX11_init_429 : decode cX11_init 429 = .ok (.newarray .int, 2) := by decide +kernel
theorem dX11_init_431 : decode cX11_init 431 = .ok (.putfield 161, 3) := by decide +kernel
theorem dX11_init_434 : decode cX11_init 434 = .ok (.aload_n 0, 1) := by decide +kernel
theorem dX11_init_435 : decode cX11_init 435 = .ok (.sipush 13000, 3) := by decide +kernel
theorem dX11_init_438 : decode cX11_init 438 = .ok (.newarray .int, 2) := by decide +kernel
theorem dX11_init_440 : decode cX11_init 440 = .ok (.putfield 164, 3) := by decide +kernel
theorem dX11_init_443 : decode cX11_init 443 = .ok (.aload_n 0, 1) := by decide +kernel
theorem dX11_init_444 : decode cX11_init 444 = .ok (.sipush 13000, 3) := by decide +kernel
theorem dX11_init_447 : decode cX11_init 447 = .ok (.newarray .int, 2) := by decide +kernel
theorem dX11_init_449 : decode cX11_init 449 = .ok (.putfield 167, 3) := by decide +kernel
theorem dX11_init_452 : decode cX11_init 452 = .ok (.aload_n 0, 1) := by decide +kernel
theorem dX11_init_453 : decode cX11_init 453 = .ok (.sipush 3100, 3) := by decide +kernel
theorem dX11_init_456 : decode cX11_init 456 = .ok (.newarray .int, 2) := by decide +kernel
theorem dX11_init_458 : decode cX11_init 458 = .ok (.putfield 170, 3) := by decide +kernel
theorem dX11_init_461 : decode cX11_init 461 = .ok (.aload_n 0, 1) := by decide +kernel
theorem dX11_init_462 : decode cX11_init 462 = .ok (.sipush 12000, 3) := by decide +kernel
theorem dX11_init_465 : decode cX11_init 465 = .ok (.newarray .int, 2) := by decide +kernel
theorem dX11_init_467 : decode cX11_init 467 = .ok (.putfield 173, 3) := by decide +kernel
theorem dX11_init_470 : decode cX11_init 470 = .ok (.aload_n 0, 1) := by decide +kernel
theorem dX11_init_471 : decode cX11_init 471 = .ok (.sipush 12000, 3) := by decide +kernel
theorem dX11_init_474 : decode cX11_init 474 = .ok (.newarray .int, 2) := by decide +kernel
theorem dX11_init_476 : decode cX11_init 476 = .ok (.putfield 176, 3) := by decide +kernel
theorem dX11_init_479 : decode cX11_init 479 = .ok (.aload_n 0, 1) := by decide +kernel
theorem dX11_init_480 : decode cX11_init 480 = .ok (.sipush 12000, 3) := by decide +kernel
theorem dX11_init_483 : decode cX11_init 483 = .ok (.newarray .int, 2) := by decide +kernel
theorem dX11_init_485 : decode cX11_init 485 = .ok (.putfield 179, 3) := by decide +kernel
theorem dX11_init_488 : decode cX11_init 488 = .ok (.aload_n 0, 1) := by decide +kernel
theorem dX11_init_489 : decode cX11_init 489 = .ok (.sipush 12000, 3) := by decide +kernel
theorem dX11_init_492 : decode cX11_init 492 = .ok (.newarray .int, 2) := by decide +kernel
theorem dX11_init_494 : decode cX11_init 494 = .ok (.putfield 182, 3) := by decide +kernel
theorem dX11_init_497 : decode cX11_init 497 = .ok (.aload_n 0, 1) := by decide +kernel
theorem dX11_init_498 : decode cX11_init 498 = .ok (.sipush 12000, 3) := by decide +kernel
theorem dX11_init_501 : decode cX11_init 501 = .ok (.newarray .int, 2) := by decide +kernel
theorem dX11_init_503 : decode cX11_init 503 = .ok (.putfield 185, 3) := by decide +kernel
theorem dX11_init_506 : decode cX11_init 506 = .ok (.aload_n 0, 1) := by decide +kernel
theorem dX11_init_507 : decode cX11_init 507 = .ok (.bipush 41, 2) := by decide +kernel
theorem dX11_init_509 : decode cX11_init 509 = .ok (.newarray .boolean, 2) := by decide +kernel
theorem dX11_init_511 : decode cX11_init 511 = .ok (.putfield 188, 3) := by decide +kernel
theorem dX11_init_514 : decode cX11_init 514 = .ok (.aload_n 0, 1) := by decide +kernel
theorem dX11_init_515 : decode cX11_init 515 = .ok (.sipush 3200, 3) := by decide +kernel
theorem dX11_init_518 : decode cX11_init 518 = .ok (.newarray .int, 2) := by decide +kernel
theorem dX11_init_520 : decode cX11_init 520 = .ok (.putfield 191, 3) := by decide +kernel
theorem dX11_init_523 : decode cX11_init 523 = .ok (.aload_n 0, 1) := by decide +kernel
theorem dX11_init_524 : decode cX11_init 524 = .ok (.bipush 60, 2) := by decide +kernel
theorem dX11_init_526 : decode cX11_init 526 = .ok (.newarray .int, 2) := by decide +kernel
theorem dX11_init_528 : decode cX11_init 528 = .ok (.putfield 194, 3) := by decide +kernel
theorem dX11_init_531 : decode cX11_init 531 = .ok (.aload_n 0, 1) := by decide +kernel
theorem dX11_init_532 : decode cX11_init 532 = .ok (.sipush 20400, 3) := by decide +kernel
theorem dX11_init_535 : decode cX11_init 535 = .ok (.newarray .int, 2) := by decide +kernel
theorem dX11_init_537 : decode cX11_init 537 = .ok (.putfield 197, 3) := by decide +kernel
theorem dX11_init_540 : decode cX11_init 540 = .ok (.aload_n 0, 1) := by decide +kernel
theorem dX11_init_541 : decode cX11_init 541 = .ok (.sipush 20400, 3) := by decide +kernel
theorem dX11_init_544 : decode cX11_init 544 = .ok (.newarray .int, 2) := by decide +kernel
theorem dX11_init_546 : decode cX11_init 546 = .ok (.putfield 200, 3) := by decide +kernel
theorem dX11_init_549 : decode cX11_init 549 = .ok (.aload_n 0, 1) := by decide +kernel
theorem dX11_init_550 : decode cX11_init 550 = .ok (.sipush 5000, 3) := by decide +kernel
theorem dX11_init_553 : decode cX11_init 553 = .ok (.newarray .int, 2) := by decide +kernel
theorem dX11_init_555 : decode cX11_init 555 = .ok (.putfield 203, 3) := by decide +kernel
theorem dX11_init_558 : decode cX11_init 558 = .ok (.aload_n 0, 1) := by decide +kernel
theorem dX11_init_559 : decode cX11_init 559 = .ok (.sipush 5000, 3) := by decide +kernel
theorem dX11_init_562 : decode cX11_init 562 = .ok (.newarray .int, 2) := by decide +kernel
theorem dX11_init_564 : decode cX11_init 564 = .ok (.putfield 206, 3) := by decide +kernel
theorem dX11_init_567 : decode cX11_init 567 = .ok (.aload_n 0, 1) := by decide +kernel
theorem dX11_init_568 : decode cX11_init 568 = .ok (.sipush 1000, 3) := by decide +kernel
theorem dX11_init_571 : decode cX11_init 571 = .ok (.newarray .boolean, 2) := by decide +kernel
theorem dX11_init_573 : decode cX11_init 573 = .ok (.putfield 209, 3) := by decide +kernel
theorem dX11_init_576 : decode cX11_init 576 = .ok (.aload_n 0, 1) := by decide +kernel
theorem dX11_init_577 : decode cX11_init 577 = .ok (.sipush 1000, 3) := by decide +kernel
theorem dX11_init_580 : decode cX11_init 580 = .ok (.newarray .int, 2) := by decide +kernel
theorem dX11_init_582 : decode cX11_init 582 = .ok (.putfield 212, 3) := by decide +kernel
theorem dX11_init_585 : decode cX11_init 585 = .ok (.aload_n 0, 1) := by decide +kernel
theorem dX11_init_586 : decode cX11_init 586 = .ok (.sipush 1000, 3) := by decide +kernel
theorem dX11_init_589 : decode cX11_init 589 = .ok (.newarray .int, 2) := by decide +kernel
theorem dX11_init_591 : decode cX11_init 591 = .ok (.putfield 215, 3) := by decide +kernel
theorem dX11_init_594 : decode cX11_init 594 = .ok (.aload_n 0, 1) := by decide +kernel
theorem dX11_init_595 : decode cX11_init 595 = .ok (.sipush 1000, 3) := by decide +kernel
theorem dX11_init_598 : decode cX11_init 598 = .ok (.newarray .int, 2) := by decide +kernel
theorem dX11_init_600 : decode cX11_init 600 = .ok (.putfield 218, 3) := by decide +kernel
theorem dX11_init_603 : decode cX11_init 603 = .ok (.aload_n 0, 1) := by decide +kernel
theorem dX11_init_604 : decode cX11_init 604 = .ok (.sipush 1000, 3) := by decide +kernel
theorem dX11_init_607 : decode cX11_init 607 = .ok (.newarray .int, 2) := by decide +kernel
theorem dX11_init_609 : decode cX11_init 609 = .ok (.putfield 221, 3) := by decide +kernel
theorem dX11_init_612 : decode cX11_init 612 = .ok (.aload_n 0, 1) := by decide +kernel
theorem dX11_init_613 : decode cX11_init 613 = .ok (.sipush 1000, 3) := by decide +kernel
theorem dX11_init_616 : decode cX11_init 616 = .ok (.newarray .int, 2) := by decide +kernel
theorem dX11_init_618 : decode cX11_init 618 = .ok (.putfield 224, 3) := by decide +kernel
theorem dX11_init_621 : decode cX11_init 621 = .ok (.aload_n 0, 1) := by decide +kernel
theorem dX11_init_622 : decode cX11_init 622 = .ok (.sipush 1000, 3) := by decide +kernel
theorem dX11_init_625 : decode cX11_init 625 = .ok (.newarray .int, 2) := by decide +kernel
theorem dX11_init_627 : decode cX11_init 627 = .ok (.putfield 227, 3) := by decide +kernel
theorem dX11_init_630 : decode cX11_init 630 = .ok (.aload_n 0, 1) := by decide +kernel
theorem dX11_init_631 : decode cX11_init 631 = .ok (.sipush 1000, 3) := by decide +kernel
theorem dX11_init_634 : decode cX11_init 634 = .ok (.newarray .int, 2) := by decide +kernel
theorem dX11_init_636 : decode cX11_init 636 = .ok (.putfield 230, 3) := by decide +kernel
theorem dX11_init_639 : decode cX11_init 639 = .ok (.aload_n 0, 1) := by decide +kernel
theorem dX11_init_640 : decode cX11_init 640 = .ok (.sipush 1000, 3) := by decide +kernel
theorem dX11_init_643 : decode cX11_init 643 = .ok (.newarray .int, 2) := by decide +kernel
theorem dX11_init_645 : decode cX11_init 645 = .ok (.putfield 233, 3) := by decide +kernel
theorem dX11_init_648 : decode cX11_init 648 = .ok (.aload_n 0, 1) := by decide +kernel
theorem dX11_init_649 : decode cX11_init 649 = .ok (.sipush 1000, 3) := by decide +kernel
theorem dX11_init_652 : decode cX11_init 652 = .ok (.newarray .int, 2) := by decide +kernel
theorem dX11_init_654 : decode cX11_init 654 = .ok (.putfield 236, 3) := by decide +kernel
theorem dX11_init_657 : decode cX11_init 657 = .ok (.aload_n 0, 1) := by decide +kernel
theorem dX11_init_658 : decode cX11_init 658 = .ok (.sipush 4000, 3) := by decide +kernel
theorem dX11_init_661 : decode cX11_init 661 = .ok (.newarray .int, 2) := by decide +kernel
theorem dX11_init_663 : decode cX11_init 663 = .ok (.putfield 239, 3) := by decide +kernel
theorem dX11_init_666 : decode cX11_init 666 = .ok (.aload_n 0, 1) := by decide +kernel
theorem dX11_init_667 : decode cX11_init 667 = .ok (.sipush 4000, 3) := by decide +kernel
theorem dX11_init_670 : decode cX11_init 670 = .ok (.newarray .int, 2) := by decide +kernel
theorem dX11_init_672 : decode cX11_init 672 = .ok (.putfield 242, 3) := by decide +kernel
theorem dX11_init_675 : decode cX11_init 675 = .ok (.aload_n 0, 1) := by decide +kernel
theorem dX11_init_676 : decode cX11_init 676 = .ok (.sipush 2300, 3) := by decide +kernel
theorem dX11_init_679 : decode cX11_init 679 = .ok (.newarray .int, 2) := by decide +kernel
theorem dX11_init_681 : decode cX11_init 681 = .ok (.putfield 245, 3) := by decide +kernel
theorem dX11_init_684 : decode cX11_init 684 = .ok (.aload_n 0, 1) := by decide +kernel
theorem dX11_init_685 : decode cX11_init 685 = .ok (.sipush 2300, 3) := by decide +kernel
theorem dX11_init_688 : decode cX11_init 688 = .ok (.newarray .int, 2) := by decide +kernel
theorem dX11_init_690 : decode cX11_init 690 = .ok (.putfield 248, 3) := by decide +kernel
theorem dX11_init_693 : decode cX11_init 693 = .ok (.aload_n 0, 1) := by decide +kernel
theorem dX11_init_694 : decode cX11_init 694 = .ok (.sipush 2300, 3) := by decide +kernel
theorem dX11_init_697 : decode cX11_init 697 = .ok (.newarray .int, 2) := by decide +kernel
theorem dX11_init_699 : decode cX11_init 699 = .ok (.putfield 251, 3) := by decide +kernel
theorem dX11_init_702 : decode cX11_init 702 = .ok (.aload_n 0, 1) := by decide +kernel
theorem dX11_init_703 : decode cX11_init 703 = .ok (.sipush 200, 3) := by decide +kernel
theorem dX11_init_706 : decode cX11_init 706 = .ok (.newarray .int, 2) := by decide +kernel
theorem dX11_init_708 : decode cX11_init 708 = .ok (.putfield 254, 3) := by decide +kernel
theorem dX11_init_711 : decode cX11_init 711 = .ok (.aload_n 0, 1) := by decide +kernel
theorem dX11_init_712 : decode cX11_init 712 = .ok (.sipush 1681, 3) := by decide +kernel
theorem dX11_init_715 : decode cX11_init 715 = .ok (.newarray .int, 2) := by decide +kernel
theorem dX11_init_717 : decode cX11_init 717 = .ok (.putfield 257, 3) := by decide +kernel
theorem dX11_init_720 : decode cX11_init 720 = .ok (.aload_n 0, 1) := by decide +kernel
theorem dX11_init_721 : decode cX11_init 721 = .ok (.bipush 21, 2) := by decide +kernel
theorem dX11_init_723 : decode cX11_init 723 = .ok (.newarray .int, 2) := by decide +kernel
theorem dX11_init_725 : decode cX11_init 725 = .ok (.putfield 260, 3) := by decide +kernel
theorem dX11_init_728 : decode cX11_init 728 = .ok (.aload_n 0, 1) := by decide +kernel
theorem dX11_init_729 : decode cX11_init 729 = .ok (.iconst 0, 1) := by decide +kernel
theorem dX11_init_730 : decode cX11_init 730 = .ok (.invokevirtual 263, 3) := by decide +kernel
theorem dX11_init_733 : decode cX11_init 733 = .ok (.return_, 1) := by decide +kernel
theorem k206 : Cond.instanceMethod objectInit ∈ gtb := gtm (in_tables_1_1 (List.mem_of_getElem? (i := 20) rfl)) rfl
theorem k207 : Cond.code objectInit ⟨#[0xb1]⟩ 1 none ∈ gtb := gtm (in_tables_1_1 (List.mem_of_getElem? (i := 21) rfl)) rfl
theorem k276 : Cond.arrayClass .byte ∈ gtb := gtm (in_tables_1_1 (List.mem_of_getElem? (i := 90) rfl)) rfl
theorem k277 : Cond.arrayClass .int ∈ gtb := gtm (in_tables_1_1 (List.mem_of_getElem? (i := 91) rfl)) rfl
theorem k278 : Cond.arrayClass .boolean ∈ gtb := gtm (in_tables_1_1 (List.mem_of_getElem? (i := 92) rfl)) rfl
theorem k373 : Cond.arrayClass .long ∈ gtb := gtm (in_tables_1_1 (List.mem_of_getElem? (i := 187) rfl)) rfl
theorem k1356 : Cond.methodLink "BlameCourtModel" 1 objectInit ∈ gtb := gtm (in_tables_1_5 (List.mem_of_getElem? (i := 210) rfl)) rfl
theorem k1355 : Cond.code yX11_init cX11_init 1 none ∈ gtb := gtm (in_tables_1_5 (List.mem_of_getElem? (i := 209) rfl)) rfl
theorem ka_X11_init : KA yX11_init cX11_init 1 none 0 := ⟨k1355, k197, by decide, by decide, by decide +kernel⟩
def YR_0 : List Ent := [(0, 9, .int, [0, 0, 0, 0, 0, 0, 0, 0, 0, 0, 0, 0, 0, 0, 0, 0, 0, 0, 0, 0, 0, 0, 0, 0, 0, 0, 0, 0, 0, 0, 0, 0, 0, 0, 0, 0, 0, 0, 0, 0, 0, 0, 0, 0, 0, 0, 0, 1, 2, 2, 2, 2, 2, 2, 2, 2, 2, 2, 2, 2, 2, 2, 2, 2, 2, 2, 2, 2, 2, 2, 2, 2, 2, 2, 2, 2, 2, 2, 2, 2, 2, 2, 2, 2, 2, 2, 2, 2, 2, 2, 2, 2, 2, 2, 2, 2, 2, 2, 2, 2, 2, 2, 2, 2, 2, 2, 2, 2, 2, 2, 2, 2, 2, 2, 2, 2, 2, 2, 2, 2, 2, 2, 2, 2, 2, 2, 2, 2, 2])]
def YR_2 : List Ent := [(0, 9, .int, [0, 0, 0, 0, 0, 0, 0, 0, 0, 0, 0, 0, 0, 0, 0, 0, 0, 0, 0, 0, 0, 0, 0, 0, 0, 0, 0, 0, 0, 0, 0, 0, 0, 0, 0, 0, 0, 0, 0, 0, 0, 0, 0, 0, 0, 0, 0, 1, 4, 2, 2, 2, 2, 2, 2, 2, 2, 2, 2, 2, 2, 2, 2, 2, 2, 2, 2, 2, 2, 2, 2, 2, 2, 2, 2, 2, 2, 2, 2, 2, 2, 2, 2, 2, 2, 2, 2, 2, 2, 2, 2, 2, 2, 2, 2, 2, 2, 2, 2, 2, 2, 2, 2, 2, 2, 2, 2, 2, 2, 2, 2, 2, 2, 2, 2, 2, 2, 2, 2, 2, 2, 2, 2, 2, 2, 2, 2, 2, 2]),
  (1, 3000, .byte, [])]
def YR_3 : List Ent := [(0, 9, .int, [0, 0, 0, 0, 0, 0, 0, 0, 0, 0, 0, 0, 0, 0, 0, 0, 0, 0, 0, 0, 0, 0, 0, 0, 0, 0, 0, 0, 0, 0, 0, 0, 0, 0, 0, 0, 0, 0, 0, 0, 0, 0, 0, 0, 0, 0, 0, 1, 4, 5, 2, 2, 2, 2, 2, 2, 2, 2, 2, 2, 2, 2, 2, 2, 2, 2, 2, 2, 2, 2, 2, 2, 2, 2, 2, 2, 2, 2, 2, 2, 2, 2, 2, 2, 2, 2, 2, 2, 2, 2, 2, 2, 2, 2, 2, 2, 2, 2, 2, 2, 2, 2, 2, 2, 2, 2, 2, 2, 2, 2, 2, 2, 2, 2, 2, 2, 2, 2, 2, 2, 2, 2, 2, 2, 2, 2, 2, 2, 2]),
  (1, 3000, .byte, []),
  (1, 3000, .byte, [])]
def YR_4 : List Ent := [(0, 9, .int, [0, 0, 0, 0, 0, 0, 0, 0, 0, 0, 0, 0, 0, 0, 0, 0, 0, 0, 0, 0, 0, 0, 0, 0, 0, 0, 0, 0, 0, 0, 0, 0, 0, 0, 0, 0, 0, 0, 0, 0, 0, 0, 0, 0, 0, 0, 0, 1, 4, 5, 6, 2, 2, 2, 2, 2, 2, 2, 2, 2, 2, 2, 2, 2, 2, 2, 2, 2, 2, 2, 2, 2, 2, 2, 2, 2, 2, 2, 2, 2, 2, 2, 2, 2, 2, 2, 2, 2, 2, 2, 2, 2, 2, 2, 2, 2, 2, 2, 2, 2, 2, 2, 2, 2, 2, 2, 2, 2, 2, 2, 2, 2, 2, 2, 2, 2, 2, 2, 2, 2, 2, 2, 2, 2, 2, 2, 2, 2, 2]),
  (1, 3000, .byte, []),
  (1, 3000, .byte, []),
  (1, 3000, .byte, [])]
def YR_5 : List Ent := [(0, 9, .int, [0, 0, 0, 0, 0, 0, 0, 0, 0, 0, 0, 0, 0, 0, 0, 0, 0, 0, 0, 0, 0, 0, 0, 0, 0, 0, 0, 0, 0, 0, 0, 0, 0, 0, 0, 0, 0, 0, 0, 0, 0, 0, 0, 0, 0, 0, 0, 1, 4, 5, 6, 7, 2, 2, 2, 2, 2, 2, 2, 2, 2, 2, 2, 2, 2, 2, 2, 2, 2, 2, 2, 2, 2, 2, 2, 2, 2, 2, 2, 2, 2, 2, 2, 2, 2, 2, 2, 2, 2, 2, 2, 2, 2, 2, 2, 2, 2, 2, 2, 2, 2, 2, 2, 2, 2, 2, 2, 2, 2, 2, 2, 2, 2, 2, 2, 2, 2, 2, 2, 2, 2, 2, 2, 2, 2, 2, 2, 2, 2]),
  (1, 3000, .byte, []),
  (1, 3000, .byte, []),
  (1, 3000, .byte, []),
  (1, 6000, .int, [])]
def YR_6 : List Ent := [(0, 9, .int, [0, 0, 0, 0, 0, 0, 0, 0, 0, 0, 0, 0, 0, 0, 0, 0, 0, 0, 0, 0, 0, 0, 0, 0, 0, 0, 0, 0, 0, 0, 0, 0, 0, 0, 0, 0, 0, 0, 0, 0, 0, 0, 0, 0, 0, 0, 0, 1, 4, 5, 6, 7, 8, 2, 2, 2, 2, 2, 2, 2, 2, 2, 2, 2, 2, 2, 2, 2, 2, 2, 2, 2, 2, 2, 2, 2, 2, 2, 2, 2, 2, 2, 2, 2, 2, 2, 2, 2, 2, 2, 2, 2, 2, 2, 2, 2, 2, 2, 2, 2, 2, 2, 2, 2, 2, 2, 2, 2, 2, 2, 2, 2, 2, 2, 2, 2, 2, 2, 2, 2, 2, 2, 2, 2, 2, 2, 2, 2, 2]),
  (1, 3000, .byte, []),
  (1, 3000, .byte, []),
  (1, 3000, .byte, []),
  (1, 6000, .int, []),
  (1, 6000, .int, [])]
def YR_7 : List Ent := [(0, 9, .int, [0, 0, 0, 0, 0, 0, 0, 0, 0, 0, 0, 0, 0, 0, 0, 0, 0, 0, 0, 0, 0, 0, 0, 0, 0, 0, 0, 0, 0, 0, 0, 0, 0, 0, 0, 0, 0, 0, 0, 0, 0, 0, 0, 0, 0, 0, 0, 1, 4, 5, 6, 7, 8, 9, 2, 2, 2, 2, 2, 2, 2, 2, 2, 2, 2, 2, 2, 2, 2, 2, 2, 2, 2, 2, 2, 2, 2, 2, 2, 2, 2, 2, 2, 2, 2, 2, 2, 2, 2, 2, 2, 2, 2, 2, 2, 2, 2, 2, 2, 2, 2, 2, 2, 2, 2, 2, 2, 2, 2, 2, 2, 2, 2, 2, 2, 2, 2, 2, 2, 2, 2, 2, 2, 2, 2, 2, 2, 2, 2]),
  (1, 3000, .byte, []),
  (1, 3000, .byte, []),
  (1, 3000, .byte, []),
  (1, 6000, .int, []),
  (1, 6000, .int, []),
  (1, 6000, .int, [])]
def YR_8 : List Ent := [(0, 9, .int, [0, 0, 0, 0, 0, 0, 0, 0, 0, 0, 0, 0, 0, 0, 0, 0, 0, 0, 0, 0, 0, 0, 0, 0, 0, 0, 0, 0, 0, 0, 0, 0, 0, 0, 0, 0, 0, 0, 0, 0, 0, 0, 0, 0, 0, 0, 0, 1, 4, 5, 6, 7, 8, 9, 10, 2, 2, 2, 2, 2, 2, 2, 2, 2, 2, 2, 2, 2, 2, 2, 2, 2, 2, 2, 2, 2, 2, 2, 2, 2, 2, 2, 2, 2, 2, 2, 2, 2, 2, 2, 2, 2, 2, 2, 2, 2, 2, 2, 2, 2, 2, 2, 2, 2, 2, 2, 2, 2, 2, 2, 2, 2, 2, 2, 2, 2, 2, 2, 2, 2, 2, 2, 2, 2, 2, 2, 2, 2, 2]),
  (1, 3000, .byte, []),
  (1, 3000, .byte, []),
  (1, 3000, .byte, []),
  (1, 6000, .int, []),
  (1, 6000, .int, []),
  (1, 6000, .int, []),
  (1, 6000, .int, [])]
def YR_9 : List Ent := [(0, 9, .int, [0, 0, 0, 0, 0, 0, 0, 0, 0, 0, 0, 0, 0, 0, 0, 0, 0, 0, 0, 0, 0, 0, 0, 0, 0, 0, 0, 0, 0, 0, 0, 0, 0, 0, 0, 0, 0, 0, 0, 0, 0, 0, 0, 0, 0, 0, 0, 1, 4, 5, 6, 7, 8, 9, 10, 11, 2, 2, 2, 2, 2, 2, 2, 2, 2, 2, 2, 2, 2, 2, 2, 2, 2, 2, 2, 2, 2, 2, 2, 2, 2, 2, 2, 2, 2, 2, 2, 2, 2, 2, 2, 2, 2, 2, 2, 2, 2, 2, 2, 2, 2, 2, 2, 2, 2, 2, 2, 2, 2, 2, 2, 2, 2, 2, 2, 2, 2, 2, 2, 2, 2, 2, 2, 2, 2, 2, 2, 2, 2]),
  (1, 3000, .byte, []),
  (1, 3000, .byte, []),
  (1, 3000, .byte, []),
  (1, 6000, .int, []),
  (1, 6000, .int, []),
  (1, 6000, .int, []),
  (1, 6000, .int, []),
  (1, 6000, .boolean, [])]
def YR_10 : List Ent := [(0, 9, .int, [0, 0, 0, 0, 0, 0, 0, 0, 0, 0, 0, 0, 0, 0, 0, 0, 0, 0, 0, 0, 0, 0, 0, 0, 0, 0, 0, 0, 0, 0, 0, 0, 0, 0, 0, 0, 0, 0, 0, 0, 0, 0, 0, 0, 0, 0, 0, 1, 4, 5, 6, 7, 8, 9, 10, 11, 12, 2, 2, 2, 2, 2, 2, 2, 2, 2, 2, 2, 2, 2, 2, 2, 2, 2, 2, 2, 2, 2, 2, 2, 2, 2, 2, 2, 2, 2, 2, 2, 2, 2, 2, 2, 2, 2, 2, 2, 2, 2, 2, 2, 2, 2, 2, 2, 2, 2, 2, 2, 2, 2, 2, 2, 2, 2, 2, 2, 2, 2, 2, 2, 2, 2, 2, 2, 2, 2, 2, 2, 2]),
  (1, 3000, .byte, []),
  (1, 3000, .byte, []),
  (1, 3000, .byte, []),
  (1, 6000, .int, []),
  (1, 6000, .int, []),
  (1, 6000, .int, []),
  (1, 6000, .int, []),
  (1, 6000, .boolean, []),
  (1, 20000, .int, [])]
def YR_11 : List Ent := [(0, 9, .int, [0, 0, 0, 0, 0, 0, 0, 0, 0, 0, 0, 0, 0, 0, 0, 0, 0, 0, 0, 0, 0, 0, 0, 0, 0, 0, 0, 0, 0, 0, 0, 0, 0, 0, 0, 0, 0, 0, 0, 0, 0, 0, 0, 0, 0, 0, 0, 1, 4, 5, 6, 7, 8, 9, 10, 11, 12, 13, 2, 2, 2, 2, 2, 2, 2, 2, 2, 2, 2, 2, 2, 2, 2, 2, 2, 2, 2, 2, 2, 2, 2, 2, 2, 2, 2, 2, 2, 2, 2, 2, 2, 2, 2, 2, 2, 2, 2, 2, 2, 2, 2, 2, 2, 2, 2, 2, 2, 2, 2, 2, 2, 2, 2, 2, 2, 2, 2, 2, 2, 2, 2, 2, 2, 2, 2, 2, 2, 2, 2]),
  (1, 3000, .byte, []),
  (1, 3000, .byte, []),
  (1, 3000, .byte, []),
  (1, 6000, .int, []),
  (1, 6000, .int, []),
  (1, 6000, .int, []),
  (1, 6000, .int, []),
  (1, 6000, .boolean, []),
  (1, 20000, .int, []),
  (1, 3100, .int, [])]
def YR_12 : List Ent := [(0, 9, .int, [0, 0, 0, 0, 0, 0, 0, 0, 0, 0, 0, 0, 0, 0, 0, 0, 0, 0, 0, 0, 0, 0, 0, 0, 0, 0, 0, 0, 0, 0, 0, 0, 0, 0, 0, 0, 0, 0, 0, 0, 0, 0, 0, 0, 0, 0, 0, 1, 4, 5, 6, 7, 8, 9, 10, 11, 12, 13, 14, 2, 2, 2, 2, 2, 2, 2, 2, 2, 2, 2, 2, 2, 2, 2, 2, 2, 2, 2, 2, 2, 2, 2, 2, 2, 2, 2, 2, 2, 2, 2, 2, 2, 2, 2, 2, 2, 2, 2, 2, 2, 2, 2, 2, 2, 2, 2, 2, 2, 2, 2, 2, 2, 2, 2, 2, 2, 2, 2, 2, 2, 2, 2, 2, 2, 2, 2, 2, 2, 2]),
  (1, 3000, .byte, []),
  (1, 3000, .byte, []),
  (1, 3000, .byte, []),
  (1, 6000, .int, []),
  (1, 6000, .int, []),
  (1, 6000, .int, []),
  (1, 6000, .int, []),
  (1, 6000, .boolean, []),
  (1, 20000, .int, []),
  (1, 3100, .int, []),
  (2, 41, .long, [])]
def YR_13 : List Ent := [(0, 9, .int, [0, 0, 0, 0, 0, 0, 0, 0, 0, 0, 0, 0, 0, 0, 0, 0, 0, 0, 0, 0, 0, 0, 0, 0, 0, 0, 0, 0, 0, 0, 0, 0, 0, 0, 0, 0, 0, 0, 0, 0, 0, 0, 0, 0, 0, 0, 0, 1, 4, 5, 6, 7, 8, 9, 10, 11, 12, 13, 14, 15, 2, 2, 2, 2, 2, 2, 2, 2, 2, 2, 2, 2, 2, 2, 2, 2, 2, 2, 2, 2, 2, 2, 2, 2, 2, 2, 2, 2, 2, 2, 2, 2, 2, 2, 2, 2, 2, 2, 2, 2, 2, 2, 2, 2, 2, 2, 2, 2, 2, 2, 2, 2, 2, 2, 2, 2, 2, 2, 2, 2, 2, 2, 2, 2, 2, 2, 2, 2, 2]),
  (1, 3000, .byte, []),
  (1, 3000, .byte, []),
  (1, 3000, .byte, []),
  (1, 6000, .int, []),
  (1, 6000, .int, []),
  (1, 6000, .int, []),
  (1, 6000, .int, []),
  (1, 6000, .boolean, []),
  (1, 20000, .int, []),
  (1, 3100, .int, []),
  (2, 41, .long, []),
  (1, 41, .int, [])]
def YR_14 : List Ent := [(0, 9, .int, [0, 0, 0, 0, 0, 0, 0, 0, 0, 0, 0, 0, 0, 0, 0, 0, 0, 0, 0, 0, 0, 0, 0, 0, 0, 0, 0, 0, 0, 0, 0, 0, 0, 0, 0, 0, 0, 0, 0, 0, 0, 0, 0, 0, 0, 0, 0, 1, 4, 5, 6, 7, 8, 9, 10, 11, 12, 13, 14, 15, 16, 2, 2, 2, 2, 2, 2, 2, 2, 2, 2, 2, 2, 2, 2, 2, 2, 2, 2, 2, 2, 2, 2, 2, 2, 2, 2, 2, 2, 2, 2, 2, 2, 2, 2, 2, 2, 2, 2, 2, 2, 2, 2, 2, 2, 2, 2, 2, 2, 2, 2, 2, 2, 2, 2, 2, 2, 2, 2, 2, 2, 2, 2, 2, 2, 2, 2, 2, 2]),
  (1, 3000, .byte, []),
  (1, 3000, .byte, []),
  (1, 3000, .byte, []),
  (1, 6000, .int, []),
  (1, 6000, .int, []),
  (1, 6000, .int, []),
  (1, 6000, .int, []),
  (1, 6000, .boolean, []),
  (1, 20000, .int, []),
  (1, 3100, .int, []),
  (2, 41, .long, []),
  (1, 41, .int, []),
  (1, 41, .int, [])]
def YR_15 : List Ent := [(0, 9, .int, [0, 0, 0, 0, 0, 0, 0, 0, 0, 0, 0, 0, 0, 0, 0, 0, 0, 0, 0, 0, 0, 0, 0, 0, 0, 0, 0, 0, 0, 0, 0, 0, 0, 0, 0, 0, 0, 0, 0, 0, 0, 0, 0, 0, 0, 0, 0, 1, 4, 5, 6, 7, 8, 9, 10, 11, 12, 13, 14, 15, 16, 17, 2, 2, 2, 2, 2, 2, 2, 2, 2, 2, 2, 2, 2, 2, 2, 2, 2, 2, 2, 2, 2, 2, 2, 2, 2, 2, 2, 2, 2, 2, 2, 2, 2, 2, 2, 2, 2, 2, 2, 2, 2, 2, 2, 2, 2, 2, 2, 2, 2, 2, 2, 2, 2, 2, 2, 2, 2, 2, 2, 2, 2, 2, 2, 2, 2, 2, 2]),
  (1, 3000, .byte, []),
  (1, 3000, .byte, []),
  (1, 3000, .byte, []),
  (1, 6000, .int, []),
  (1, 6000, .int, []),
  (1, 6000, .int, []),
  (1, 6000, .int, []),
  (1, 6000, .boolean, []),
  (1, 20000, .int, []),
  (1, 3100, .int, []),
  (2, 41, .long, []),
  (1, 41, .int, []),
  (1, 41, .int, []),
  (1, 41, .int, [])]
def YR_16 : List Ent := [(0, 9, .int, [0, 0, 0, 0, 0, 0, 0, 0, 0, 0, 0, 0, 0, 0, 0, 0, 0, 0, 0, 0, 0, 0, 0, 0, 0, 0, 0, 0, 0, 0, 0, 0, 0, 0, 0, 0, 0, 0, 0, 0, 0, 0, 0, 0, 0, 0, 0, 1, 4, 5, 6, 7, 8, 9, 10, 11, 12, 13, 14, 15, 16, 17, 18, 2, 2, 2, 2, 2, 2, 2, 2, 2, 2, 2, 2, 2, 2, 2, 2, 2, 2, 2, 2, 2, 2, 2, 2, 2, 2, 2, 2, 2, 2, 2, 2, 2, 2, 2, 2, 2, 2, 2, 2, 2, 2, 2, 2, 2, 2, 2, 2, 2, 2, 2, 2, 2, 2, 2, 2, 2, 2, 2, 2, 2, 2, 2, 2, 2, 2]),
  (1, 3000, .byte, []),
  (1, 3000, .byte, []),
  (1, 3000, .byte, []),
  (1, 6000, .int, []),
  (1, 6000, .int, []),
  (1, 6000, .int, []),
  (1, 6000, .int, []),
  (1, 6000, .boolean, []),
  (1, 20000, .int, []),
  (1, 3100, .int, []),
  (2, 41, .long, []),
  (1, 41, .int, []),
  (1, 41, .int, []),
  (1, 41, .int, []),
  (1, 41, .int, [])]
def YR_17 : List Ent := [(0, 9, .int, [0, 0, 0, 0, 0, 0, 0, 0, 0, 0, 0, 0, 0, 0, 0, 0, 0, 0, 0, 0, 0, 0, 0, 0, 0, 0, 0, 0, 0, 0, 0, 0, 0, 0, 0, 0, 0, 0, 0, 0, 0, 0, 0, 0, 0, 0, 0, 1, 4, 5, 6, 7, 8, 9, 10, 11, 12, 13, 14, 15, 16, 17, 18, 19, 2, 2, 2, 2, 2, 2, 2, 2, 2, 2, 2, 2, 2, 2, 2, 2, 2, 2, 2, 2, 2, 2, 2, 2, 2, 2, 2, 2, 2, 2, 2, 2, 2, 2, 2, 2, 2, 2, 2, 2, 2, 2, 2, 2, 2, 2, 2, 2, 2, 2, 2, 2, 2, 2, 2, 2, 2, 2, 2, 2, 2, 2, 2, 2, 2]),
  (1, 3000, .byte, []),
  (1, 3000, .byte, []),
  (1, 3000, .byte, []),
  (1, 6000, .int, []),
  (1, 6000, .int, []),
  (1, 6000, .int, []),
  (1, 6000, .int, []),
  (1, 6000, .boolean, []),
  (1, 20000, .int, []),
  (1, 3100, .int, []),
  (2, 41, .long, []),
  (1, 41, .int, []),
  (1, 41, .int, []),
  (1, 41, .int, []),
  (1, 41, .int, []),
  (1, 164, .int, [])]
def YR_18 : List Ent := [(0, 9, .int, [0, 0, 0, 0, 0, 0, 0, 0, 0, 0, 0, 0, 0, 0, 0, 0, 0, 0, 0, 0, 0, 0, 0, 0, 0, 0, 0, 0, 0, 0, 0, 0, 0, 0, 0, 0, 0, 0, 0, 0, 0, 0, 0, 0, 0, 0, 0, 1, 4, 5, 6, 7, 8, 9, 10, 11, 12, 13, 14, 15, 16, 17, 18, 19, 20, 2, 2, 2, 2, 2, 2, 2, 2, 2, 2, 2, 2, 2, 2, 2, 2, 2, 2, 2, 2, 2, 2, 2, 2, 2, 2, 2, 2, 2, 2, 2, 2, 2, 2, 2, 2, 2, 2, 2, 2, 2, 2, 2, 2, 2, 2, 2, 2, 2, 2, 2, 2, 2, 2, 2, 2, 2, 2, 2, 2, 2, 2, 2, 2]),
  (1, 3000, .byte, []),
  (1, 3000, .byte, []),
  (1, 3000, .byte, []),
  (1, 6000, .int, []),
  (1, 6000, .int, []),
  (1, 6000, .int, []),
  (1, 6000, .int, []),
  (1, 6000, .boolean, []),
  (1, 20000, .int, []),
  (1, 3100, .int, []),
  (2, 41, .long, []),
  (1, 41, .int, []),
  (1, 41, .int, []),
  (1, 41, .int, []),
  (1, 41, .int, []),
  (1, 164, .int, []),
  (1, 41, .int, [])]
def YR_19 : List Ent := [(0, 9, .int, [0, 0, 0, 0, 0, 0, 0, 0, 0, 0, 0, 0, 0, 0, 0, 0, 0, 0, 0, 0, 0, 0, 0, 0, 0, 0, 0, 0, 0, 0, 0, 0, 0, 0, 0, 0, 0, 0, 0, 0, 0, 0, 0, 0, 0, 0, 0, 1, 4, 5, 6, 7, 8, 9, 10, 11, 12, 13, 14, 15, 16, 17, 18, 19, 20, 21, 2, 2, 2, 2, 2, 2, 2, 2, 2, 2, 2, 2, 2, 2, 2, 2, 2, 2, 2, 2, 2, 2, 2, 2, 2, 2, 2, 2, 2, 2, 2, 2, 2, 2, 2, 2, 2, 2, 2, 2, 2, 2, 2, 2, 2, 2, 2, 2, 2, 2, 2, 2, 2, 2, 2, 2, 2, 2, 2, 2, 2, 2, 2]),
  (1, 3000, .byte, []),
  (1, 3000, .byte, []),
  (1, 3000, .byte, []),
  (1, 6000, .int, []),
  (1, 6000, .int, []),
  (1, 6000, .int, []),
  (1, 6000, .int, []),
  (1, 6000, .boolean, []),
  (1, 20000, .int, []),
  (1, 3100, .int, []),
  (2, 41, .long, []),
  (1, 41, .int, []),
  (1, 41, .int, []),
  (1, 41, .int, []),
  (1, 41, .int, []),
  (1, 164, .int, []),
  (1, 41, .int, []),
  (1, 41, .int, [])]
def YR_20 : List Ent := [(0, 9, .int, [0, 0, 0, 0, 0, 0, 0, 0, 0, 0, 0, 0, 0, 0, 0, 0, 0, 0, 0, 0, 0, 0, 0, 0, 0, 0, 0, 0, 0, 0, 0, 0, 0, 0, 0, 0, 0, 0, 0, 0, 0, 0, 0, 0, 0, 0, 0, 1, 4, 5, 6, 7, 8, 9, 10, 11, 12, 13, 14, 15, 16, 17, 18, 19, 20, 21, 22, 2, 2, 2, 2, 2, 2, 2, 2, 2, 2, 2, 2, 2, 2, 2, 2, 2, 2, 2, 2, 2, 2, 2, 2, 2, 2, 2, 2, 2, 2, 2, 2, 2, 2, 2, 2, 2, 2, 2, 2, 2, 2, 2, 2, 2, 2, 2, 2, 2, 2, 2, 2, 2, 2, 2, 2, 2, 2, 2, 2, 2, 2]),
  (1, 3000, .byte, []),
  (1, 3000, .byte, []),
  (1, 3000, .byte, []),
  (1, 6000, .int, []),
  (1, 6000, .int, []),
  (1, 6000, .int, []),
  (1, 6000, .int, []),
  (1, 6000, .boolean, []),
  (1, 20000, .int, []),
  (1, 3100, .int, []),
  (2, 41, .long, []),
  (1, 41, .int, []),
  (1, 41, .int, []),
  (1, 41, .int, []),
  (1, 41, .int, []),
  (1, 164, .int, []),
  (1, 41, .int, []),
  (1, 41, .int, []),
  (1, 41, .boolean, [])]
def YR_21 : List Ent := [(0, 9, .int, [0, 0, 0, 0, 0, 0, 0, 0, 0, 0, 0, 0, 0, 0, 0, 0, 0, 0, 0, 0, 0, 0, 0, 0, 0, 0, 0, 0, 0, 0, 0, 0, 0, 0, 0, 0, 0, 0, 0, 0, 0, 0, 0, 0, 0, 0, 0, 1, 4, 5, 6, 7, 8, 9, 10, 11, 12, 13, 14, 15, 16, 17, 18, 19, 20, 21, 22, 23, 2, 2, 2, 2, 2, 2, 2, 2, 2, 2, 2, 2, 2, 2, 2, 2, 2, 2, 2, 2, 2, 2, 2, 2, 2, 2, 2, 2, 2, 2, 2, 2, 2, 2, 2, 2, 2, 2, 2, 2, 2, 2, 2, 2, 2, 2, 2, 2, 2, 2, 2, 2, 2, 2, 2, 2, 2, 2, 2, 2, 2]),
  (1, 3000, .byte, []),
  (1, 3000, .byte, []),
  (1, 3000, .byte, []),
  (1, 6000, .int, []),
  (1, 6000, .int, []),
  (1, 6000, .int, []),
  (1, 6000, .int, []),
  (1, 6000, .boolean, []),
  (1, 20000, .int, []),
  (1, 3100, .int, []),
  (2, 41, .long, []),
  (1, 41, .int, []),
  (1, 41, .int, []),
  (1, 41, .int, []),
  (1, 41, .int, []),
  (1, 164, .int, []),
  (1, 41, .int, []),
  (1, 41, .int, []),
  (1, 41, .boolean, []),
  (1, 3100, .int, [])]
def YR_22 : List Ent := [(0, 9, .int, [0, 0, 0, 0, 0, 0, 0, 0, 0, 0, 0, 0, 0, 0, 0, 0, 0, 0, 0, 0, 0, 0, 0, 0, 0, 0, 0, 0, 0, 0, 0, 0, 0, 0, 0, 0, 0, 0, 0, 0, 0, 0, 0, 0, 0, 0, 0, 1, 4, 5, 6, 7, 8, 9, 10, 11, 12, 13, 14, 15, 16, 17, 18, 19, 20, 21, 22, 23, 24, 2, 2, 2, 2, 2, 2, 2, 2, 2, 2, 2, 2, 2, 2, 2, 2, 2, 2, 2, 2, 2, 2, 2, 2, 2, 2, 2, 2, 2, 2, 2, 2, 2, 2, 2, 2, 2, 2, 2, 2, 2, 2, 2, 2, 2, 2, 2, 2, 2, 2, 2, 2, 2, 2, 2, 2, 2, 2, 2, 2]),
  (1, 3000, .byte, []),
  (1, 3000, .byte, []),
  (1, 3000, .byte, []),
  (1, 6000, .int, []),
  (1, 6000, .int, []),
  (1, 6000, .int, []),
  (1, 6000, .int, []),
  (1, 6000, .boolean, []),
  (1, 20000, .int, []),
  (1, 3100, .int, []),
  (2, 41, .long, []),
  (1, 41, .int, []),
  (1, 41, .int, []),
  (1, 41, .int, []),
  (1, 41, .int, []),
  (1, 164, .int, []),
  (1, 41, .int, []),
  (1, 41, .int, []),
  (1, 41, .boolean, []),
  (1, 3100, .int, []),
  (1, 3100, .int, [])]
def YR_23 : List Ent := [(0, 9, .int, [0, 0, 0, 0, 0, 0, 0, 0, 0, 0, 0, 0, 0, 0, 0, 0, 0, 0, 0, 0, 0, 0, 0, 0, 0, 0, 0, 0, 0, 0, 0, 0, 0, 0, 0, 0, 0, 0, 0, 0, 0, 0, 0, 0, 0, 0, 0, 1, 4, 5, 6, 7, 8, 9, 10, 11, 12, 13, 14, 15, 16, 17, 18, 19, 20, 21, 22, 23, 24, 25, 2, 2, 2, 2, 2, 2, 2, 2, 2, 2, 2, 2, 2, 2, 2, 2, 2, 2, 2, 2, 2, 2, 2, 2, 2, 2, 2, 2, 2, 2, 2, 2, 2, 2, 2, 2, 2, 2, 2, 2, 2, 2, 2, 2, 2, 2, 2, 2, 2, 2, 2, 2, 2, 2, 2, 2, 2, 2, 2]),
  (1, 3000, .byte, []),
  (1, 3000, .byte, []),
  (1, 3000, .byte, []),
  (1, 6000, .int, []),
  (1, 6000, .int, []),
  (1, 6000, .int, []),
  (1, 6000, .int, []),
  (1, 6000, .boolean, []),
  (1, 20000, .int, []),
  (1, 3100, .int, []),
  (2, 41, .long, []),
  (1, 41, .int, []),
  (1, 41, .int, []),
  (1, 41, .int, []),
  (1, 41, .int, []),
  (1, 164, .int, []),
  (1, 41, .int, []),
  (1, 41, .int, []),
  (1, 41, .boolean, []),
  (1, 3100, .int, []),
  (1, 3100, .int, []),
  (1, 3100, .int, [])]
def YR_24 : List Ent := [(0, 9, .int, [0, 0, 0, 0, 0, 0, 0, 0, 0, 0, 0, 0, 0, 0, 0, 0, 0, 0, 0, 0, 0, 0, 0, 0, 0, 0, 0, 0, 0, 0, 0, 0, 0, 0, 0, 0, 0, 0, 0, 0, 0, 0, 0, 0, 0, 0, 0, 1, 4, 5, 6, 7, 8, 9, 10, 11, 12, 13, 14, 15, 16, 17, 18, 19, 20, 21, 22, 23, 24, 25, 26, 2, 2, 2, 2, 2, 2, 2, 2, 2, 2, 2, 2, 2, 2, 2, 2, 2, 2, 2, 2, 2, 2, 2, 2, 2, 2, 2, 2, 2, 2, 2, 2, 2, 2, 2, 2, 2, 2, 2, 2, 2, 2, 2, 2, 2, 2, 2, 2, 2, 2, 2, 2, 2, 2, 2, 2, 2, 2]),
  (1, 3000, .byte, []),
  (1, 3000, .byte, []),
  (1, 3000, .byte, []),
  (1, 6000, .int, []),
  (1, 6000, .int, []),
  (1, 6000, .int, []),
  (1, 6000, .int, []),
  (1, 6000, .boolean, []),
  (1, 20000, .int, []),
  (1, 3100, .int, []),
  (2, 41, .long, []),
  (1, 41, .int, []),
  (1, 41, .int, []),
  (1, 41, .int, []),
  (1, 41, .int, []),
  (1, 164, .int, []),
  (1, 41, .int, []),
  (1, 41, .int, []),
  (1, 41, .boolean, []),
  (1, 3100, .int, []),
  (1, 3100, .int, []),
  (1, 3100, .int, []),
  (1, 3100, .int, [])]
def YR_25 : List Ent := [(0, 9, .int, [0, 0, 0, 0, 0, 0, 0, 0, 0, 0, 0, 0, 0, 0, 0, 0, 0, 0, 0, 0, 0, 0, 0, 0, 0, 0, 0, 0, 0, 0, 0, 0, 0, 0, 0, 0, 0, 0, 0, 0, 0, 0, 0, 0, 0, 0, 0, 1, 4, 5, 6, 7, 8, 9, 10, 11, 12, 13, 14, 15, 16, 17, 18, 19, 20, 21, 22, 23, 24, 25, 26, 27, 2, 2, 2, 2, 2, 2, 2, 2, 2, 2, 2, 2, 2, 2, 2, 2, 2, 2, 2, 2, 2, 2, 2, 2, 2, 2, 2, 2, 2, 2, 2, 2, 2, 2, 2, 2, 2, 2, 2, 2, 2, 2, 2, 2, 2, 2, 2, 2, 2, 2, 2, 2, 2, 2, 2, 2, 2]),
  (1, 3000, .byte, []),
  (1, 3000, .byte, []),
  (1, 3000, .byte, []),
  (1, 6000, .int, []),
  (1, 6000, .int, []),
  (1, 6000, .int, []),
  (1, 6000, .int, []),
  (1, 6000, .boolean, []),
  (1, 20000, .int, []),
  (1, 3100, .int, []),
  (2, 41, .long, []),
  (1, 41, .int, []),
  (1, 41, .int, []),
  (1, 41, .int, []),
  (1, 41, .int, []),
  (1, 164, .int, []),
  (1, 41, .int, []),
  (1, 41, .int, []),
  (1, 41, .boolean, []),
  (1, 3100, .int, []),
  (1, 3100, .int, []),
  (1, 3100, .int, []),
  (1, 3100, .int, []),
  (1, 3100, .int, [])]
def YR_26 : List Ent := [(0, 9, .int, [0, 0, 0, 0, 0, 0, 0, 0, 0, 0, 0, 0, 0, 0, 0, 0, 0, 0, 0, 0, 0, 0, 0, 0, 0, 0, 0, 0, 0, 0, 0, 0, 0, 0, 0, 0, 0, 0, 0, 0, 0, 0, 0, 0, 0, 0, 0, 1, 4, 5, 6, 7, 8, 9, 10, 11, 12, 13, 14, 15, 16, 17, 18, 19, 20, 21, 22, 23, 24, 25, 26, 27, 28, 2, 2, 2, 2, 2, 2, 2, 2, 2, 2, 2, 2, 2, 2, 2, 2, 2, 2, 2, 2, 2, 2, 2, 2, 2, 2, 2, 2, 2, 2, 2, 2, 2, 2, 2, 2, 2, 2, 2, 2, 2, 2, 2, 2, 2, 2, 2, 2, 2, 2, 2, 2, 2, 2, 2, 2]),
  (1, 3000, .byte, []),
  (1, 3000, .byte, []),
  (1, 3000, .byte, []),
  (1, 6000, .int, []),
  (1, 6000, .int, []),
  (1, 6000, .int, []),
  (1, 6000, .int, []),
  (1, 6000, .boolean, []),
  (1, 20000, .int, []),
  (1, 3100, .int, []),
  (2, 41, .long, []),
  (1, 41, .int, []),
  (1, 41, .int, []),
  (1, 41, .int, []),
  (1, 41, .int, []),
  (1, 164, .int, []),
  (1, 41, .int, []),
  (1, 41, .int, []),
  (1, 41, .boolean, []),
  (1, 3100, .int, []),
  (1, 3100, .int, []),
  (1, 3100, .int, []),
  (1, 3100, .int, []),
  (1, 3100, .int, []),
  (1, 3100, .int, [])]
def YR_27 : List Ent := [(0, 9, .int, [0, 0, 0, 0, 0, 0, 0, 0, 0, 0, 0, 0, 0, 0, 0, 0, 0, 0, 0, 0, 0, 0, 0, 0, 0, 0, 0, 0, 0, 0, 0, 0, 0, 0, 0, 0, 0, 0, 0, 0, 0, 0, 0, 0, 0, 0, 0, 1, 4, 5, 6, 7, 8, 9, 10, 11, 12, 13, 14, 15, 16, 17, 18, 19, 20, 21, 22, 23, 24, 25, 26, 27, 28, 29, 2, 2, 2, 2, 2, 2, 2, 2, 2, 2, 2, 2, 2, 2, 2, 2, 2, 2, 2, 2, 2, 2, 2, 2, 2, 2, 2, 2, 2, 2, 2, 2, 2, 2, 2, 2, 2, 2, 2, 2, 2, 2, 2, 2, 2, 2, 2, 2, 2, 2, 2, 2, 2, 2, 2]),
  (1, 3000, .byte, []),
  (1, 3000, .byte, []),
  (1, 3000, .byte, []),
  (1, 6000, .int, []),
  (1, 6000, .int, []),
  (1, 6000, .int, []),
  (1, 6000, .int, []),
  (1, 6000, .boolean, []),
  (1, 20000, .int, []),
  (1, 3100, .int, []),
  (2, 41, .long, []),
  (1, 41, .int, []),
  (1, 41, .int, []),
  (1, 41, .int, []),
  (1, 41, .int, []),
  (1, 164, .int, []),
  (1, 41, .int, []),
  (1, 41, .int, []),
  (1, 41, .boolean, []),
  (1, 3100, .int, []),
  (1, 3100, .int, []),
  (1, 3100, .int, []),
  (1, 3100, .int, []),
  (1, 3100, .int, []),
  (1, 3100, .int, []),
  (1, 3100, .int, [])]
def YR_28 : List Ent := [(0, 9, .int, [0, 0, 0, 0, 0, 0, 0, 0, 0, 0, 0, 0, 0, 0, 0, 0, 0, 0, 0, 0, 0, 0, 0, 0, 0, 0, 0, 0, 0, 0, 0, 0, 0, 0, 0, 0, 0, 0, 0, 0, 0, 0, 0, 0, 0, 0, 0, 1, 4, 5, 6, 7, 8, 9, 10, 11, 12, 13, 14, 15, 16, 17, 18, 19, 20, 21, 22, 23, 24, 25, 26, 27, 28, 29, 30, 2, 2, 2, 2, 2, 2, 2, 2, 2, 2, 2, 2, 2, 2, 2, 2, 2, 2, 2, 2, 2, 2, 2, 2, 2, 2, 2, 2, 2, 2, 2, 2, 2, 2, 2, 2, 2, 2, 2, 2, 2, 2, 2, 2, 2, 2, 2, 2, 2, 2, 2, 2, 2, 2]),
  (1, 3000, .byte, []),
  (1, 3000, .byte, []),
  (1, 3000, .byte, []),
  (1, 6000, .int, []),
  (1, 6000, .int, []),
  (1, 6000, .int, []),
  (1, 6000, .int, []),
  (1, 6000, .boolean, []),
  (1, 20000, .int, []),
  (1, 3100, .int, []),
  (2, 41, .long, []),
  (1, 41, .int, []),
  (1, 41, .int, []),
  (1, 41, .int, []),
  (1, 41, .int, []),
  (1, 164, .int, []),
  (1, 41, .int, []),
  (1, 41, .int, []),
  (1, 41, .boolean, []),
  (1, 3100, .int, []),
  (1, 3100, .int, []),
  (1, 3100, .int, []),
  (1, 3100, .int, []),
  (1, 3100, .int, []),
  (1, 3100, .int, []),
  (1, 3100, .int, []),
  (1, 3100, .int, [])]
def YR_29 : List Ent := [(0, 9, .int, [0, 0, 0, 0, 0, 0, 0, 0, 0, 0, 0, 0, 0, 0, 0, 0, 0, 0, 0, 0, 0, 0, 0, 0, 0, 0, 0, 0, 0, 0, 0, 0, 0, 0, 0, 0, 0, 0, 0, 0, 0, 0, 0, 0, 0, 0, 0, 1, 4, 5, 6, 7, 8, 9, 10, 11, 12, 13, 14, 15, 16, 17, 18, 19, 20, 21, 22, 23, 24, 25, 26, 27, 28, 29, 30, 31, 2, 2, 2, 2, 2, 2, 2, 2, 2, 2, 2, 2, 2, 2, 2, 2, 2, 2, 2, 2, 2, 2, 2, 2, 2, 2, 2, 2, 2, 2, 2, 2, 2, 2, 2, 2, 2, 2, 2, 2, 2, 2, 2, 2, 2, 2, 2, 2, 2, 2, 2, 2, 2]),
  (1, 3000, .byte, []),
  (1, 3000, .byte, []),
  (1, 3000, .byte, []),
  (1, 6000, .int, []),
  (1, 6000, .int, []),
  (1, 6000, .int, []),
  (1, 6000, .int, []),
  (1, 6000, .boolean, []),
  (1, 20000, .int, []),
  (1, 3100, .int, []),
  (2, 41, .long, []),
  (1, 41, .int, []),
  (1, 41, .int, []),
  (1, 41, .int, []),
  (1, 41, .int, []),
  (1, 164, .int, []),
  (1, 41, .int, []),
  (1, 41, .int, []),
  (1, 41, .boolean, []),
  (1, 3100, .int, []),
  (1, 3100, .int, []),
  (1, 3100, .int, []),
  (1, 3100, .int, []),
  (1, 3100, .int, []),
  (1, 3100, .int, []),
  (1, 3100, .int, []),
  (1, 3100, .int, []),
  (1, 3100, .int, [])]
def YR_30 : List Ent := [(0, 9, .int, [0, 0, 0, 0, 0, 0, 0, 0, 0, 0, 0, 0, 0, 0, 0, 0, 0, 0, 0, 0, 0, 0, 0, 0, 0, 0, 0, 0, 0, 0, 0, 0, 0, 0, 0, 0, 0, 0, 0, 0, 0, 0, 0, 0, 0, 0, 0, 1, 4, 5, 6, 7, 8, 9, 10, 11, 12, 13, 14, 15, 16, 17, 18, 19, 20, 21, 22, 23, 24, 25, 26, 27, 28, 29, 30, 31, 32, 2, 2, 2, 2, 2, 2, 2, 2, 2, 2, 2, 2, 2, 2, 2, 2, 2, 2, 2, 2, 2, 2, 2, 2, 2, 2, 2, 2, 2, 2, 2, 2, 2, 2, 2, 2, 2, 2, 2, 2, 2, 2, 2, 2, 2, 2, 2, 2, 2, 2, 2, 2]),
  (1, 3000, .byte, []),
  (1, 3000, .byte, []),
  (1, 3000, .byte, []),
  (1, 6000, .int, []),
  (1, 6000, .int, []),
  (1, 6000, .int, []),
  (1, 6000, .int, []),
  (1, 6000, .boolean, []),
  (1, 20000, .int, []),
  (1, 3100, .int, []),
  (2, 41, .long, []),
  (1, 41, .int, []),
  (1, 41, .int, []),
  (1, 41, .int, []),
  (1, 41, .int, []),
  (1, 164, .int, []),
  (1, 41, .int, []),
  (1, 41, .int, []),
  (1, 41, .boolean, []),
  (1, 3100, .int, []),
  (1, 3100, .int, []),
  (1, 3100, .int, []),
  (1, 3100, .int, []),
  (1, 3100, .int, []),
  (1, 3100, .int, []),
  (1, 3100, .int, []),
  (1, 3100, .int, []),
  (1, 3100, .int, []),
  (2, 3100, .long, [])]
def YR_31 : List Ent := [(0, 9, .int, [0, 0, 0, 0, 0, 0, 0, 0, 0, 0, 0, 0, 0, 0, 0, 0, 0, 0, 0, 0, 0, 0, 0, 0, 0, 0, 0, 0, 0, 0, 0, 0, 0, 0, 0, 0, 0, 0, 0, 0, 0, 0, 0, 0, 0, 0, 0, 1, 4, 5, 6, 7, 8, 9, 10, 11, 12, 13, 14, 15, 16, 17, 18, 19, 20, 21, 22, 23, 24, 25, 26, 27, 28, 29, 30, 31, 32, 33, 2, 2, 2, 2, 2, 2, 2, 2, 2, 2, 2, 2, 2, 2, 2, 2, 2, 2, 2, 2, 2, 2, 2, 2, 2, 2, 2, 2, 2, 2, 2, 2, 2, 2, 2, 2, 2, 2, 2, 2, 2, 2, 2, 2, 2, 2, 2, 2, 2, 2, 2]),
  (1, 3000, .byte, []),
  (1, 3000, .byte, []),
  (1, 3000, .byte, []),
  (1, 6000, .int, []),
  (1, 6000, .int, []),
  (1, 6000, .int, []),
  (1, 6000, .int, []),
  (1, 6000, .boolean, []),
  (1, 20000, .int, []),
  (1, 3100, .int, []),
  (2, 41, .long, []),
  (1, 41, .int, []),
  (1, 41, .int, []),
  (1, 41, .int, []),
  (1, 41, .int, []),
  (1, 164, .int, []),
  (1, 41, .int, []),
  (1, 41, .int, []),
  (1, 41, .boolean, []),
  (1, 3100, .int, []),
  (1, 3100, .int, []),
  (1, 3100, .int, []),
  (1, 3100, .int, []),
  (1, 3100, .int, []),
  (1, 3100, .int, []),
  (1, 3100, .int, []),
  (1, 3100, .int, []),
  (1, 3100, .int, []),
  (2, 3100, .long, []),
  (2, 60, .long, [])]
def YR_32 : List Ent := [(0, 9, .int, [0, 0, 0, 0, 0, 0, 0, 0, 0, 0, 0, 0, 0, 0, 0, 0, 0, 0, 0, 0, 0, 0, 0, 0, 0, 0, 0, 0, 0, 0, 0, 0, 0, 0, 0, 0, 0, 0, 0, 0, 0, 0, 0, 0, 0, 0, 0, 1, 4, 5, 6, 7, 8, 9, 10, 11, 12, 13, 14, 15, 16, 17, 18, 19, 20, 21, 22, 23, 24, 25, 26, 27, 28, 29, 30, 31, 32, 33, 34, 2, 2, 2, 2, 2, 2, 2, 2, 2, 2, 2, 2, 2, 2, 2, 2, 2, 2, 2, 2, 2, 2, 2, 2, 2, 2, 2, 2, 2, 2, 2, 2, 2, 2, 2, 2, 2, 2, 2, 2, 2, 2, 2, 2, 2, 2, 2, 2, 2, 2]),
  (1, 3000, .byte, []),
  (1, 3000, .byte, []),
  (1, 3000, .byte, []),
  (1, 6000, .int, []),
  (1, 6000, .int, []),
  (1, 6000, .int, []),
  (1, 6000, .int, []),
  (1, 6000, .boolean, []),
  (1, 20000, .int, []),
  (1, 3100, .int, []),
  (2, 41, .long, []),
  (1, 41, .int, []),
  (1, 41, .int, []),
  (1, 41, .int, []),
  (1, 41, .int, []),
  (1, 164, .int, []),
  (1, 41, .int, []),
  (1, 41, .int, []),
  (1, 41, .boolean, []),
  (1, 3100, .int, []),
  (1, 3100, .int, []),
  (1, 3100, .int, []),
  (1, 3100, .int, []),
  (1, 3100, .int, []),
  (1, 3100, .int, []),
  (1, 3100, .int, []),
  (1, 3100, .int, []),
  (1, 3100, .int, []),
  (2, 3100, .long, []),
  (2, 60, .long, []),
  (1, 6000, .int, [])]
def YR_33 : List Ent := [(0, 9, .int, [0, 0, 0, 0, 0, 0, 0, 0, 0, 0, 0, 0, 0, 0, 0, 0, 0, 0, 0, 0, 0, 0, 0, 0, 0, 0, 0, 0, 0, 0, 0, 0, 0, 0, 0, 0, 0, 0, 0, 0, 0, 0, 0, 0, 0, 0, 0, 1, 4, 5, 6, 7, 8, 9, 10, 11, 12, 13, 14, 15, 16, 17, 18, 19, 20, 21, 22, 23, 24, 25, 26, 27, 28, 29, 30, 31, 32, 33, 34, 35, 2, 2, 2, 2, 2, 2, 2, 2, 2, 2, 2, 2, 2, 2, 2, 2, 2, 2, 2, 2, 2, 2, 2, 2, 2, 2, 2, 2, 2, 2, 2, 2, 2, 2, 2, 2, 2, 2, 2, 2, 2, 2, 2, 2, 2, 2, 2, 2, 2]),
  (1, 3000, .byte, []),
  (1, 3000, .byte, []),
  (1, 3000, .byte, []),
  (1, 6000, .int, []),
  (1, 6000, .int, []),
  (1, 6000, .int, []),
  (1, 6000, .int, []),
  (1, 6000, .boolean, []),
  (1, 20000, .int, []),
  (1, 3100, .int, []),
  (2, 41, .long, []),
  (1, 41, .int, []),
  (1, 41, .int, []),
  (1, 41, .int, []),
  (1, 41, .int, []),
  (1, 164, .int, []),
  (1, 41, .int, []),
  (1, 41, .int, []),
  (1, 41, .boolean, []),
  (1, 3100, .int, []),
  (1, 3100, .int, []),
  (1, 3100, .int, []),
  (1, 3100, .int, []),
  (1, 3100, .int, []),
  (1, 3100, .int, []),
  (1, 3100, .int, []),
  (1, 3100, .int, []),
  (1, 3100, .int, []),
  (2, 3100, .long, []),
  (2, 60, .long, []),
  (1, 6000, .int, []),
  (1, 6000, .int, [])]
def YR_34 : List Ent := [(0, 9, .int, [0, 0, 0, 0, 0, 0, 0, 0, 0, 0, 0, 0, 0, 0, 0, 0, 0, 0, 0, 0, 0, 0, 0, 0, 0, 0, 0, 0, 0, 0, 0, 0, 0, 0, 0, 0, 0, 0, 0, 0, 0, 0, 0, 0, 0, 0, 0, 1, 4, 5, 6, 7, 8, 9, 10, 11, 12, 13, 14, 15, 16, 17, 18, 19, 20, 21, 22, 23, 24, 25, 26, 27, 28, 29, 30, 31, 32, 33, 34, 35, 36, 2, 2, 2, 2, 2, 2, 2, 2, 2, 2, 2, 2, 2, 2, 2, 2, 2, 2, 2, 2, 2, 2, 2, 2, 2, 2, 2, 2, 2, 2, 2, 2, 2, 2, 2, 2, 2, 2, 2, 2, 2, 2, 2, 2, 2, 2, 2, 2]),
  (1, 3000, .byte, []),
  (1, 3000, .byte, []),
  (1, 3000, .byte, []),
  (1, 6000, .int, []),
  (1, 6000, .int, []),
  (1, 6000, .int, []),
  (1, 6000, .int, []),
  (1, 6000, .boolean, []),
  (1, 20000, .int, []),
  (1, 3100, .int, []),
  (2, 41, .long, []),
  (1, 41, .int, []),
  (1, 41, .int, []),
  (1, 41, .int, []),
  (1, 41, .int, []),
  (1, 164, .int, []),
  (1, 41, .int, []),
  (1, 41, .int, []),
  (1, 41, .boolean, []),
  (1, 3100, .int, []),
  (1, 3100, .int, []),
  (1, 3100, .int, []),
  (1, 3100, .int, []),
  (1, 3100, .int, []),
  (1, 3100, .int, []),
  (1, 3100, .int, []),
  (1, 3100, .int, []),
  (1, 3100, .int, []),
  (2, 3100, .long, []),
  (2, 60, .long, []),
  (1, 6000, .int, []),
  (1, 6000, .int, []),
  (1, 100, .int, [])]
def YR_35 : List Ent := [(0, 9, .int, [0, 0, 0, 0, 0, 0, 0, 0, 0, 0, 0, 0, 0, 0, 0, 0, 0, 0, 0, 0, 0, 0, 0, 0, 0, 0, 0, 0, 0, 0, 0, 0, 0, 0, 0, 0, 0, 0, 0, 0, 0, 0, 0, 0, 0, 0, 0, 1, 4, 5, 6, 7, 8, 9, 10, 11, 12, 13, 14, 15, 16, 17, 18, 19, 20, 21, 22, 23, 24, 25, 26, 27, 28, 29, 30, 31, 32, 33, 34, 35, 36, 37, 2, 2, 2, 2, 2, 2, 2, 2, 2, 2, 2, 2, 2, 2, 2, 2, 2, 2, 2, 2, 2, 2, 2, 2, 2, 2, 2, 2, 2, 2, 2, 2, 2, 2, 2, 2, 2, 2, 2, 2, 2, 2, 2, 2, 2, 2, 2]),
  (1, 3000, .byte, []),
  (1, 3000, .byte, []),
  (1, 3000, .byte, []),
  (1, 6000, .int, []),
  (1, 6000, .int, []),
  (1, 6000, .int, []),
  (1, 6000, .int, []),
  (1, 6000, .boolean, []),
  (1, 20000, .int, []),
  (1, 3100, .int, []),
  (2, 41, .long, []),
  (1, 41, .int, []),
  (1, 41, .int, []),
  (1, 41, .int, []),
  (1, 41, .int, []),
  (1, 164, .int, []),
  (1, 41, .int, []),
  (1, 41, .int, []),
  (1, 41, .boolean, []),
  (1, 3100, .int, []),
  (1, 3100, .int, []),
  (1, 3100, .int, []),
  (1, 3100, .int, []),
  (1, 3100, .int, []),
  (1, 3100, .int, []),
  (1, 3100, .int, []),
  (1, 3100, .int, []),
  (1, 3100, .int, []),
  (2, 3100, .long, []),
  (2, 60, .long, []),
  (1, 6000, .int, []),
  (1, 6000, .int, []),
  (1, 100, .int, []),
  (1, 100, .int, [])]
def YR_36 : List Ent := [(0, 9, .int, [0, 0, 0, 0, 0, 0, 0, 0, 0, 0, 0, 0, 0, 0, 0, 0, 0, 0, 0, 0, 0, 0, 0, 0, 0, 0, 0, 0, 0, 0, 0, 0, 0, 0, 0, 0, 0, 0, 0, 0, 0, 0, 0, 0, 0, 0, 0, 1, 4, 5, 6, 7, 8, 9, 10, 11, 12, 13, 14, 15, 16, 17, 18, 19, 20, 21, 22, 23, 24, 25, 26, 27, 28, 29, 30, 31, 32, 33, 34, 35, 36, 37, 38, 2, 2, 2, 2, 2, 2, 2, 2, 2, 2, 2, 2, 2, 2, 2, 2, 2, 2, 2, 2, 2, 2, 2, 2, 2, 2, 2, 2, 2, 2, 2, 2, 2, 2, 2, 2, 2, 2, 2, 2, 2, 2, 2, 2, 2, 2]),
  (1, 3000, .byte, []),
  (1, 3000, .byte, []),
  (1, 3000, .byte, []),
  (1, 6000, .int, []),
  (1, 6000, .int, []),
  (1, 6000, .int, []),
  (1, 6000, .int, []),
  (1, 6000, .boolean, []),
  (1, 20000, .int, []),
  (1, 3100, .int, []),
  (2, 41, .long, []),
  (1, 41, .int, []),
  (1, 41, .int, []),
  (1, 41, .int, []),
  (1, 41, .int, []),
  (1, 164, .int, []),
  (1, 41, .int, []),
  (1, 41, .int, []),
  (1, 41, .boolean, []),
  (1, 3100, .int, []),
  (1, 3100, .int, []),
  (1, 3100, .int, []),
  (1, 3100, .int, []),
  (1, 3100, .int, []),
  (1, 3100, .int, []),
  (1, 3100, .int, []),
  (1, 3100, .int, []),
  (1, 3100, .int, []),
  (2, 3100, .long, []),
  (2, 60, .long, []),
  (1, 6000, .int, []),
  (1, 6000, .int, []),
  (1, 100, .int, []),
  (1, 100, .int, []),
  (1, 400, .int, [])]
def YR_37 : List Ent := [(0, 9, .int, [0, 0, 0, 0, 0, 0, 0, 0, 0, 0, 0, 0, 0, 0, 0, 0, 0, 0, 0, 0, 0, 0, 0, 0, 0, 0, 0, 0, 0, 0, 0, 0, 0, 0, 0, 0, 0, 0, 0, 0, 0, 0, 0, 0, 0, 0, 0, 1, 4, 5, 6, 7, 8, 9, 10, 11, 12, 13, 14, 15, 16, 17, 18, 19, 20, 21, 22, 23, 24, 25, 26, 27, 28, 29, 30, 31, 32, 33, 34, 35, 36, 37, 38, 39, 2, 2, 2, 2, 2, 2, 2, 2, 2, 2, 2, 2, 2, 2, 2, 2, 2, 2, 2, 2, 2, 2, 2, 2, 2, 2, 2, 2, 2, 2, 2, 2, 2, 2, 2, 2, 2, 2, 2, 2, 2, 2, 2, 2, 2]),
  (1, 3000, .byte, []),
  (1, 3000, .byte, []),
  (1, 3000, .byte, []),
  (1, 6000, .int, []),
  (1, 6000, .int, []),
  (1, 6000, .int, []),
  (1, 6000, .int, []),
  (1, 6000, .boolean, []),
  (1, 20000, .int, []),
  (1, 3100, .int, []),
  (2, 41, .long, []),
  (1, 41, .int, []),
  (1, 41, .int, []),
  (1, 41, .int, []),
  (1, 41, .int, []),
  (1, 164, .int, []),
  (1, 41, .int, []),
  (1, 41, .int, []),
  (1, 41, .boolean, []),
  (1, 3100, .int, []),
  (1, 3100, .int, []),
  (1, 3100, .int, []),
  (1, 3100, .int, []),
  (1, 3100, .int, []),
  (1, 3100, .int, []),
  (1, 3100, .int, []),
  (1, 3100, .int, []),
  (1, 3100, .int, []),
  (2, 3100, .long, []),
  (2, 60, .long, []),
  (1, 6000, .int, []),
  (1, 6000, .int, []),
  (1, 100, .int, []),
  (1, 100, .int, []),
  (1, 400, .int, []),
  (1, 400, .int, [])]
def YR_38 : List Ent := [(0, 9, .int, [0, 0, 0, 0, 0, 0, 0, 0, 0, 0, 0, 0, 0, 0, 0, 0, 0, 0, 0, 0, 0, 0, 0, 0, 0, 0, 0, 0, 0, 0, 0, 0, 0, 0, 0, 0, 0, 0, 0, 0, 0, 0, 0, 0, 0, 0, 0, 1, 4, 5, 6, 7, 8, 9, 10, 11, 12, 13, 14, 15, 16, 17, 18, 19, 20, 21, 22, 23, 24, 25, 26, 27, 28, 29, 30, 31, 32, 33, 34, 35, 36, 37, 38, 39, 40, 2, 2, 2, 2, 2, 2, 2, 2, 2, 2, 2, 2, 2, 2, 2, 2, 2, 2, 2, 2, 2, 2, 2, 2, 2, 2, 2, 2, 2, 2, 2, 2, 2, 2, 2, 2, 2, 2, 2, 2, 2, 2, 2, 2]),
  (1, 3000, .byte, []),
  (1, 3000, .byte, []),
  (1, 3000, .byte, []),
  (1, 6000, .int, []),
  (1, 6000, .int, []),
  (1, 6000, .int, []),
  (1, 6000, .int, []),
  (1, 6000, .boolean, []),
  (1, 20000, .int, []),
  (1, 3100, .int, []),
  (2, 41, .long, []),
  (1, 41, .int, []),
  (1, 41, .int, []),
  (1, 41, .int, []),
  (1, 41, .int, []),
  (1, 164, .int, []),
  (1, 41, .int, []),
  (1, 41, .int, []),
  (1, 41, .boolean, []),
  (1, 3100, .int, []),
  (1, 3100, .int, []),
  (1, 3100, .int, []),
  (1, 3100, .int, []),
  (1, 3100, .int, []),
  (1, 3100, .int, []),
  (1, 3100, .int, []),
  (1, 3100, .int, []),
  (1, 3100, .int, []),
  (2, 3100, .long, []),
  (2, 60, .long, []),
  (1, 6000, .int, []),
  (1, 6000, .int, []),
  (1, 100, .int, []),
  (1, 100, .int, []),
  (1, 400, .int, []),
  (1, 400, .int, []),
  (1, 400, .int, [])]
def YR_39 : List Ent := [(0, 9, .int, [0, 0, 0, 0, 0, 0, 0, 0, 0, 0, 0, 0, 0, 0, 0, 0, 0, 0, 0, 0, 0, 0, 0, 0, 0, 0, 0, 0, 0, 0, 0, 0, 0, 0, 0, 0, 0, 0, 0, 0, 0, 0, 0, 0, 0, 0, 0, 1, 4, 5, 6, 7, 8, 9, 10, 11, 12, 13, 14, 15, 16, 17, 18, 19, 20, 21, 22, 23, 24, 25, 26, 27, 28, 29, 30, 31, 32, 33, 34, 35, 36, 37, 38, 39, 40, 41, 2, 2, 2, 2, 2, 2, 2, 2, 2, 2, 2, 2, 2, 2, 2, 2, 2, 2, 2, 2, 2, 2, 2, 2, 2, 2, 2, 2, 2, 2, 2, 2, 2, 2, 2, 2, 2, 2, 2, 2, 2, 2, 2]),
  (1, 3000, .byte, []),
  (1, 3000, .byte, []),
  (1, 3000, .byte, []),
  (1, 6000, .int, []),
  (1, 6000, .int, []),
  (1, 6000, .int, []),
  (1, 6000, .int, []),
  (1, 6000, .boolean, []),
  (1, 20000, .int, []),
  (1, 3100, .int, []),
  (2, 41, .long, []),
  (1, 41, .int, []),
  (1, 41, .int, []),
  (1, 41, .int, []),
  (1, 41, .int, []),
  (1, 164, .int, []),
  (1, 41, .int, []),
  (1, 41, .int, []),
  (1, 41, .boolean, []),
  (1, 3100, .int, []),
  (1, 3100, .int, []),
  (1, 3100, .int, []),
  (1, 3100, .int, []),
  (1, 3100, .int, []),
  (1, 3100, .int, []),
  (1, 3100, .int, []),
  (1, 3100, .int, []),
  (1, 3100, .int, []),
  (2, 3100, .long, []),
  (2, 60, .long, []),
  (1, 6000, .int, []),
  (1, 6000, .int, []),
  (1, 100, .int, []),
  (1, 100, .int, []),
  (1, 400, .int, []),
  (1, 400, .int, []),
  (1, 400, .int, []),
  (1, 400, .int, [])]
def YR_40 : List Ent := [(0, 9, .int, [0, 0, 0, 0, 0, 0, 0, 0, 0, 0, 0, 0, 0, 0, 0, 0, 0, 0, 0, 0, 0, 0, 0, 0, 0, 0, 0, 0, 0, 0, 0, 0, 0, 0, 0, 0, 0, 0, 0, 0, 0, 0, 0, 0, 0, 0, 0, 1, 4, 5, 6, 7, 8, 9, 10, 11, 12, 13, 14, 15, 16, 17, 18, 19, 20, 21, 22, 23, 24, 25, 26, 27, 28, 29, 30, 31, 32, 33, 34, 35, 36, 37, 38, 39, 40, 41, 42, 2, 2, 2, 2, 2, 2, 2, 2, 2, 2, 2, 2, 2, 2, 2, 2, 2, 2, 2, 2, 2, 2, 2, 2, 2, 2, 2, 2, 2, 2, 2, 2, 2, 2, 2, 2, 2, 2, 2, 2, 2, 2]),
  (1, 3000, .byte, []),
  (1, 3000, .byte, []),
  (1, 3000, .byte, []),
  (1, 6000, .int, []),
  (1, 6000, .int, []),
  (1, 6000, .int, []),
  (1, 6000, .int, []),
  (1, 6000, .boolean, []),
  (1, 20000, .int, []),
  (1, 3100, .int, []),
  (2, 41, .long, []),
  (1, 41, .int, []),
  (1, 41, .int, []),
  (1, 41, .int, []),
  (1, 41, .int, []),
  (1, 164, .int, []),
  (1, 41, .int, []),
  (1, 41, .int, []),
  (1, 41, .boolean, []),
  (1, 3100, .int, []),
  (1, 3100, .int, []),
  (1, 3100, .int, []),
  (1, 3100, .int, []),
  (1, 3100, .int, []),
  (1, 3100, .int, []),
  (1, 3100, .int, []),
  (1, 3100, .int, []),
  (1, 3100, .int, []),
  (2, 3100, .long, []),
  (2, 60, .long, []),
  (1, 6000, .int, []),
  (1, 6000, .int, []),
  (1, 100, .int, []),
  (1, 100, .int, []),
  (1, 400, .int, []),
  (1, 400, .int, []),
  (1, 400, .int, []),
  (1, 400, .int, []),
  (1, 3100, .int, [])]
def YR_41 : List Ent := [(0, 9, .int, [0, 0, 0, 0, 0, 0, 0, 0, 0, 0, 0, 0, 0, 0, 0, 0, 0, 0, 0, 0, 0, 0, 0, 0, 0, 0, 0, 0, 0, 0, 0, 0, 0, 0, 0, 0, 0, 0, 0, 0, 0, 0, 0, 0, 0, 0, 0, 1, 4, 5, 6, 7, 8, 9, 10, 11, 12, 13, 14, 15, 16, 17, 18, 19, 20, 21, 22, 23, 24, 25, 26, 27, 28, 29, 30, 31, 32, 33, 34, 35, 36, 37, 38, 39, 40, 41, 42, 43, 2, 2, 2, 2, 2, 2, 2, 2, 2, 2, 2, 2, 2, 2, 2, 2, 2, 2, 2, 2, 2, 2, 2, 2, 2, 2, 2, 2, 2, 2, 2, 2, 2, 2, 2, 2, 2, 2, 2, 2, 2]),
  (1, 3000, .byte, []),
  (1, 3000, .byte, []),
  (1, 3000, .byte, []),
  (1, 6000, .int, []),
  (1, 6000, .int, []),
  (1, 6000, .int, []),
  (1, 6000, .int, []),
  (1, 6000, .boolean, []),
  (1, 20000, .int, []),
  (1, 3100, .int, []),
  (2, 41, .long, []),
  (1, 41, .int, []),
  (1, 41, .int, []),
  (1, 41, .int, []),
  (1, 41, .int, []),
  (1, 164, .int, []),
  (1, 41, .int, []),
  (1, 41, .int, []),
  (1, 41, .boolean, []),
  (1, 3100, .int, []),
  (1, 3100, .int, []),
  (1, 3100, .int, []),
  (1, 3100, .int, []),
  (1, 3100, .int, []),
  (1, 3100, .int, []),
  (1, 3100, .int, []),
  (1, 3100, .int, []),
  (1, 3100, .int, []),
  (2, 3100, .long, []),
  (2, 60, .long, []),
  (1, 6000, .int, []),
  (1, 6000, .int, []),
  (1, 100, .int, []),
  (1, 100, .int, []),
  (1, 400, .int, []),
  (1, 400, .int, []),
  (1, 400, .int, []),
  (1, 400, .int, []),
  (1, 3100, .int, []),
  (1, 24000, .int, [])]
def YR_42 : List Ent := [(0, 9, .int, [0, 0, 0, 0, 0, 0, 0, 0, 0, 0, 0, 0, 0, 0, 0, 0, 0, 0, 0, 0, 0, 0, 0, 0, 0, 0, 0, 0, 0, 0, 0, 0, 0, 0, 0, 0, 0, 0, 0, 0, 0, 0, 0, 0, 0, 0, 0, 1, 4, 5, 6, 7, 8, 9, 10, 11, 12, 13, 14, 15, 16, 17, 18, 19, 20, 21, 22, 23, 24, 25, 26, 27, 28, 29, 30, 31, 32, 33, 34, 35, 36, 37, 38, 39, 40, 41, 42, 43, 44, 2, 2, 2, 2, 2, 2, 2, 2, 2, 2, 2, 2, 2, 2, 2, 2, 2, 2, 2, 2, 2, 2, 2, 2, 2, 2, 2, 2, 2, 2, 2, 2, 2, 2, 2, 2, 2, 2, 2, 2]),
  (1, 3000, .byte, []),
  (1, 3000, .byte, []),
  (1, 3000, .byte, []),
  (1, 6000, .int, []),
  (1, 6000, .int, []),
  (1, 6000, .int, []),
  (1, 6000, .int, []),
  (1, 6000, .boolean, []),
  (1, 20000, .int, []),
  (1, 3100, .int, []),
  (2, 41, .long, []),
  (1, 41, .int, []),
  (1, 41, .int, []),
  (1, 41, .int, []),
  (1, 41, .int, []),
  (1, 164, .int, []),
  (1, 41, .int, []),
  (1, 41, .int, []),
  (1, 41, .boolean, []),
  (1, 3100, .int, []),
  (1, 3100, .int, []),
  (1, 3100, .int, []),
  (1, 3100, .int, []),
  (1, 3100, .int, []),
  (1, 3100, .int, []),
  (1, 3100, .int, []),
  (1, 3100, .int, []),
  (1, 3100, .int, []),
  (2, 3100, .long, []),
  (2, 60, .long, []),
  (1, 6000, .int, []),
  (1, 6000, .int, []),
  (1, 100, .int, []),
  (1, 100, .int, []),
  (1, 400, .int, []),
  (1, 400, .int, []),
  (1, 400, .int, []),
  (1, 400, .int, []),
  (1, 3100, .int, []),
  (1, 24000, .int, []),
  (1, 24000, .int, [])]
def YR_43 : List Ent := [(0, 9, .int, [0, 0, 0, 0, 0, 0, 0, 0, 0, 0, 0, 0, 0, 0, 0, 0, 0, 0, 0, 0, 0, 0, 0, 0, 0, 0, 0, 0, 0, 0, 0, 0, 0, 0, 0, 0, 0, 0, 0, 0, 0, 0, 0, 0, 0, 0, 0, 1, 4, 5, 6, 7, 8, 9, 10, 11, 12, 13, 14, 15, 16, 17, 18, 19, 20, 21, 22, 23, 24, 25, 26, 27, 28, 29, 30, 31, 32, 33, 34, 35, 36, 37, 38, 39, 40, 41, 42, 43, 44, 45, 2, 2, 2, 2, 2, 2, 2, 2, 2, 2, 2, 2, 2, 2, 2, 2, 2, 2, 2, 2, 2, 2, 2, 2, 2, 2, 2, 2, 2, 2, 2, 2, 2, 2, 2, 2, 2, 2, 2]),
  (1, 3000, .byte, []),
  (1, 3000, .byte, []),
  (1, 3000, .byte, []),
  (1, 6000, .int, []),
  (1, 6000, .int, []),
  (1, 6000, .int, []),
  (1, 6000, .int, []),
  (1, 6000, .boolean, []),
  (1, 20000, .int, []),
  (1, 3100, .int, []),
  (2, 41, .long, []),
  (1, 41, .int, []),
  (1, 41, .int, []),
  (1, 41, .int, []),
  (1, 41, .int, []),
  (1, 164, .int, []),
  (1, 41, .int, []),
  (1, 41, .int, []),
  (1, 41, .boolean, []),
  (1, 3100, .int, []),
  (1, 3100, .int, []),
  (1, 3100, .int, []),
  (1, 3100, .int, []),
  (1, 3100, .int, []),
  (1, 3100, .int, []),
  (1, 3100, .int, []),
  (1, 3100, .int, []),
  (1, 3100, .int, []),
  (2, 3100, .long, []),
  (2, 60, .long, []),
  (1, 6000, .int, []),
  (1, 6000, .int, []),
  (1, 100, .int, []),
  (1, 100, .int, []),
  (1, 400, .int, []),
  (1, 400, .int, []),
  (1, 400, .int, []),
  (1, 400, .int, []),
  (1, 3100, .int, []),
  (1, 24000, .int, []),
  (1, 24000, .int, []),
  (1, 24000, .int, [])]
def YR_44 : List Ent := [(0, 9, .int, [0, 0, 0, 0, 0, 0, 0, 0, 0, 0, 0, 0, 0, 0, 0, 0, 0, 0, 0, 0, 0, 0, 0, 0, 0, 0, 0, 0, 0, 0, 0, 0, 0, 0, 0, 0, 0, 0, 0, 0, 0, 0, 0, 0, 0, 0, 0, 1, 4, 5, 6, 7, 8, 9, 10, 11, 12, 13, 14, 15, 16, 17, 18, 19, 20, 21, 22, 23, 24, 25, 26, 27, 28, 29, 30, 31, 32, 33, 34, 35, 36, 37, 38, 39, 40, 41, 42, 43, 44, 45, 46, 2, 2, 2, 2, 2, 2, 2, 2, 2, 2, 2, 2, 2, 2, 2, 2, 2, 2, 2, 2, 2, 2, 2, 2, 2, 2, 2, 2, 2, 2, 2, 2, 2, 2, 2, 2, 2, 2]),
  (1, 3000, .byte, []),
  (1, 3000, .byte, []),
  (1, 3000, .byte, []),
  (1, 6000, .int, []),
  (1, 6000, .int, []),
  (1, 6000, .int, []),
  (1, 6000, .int, []),
  (1, 6000, .boolean, []),
  (1, 20000, .int, []),
  (1, 3100, .int, []),
  (2, 41, .long, []),
  (1, 41, .int, []),
  (1, 41, .int, []),
  (1, 41, .int, []),
  (1, 41, .int, []),
  (1, 164, .int, []),
  (1, 41, .int, []),
  (1, 41, .int, []),
  (1, 41, .boolean, []),
  (1, 3100, .int, []),
  (1, 3100, .int, []),
  (1, 3100, .int, []),
  (1, 3100, .int, []),
  (1, 3100, .int, []),
  (1, 3100, .int, []),
  (1, 3100, .int, []),
  (1, 3100, .int, []),
  (1, 3100, .int, []),
  (2, 3100, .long, []),
  (2, 60, .long, []),
  (1, 6000, .int, []),
  (1, 6000, .int, []),
  (1, 100, .int, []),
  (1, 100, .int, []),
  (1, 400, .int, []),
  (1, 400, .int, []),
  (1, 400, .int, []),
  (1, 400, .int, []),
  (1, 3100, .int, []),
  (1, 24000, .int, []),
  (1, 24000, .int, []),
  (1, 24000, .int, []),
  (1, 24000, .int, [])]
def YR_45 : List Ent := [(0, 9, .int, [0, 0, 0, 0, 0, 0, 0, 0, 0, 0, 0, 0, 0, 0, 0, 0, 0, 0, 0, 0, 0, 0, 0, 0, 0, 0, 0, 0, 0, 0, 0, 0, 0, 0, 0, 0, 0, 0, 0, 0, 0, 0, 0, 0, 0, 0, 0, 1, 4, 5, 6, 7, 8, 9, 10, 11, 12, 13, 14, 15, 16, 17, 18, 19, 20, 21, 22, 23, 24, 25, 26, 27, 28, 29, 30, 31, 32, 33, 34, 35, 36, 37, 38, 39, 40, 41, 42, 43, 44, 45, 46, 47, 2, 2, 2, 2, 2, 2, 2, 2, 2, 2, 2, 2, 2, 2, 2, 2, 2, 2, 2, 2, 2, 2, 2, 2, 2, 2, 2, 2, 2, 2, 2, 2, 2, 2, 2, 2, 2]),
  (1, 3000, .byte, []),
  (1, 3000, .byte, []),
  (1, 3000, .byte, []),
  (1, 6000, .int, []),
  (1, 6000, .int, []),
  (1, 6000, .int, []),
  (1, 6000, .int, []),
  (1, 6000, .boolean, []),
  (1, 20000, .int, []),
  (1, 3100, .int, []),
  (2, 41, .long, []),
  (1, 41, .int, []),
  (1, 41, .int, []),
  (1, 41, .int, []),
  (1, 41, .int, []),
  (1, 164, .int, []),
  (1, 41, .int, []),
  (1, 41, .int, []),
  (1, 41, .boolean, []),
  (1, 3100, .int, []),
  (1, 3100, .int, []),
  (1, 3100, .int, []),
  (1, 3100, .int, []),
  (1, 3100, .int, []),
  (1, 3100, .int, []),
  (1, 3100, .int, []),
  (1, 3100, .int, []),
  (1, 3100, .int, []),
  (2, 3100, .long, []),
  (2, 60, .long, []),
  (1, 6000, .int, []),
  (1, 6000, .int, []),
  (1, 100, .int, []),
  (1, 100, .int, []),
  (1, 400, .int, []),
  (1, 400, .int, []),
  (1, 400, .int, []),
  (1, 400, .int, []),
  (1, 3100, .int, []),
  (1, 24000, .int, []),
  (1, 24000, .int, []),
  (1, 24000, .int, []),
  (1, 24000, .int, []),
  (1, 41, .int, [])]
def YR_46 : List Ent := [(0, 9, .int, [0, 0, 0, 0, 0, 0, 0, 0, 0, 0, 0, 0, 0, 0, 0, 0, 0, 0, 0, 0, 0, 0, 0, 0, 0, 0, 0, 0, 0, 0, 0, 0, 0, 0, 0, 0, 0, 0, 0, 0, 0, 0, 0, 0, 0, 0, 0, 1, 4, 5, 6, 7, 8, 9, 10, 11, 12, 13, 14, 15, 16, 17, 18, 19, 20, 21, 22, 23, 24, 25, 26, 27, 28, 29, 30, 31, 32, 33, 34, 35, 36, 37, 38, 39, 40, 41, 42, 43, 44, 45, 46, 47, 48, 2, 2, 2, 2, 2, 2, 2, 2, 2, 2, 2, 2, 2, 2, 2, 2, 2, 2, 2, 2, 2, 2, 2, 2, 2, 2, 2, 2, 2, 2, 2, 2, 2, 2, 2, 2]),
  (1, 3000, .byte, []),
  (1, 3000, .byte, []),
  (1, 3000, .byte, []),
  (1, 6000, .int, []),
  (1, 6000, .int, []),
  (1, 6000, .int, []),
  (1, 6000, .int, []),
  (1, 6000, .boolean, []),
  (1, 20000, .int, []),
  (1, 3100, .int, []),
  (2, 41, .long, []),
  (1, 41, .int, []),
  (1, 41, .int, []),
  (1, 41, .int, []),
  (1, 41, .int, []),
  (1, 164, .int, []),
  (1, 41, .int, []),
  (1, 41, .int, []),
  (1, 41, .boolean, []),
  (1, 3100, .int, []),
  (1, 3100, .int, []),
  (1, 3100, .int, []),
  (1, 3100, .int, []),
  (1, 3100, .int, []),
  (1, 3100, .int, []),
  (1, 3100, .int, []),
  (1, 3100, .int, []),
  (1, 3100, .int, []),
  (2, 3100, .long, []),
  (2, 60, .long, []),
  (1, 6000, .int, []),
  (1, 6000, .int, []),
  (1, 100, .int, []),
  (1, 100, .int, []),
  (1, 400, .int, []),
  (1, 400, .int, []),
  (1, 400, .int, []),
  (1, 400, .int, []),
  (1, 3100, .int, []),
  (1, 24000, .int, []),
  (1, 24000, .int, []),
  (1, 24000, .int, []),
  (1, 24000, .int, []),
  (1, 41, .int, []),
  (1, 3100, .int, [])]
def YR_47 : List Ent := [(0, 9, .int, [0, 0, 0, 0, 0, 0, 0, 0, 0, 0, 0, 0, 0, 0, 0, 0, 0, 0, 0, 0, 0, 0, 0, 0, 0, 0, 0, 0, 0, 0, 0, 0, 0, 0, 0, 0, 0, 0, 0, 0, 0, 0, 0, 0, 0, 0, 0, 1, 4, 5, 6, 7, 8, 9, 10, 11, 12, 13, 14, 15, 16, 17, 18, 19, 20, 21, 22, 23, 24, 25, 26, 27, 28, 29, 30, 31, 32, 33, 34, 35, 36, 37, 38, 39, 40, 41, 42, 43, 44, 45, 46, 47, 48, 49, 2, 2, 2, 2, 2, 2, 2, 2, 2, 2, 2, 2, 2, 2, 2, 2, 2, 2, 2, 2, 2, 2, 2, 2, 2, 2, 2, 2, 2, 2, 2, 2, 2, 2, 2]),
  (1, 3000, .byte, []),
  (1, 3000, .byte, []),
  (1, 3000, .byte, []),
  (1, 6000, .int, []),
  (1, 6000, .int, []),
  (1, 6000, .int, []),
  (1, 6000, .int, []),
  (1, 6000, .boolean, []),
  (1, 20000, .int, []),
  (1, 3100, .int, []),
  (2, 41, .long, []),
  (1, 41, .int, []),
  (1, 41, .int, []),
  (1, 41, .int, []),
  (1, 41, .int, []),
  (1, 164, .int, []),
  (1, 41, .int, []),
  (1, 41, .int, []),
  (1, 41, .boolean, []),
  (1, 3100, .int, []),
  (1, 3100, .int, []),
  (1, 3100, .int, []),
  (1, 3100, .int, []),
  (1, 3100, .int, []),
  (1, 3100, .int, []),
  (1, 3100, .int, []),
  (1, 3100, .int, []),
  (1, 3100, .int, []),
  (2, 3100, .long, []),
  (2, 60, .long, []),
  (1, 6000, .int, []),
  (1, 6000, .int, []),
  (1, 100, .int, []),
  (1, 100, .int, []),
  (1, 400, .int, []),
  (1, 400, .int, []),
  (1, 400, .int, []),
  (1, 400, .int, []),
  (1, 3100, .int, []),
  (1, 24000, .int, []),
  (1, 24000, .int, []),
  (1, 24000, .int, []),
  (1, 24000, .int, []),
  (1, 41, .int, []),
  (1, 3100, .int, []),
  (1, 3100, .int, [])]
def YR_48 : List Ent := [(0, 9, .int, [0, 0, 0, 0, 0, 0, 0, 0, 0, 0, 0, 0, 0, 0, 0, 0, 0, 0, 0, 0, 0, 0, 0, 0, 0, 0, 0, 0, 0, 0, 0, 0, 0, 0, 0, 0, 0, 0, 0, 0, 0, 0, 0, 0, 0, 0, 0, 1, 4, 5, 6, 7, 8, 9, 10, 11, 12, 13, 14, 15, 16, 17, 18, 19, 20, 21, 22, 23, 24, 25, 26, 27, 28, 29, 30, 31, 32, 33, 34, 35, 36, 37, 38, 39, 40, 41, 42, 43, 44, 45, 46, 47, 48, 49, 50, 2, 2, 2, 2, 2, 2, 2, 2, 2, 2, 2, 2, 2, 2, 2, 2, 2, 2, 2, 2, 2, 2, 2, 2, 2, 2, 2, 2, 2, 2, 2, 2, 2, 2]),
  (1, 3000, .byte, []),
  (1, 3000, .byte, []),
  (1, 3000, .byte, []),
  (1, 6000, .int, []),
  (1, 6000, .int, []),
  (1, 6000, .int, []),
  (1, 6000, .int, []),
  (1, 6000, .boolean, []),
  (1, 20000, .int, []),
  (1, 3100, .int, []),
  (2, 41, .long, []),
  (1, 41, .int, []),
  (1, 41, .int, []),
  (1, 41, .int, []),
  (1, 41, .int, []),
  (1, 164, .int, []),
  (1, 41, .int, []),
  (1, 41, .int, []),
  (1, 41, .boolean, []),
  (1, 3100, .int, []),
  (1, 3100, .int, []),
  (1, 3100, .int, []),
  (1, 3100, .int, []),
  (1, 3100, .int, []),
  (1, 3100, .int, []),
  (1, 3100, .int, []),
  (1, 3100, .int, []),
  (1, 3100, .int, []),
  (2, 3100, .long, []),
  (2, 60, .long, []),
  (1, 6000, .int, []),
  (1, 6000, .int, []),
  (1, 100, .int, []),
  (1, 100, .int, []),
  (1, 400, .int, []),
  (1, 400, .int, []),
  (1, 400, .int, []),
  (1, 400, .int, []),
  (1, 3100, .int, []),
  (1, 24000, .int, []),
  (1, 24000, .int, []),
  (1, 24000, .int, []),
  (1, 24000, .int, []),
  (1, 41, .int, []),
  (1, 3100, .int, []),
  (1, 3100, .int, []),
  (1, 3100, .int, [])]
def YR_49 : List Ent := [(0, 9, .int, [0, 0, 0, 0, 0, 0, 0, 0, 0, 0, 0, 0, 0, 0, 0, 0, 0, 0, 0, 0, 0, 0, 0, 0, 0, 0, 0, 0, 0, 0, 0, 0, 0, 0, 0, 0, 0, 0, 0, 0, 0, 0, 0, 0, 0, 0, 0, 1, 4, 5, 6, 7, 8, 9, 10, 11, 12, 13, 14, 15, 16, 17, 18, 19, 20, 21, 22, 23, 24, 25, 26, 27, 28, 29, 30, 31, 32, 33, 34, 35, 36, 37, 38, 39, 40, 41, 42, 43, 44, 45, 46, 47, 48, 49, 50, 51, 2, 2, 2, 2, 2, 2, 2, 2, 2, 2, 2, 2, 2, 2, 2, 2, 2, 2, 2, 2, 2, 2, 2, 2, 2, 2, 2, 2, 2, 2, 2, 2, 2]),
  (1, 3000, .byte, []),
  (1, 3000, .byte, []),
  (1, 3000, .byte, []),
  (1, 6000, .int, []),
  (1, 6000, .int, []),
  (1, 6000, .int, []),
  (1, 6000, .int, []),
  (1, 6000, .boolean, []),
  (1, 20000, .int, []),
  (1, 3100, .int, []),
  (2, 41, .long, []),
  (1, 41, .int, []),
  (1, 41, .int, []),
  (1, 41, .int, []),
  (1, 41, .int, []),
  (1, 164, .int, []),
  (1, 41, .int, []),
  (1, 41, .int, []),
  (1, 41, .boolean, []),
  (1, 3100, .int, []),
  (1, 3100, .int, []),
  (1, 3100, .int, []),
  (1, 3100, .int, []),
  (1, 3100, .int, []),
  (1, 3100, .int, []),
  (1, 3100, .int, []),
  (1, 3100, .int, []),
  (1, 3100, .int, []),
  (2, 3100, .long, []),
  (2, 60, .long, []),
  (1, 6000, .int, []),
  (1, 6000, .int, []),
  (1, 100, .int, []),
  (1, 100, .int, []),
  (1, 400, .int, []),
  (1, 400, .int, []),
  (1, 400, .int, []),
  (1, 400, .int, []),
  (1, 3100, .int, []),
  (1, 24000, .int, []),
  (1, 24000, .int, []),
  (1, 24000, .int, []),
  (1, 24000, .int, []),
  (1, 41, .int, []),
  (1, 3100, .int, []),
  (1, 3100, .int, []),
  (1, 3100, .int, []),
  (1, 13000, .int, [])]
def YR_50 : List Ent := [(0, 9, .int, [0, 0, 0, 0, 0, 0, 0, 0, 0, 0, 0, 0, 0, 0, 0, 0, 0, 0, 0, 0, 0, 0, 0, 0, 0, 0, 0, 0, 0, 0, 0, 0, 0, 0, 0, 0, 0, 0, 0, 0, 0, 0, 0, 0, 0, 0, 0, 1, 4, 5, 6, 7, 8, 9, 10, 11, 12, 13, 14, 15, 16, 17, 18, 19, 20, 21, 22, 23, 24, 25, 26, 27, 28, 29, 30, 31, 32, 33, 34, 35, 36, 37, 38, 39, 40, 41, 42, 43, 44, 45, 46, 47, 48, 49, 50, 51, 52, 2, 2, 2, 2, 2, 2, 2, 2, 2, 2, 2, 2, 2, 2, 2, 2, 2, 2, 2, 2, 2, 2, 2, 2, 2, 2, 2, 2, 2, 2, 2, 2]),
  (1, 3000, .byte, []),
  (1, 3000, .byte, []),
  (1, 3000, .byte, []),
  (1, 6000, .int, []),
  (1, 6000, .int, []),
  (1, 6000, .int, []),
  (1, 6000, .int, []),
  (1, 6000, .boolean, []),
  (1, 20000, .int, []),
  (1, 3100, .int, []),
  (2, 41, .long, []),
  (1, 41, .int, []),
  (1, 41, .int, []),
  (1, 41, .int, []),
  (1, 41, .int, []),
  (1, 164, .int, []),
  (1, 41, .int, []),
  (1, 41, .int, []),
  (1, 41, .boolean, []),
  (1, 3100, .int, []),
  (1, 3100, .int, []),
  (1, 3100, .int, []),
  (1, 3100, .int, []),
  (1, 3100, .int, []),
  (1, 3100, .int, []),
  (1, 3100, .int, []),
  (1, 3100, .int, []),
  (1, 3100, .int, []),
  (2, 3100, .long, []),
  (2, 60, .long, []),
  (1, 6000, .int, []),
  (1, 6000, .int, []),
  (1, 100, .int, []),
  (1, 100, .int, []),
  (1, 400, .int, []),
  (1, 400, .int, []),
  (1, 400, .int, []),
  (1, 400, .int, []),
  (1, 3100, .int, []),
  (1, 24000, .int, []),
  (1, 24000, .int, []),
  (1, 24000, .int, []),
  (1, 24000, .int, []),
  (1, 41, .int, []),
  (1, 3100, .int, []),
  (1, 3100, .int, []),
  (1, 3100, .int, []),
  (1, 13000, .int, []),
  (1, 13000, .int, [])]
def YR_51 : List Ent := [(0, 9, .int, [0, 0, 0, 0, 0, 0, 0, 0, 0, 0, 0, 0, 0, 0, 0, 0, 0, 0, 0, 0, 0, 0, 0, 0, 0, 0, 0, 0, 0, 0, 0, 0, 0, 0, 0, 0, 0, 0, 0, 0, 0, 0, 0, 0, 0, 0, 0, 1, 4, 5, 6, 7, 8, 9, 10, 11, 12, 13, 14, 15, 16, 17, 18, 19, 20, 21, 22, 23, 24, 25, 26, 27, 28, 29, 30, 31, 32, 33, 34, 35, 36, 37, 38, 39, 40, 41, 42, 43, 44, 45, 46, 47, 48, 49, 50, 51, 52, 53, 2, 2, 2, 2, 2, 2, 2, 2, 2, 2, 2, 2, 2, 2, 2, 2, 2, 2, 2, 2, 2, 2, 2, 2, 2, 2, 2, 2, 2, 2, 2]),
  (1, 3000, .byte, []),
  (1, 3000, .byte, []),
  (1, 3000, .byte, []),
  (1, 6000, .int, []),
  (1, 6000, .int, []),
  (1, 6000, .int, []),
  (1, 6000, .int, []),
  (1, 6000, .boolean, []),
  (1, 20000, .int, []),
  (1, 3100, .int, []),
  (2, 41, .long, []),
  (1, 41, .int, []),
  (1, 41, .int, []),
  (1, 41, .int, []),
  (1, 41, .int, []),
  (1, 164, .int, []),
  (1, 41, .int, []),
  (1, 41, .int, []),
  (1, 41, .boolean, []),
  (1, 3100, .int, []),
  (1, 3100, .int, []),
  (1, 3100, .int, []),
  (1, 3100, .int, []),
  (1, 3100, .int, []),
  (1, 3100, .int, []),
  (1, 3100, .int, []),
  (1, 3100, .int, []),
  (1, 3100, .int, []),
  (2, 3100, .long, []),
  (2, 60, .long, []),
  (1, 6000, .int, []),
  (1, 6000, .int, []),
  (1, 100, .int, []),
  (1, 100, .int, []),
  (1, 400, .int, []),
  (1, 400, .int, []),
  (1, 400, .int, []),
  (1, 400, .int, []),
  (1, 3100, .int, []),
  (1, 24000, .int, []),
  (1, 24000, .int, []),
  (1, 24000, .int, []),
  (1, 24000, .int, []),
  (1, 41, .int, []),
  (1, 3100, .int, []),
  (1, 3100, .int, []),
  (1, 3100, .int, []),
  (1, 13000, .int, []),
  (1, 13000, .int, []),
  (1, 13000, .int, [])]
def YR_52 : List Ent := [(0, 9, .int, [0, 0, 0, 0, 0, 0, 0, 0, 0, 0, 0, 0, 0, 0, 0, 0, 0, 0, 0, 0, 0, 0, 0, 0, 0, 0, 0, 0, 0, 0, 0, 0, 0, 0, 0, 0, 0, 0, 0, 0, 0, 0, 0, 0, 0, 0, 0, 1, 4, 5, 6, 7, 8, 9, 10, 11, 12, 13, 14, 15, 16, 17, 18, 19, 20, 21, 22, 23, 24, 25, 26, 27, 28, 29, 30, 31, 32, 33, 34, 35, 36, 37, 38, 39, 40, 41, 42, 43, 44, 45, 46, 47, 48, 49, 50, 51, 52, 53, 54, 2, 2, 2, 2, 2, 2, 2, 2, 2, 2, 2, 2, 2, 2, 2, 2, 2, 2, 2, 2, 2, 2, 2, 2, 2, 2, 2, 2, 2, 2]),
  (1, 3000, .byte, []),
  (1, 3000, .byte, []),
  (1, 3000, .byte, []),
  (1, 6000, .int, []),
  (1, 6000, .int, []),
  (1, 6000, .int, []),
  (1, 6000, .int, []),
  (1, 6000, .boolean, []),
  (1, 20000, .int, []),
  (1, 3100, .int, []),
  (2, 41, .long, []),
  (1, 41, .int, []),
  (1, 41, .int, []),
  (1, 41, .int, []),
  (1, 41, .int, []),
  (1, 164, .int, []),
  (1, 41, .int, []),
  (1, 41, .int, []),
  (1, 41, .boolean, []),
  (1, 3100, .int, []),
  (1, 3100, .int, []),
  (1, 3100, .int, []),
  (1, 3100, .int, []),
  (1, 3100, .int, []),
  (1, 3100, .int, []),
  (1, 3100, .int, []),
  (1, 3100, .int, []),
  (1, 3100, .int, []),
  (2, 3100, .long, []),
  (2, 60, .long, []),
  (1, 6000, .int, []),
  (1, 6000, .int, []),
  (1, 100, .int, []),
  (1, 100, .int, []),
  (1, 400, .int, []),
  (1, 400, .int, []),
  (1, 400, .int, []),
  (1, 400, .int, []),
  (1, 3100, .int, []),
  (1, 24000, .int, []),
  (1, 24000, .int, []),
  (1, 24000, .int, []),
  (1, 24000, .int, []),
  (1, 41, .int, []),
  (1, 3100, .int, []),
  (1, 3100, .int, []),
  (1, 3100, .int, []),
  (1, 13000, .int, []),
  (1, 13000, .int, []),
  (1, 13000, .int, []),
  (1, 3100, .int, [])]
def YR_53 : List Ent := [(0, 9, .int, [0, 0, 0, 0, 0, 0, 0, 0, 0, 0, 0, 0, 0, 0, 0, 0, 0, 0, 0, 0, 0, 0, 0, 0, 0, 0, 0, 0, 0, 0, 0, 0, 0, 0, 0, 0, 0, 0, 0, 0, 0, 0, 0, 0, 0, 0, 0, 1, 4, 5, 6, 7, 8, 9, 10, 11, 12, 13, 14, 15, 16, 17, 18, 19, 20, 21, 22, 23, 24, 25, 26, 27, 28, 29, 30, 31, 32, 33, 34, 35, 36, 37, 38, 39, 40, 41, 42, 43, 44, 45, 46, 47, 48, 49, 50, 51, 52, 53, 54, 55, 2, 2, 2, 2, 2, 2, 2, 2, 2, 2, 2, 2, 2, 2, 2, 2, 2, 2, 2, 2, 2, 2, 2, 2, 2, 2, 2, 2, 2]),
  (1, 3000, .byte, []),
  (1, 3000, .byte, []),
  (1, 3000, .byte, []),
  (1, 6000, .int, []),
  (1, 6000, .int, []),
  (1, 6000, .int, []),
  (1, 6000, .int, []),
  (1, 6000, .boolean, []),
  (1, 20000, .int, []),
  (1, 3100, .int, []),
  (2, 41, .long, []),
  (1, 41, .int, []),
  (1, 41, .int, []),
  (1, 41, .int, []),
  (1, 41, .int, []),
  (1, 164, .int, []),
  (1, 41, .int, []),
  (1, 41, .int, []),
  (1, 41, .boolean, []),
  (1, 3100, .int, []),
  (1, 3100, .int, []),
  (1, 3100, .int, []),
  (1, 3100, .int, []),
  (1, 3100, .int, []),
  (1, 3100, .int, []),
  (1, 3100, .int, []),
  (1, 3100, .int, []),
  (1, 3100, .int, []),
  (2, 3100, .long, []),
  (2, 60, .long, []),
  (1, 6000, .int, []),
  (1, 6000, .int, []),
  (1, 100, .int, []),
  (1, 100, .int, []),
  (1, 400, .int, []),
  (1, 400, .int, []),
  (1, 400, .int, []),
  (1, 400, .int, []),
  (1, 3100, .int, []),
  (1, 24000, .int, []),
  (1, 24000, .int, []),
  (1, 24000, .int, []),
  (1, 24000, .int, []),
  (1, 41, .int, []),
  (1, 3100, .int, []),
  (1, 3100, .int, []),
  (1, 3100, .int, []),
  (1, 13000, .int, []),
  (1, 13000, .int, []),
  (1, 13000, .int, []),
  (1, 3100, .int, []),
  (1, 12000, .int, [])]
def YR_54 : List Ent := [(0, 9, .int, [0, 0, 0, 0, 0, 0, 0, 0, 0, 0, 0, 0, 0, 0, 0, 0, 0, 0, 0, 0, 0, 0, 0, 0, 0, 0, 0, 0, 0, 0, 0, 0, 0, 0, 0, 0, 0, 0, 0, 0, 0, 0, 0, 0, 0, 0, 0, 1, 4, 5, 6, 7, 8, 9, 10, 11, 12, 13, 14, 15, 16, 17, 18, 19, 20, 21, 22, 23, 24, 25, 26, 27, 28, 29, 30, 31, 32, 33, 34, 35, 36, 37, 38, 39, 40, 41, 42, 43, 44, 45, 46, 47, 48, 49, 50, 51, 52, 53, 54, 55, 56, 2, 2, 2, 2, 2, 2, 2, 2, 2, 2, 2, 2, 2, 2, 2, 2, 2, 2, 2, 2, 2, 2, 2, 2, 2, 2, 2, 2]),
  (1, 3000, .byte, []),
  (1, 3000, .byte, []),
  (1, 3000, .byte, []),
  (1, 6000, .int, []),
  (1, 6000, .int, []),
  (1, 6000, .int, []),
  (1, 6000, .int, []),
  (1, 6000, .boolean, []),
  (1, 20000, .int, []),
  (1, 3100, .int, []),
  (2, 41, .long, []),
  (1, 41, .int, []),
  (1, 41, .int, []),
  (1, 41, .int, []),
  (1, 41, .int, []),
  (1, 164, .int, []),
  (1, 41, .int, []),
  (1, 41, .int, []),
  (1, 41, .boolean, []),
  (1, 3100, .int, []),
  (1, 3100, .int, []),
  (1, 3100, .int, []),
  (1, 3100, .int, []),
  (1, 3100, .int, []),
  (1, 3100, .int, []),
  (1, 3100, .int, []),
  (1, 3100, .int, []),
  (1, 3100, .int, []),
  (2, 3100, .long, []),
  (2, 60, .long, []),
  (1, 6000, .int, []),
  (1, 6000, .int, []),
  (1, 100, .int, []),
  (1, 100, .int, []),
  (1, 400, .int, []),
  (1, 400, .int, []),
  (1, 400, .int, []),
  (1, 400, .int, []),
  (1, 3100, .int, []),
  (1, 24000, .int, []),
  (1, 24000, .int, []),
  (1, 24000, .int, []),
  (1, 24000, .int, []),
  (1, 41, .int, []),
  (1, 3100, .int, []),
  (1, 3100, .int, []),
  (1, 3100, .int, []),
  (1, 13000, .int, []),
  (1, 13000, .int, []),
  (1, 13000, .int, []),
  (1, 3100, .int, []),
  (1, 12000, .int, []),
  (1, 12000, .int, [])]
def YR_55 : List Ent := [(0, 9, .int, [0, 0, 0, 0, 0, 0, 0, 0, 0, 0, 0, 0, 0, 0, 0, 0, 0, 0, 0, 0, 0, 0, 0, 0, 0, 0, 0, 0, 0, 0, 0, 0, 0, 0, 0, 0, 0, 0, 0, 0, 0, 0, 0, 0, 0, 0, 0, 1, 4, 5, 6, 7, 8, 9, 10, 11, 12, 13, 14, 15, 16, 17, 18, 19, 20, 21, 22, 23, 24, 25, 26, 27, 28, 29, 30, 31, 32, 33, 34, 35, 36, 37, 38, 39, 40, 41, 42, 43, 44, 45, 46, 47, 48, 49, 50, 51, 52, 53, 54, 55, 56, 57, 2, 2, 2, 2, 2, 2, 2, 2, 2, 2, 2, 2, 2, 2, 2, 2, 2, 2, 2, 2, 2, 2, 2, 2, 2, 2, 2]),
  (1, 3000, .byte, []),
  (1, 3000, .byte, []),
  (1, 3000, .byte, []),
  (1, 6000, .int, []),
  (1, 6000, .int, []),
  (1, 6000, .int, []),
  (1, 6000, .int, []),
  (1, 6000, .boolean, []),
  (1, 20000, .int, []),
  (1, 3100, .int, []),
  (2, 41, .long, []),
  (1, 41, .int, []),
  (1, 41, .int, []),
  (1, 41, .int, []),
  (1, 41, .int, []),
  (1, 164, .int, []),
  (1, 41, .int, []),
  (1, 41, .int, []),
  (1, 41, .boolean, []),
  (1, 3100, .int, []),
  (1, 3100, .int, []),
  (1, 3100, .int, []),
  (1, 3100, .int, []),
  (1, 3100, .int, []),
  (1, 3100, .int, []),
  (1, 3100, .int, []),
  (1, 3100, .int, []),
  (1, 3100, .int, []),
  (2, 3100, .long, []),
  (2, 60, .long, []),
  (1, 6000, .int, []),
  (1, 6000, .int, []),
  (1, 100, .int, []),
  (1, 100, .int, []),
  (1, 400, .int, []),
  (1, 400, .int, []),
  (1, 400, .int, []),
  (1, 400, .int, []),
  (1, 3100, .int, []),
  (1, 24000, .int, []),
  (1, 24000, .int, []),
  (1, 24000, .int, []),
  (1, 24000, .int, []),
  (1, 41, .int, []),
  (1, 3100, .int, []),
  (1, 3100, .int, []),
  (1, 3100, .int, []),
  (1, 13000, .int, []),
  (1, 13000, .int, []),
  (1, 13000, .int, []),
  (1, 3100, .int, []),
  (1, 12000, .int, []),
  (1, 12000, .int, []),
  (1, 12000, .int, [])]
def YR_56 : List Ent := [(0, 9, .int, [0, 0, 0, 0, 0, 0, 0, 0, 0, 0, 0, 0, 0, 0, 0, 0, 0, 0, 0, 0, 0, 0, 0, 0, 0, 0, 0, 0, 0, 0, 0, 0, 0, 0, 0, 0, 0, 0, 0, 0, 0, 0, 0, 0, 0, 0, 0, 1, 4, 5, 6, 7, 8, 9, 10, 11, 12, 13, 14, 15, 16, 17, 18, 19, 20, 21, 22, 23, 24, 25, 26, 27, 28, 29, 30, 31, 32, 33, 34, 35, 36, 37, 38, 39, 40, 41, 42, 43, 44, 45, 46, 47, 48, 49, 50, 51, 52, 53, 54, 55, 56, 57, 58, 2, 2, 2, 2, 2, 2, 2, 2, 2, 2, 2, 2, 2, 2, 2, 2, 2, 2, 2, 2, 2, 2, 2, 2, 2, 2]),
  (1, 3000, .byte, []),
  (1, 3000, .byte, []),
  (1, 3000, .byte, []),
  (1, 6000, .int, []),
  (1, 6000, .int, []),
  (1, 6000, .int, []),
  (1, 6000, .int, []),
  (1, 6000, .boolean, []),
  (1, 20000, .int, []),
  (1, 3100, .int, []),
  (2, 41, .long, []),
  (1, 41, .int, []),
  (1, 41, .int, []),
  (1, 41, .int, []),
  (1, 41, .int, []),
  (1, 164, .int, []),
  (1, 41, .int, []),
  (1, 41, .int, []),
  (1, 41, .boolean, []),
  (1, 3100, .int, []),
  (1, 3100, .int, []),
  (1, 3100, .int, []),
  (1, 3100, .int, []),
  (1, 3100, .int, []),
  (1, 3100, .int, []),
  (1, 3100, .int, []),
  (1, 3100, .int, []),
  (1, 3100, .int, []),
  (2, 3100, .long, []),
  (2, 60, .long, []),
  (1, 6000, .int, []),
  (1, 6000, .int, []),
  (1, 100, .int, []),
  (1, 100, .int, []),
  (1, 400, .int, []),
  (1, 400, .int, []),
  (1, 400, .int, []),
  (1, 400, .int, []),
  (1, 3100, .int, []),
  (1, 24000, .int, []),
  (1, 24000, .int, []),
  (1, 24000, .int, []),
  (1, 24000, .int, []),
  (1, 41, .int, []),
  (1, 3100, .int, []),
  (1, 3100, .int, []),
  (1, 3100, .int, []),
  (1, 13000, .int, []),
  (1, 13000, .int, []),
  (1, 13000, .int, []),
  (1, 3100, .int, []),
  (1, 12000, .int, []),
  (1, 12000, .int, []),
  (1, 12000, .int, []),
  (1, 12000, .int, [])]
def YR_57 : List Ent := [(0, 9, .int, [0, 0, 0, 0, 0, 0, 0, 0, 0, 0, 0, 0, 0, 0, 0, 0, 0, 0, 0, 0, 0, 0, 0, 0, 0, 0, 0, 0, 0, 0, 0, 0, 0, 0, 0, 0, 0, 0, 0, 0, 0, 0, 0, 0, 0, 0, 0, 1, 4, 5, 6, 7, 8, 9, 10, 11, 12, 13, 14, 15, 16, 17, 18, 19, 20, 21, 22, 23, 24, 25, 26, 27, 28, 29, 30, 31, 32, 33, 34, 35, 36, 37, 38, 39, 40, 41, 42, 43, 44, 45, 46, 47, 48, 49, 50, 51, 52, 53, 54, 55, 56, 57, 58, 59, 2, 2, 2, 2, 2, 2, 2, 2, 2, 2, 2, 2, 2, 2, 2, 2, 2, 2, 2, 2, 2, 2, 2, 2, 2]),
  (1, 3000, .byte, []),
  (1, 3000, .byte, []),
  (1, 3000, .byte, []),
  (1, 6000, .int, []),
  (1, 6000, .int, []),
  (1, 6000, .int, []),
  (1, 6000, .int, []),
  (1, 6000, .boolean, []),
  (1, 20000, .int, []),
  (1, 3100, .int, []),
  (2, 41, .long, []),
  (1, 41, .int, []),
  (1, 41, .int, []),
  (1, 41, .int, []),
  (1, 41, .int, []),
  (1, 164, .int, []),
  (1, 41, .int, []),
  (1, 41, .int, []),
  (1, 41, .boolean, []),
  (1, 3100, .int, []),
  (1, 3100, .int, []),
  (1, 3100, .int, []),
  (1, 3100, .int, []),
  (1, 3100, .int, []),
  (1, 3100, .int, []),
  (1, 3100, .int, []),
  (1, 3100, .int, []),
  (1, 3100, .int, []),
  (2, 3100, .long, []),
  (2, 60, .long, []),
  (1, 6000, .int, []),
  (1, 6000, .int, []),
  (1, 100, .int, []),
  (1, 100, .int, []),
  (1, 400, .int, []),
  (1, 400, .int, []),
  (1, 400, .int, []),
  (1, 400, .int, []),
  (1, 3100, .int, []),
  (1, 24000, .int, []),
  (1, 24000, .int, []),
  (1, 24000, .int, []),
  (1, 24000, .int, []),
  (1, 41, .int, []),
  (1, 3100, .int, []),
  (1, 3100, .int, []),
  (1, 3100, .int, []),
  (1, 13000, .int, []),
  (1, 13000, .int, []),
  (1, 13000, .int, []),
  (1, 3100, .int, []),
  (1, 12000, .int, []),
  (1, 12000, .int, []),
  (1, 12000, .int, []),
  (1, 12000, .int, []),
  (1, 12000, .int, [])]
def YR_58 : List Ent := [(0, 9, .int, [0, 0, 0, 0, 0, 0, 0, 0, 0, 0, 0, 0, 0, 0, 0, 0, 0, 0, 0, 0, 0, 0, 0, 0, 0, 0, 0, 0, 0, 0, 0, 0, 0, 0, 0, 0, 0, 0, 0, 0, 0, 0, 0, 0, 0, 0, 0, 1, 4, 5, 6, 7, 8, 9, 10, 11, 12, 13, 14, 15, 16, 17, 18, 19, 20, 21, 22, 23, 24, 25, 26, 27, 28, 29, 30, 31, 32, 33, 34, 35, 36, 37, 38, 39, 40, 41, 42, 43, 44, 45, 46, 47, 48, 49, 50, 51, 52, 53, 54, 55, 56, 57, 58, 59, 60, 2, 2, 2, 2, 2, 2, 2, 2, 2, 2, 2, 2, 2, 2, 2, 2, 2, 2, 2, 2, 2, 2, 2, 2]),
  (1, 3000, .byte, []),
  (1, 3000, .byte, []),
  (1, 3000, .byte, []),
  (1, 6000, .int, []),
  (1, 6000, .int, []),
  (1, 6000, .int, []),
  (1, 6000, .int, []),
  (1, 6000, .boolean, []),
  (1, 20000, .int, []),
  (1, 3100, .int, []),
  (2, 41, .long, []),
  (1, 41, .int, []),
  (1, 41, .int, []),
  (1, 41, .int, []),
  (1, 41, .int, []),
  (1, 164, .int, []),
  (1, 41, .int, []),
  (1, 41, .int, []),
  (1, 41, .boolean, []),
  (1, 3100, .int, []),
  (1, 3100, .int, []),
  (1, 3100, .int, []),
  (1, 3100, .int, []),
  (1, 3100, .int, []),
  (1, 3100, .int, []),
  (1, 3100, .int, []),
  (1, 3100, .int, []),
  (1, 3100, .int, []),
  (2, 3100, .long, []),
  (2, 60, .long, []),
  (1, 6000, .int, []),
  (1, 6000, .int, []),
  (1, 100, .int, []),
  (1, 100, .int, []),
  (1, 400, .int, []),
  (1, 400, .int, []),
  (1, 400, .int, []),
  (1, 400, .int, []),
  (1, 3100, .int, []),
  (1, 24000, .int, []),
  (1, 24000, .int, []),
  (1, 24000, .int, []),
  (1, 24000, .int, []),
  (1, 41, .int, []),
  (1, 3100, .int, []),
  (1, 3100, .int, []),
  (1, 3100, .int, []),
  (1, 13000, .int, []),
  (1, 13000, .int, []),
  (1, 13000, .int, []),
  (1, 3100, .int, []),
  (1, 12000, .int, []),
  (1, 12000, .int, []),
  (1, 12000, .int, []),
  (1, 12000, .int, []),
  (1, 12000, .int, []),
  (1, 41, .boolean, [])]
def YR_59 : List Ent := [(0, 9, .int, [0, 0, 0, 0, 0, 0, 0, 0, 0, 0, 0, 0, 0, 0, 0, 0, 0, 0, 0, 0, 0, 0, 0, 0, 0, 0, 0, 0, 0, 0, 0, 0, 0, 0, 0, 0, 0, 0, 0, 0, 0, 0, 0, 0, 0, 0, 0, 1, 4, 5, 6, 7, 8, 9, 10, 11, 12, 13, 14, 15, 16, 17, 18, 19, 20, 21, 22, 23, 24, 25, 26, 27, 28, 29, 30, 31, 32, 33, 34, 35, 36, 37, 38, 39, 40, 41, 42, 43, 44, 45, 46, 47, 48, 49, 50, 51, 52, 53, 54, 55, 56, 57, 58, 59, 60, 61, 2, 2, 2, 2, 2, 2, 2, 2, 2, 2, 2, 2, 2, 2, 2, 2, 2, 2, 2, 2, 2, 2, 2]),
  (1, 3000, .byte, []),
  (1, 3000, .byte, []),
  (1, 3000, .byte, []),
  (1, 6000, .int, []),
  (1, 6000, .int, []),
  (1, 6000, .int, []),
  (1, 6000, .int, []),
  (1, 6000, .boolean, []),
  (1, 20000, .int, []),
  (1, 3100, .int, []),
  (2, 41, .long, []),
  (1, 41, .int, []),
  (1, 41, .int, []),
  (1, 41, .int, []),
  (1, 41, .int, []),
  (1, 164, .int, []),
  (1, 41, .int, []),
  (1, 41, .int, []),
  (1, 41, .boolean, []),
  (1, 3100, .int, []),
  (1, 3100, .int, []),
  (1, 3100, .int, []),
  (1, 3100, .int, []),
  (1, 3100, .int, []),
  (1, 3100, .int, []),
  (1, 3100, .int, []),
  (1, 3100, .int, []),
  (1, 3100, .int, []),
  (2, 3100, .long, []),
  (2, 60, .long, []),
  (1, 6000, .int, []),
  (1, 6000, .int, []),
  (1, 100, .int, []),
  (1, 100, .int, []),
  (1, 400, .int, []),
  (1, 400, .int, []),
  (1, 400, .int, []),
  (1, 400, .int, []),
  (1, 3100, .int, []),
  (1, 24000, .int, []),
  (1, 24000, .int, []),
  (1, 24000, .int, []),
  (1, 24000, .int, []),
  (1, 41, .int, []),
  (1, 3100, .int, []),
  (1, 3100, .int, []),
  (1, 3100, .int, []),
  (1, 13000, .int, []),
  (1, 13000, .int, []),
  (1, 13000, .int, []),
  (1, 3100, .int, []),
  (1, 12000, .int, []),
  (1, 12000, .int, []),
  (1, 12000, .int, []),
  (1, 12000, .int, []),
  (1, 12000, .int, []),
  (1, 41, .boolean, []),
  (1, 3200, .int, [])]
def YR_60 : List Ent := [(0, 9, .int, [0, 0, 0, 0, 0, 0, 0, 0, 0, 0, 0, 0, 0, 0, 0, 0, 0, 0, 0, 0, 0, 0, 0, 0, 0, 0, 0, 0, 0, 0, 0, 0, 0, 0, 0, 0, 0, 0, 0, 0, 0, 0, 0, 0, 0, 0, 0, 1, 4, 5, 6, 7, 8, 9, 10, 11, 12, 13, 14, 15, 16, 17, 18, 19, 20, 21, 22, 23, 24, 25, 26, 27, 28, 29, 30, 31, 32, 33, 34, 35, 36, 37, 38, 39, 40, 41, 42, 43, 44, 45, 46, 47, 48, 49, 50, 51, 52, 53, 54, 55, 56, 57, 58, 59, 60, 61, 62, 2, 2, 2, 2, 2, 2, 2, 2, 2, 2, 2, 2, 2, 2, 2, 2, 2, 2, 2, 2, 2, 2]),
  (1, 3000, .byte, []),
  (1, 3000, .byte, []),
  (1, 3000, .byte, []),
  (1, 6000, .int, []),
  (1, 6000, .int, []),
  (1, 6000, .int, []),
  (1, 6000, .int, []),
  (1, 6000, .boolean, []),
  (1, 20000, .int, []),
  (1, 3100, .int, []),
  (2, 41, .long, []),
  (1, 41, .int, []),
  (1, 41, .int, []),
  (1, 41, .int, []),
  (1, 41, .int, []),
  (1, 164, .int, []),
  (1, 41, .int, []),
  (1, 41, .int, []),
  (1, 41, .boolean, []),
  (1, 3100, .int, []),
  (1, 3100, .int, []),
  (1, 3100, .int, []),
  (1, 3100, .int, []),
  (1, 3100, .int, []),
  (1, 3100, .int, []),
  (1, 3100, .int, []),
  (1, 3100, .int, []),
  (1, 3100, .int, []),
  (2, 3100, .long, []),
  (2, 60, .long, []),
  (1, 6000, .int, []),
  (1, 6000, .int, []),
  (1, 100, .int, []),
  (1, 100, .int, []),
  (1, 400, .int, []),
  (1, 400, .int, []),
  (1, 400, .int, []),
  (1, 400, .int, []),
  (1, 3100, .int, []),
  (1, 24000, .int, []),
  (1, 24000, .int, []),
  (1, 24000, .int, []),
  (1, 24000, .int, []),
  (1, 41, .int, []),
  (1, 3100, .int, []),
  (1, 3100, .int, []),
  (1, 3100, .int, []),
  (1, 13000, .int, []),
  (1, 13000, .int, []),
  (1, 13000, .int, []),
  (1, 3100, .int, []),
  (1, 12000, .int, []),
  (1, 12000, .int, []),
  (1, 12000, .int, []),
  (1, 12000, .int, []),
  (1, 12000, .int, []),
  (1, 41, .boolean, []),
  (1, 3200, .int, []),
  (1, 60, .int, [])]
def YR_61 : List Ent := [(0, 9, .int, [0, 0, 0, 0, 0, 0, 0, 0, 0, 0, 0, 0, 0, 0, 0, 0, 0, 0, 0, 0, 0, 0, 0, 0, 0, 0, 0, 0, 0, 0, 0, 0, 0, 0, 0, 0, 0, 0, 0, 0, 0, 0, 0, 0, 0, 0, 0, 1, 4, 5, 6, 7, 8, 9, 10, 11, 12, 13, 14, 15, 16, 17, 18, 19, 20, 21, 22, 23, 24, 25, 26, 27, 28, 29, 30, 31, 32, 33, 34, 35, 36, 37, 38, 39, 40, 41, 42, 43, 44, 45, 46, 47, 48, 49, 50, 51, 52, 53, 54, 55, 56, 57, 58, 59, 60, 61, 62, 63, 2, 2, 2, 2, 2, 2, 2, 2, 2, 2, 2, 2, 2, 2, 2, 2, 2, 2, 2, 2, 2]),
  (1, 3000, .byte, []),
  (1, 3000, .byte, []),
  (1, 3000, .byte, []),
  (1, 6000, .int, []),
  (1, 6000, .int, []),
  (1, 6000, .int, []),
  (1, 6000, .int, []),
  (1, 6000, .boolean, []),
  (1, 20000, .int, []),
  (1, 3100, .int, []),
  (2, 41, .long, []),
  (1, 41, .int, []),
  (1, 41, .int, []),
  (1, 41, .int, []),
  (1, 41, .int, []),
  (1, 164, .int, []),
  (1, 41, .int, []),
  (1, 41, .int, []),
  (1, 41, .boolean, []),
  (1, 3100, .int, []),
  (1, 3100, .int, []),
  (1, 3100, .int, []),
  (1, 3100, .int, []),
  (1, 3100, .int, []),
  (1, 3100, .int, []),
  (1, 3100, .int, []),
  (1, 3100, .int, []),
  (1, 3100, .int, []),
  (2, 3100, .long, []),
  (2, 60, .long, []),
  (1, 6000, .int, []),
  (1, 6000, .int, []),
  (1, 100, .int, []),
  (1, 100, .int, []),
  (1, 400, .int, []),
  (1, 400, .int, []),
  (1, 400, .int, []),
  (1, 400, .int, []),
  (1, 3100, .int, []),
  (1, 24000, .int, []),
  (1, 24000, .int, []),
  (1, 24000, .int, []),
  (1, 24000, .int, []),
  (1, 41, .int, []),
  (1, 3100, .int, []),
  (1, 3100, .int, []),
  (1, 3100, .int, []),
  (1, 13000, .int, []),
  (1, 13000, .int, []),
  (1, 13000, .int, []),
  (1, 3100, .int, []),
  (1, 12000, .int, []),
  (1, 12000, .int, []),
  (1, 12000, .int, []),
  (1, 12000, .int, []),
  (1, 12000, .int, []),
  (1, 41, .boolean, []),
  (1, 3200, .int, []),
  (1, 60, .int, []),
  (1, 20400, .int, [])]
def YR_62 : List Ent := [(0, 9, .int, [0, 0, 0, 0, 0, 0, 0, 0, 0, 0, 0, 0, 0, 0, 0, 0, 0, 0, 0, 0, 0, 0, 0, 0, 0, 0, 0, 0, 0, 0, 0, 0, 0, 0, 0, 0, 0, 0, 0, 0, 0, 0, 0, 0, 0, 0, 0, 1, 4, 5, 6, 7, 8, 9, 10, 11, 12, 13, 14, 15, 16, 17, 18, 19, 20, 21, 22, 23, 24, 25, 26, 27, 28, 29, 30, 31, 32, 33, 34, 35, 36, 37, 38, 39, 40, 41, 42, 43, 44, 45, 46, 47, 48, 49, 50, 51, 52, 53, 54, 55, 56, 57, 58, 59, 60, 61, 62, 63, 64, 2, 2, 2, 2, 2, 2, 2, 2, 2, 2, 2, 2, 2, 2, 2, 2, 2, 2, 2, 2]),
  (1, 3000, .byte, []),
  (1, 3000, .byte, []),
  (1, 3000, .byte, []),
  (1, 6000, .int, []),
  (1, 6000, .int, []),
  (1, 6000, .int, []),
  (1, 6000, .int, []),
  (1, 6000, .boolean, []),
  (1, 20000, .int, []),
  (1, 3100, .int, []),
  (2, 41, .long, []),
  (1, 41, .int, []),
  (1, 41, .int, []),
  (1, 41, .int, []),
  (1, 41, .int, []),
  (1, 164, .int, []),
  (1, 41, .int, []),
  (1, 41, .int, []),
  (1, 41, .boolean, []),
  (1, 3100, .int, []),
  (1, 3100, .int, []),
  (1, 3100, .int, []),
  (1, 3100, .int, []),
  (1, 3100, .int, []),
  (1, 3100, .int, []),
  (1, 3100, .int, []),
  (1, 3100, .int, []),
  (1, 3100, .int, []),
  (2, 3100, .long, []),
  (2, 60, .long, []),
  (1, 6000, .int, []),
  (1, 6000, .int, []),
  (1, 100, .int, []),
  (1, 100, .int, []),
  (1, 400, .int, []),
  (1, 400, .int, []),
  (1, 400, .int, []),
  (1, 400, .int, []),
  (1, 3100, .int, []),
  (1, 24000, .int, []),
  (1, 24000, .int, []),
  (1, 24000, .int, []),
  (1, 24000, .int, []),
  (1, 41, .int, []),
  (1, 3100, .int, []),
  (1, 3100, .int, []),
  (1, 3100, .int, []),
  (1, 13000, .int, []),
  (1, 13000, .int, []),
  (1, 13000, .int, []),
  (1, 3100, .int, []),
  (1, 12000, .int, []),
  (1, 12000, .int, []),
  (1, 12000, .int, []),
  (1, 12000, .int, []),
  (1, 12000, .int, []),
  (1, 41, .boolean, []),
  (1, 3200, .int, []),
  (1, 60, .int, []),
  (1, 20400, .int, []),
  (1, 20400, .int, [])]
def YR_63 : List Ent := [(0, 9, .int, [0, 0, 0, 0, 0, 0, 0, 0, 0, 0, 0, 0, 0, 0, 0, 0, 0, 0, 0, 0, 0, 0, 0, 0, 0, 0, 0, 0, 0, 0, 0, 0, 0, 0, 0, 0, 0, 0, 0, 0, 0, 0, 0, 0, 0, 0, 0, 1, 4, 5, 6, 7, 8, 9, 10, 11, 12, 13, 14, 15, 16, 17, 18, 19, 20, 21, 22, 23, 24, 25, 26, 27, 28, 29, 30, 31, 32, 33, 34, 35, 36, 37, 38, 39, 40, 41, 42, 43, 44, 45, 46, 47, 48, 49, 50, 51, 52, 53, 54, 55, 56, 57, 58, 59, 60, 61, 62, 63, 64, 65, 2, 2, 2, 2, 2, 2, 2, 2, 2, 2, 2, 2, 2, 2, 2, 2, 2, 2, 2]),
  (1, 3000, .byte, []),
  (1, 3000, .byte, []),
  (1, 3000, .byte, []),
  (1, 6000, .int, []),
  (1, 6000, .int, []),
  (1, 6000, .int, []),
  (1, 6000, .int, []),
  (1, 6000, .boolean, []),
  (1, 20000, .int, []),
  (1, 3100, .int, []),
  (2, 41, .long, []),
  (1, 41, .int, []),
  (1, 41, .int, []),
  (1, 41, .int, []),
  (1, 41, .int, []),
  (1, 164, .int, []),
  (1, 41, .int, []),
  (1, 41, .int, []),
  (1, 41, .boolean, []),
  (1, 3100, .int, []),
  (1, 3100, .int, []),
  (1, 3100, .int, []),
  (1, 3100, .int, []),
  (1, 3100, .int, []),
  (1, 3100, .int, []),
  (1, 3100, .int, []),
  (1, 3100, .int, []),
  (1, 3100, .int, []),
  (2, 3100, .long, []),
  (2, 60, .long, []),
  (1, 6000, .int, []),
  (1, 6000, .int, []),
  (1, 100, .int, []),
  (1, 100, .int, []),
  (1, 400, .int, []),
  (1, 400, .int, []),
  (1, 400, .int, []),
  (1, 400, .int, []),
  (1, 3100, .int, []),
  (1, 24000, .int, []),
  (1, 24000, .int, []),
  (1, 24000, .int, []),
  (1, 24000, .int, []),
  (1, 41, .int, []),
  (1, 3100, .int, []),
  (1, 3100, .int, []),
  (1, 3100, .int, []),
  (1, 13000, .int, []),
  (1, 13000, .int, []),
  (1, 13000, .int, []),
  (1, 3100, .int, []),
  (1, 12000, .int, []),
  (1, 12000, .int, []),
  (1, 12000, .int, []),
  (1, 12000, .int, []),
  (1, 12000, .int, []),
  (1, 41, .boolean, []),
  (1, 3200, .int, []),
  (1, 60, .int, []),
  (1, 20400, .int, []),
  (1, 20400, .int, []),
  (1, 5000, .int, [])]
def YR_64 : List Ent := [(0, 9, .int, [0, 0, 0, 0, 0, 0, 0, 0, 0, 0, 0, 0, 0, 0, 0, 0, 0, 0, 0, 0, 0, 0, 0, 0, 0, 0, 0, 0, 0, 0, 0, 0, 0, 0, 0, 0, 0, 0, 0, 0, 0, 0, 0, 0, 0, 0, 0, 1, 4, 5, 6, 7, 8, 9, 10, 11, 12, 13, 14, 15, 16, 17, 18, 19, 20, 21, 22, 23, 24, 25, 26, 27, 28, 29, 30, 31, 32, 33, 34, 35, 36, 37, 38, 39, 40, 41, 42, 43, 44, 45, 46, 47, 48, 49, 50, 51, 52, 53, 54, 55, 56, 57, 58, 59, 60, 61, 62, 63, 64, 65, 66, 2, 2, 2, 2, 2, 2, 2, 2, 2, 2, 2, 2, 2, 2, 2, 2, 2, 2]),
  (1, 3000, .byte, []),
  (1, 3000, .byte, []),
  (1, 3000, .byte, []),
  (1, 6000, .int, []),
  (1, 6000, .int, []),
  (1, 6000, .int, []),
  (1, 6000, .int, []),
  (1, 6000, .boolean, []),
  (1, 20000, .int, []),
  (1, 3100, .int, []),
  (2, 41, .long, []),
  (1, 41, .int, []),
  (1, 41, .int, []),
  (1, 41, .int, []),
  (1, 41, .int, []),
  (1, 164, .int, []),
  (1, 41, .int, []),
  (1, 41, .int, []),
  (1, 41, .boolean, []),
  (1, 3100, .int, []),
  (1, 3100, .int, []),
  (1, 3100, .int, []),
  (1, 3100, .int, []),
  (1, 3100, .int, []),
  (1, 3100, .int, []),
  (1, 3100, .int, []),
  (1, 3100, .int, []),
  (1, 3100, .int, []),
  (2, 3100, .long, []),
  (2, 60, .long, []),
  (1, 6000, .int, []),
  (1, 6000, .int, []),
  (1, 100, .int, []),
  (1, 100, .int, []),
  (1, 400, .int, []),
  (1, 400, .int, []),
  (1, 400, .int, []),
  (1, 400, .int, []),
  (1, 3100, .int, []),
  (1, 24000, .int, []),
  (1, 24000, .int, []),
  (1, 24000, .int, []),
  (1, 24000, .int, []),
  (1, 41, .int, []),
  (1, 3100, .int, []),
  (1, 3100, .int, []),
  (1, 3100, .int, []),
  (1, 13000, .int, []),
  (1, 13000, .int, []),
  (1, 13000, .int, []),
  (1, 3100, .int, []),
  (1, 12000, .int, []),
  (1, 12000, .int, []),
  (1, 12000, .int, []),
  (1, 12000, .int, []),
  (1, 12000, .int, []),
  (1, 41, .boolean, []),
  (1, 3200, .int, []),
  (1, 60, .int, []),
  (1, 20400, .int, []),
  (1, 20400, .int, []),
  (1, 5000, .int, []),
  (1, 5000, .int, [])]
def YR_65 : List Ent := [(0, 9, .int, [0, 0, 0, 0, 0, 0, 0, 0, 0, 0, 0, 0, 0, 0, 0, 0, 0, 0, 0, 0, 0, 0, 0, 0, 0, 0, 0, 0, 0, 0, 0, 0, 0, 0, 0, 0, 0, 0, 0, 0, 0, 0, 0, 0, 0, 0, 0, 1, 4, 5, 6, 7, 8, 9, 10, 11, 12, 13, 14, 15, 16, 17, 18, 19, 20, 21, 22, 23, 24, 25, 26, 27, 28, 29, 30, 31, 32, 33, 34, 35, 36, 37, 38, 39, 40, 41, 42, 43, 44, 45, 46, 47, 48, 49, 50, 51, 52, 53, 54, 55, 56, 57, 58, 59, 60, 61, 62, 63, 64, 65, 66, 67, 2, 2, 2, 2, 2, 2, 2, 2, 2, 2, 2, 2, 2, 2, 2, 2, 2]),
  (1, 3000, .byte, []),
  (1, 3000, .byte, []),
  (1, 3000, .byte, []),
  (1, 6000, .int, []),
  (1, 6000, .int, []),
  (1, 6000, .int, []),
  (1, 6000, .int, []),
  (1, 6000, .boolean, []),
  (1, 20000, .int, []),
  (1, 3100, .int, []),
  (2, 41, .long, []),
  (1, 41, .int, []),
  (1, 41, .int, []),
  (1, 41, .int, []),
  (1, 41, .int, []),
  (1, 164, .int, []),
  (1, 41, .int, []),
  (1, 41, .int, []),
  (1, 41, .boolean, []),
  (1, 3100, .int, []),
  (1, 3100, .int, []),
  (1, 3100, .int, []),
  (1, 3100, .int, []),
  (1, 3100, .int, []),
  (1, 3100, .int, []),
  (1, 3100, .int, []),
  (1, 3100, .int, []),
  (1, 3100, .int, []),
  (2, 3100, .long, []),
  (2, 60, .long, []),
  (1, 6000, .int, []),
  (1, 6000, .int, []),
  (1, 100, .int, []),
  (1, 100, .int, []),
  (1, 400, .int, []),
  (1, 400, .int, []),
  (1, 400, .int, []),
  (1, 400, .int, []),
  (1, 3100, .int, []),
  (1, 24000, .int, []),
  (1, 24000, .int, []),
  (1, 24000, .int, []),
  (1, 24000, .int, []),
  (1, 41, .int, []),
  (1, 3100, .int, []),
  (1, 3100, .int, []),
  (1, 3100, .int, []),
  (1, 13000, .int, []),
  (1, 13000, .int, []),
  (1, 13000, .int, []),
  (1, 3100, .int, []),
  (1, 12000, .int, []),
  (1, 12000, .int, []),
  (1, 12000, .int, []),
  (1, 12000, .int, []),
  (1, 12000, .int, []),
  (1, 41, .boolean, []),
  (1, 3200, .int, []),
  (1, 60, .int, []),
  (1, 20400, .int, []),
  (1, 20400, .int, []),
  (1, 5000, .int, []),
  (1, 5000, .int, []),
  (1, 1000, .boolean, [])]
def YR_66 : List Ent := [(0, 9, .int, [0, 0, 0, 0, 0, 0, 0, 0, 0, 0, 0, 0, 0, 0, 0, 0, 0, 0, 0, 0, 0, 0, 0, 0, 0, 0, 0, 0, 0, 0, 0, 0, 0, 0, 0, 0, 0, 0, 0, 0, 0, 0, 0, 0, 0, 0, 0, 1, 4, 5, 6, 7, 8, 9, 10, 11, 12, 13, 14, 15, 16, 17, 18, 19, 20, 21, 22, 23, 24, 25, 26, 27, 28, 29, 30, 31, 32, 33, 34, 35, 36, 37, 38, 39, 40, 41, 42, 43, 44, 45, 46, 47, 48, 49, 50, 51, 52, 53, 54, 55, 56, 57, 58, 59, 60, 61, 62, 63, 64, 65, 66, 67, 68, 2, 2, 2, 2, 2, 2, 2, 2, 2, 2, 2, 2, 2, 2, 2, 2]),
  (1, 3000, .byte, []),
  (1, 3000, .byte, []),
  (1, 3000, .byte, []),
  (1, 6000, .int, []),
  (1, 6000, .int, []),
  (1, 6000, .int, []),
  (1, 6000, .int, []),
  (1, 6000, .boolean, []),
  (1, 20000, .int, []),
  (1, 3100, .int, []),
  (2, 41, .long, []),
  (1, 41, .int, []),
  (1, 41, .int, []),
  (1, 41, .int, []),
  (1, 41, .int, []),
  (1, 164, .int, []),
  (1, 41, .int, []),
  (1, 41, .int, []),
  (1, 41, .boolean, []),
  (1, 3100, .int, []),
  (1, 3100, .int, []),
  (1, 3100, .int, []),
  (1, 3100, .int, []),
  (1, 3100, .int, []),
  (1, 3100, .int, []),
  (1, 3100, .int, []),
  (1, 3100, .int, []),
  (1, 3100, .int, []),
  (2, 3100, .long, []),
  (2, 60, .long, []),
  (1, 6000, .int, []),
  (1, 6000, .int, []),
  (1, 100, .int, []),
  (1, 100, .int, []),
  (1, 400, .int, []),
  (1, 400, .int, []),
  (1, 400, .int, []),
  (1, 400, .int, []),
  (1, 3100, .int, []),
  (1, 24000, .int, []),
  (1, 24000, .int, []),
  (1, 24000, .int, []),
  (1, 24000, .int, []),
  (1, 41, .int, []),
  (1, 3100, .int, []),
  (1, 3100, .int, []),
  (1, 3100, .int, []),
  (1, 13000, .int, []),
  (1, 13000, .int, []),
  (1, 13000, .int, []),
  (1, 3100, .int, []),
  (1, 12000, .int, []),
  (1, 12000, .int, []),
  (1, 12000, .int, []),
  (1, 12000, .int, []),
  (1, 12000, .int, []),
  (1, 41, .boolean, []),
  (1, 3200, .int, []),
  (1, 60, .int, []),
  (1, 20400, .int, []),
  (1, 20400, .int, []),
  (1, 5000, .int, []),
  (1, 5000, .int, []),
  (1, 1000, .boolean, []),
  (1, 1000, .int, [])]
def YR_67 : List Ent := [(0, 9, .int, [0, 0, 0, 0, 0, 0, 0, 0, 0, 0, 0, 0, 0, 0, 0, 0, 0, 0, 0, 0, 0, 0, 0, 0, 0, 0, 0, 0, 0, 0, 0, 0, 0, 0, 0, 0, 0, 0, 0, 0, 0, 0, 0, 0, 0, 0, 0, 1, 4, 5, 6, 7, 8, 9, 10, 11, 12, 13, 14, 15, 16, 17, 18, 19, 20, 21, 22, 23, 24, 25, 26, 27, 28, 29, 30, 31, 32, 33, 34, 35, 36, 37, 38, 39, 40, 41, 42, 43, 44, 45, 46, 47, 48, 49, 50, 51, 52, 53, 54, 55, 56, 57, 58, 59, 60, 61, 62, 63, 64, 65, 66, 67, 68, 69, 2, 2, 2, 2, 2, 2, 2, 2, 2, 2, 2, 2, 2, 2, 2]),
  (1, 3000, .byte, []),
  (1, 3000, .byte, []),
  (1, 3000, .byte, []),
  (1, 6000, .int, []),
  (1, 6000, .int, []),
  (1, 6000, .int, []),
  (1, 6000, .int, []),
  (1, 6000, .boolean, []),
  (1, 20000, .int, []),
  (1, 3100, .int, []),
  (2, 41, .long, []),
  (1, 41, .int, []),
  (1, 41, .int, []),
  (1, 41, .int, []),
  (1, 41, .int, []),
  (1, 164, .int, []),
  (1, 41, .int, []),
  (1, 41, .int, []),
  (1, 41, .boolean, []),
  (1, 3100, .int, []),
  (1, 3100, .int, []),
  (1, 3100, .int, []),
  (1, 3100, .int, []),
  (1, 3100, .int, []),
  (1, 3100, .int, []),
  (1, 3100, .int, []),
  (1, 3100, .int, []),
  (1, 3100, .int, []),
  (2, 3100, .long, []),
  (2, 60, .long, []),
  (1, 6000, .int, []),
  (1, 6000, .int, []),
  (1, 100, .int, []),
  (1, 100, .int, []),
  (1, 400, .int, []),
  (1, 400, .int, []),
  (1, 400, .int, []),
  (1, 400, .int, []),
  (1, 3100, .int, []),
  (1, 24000, .int, []),
  (1, 24000, .int, []),
  (1, 24000, .int, []),
  (1, 24000, .int, []),
  (1, 41, .int, []),
  (1, 3100, .int, []),
  (1, 3100, .int, []),
  (1, 3100, .int, []),
  (1, 13000, .int, []),
  (1, 13000, .int, []),
  (1, 13000, .int, []),
  (1, 3100, .int, []),
  (1, 12000, .int, []),
  (1, 12000, .int, []),
  (1, 12000, .int, []),
  (1, 12000, .int, []),
  (1, 12000, .int, []),
  (1, 41, .boolean, []),
  (1, 3200, .int, []),
  (1, 60, .int, []),
  (1, 20400, .int, []),
  (1, 20400, .int, []),
  (1, 5000, .int, []),
  (1, 5000, .int, []),
  (1, 1000, .boolean, []),
  (1, 1000, .int, []),
  (1, 1000, .int, [])]
def YR_68 : List Ent := [(0, 9, .int, [0, 0, 0, 0, 0, 0, 0, 0, 0, 0, 0, 0, 0, 0, 0, 0, 0, 0, 0, 0, 0, 0, 0, 0, 0, 0, 0, 0, 0, 0, 0, 0, 0, 0, 0, 0, 0, 0, 0, 0, 0, 0, 0, 0, 0, 0, 0, 1, 4, 5, 6, 7, 8, 9, 10, 11, 12, 13, 14, 15, 16, 17, 18, 19, 20, 21, 22, 23, 24, 25, 26, 27, 28, 29, 30, 31, 32, 33, 34, 35, 36, 37, 38, 39, 40, 41, 42, 43, 44, 45, 46, 47, 48, 49, 50, 51, 52, 53, 54, 55, 56, 57, 58, 59, 60, 61, 62, 63, 64, 65, 66, 67, 68, 69, 70, 2, 2, 2, 2, 2, 2, 2, 2, 2, 2, 2, 2, 2, 2]),
  (1, 3000, .byte, []),
  (1, 3000, .byte, []),
  (1, 3000, .byte, []),
  (1, 6000, .int, []),
  (1, 6000, .int, []),
  (1, 6000, .int, []),
  (1, 6000, .int, []),
  (1, 6000, .boolean, []),
  (1, 20000, .int, []),
  (1, 3100, .int, []),
  (2, 41, .long, []),
  (1, 41, .int, []),
  (1, 41, .int, []),
  (1, 41, .int, []),
  (1, 41, .int, []),
  (1, 164, .int, []),
  (1, 41, .int, []),
  (1, 41, .int, []),
  (1, 41, .boolean, []),
  (1, 3100, .int, []),
  (1, 3100, .int, []),
  (1, 3100, .int, []),
  (1, 3100, .int, []),
  (1, 3100, .int, []),
  (1, 3100, .int, []),
  (1, 3100, .int, []),
  (1, 3100, .int, []),
  (1, 3100, .int, []),
  (2, 3100, .long, []),
  (2, 60, .long, []),
  (1, 6000, .int, []),
  (1, 6000, .int, []),
  (1, 100, .int, []),
  (1, 100, .int, []),
  (1, 400, .int, []),
  (1, 400, .int, []),
  (1, 400, .int, []),
  (1, 400, .int, []),
  (1, 3100, .int, []),
  (1, 24000, .int, []),
  (1, 24000, .int, []),
  (1, 24000, .int, []),
  (1, 24000, .int, []),
  (1, 41, .int, []),
  (1, 3100, .int, []),
  (1, 3100, .int, []),
  (1, 3100, .int, []),
  (1, 13000, .int, []),
  (1, 13000, .int, []),
  (1, 13000, .int, []),
  (1, 3100, .int, []),
  (1, 12000, .int, []),
  (1, 12000, .int, []),
  (1, 12000, .int, []),
  (1, 12000, .int, []),
  (1, 12000, .int, []),
  (1, 41, .boolean, []),
  (1, 3200, .int, []),
  (1, 60, .int, []),
  (1, 20400, .int, []),
  (1, 20400, .int, []),
  (1, 5000, .int, []),
  (1, 5000, .int, []),
  (1, 1000, .boolean, []),
  (1, 1000, .int, []),
  (1, 1000, .int, []),
  (1, 1000, .int, [])]
def YR_69 : List Ent := [(0, 9, .int, [0, 0, 0, 0, 0, 0, 0, 0, 0, 0, 0, 0, 0, 0, 0, 0, 0, 0, 0, 0, 0, 0, 0, 0, 0, 0, 0, 0, 0, 0, 0, 0, 0, 0, 0, 0, 0, 0, 0, 0, 0, 0, 0, 0, 0, 0, 0, 1, 4, 5, 6, 7, 8, 9, 10, 11, 12, 13, 14, 15, 16, 17, 18, 19, 20, 21, 22, 23, 24, 25, 26, 27, 28, 29, 30, 31, 32, 33, 34, 35, 36, 37, 38, 39, 40, 41, 42, 43, 44, 45, 46, 47, 48, 49, 50, 51, 52, 53, 54, 55, 56, 57, 58, 59, 60, 61, 62, 63, 64, 65, 66, 67, 68, 69, 70, 71, 2, 2, 2, 2, 2, 2, 2, 2, 2, 2, 2, 2, 2]),
  (1, 3000, .byte, []),
  (1, 3000, .byte, []),
  (1, 3000, .byte, []),
  (1, 6000, .int, []),
  (1, 6000, .int, []),
  (1, 6000, .int, []),
  (1, 6000, .int, []),
  (1, 6000, .boolean, []),
  (1, 20000, .int, []),
  (1, 3100, .int, []),
  (2, 41, .long, []),
  (1, 41, .int, []),
  (1, 41, .int, []),
  (1, 41, .int, []),
  (1, 41, .int, []),
  (1, 164, .int, []),
  (1, 41, .int, []),
  (1, 41, .int, []),
  (1, 41, .boolean, []),
  (1, 3100, .int, []),
  (1, 3100, .int, []),
  (1, 3100, .int, []),
  (1, 3100, .int, []),
  (1, 3100, .int, []),
  (1, 3100, .int, []),
  (1, 3100, .int, []),
  (1, 3100, .int, []),
  (1, 3100, .int, []),
  (2, 3100, .long, []),
  (2, 60, .long, []),
  (1, 6000, .int, []),
  (1, 6000, .int, []),
  (1, 100, .int, []),
  (1, 100, .int, []),
  (1, 400, .int, []),
  (1, 400, .int, []),
  (1, 400, .int, []),
  (1, 400, .int, []),
  (1, 3100, .int, []),
  (1, 24000, .int, []),
  (1, 24000, .int, []),
  (1, 24000, .int, []),
  (1, 24000, .int, []),
  (1, 41, .int, []),
  (1, 3100, .int, []),
  (1, 3100, .int, []),
  (1, 3100, .int, []),
  (1, 13000, .int, []),
  (1, 13000, .int, []),
  (1, 13000, .int, []),
  (1, 3100, .int, []),
  (1, 12000, .int, []),
  (1, 12000, .int, []),
  (1, 12000, .int, []),
  (1, 12000, .int, []),
  (1, 12000, .int, []),
  (1, 41, .boolean, []),
  (1, 3200, .int, []),
  (1, 60, .int, []),
  (1, 20400, .int, []),
  (1, 20400, .int, []),
  (1, 5000, .int, []),
  (1, 5000, .int, []),
  (1, 1000, .boolean, []),
  (1, 1000, .int, []),
  (1, 1000, .int, []),
  (1, 1000, .int, []),
  (1, 1000, .int, [])]
def YR_70 : List Ent := [(0, 9, .int, [0, 0, 0, 0, 0, 0, 0, 0, 0, 0, 0, 0, 0, 0, 0, 0, 0, 0, 0, 0, 0, 0, 0, 0, 0, 0, 0, 0, 0, 0, 0, 0, 0, 0, 0, 0, 0, 0, 0, 0, 0, 0, 0, 0, 0, 0, 0, 1, 4, 5, 6, 7, 8, 9, 10, 11, 12, 13, 14, 15, 16, 17, 18, 19, 20, 21, 22, 23, 24, 25, 26, 27, 28, 29, 30, 31, 32, 33, 34, 35, 36, 37, 38, 39, 40, 41, 42, 43, 44, 45, 46, 47, 48, 49, 50, 51, 52, 53, 54, 55, 56, 57, 58, 59, 60, 61, 62, 63, 64, 65, 66, 67, 68, 69, 70, 71, 72, 2, 2, 2, 2, 2, 2, 2, 2, 2, 2, 2, 2]),
  (1, 3000, .byte, []),
  (1, 3000, .byte, []),
  (1, 3000, .byte, []),
  (1, 6000, .int, []),
  (1, 6000, .int, []),
  (1, 6000, .int, []),
  (1, 6000, .int, []),
  (1, 6000, .boolean, []),
  (1, 20000, .int, []),
  (1, 3100, .int, []),
  (2, 41, .long, []),
  (1, 41, .int, []),
  (1, 41, .int, []),
  (1, 41, .int, []),
  (1, 41, .int, []),
  (1, 164, .int, []),
  (1, 41, .int, []),
  (1, 41, .int, []),
  (1, 41, .boolean, []),
  (1, 3100, .int, []),
  (1, 3100, .int, []),
  (1, 3100, .int, []),
  (1, 3100, .int, []),
  (1, 3100, .int, []),
  (1, 3100, .int, []),
  (1, 3100, .int, []),
  (1, 3100, .int, []),
  (1, 3100, .int, []),
  (2, 3100, .long, []),
  (2, 60, .long, []),
  (1, 6000, .int, []),
  (1, 6000, .int, []),
  (1, 100, .int, []),
  (1, 100, .int, []),
  (1, 400, .int, []),
  (1, 400, .int, []),
  (1, 400, .int, []),
  (1, 400, .int, []),
  (1, 3100, .int, []),
  (1, 24000, .int, []),
  (1, 24000, .int, []),
  (1, 24000, .int, []),
  (1, 24000, .int, []),
  (1, 41, .int, []),
  (1, 3100, .int, []),
  (1, 3100, .int, []),
  (1, 3100, .int, []),
  (1, 13000, .int, []),
  (1, 13000, .int, []),
  (1, 13000, .int, []),
  (1, 3100, .int, []),
  (1, 12000, .int, []),
  (1, 12000, .int, []),
  (1, 12000, .int, []),
  (1, 12000, .int, []),
  (1, 12000, .int, []),
  (1, 41, .boolean, []),
  (1, 3200, .int, []),
  (1, 60, .int, []),
  (1, 20400, .int, []),
  (1, 20400, .int, []),
  (1, 5000, .int, []),
  (1, 5000, .int, []),
  (1, 1000, .boolean, []),
  (1, 1000, .int, []),
  (1, 1000, .int, []),
  (1, 1000, .int, []),
  (1, 1000, .int, []),
  (1, 1000, .int, [])]
def YR_71 : List Ent := [(0, 9, .int, [0, 0, 0, 0, 0, 0, 0, 0, 0, 0, 0, 0, 0, 0, 0, 0, 0, 0, 0, 0, 0, 0, 0, 0, 0, 0, 0, 0, 0, 0, 0, 0, 0, 0, 0, 0, 0, 0, 0, 0, 0, 0, 0, 0, 0, 0, 0, 1, 4, 5, 6, 7, 8, 9, 10, 11, 12, 13, 14, 15, 16, 17, 18, 19, 20, 21, 22, 23, 24, 25, 26, 27, 28, 29, 30, 31, 32, 33, 34, 35, 36, 37, 38, 39, 40, 41, 42, 43, 44, 45, 46, 47, 48, 49, 50, 51, 52, 53, 54, 55, 56, 57, 58, 59, 60, 61, 62, 63, 64, 65, 66, 67, 68, 69, 70, 71, 72, 73, 2, 2, 2, 2, 2, 2, 2, 2, 2, 2, 2]),
  (1, 3000, .byte, []),
  (1, 3000, .byte, []),
  (1, 3000, .byte, []),
  (1, 6000, .int, []),
  (1, 6000, .int, []),
  (1, 6000, .int, []),
  (1, 6000, .int, []),
  (1, 6000, .boolean, []),
  (1, 20000, .int, []),
  (1, 3100, .int, []),
  (2, 41, .long, []),
  (1, 41, .int, []),
  (1, 41, .int, []),
  (1, 41, .int, []),
  (1, 41, .int, []),
  (1, 164, .int, []),
  (1, 41, .int, []),
  (1, 41, .int, []),
  (1, 41, .boolean, []),
  (1, 3100, .int, []),
  (1, 3100, .int, []),
  (1, 3100, .int, []),
  (1, 3100, .int, []),
  (1, 3100, .int, []),
  (1, 3100, .int, []),
  (1, 3100, .int, []),
  (1, 3100, .int, []),
  (1, 3100, .int, []),
  (2, 3100, .long, []),
  (2, 60, .long, []),
  (1, 6000, .int, []),
  (1, 6000, .int, []),
  (1, 100, .int, []),
  (1, 100, .int, []),
  (1, 400, .int, []),
  (1, 400, .int, []),
  (1, 400, .int, []),
  (1, 400, .int, []),
  (1, 3100, .int, []),
  (1, 24000, .int, []),
  (1, 24000, .int, []),
  (1, 24000, .int, []),
  (1, 24000, .int, []),
  (1, 41, .int, []),
  (1, 3100, .int, []),
  (1, 3100, .int, []),
  (1, 3100, .int, []),
  (1, 13000, .int, []),
  (1, 13000, .int, []),
  (1, 13000, .int, []),
  (1, 3100, .int, []),
  (1, 12000, .int, []),
  (1, 12000, .int, []),
  (1, 12000, .int, []),
  (1, 12000, .int, []),
  (1, 12000, .int, []),
  (1, 41, .boolean, []),
  (1, 3200, .int, []),
  (1, 60, .int, []),
  (1, 20400, .int, []),
  (1, 20400, .int, []),
  (1, 5000, .int, []),
  (1, 5000, .int, []),
  (1, 1000, .boolean, []),
  (1, 1000, .int, []),
  (1, 1000, .int, []),
  (1, 1000, .int, []),
  (1, 1000, .int, []),
  (1, 1000, .int, []),
  (1, 1000, .int, [])]
def YR_72 : List Ent := [(0, 9, .int, [0, 0, 0, 0, 0, 0, 0, 0, 0, 0, 0, 0, 0, 0, 0, 0, 0, 0, 0, 0, 0, 0, 0, 0, 0, 0, 0, 0, 0, 0, 0, 0, 0, 0, 0, 0, 0, 0, 0, 0, 0, 0, 0, 0, 0, 0, 0, 1, 4, 5, 6, 7, 8, 9, 10, 11, 12, 13, 14, 15, 16, 17, 18, 19, 20, 21, 22, 23, 24, 25, 26, 27, 28, 29, 30, 31, 32, 33, 34, 35, 36, 37, 38, 39, 40, 41, 42, 43, 44, 45, 46, 47, 48, 49, 50, 51, 52, 53, 54, 55, 56, 57, 58, 59, 60, 61, 62, 63, 64, 65, 66, 67, 68, 69, 70, 71, 72, 73, 74, 2, 2, 2, 2, 2, 2, 2, 2, 2, 2]),
  (1, 3000, .byte, []),
  (1, 3000, .byte, []),
  (1, 3000, .byte, []),
  (1, 6000, .int, []),
  (1, 6000, .int, []),
  (1, 6000, .int, []),
  (1, 6000, .int, []),
  (1, 6000, .boolean, []),
  (1, 20000, .int, []),
  (1, 3100, .int, []),
  (2, 41, .long, []),
  (1, 41, .int, []),
  (1, 41, .int, []),
  (1, 41, .int, []),
  (1, 41, .int, []),
  (1, 164, .int, []),
  (1, 41, .int, []),
  (1, 41, .int, []),
  (1, 41, .boolean, []),
  (1, 3100, .int, []),
  (1, 3100, .int, []),
  (1, 3100, .int, []),
  (1, 3100, .int, []),
  (1, 3100, .int, []),
  (1, 3100, .int, []),
  (1, 3100, .int, []),
  (1, 3100, .int, []),
  (1, 3100, .int, []),
  (2, 3100, .long, []),
  (2, 60, .long, []),
  (1, 6000, .int, []),
  (1, 6000, .int, []),
  (1, 100, .int, []),
  (1, 100, .int, []),
  (1, 400, .int, []),
  (1, 400, .int, []),
  (1, 400, .int, []),
  (1, 400, .int, []),
  (1, 3100, .int, []),
  (1, 24000, .int, []),
  (1, 24000, .int, []),
  (1, 24000, .int, []),
  (1, 24000, .int, []),
  (1, 41, .int, []),
  (1, 3100, .int, []),
  (1, 3100, .int, []),
  (1, 3100, .int, []),
  (1, 13000, .int, []),
  (1, 13000, .int, []),
  (1, 13000, .int, []),
  (1, 3100, .int, []),
  (1, 12000, .int, []),
  (1, 12000, .int, []),
  (1, 12000, .int, []),
  (1, 12000, .int, []),
  (1, 12000, .int, []),
  (1, 41, .boolean, []),
  (1, 3200, .int, []),
  (1, 60, .int, []),
  (1, 20400, .int, []),
  (1, 20400, .int, []),
  (1, 5000, .int, []),
  (1, 5000, .int, []),
  (1, 1000, .boolean, []),
  (1, 1000, .int, []),
  (1, 1000, .int, []),
  (1, 1000, .int, []),
  (1, 1000, .int, []),
  (1, 1000, .int, []),
  (1, 1000, .int, []),
  (1, 1000, .int, [])]
def YR_73 : List Ent := [(0, 9, .int, [0, 0, 0, 0, 0, 0, 0, 0, 0, 0, 0, 0, 0, 0, 0, 0, 0, 0, 0, 0, 0, 0, 0, 0, 0, 0, 0, 0, 0, 0, 0, 0, 0, 0, 0, 0, 0, 0, 0, 0, 0, 0, 0, 0, 0, 0, 0, 1, 4, 5, 6, 7, 8, 9, 10, 11, 12, 13, 14, 15, 16, 17, 18, 19, 20, 21, 22, 23, 24, 25, 26, 27, 28, 29, 30, 31, 32, 33, 34, 35, 36, 37, 38, 39, 40, 41, 42, 43, 44, 45, 46, 47, 48, 49, 50, 51, 52, 53, 54, 55, 56, 57, 58, 59, 60, 61, 62, 63, 64, 65, 66, 67, 68, 69, 70, 71, 72, 73, 74, 75, 2, 2, 2, 2, 2, 2, 2, 2, 2]),
  (1, 3000, .byte, []),
  (1, 3000, .byte, []),
  (1, 3000, .byte, []),
  (1, 6000, .int, []),
  (1, 6000, .int, []),
  (1, 6000, .int, []),
  (1, 6000, .int, []),
  (1, 6000, .boolean, []),
  (1, 20000, .int, []),
  (1, 3100, .int, []),
  (2, 41, .long, []),
  (1, 41, .int, []),
  (1, 41, .int, []),
  (1, 41, .int, []),
  (1, 41, .int, []),
  (1, 164, .int, []),
  (1, 41, .int, []),
  (1, 41, .int, []),
  (1, 41, .boolean, []),
  (1, 3100, .int, []),
  (1, 3100, .int, []),
  (1, 3100, .int, []),
  (1, 3100, .int, []),
  (1, 3100, .int, []),
  (1, 3100, .int, []),
  (1, 3100, .int, []),
  (1, 3100, .int, []),
  (1, 3100, .int, []),
  (2, 3100, .long, []),
  (2, 60, .long, []),
  (1, 6000, .int, []),
  (1, 6000, .int, []),
  (1, 100, .int, []),
  (1, 100, .int, []),
  (1, 400, .int, []),
  (1, 400, .int, []),
  (1, 400, .int, []),
  (1, 400, .int, []),
  (1, 3100, .int, []),
  (1, 24000, .int, []),
  (1, 24000, .int, []),
  (1, 24000, .int, []),
  (1, 24000, .int, []),
  (1, 41, .int, []),
  (1, 3100, .int, []),
  (1, 3100, .int, []),
  (1, 3100, .int, []),
  (1, 13000, .int, []),
  (1, 13000, .int, []),
  (1, 13000, .int, []),
  (1, 3100, .int, []),
  (1, 12000, .int, []),
  (1, 12000, .int, []),
  (1, 12000, .int, []),
  (1, 12000, .int, []),
  (1, 12000, .int, []),
  (1, 41, .boolean, []),
  (1, 3200, .int, []),
  (1, 60, .int, []),
  (1, 20400, .int, []),
  (1, 20400, .int, []),
  (1, 5000, .int, []),
  (1, 5000, .int, []),
  (1, 1000, .boolean, []),
  (1, 1000, .int, []),
  (1, 1000, .int, []),
  (1, 1000, .int, []),
  (1, 1000, .int, []),
  (1, 1000, .int, []),
  (1, 1000, .int, []),
  (1, 1000, .int, []),
  (1, 1000, .int, [])]
def YR_74 : List Ent := [(0, 9, .int, [0, 0, 0, 0, 0, 0, 0, 0, 0, 0, 0, 0, 0, 0, 0, 0, 0, 0, 0, 0, 0, 0, 0, 0, 0, 0, 0, 0, 0, 0, 0, 0, 0, 0, 0, 0, 0, 0, 0, 0, 0, 0, 0, 0, 0, 0, 0, 1, 4, 5, 6, 7, 8, 9, 10, 11, 12, 13, 14, 15, 16, 17, 18, 19, 20, 21, 22, 23, 24, 25, 26, 27, 28, 29, 30, 31, 32, 33, 34, 35, 36, 37, 38, 39, 40, 41, 42, 43, 44, 45, 46, 47, 48, 49, 50, 51, 52, 53, 54, 55, 56, 57, 58, 59, 60, 61, 62, 63, 64, 65, 66, 67, 68, 69, 70, 71, 72, 73, 74, 75, 76, 2, 2, 2, 2, 2, 2, 2, 2]),
  (1, 3000, .byte, []),
  (1, 3000, .byte, []),
  (1, 3000, .byte, []),
  (1, 6000, .int, []),
  (1, 6000, .int, []),
  (1, 6000, .int, []),
  (1, 6000, .int, []),
  (1, 6000, .boolean, []),
  (1, 20000, .int, []),
  (1, 3100, .int, []),
  (2, 41, .long, []),
  (1, 41, .int, []),
  (1, 41, .int, []),
  (1, 41, .int, []),
  (1, 41, .int, []),
  (1, 164, .int, []),
  (1, 41, .int, []),
  (1, 41, .int, []),
  (1, 41, .boolean, []),
  (1, 3100, .int, []),
  (1, 3100, .int, []),
  (1, 3100, .int, []),
  (1, 3100, .int, []),
  (1, 3100, .int, []),
  (1, 3100, .int, []),
  (1, 3100, .int, []),
  (1, 3100, .int, []),
  (1, 3100, .int, []),
  (2, 3100, .long, []),
  (2, 60, .long, []),
  (1, 6000, .int, []),
  (1, 6000, .int, []),
  (1, 100, .int, []),
  (1, 100, .int, []),
  (1, 400, .int, []),
  (1, 400, .int, []),
  (1, 400, .int, []),
  (1, 400, .int, []),
  (1, 3100, .int, []),
  (1, 24000, .int, []),
  (1, 24000, .int, []),
  (1, 24000, .int, []),
  (1, 24000, .int, []),
  (1, 41, .int, []),
  (1, 3100, .int, []),
  (1, 3100, .int, []),
  (1, 3100, .int, []),
  (1, 13000, .int, []),
  (1, 13000, .int, []),
  (1, 13000, .int, []),
  (1, 3100, .int, []),
  (1, 12000, .int, []),
  (1, 12000, .int, []),
  (1, 12000, .int, []),
  (1, 12000, .int, []),
  (1, 12000, .int, []),
  (1, 41, .boolean, []),
  (1, 3200, .int, []),
  (1, 60, .int, []),
  (1, 20400, .int, []),
  (1, 20400, .int, []),
  (1, 5000, .int, []),
  (1, 5000, .int, []),
  (1, 1000, .boolean, []),
  (1, 1000, .int, []),
  (1, 1000, .int, []),
  (1, 1000, .int, []),
  (1, 1000, .int, []),
  (1, 1000, .int, []),
  (1, 1000, .int, []),
  (1, 1000, .int, []),
  (1, 1000, .int, []),
  (1, 1000, .int, [])]
def YR_75 : List Ent := [(0, 9, .int, [0, 0, 0, 0, 0, 0, 0, 0, 0, 0, 0, 0, 0, 0, 0, 0, 0, 0, 0, 0, 0, 0, 0, 0, 0, 0, 0, 0, 0, 0, 0, 0, 0, 0, 0, 0, 0, 0, 0, 0, 0, 0, 0, 0, 0, 0, 0, 1, 4, 5, 6, 7, 8, 9, 10, 11, 12, 13, 14, 15, 16, 17, 18, 19, 20, 21, 22, 23, 24, 25, 26, 27, 28, 29, 30, 31, 32, 33, 34, 35, 36, 37, 38, 39, 40, 41, 42, 43, 44, 45, 46, 47, 48, 49, 50, 51, 52, 53, 54, 55, 56, 57, 58, 59, 60, 61, 62, 63, 64, 65, 66, 67, 68, 69, 70, 71, 72, 73, 74, 75, 76, 77, 2, 2, 2, 2, 2, 2, 2]),
  (1, 3000, .byte, []),
  (1, 3000, .byte, []),
  (1, 3000, .byte, []),
  (1, 6000, .int, []),
  (1, 6000, .int, []),
  (1, 6000, .int, []),
  (1, 6000, .int, []),
  (1, 6000, .boolean, []),
  (1, 20000, .int, []),
  (1, 3100, .int, []),
  (2, 41, .long, []),
  (1, 41, .int, []),
  (1, 41, .int, []),
  (1, 41, .int, []),
  (1, 41, .int, []),
  (1, 164, .int, []),
  (1, 41, .int, []),
  (1, 41, .int, []),
  (1, 41, .boolean, []),
  (1, 3100, .int, []),
  (1, 3100, .int, []),
  (1, 3100, .int, []),
  (1, 3100, .int, []),
  (1, 3100, .int, []),
  (1, 3100, .int, []),
  (1, 3100, .int, []),
  (1, 3100, .int, []),
  (1, 3100, .int, []),
  (2, 3100, .long, []),
  (2, 60, .long, []),
  (1, 6000, .int, []),
  (1, 6000, .int, []),
  (1, 100, .int, []),
  (1, 100, .int, []),
  (1, 400, .int, []),
  (1, 400, .int, []),
  (1, 400, .int, []),
  (1, 400, .int, []),
  (1, 3100, .int, []),
  (1, 24000, .int, []),
  (1, 24000, .int, []),
  (1, 24000, .int, []),
  (1, 24000, .int, []),
  (1, 41, .int, []),
  (1, 3100, .int, []),
  (1, 3100, .int, []),
  (1, 3100, .int, []),
  (1, 13000, .int, []),
  (1, 13000, .int, []),
  (1, 13000, .int, []),
  (1, 3100, .int, []),
  (1, 12000, .int, []),
  (1, 12000, .int, []),
  (1, 12000, .int, []),
  (1, 12000, .int, []),
  (1, 12000, .int, []),
  (1, 41, .boolean, []),
  (1, 3200, .int, []),
  (1, 60, .int, []),
  (1, 20400, .int, []),
  (1, 20400, .int, []),
  (1, 5000, .int, []),
  (1, 5000, .int, []),
  (1, 1000, .boolean, []),
  (1, 1000, .int, []),
  (1, 1000, .int, []),
  (1, 1000, .int, []),
  (1, 1000, .int, []),
  (1, 1000, .int, []),
  (1, 1000, .int, []),
  (1, 1000, .int, []),
  (1, 1000, .int, []),
  (1, 1000, .int, []),
  (1, 4000, .int, [])]
def YR_76 : List Ent := [(0, 9, .int, [0, 0, 0, 0, 0, 0, 0, 0, 0, 0, 0, 0, 0, 0, 0, 0, 0, 0, 0, 0, 0, 0, 0, 0, 0, 0, 0, 0, 0, 0, 0, 0, 0, 0, 0, 0, 0, 0, 0, 0, 0, 0, 0, 0, 0, 0, 0, 1, 4, 5, 6, 7, 8, 9, 10, 11, 12, 13, 14, 15, 16, 17, 18, 19, 20, 21, 22, 23, 24, 25, 26, 27, 28, 29, 30, 31, 32, 33, 34, 35, 36, 37, 38, 39, 40, 41, 42, 43, 44, 45, 46, 47, 48, 49, 50, 51, 52, 53, 54, 55, 56, 57, 58, 59, 60, 61, 62, 63, 64, 65, 66, 67, 68, 69, 70, 71, 72, 73, 74, 75, 76, 77, 78, 2, 2, 2, 2, 2, 2]),
  (1, 3000, .byte, []),
  (1, 3000, .byte, []),
  (1, 3000, .byte, []),
  (1, 6000, .int, []),
  (1, 6000, .int, []),
  (1, 6000, .int, []),
  (1, 6000, .int, []),
  (1, 6000, .boolean, []),
  (1, 20000, .int, []),
  (1, 3100, .int, []),
  (2, 41, .long, []),
  (1, 41, .int, []),
  (1, 41, .int, []),
  (1, 41, .int, []),
  (1, 41, .int, []),
  (1, 164, .int, []),
  (1, 41, .int, []),
  (1, 41, .int, []),
  (1, 41, .boolean, []),
  (1, 3100, .int, []),
  (1, 3100, .int, []),
  (1, 3100, .int, []),
  (1, 3100, .int, []),
  (1, 3100, .int, []),
  (1, 3100, .int, []),
  (1, 3100, .int, []),
  (1, 3100, .int, []),
  (1, 3100, .int, []),
  (2, 3100, .long, []),
  (2, 60, .long, []),
  (1, 6000, .int, []),
  (1, 6000, .int, []),
  (1, 100, .int, []),
  (1, 100, .int, []),
  (1, 400, .int, []),
  (1, 400, .int, []),
  (1, 400, .int, []),
  (1, 400, .int, []),
  (1, 3100, .int, []),
  (1, 24000, .int, []),
  (1, 24000, .int, []),
  (1, 24000, .int, []),
  (1, 24000, .int, []),
  (1, 41, .int, []),
  (1, 3100, .int, []),
  (1, 3100, .int, []),
  (1, 3100, .int, []),
  (1, 13000, .int, []),
  (1, 13000, .int, []),
  (1, 13000, .int, []),
  (1, 3100, .int, []),
  (1, 12000, .int, []),
  (1, 12000, .int, []),
  (1, 12000, .int, []),
  (1, 12000, .int, []),
  (1, 12000, .int, []),
  (1, 41, .boolean, []),
  (1, 3200, .int, []),
  (1, 60, .int, []),
  (1, 20400, .int, []),
  (1, 20400, .int, []),
  (1, 5000, .int, []),
  (1, 5000, .int, []),
  (1, 1000, .boolean, []),
  (1, 1000, .int, []),
  (1, 1000, .int, []),
  (1, 1000, .int, []),
  (1, 1000, .int, []),
  (1, 1000, .int, []),
  (1, 1000, .int, []),
  (1, 1000, .int, []),
  (1, 1000, .int, []),
  (1, 1000, .int, []),
  (1, 4000, .int, []),
  (1, 4000, .int, [])]
def YR_77 : List Ent := [(0, 9, .int, [0, 0, 0, 0, 0, 0, 0, 0, 0, 0, 0, 0, 0, 0, 0, 0, 0, 0, 0, 0, 0, 0, 0, 0, 0, 0, 0, 0, 0, 0, 0, 0, 0, 0, 0, 0, 0, 0, 0, 0, 0, 0, 0, 0, 0, 0, 0, 1, 4, 5, 6, 7, 8, 9, 10, 11, 12, 13, 14, 15, 16, 17, 18, 19, 20, 21, 22, 23, 24, 25, 26, 27, 28, 29, 30, 31, 32, 33, 34, 35, 36, 37, 38, 39, 40, 41, 42, 43, 44, 45, 46, 47, 48, 49, 50, 51, 52, 53, 54, 55, 56, 57, 58, 59, 60, 61, 62, 63, 64, 65, 66, 67, 68, 69, 70, 71, 72, 73, 74, 75, 76, 77, 78, 79, 2, 2, 2, 2, 2]),
  (1, 3000, .byte, []),
  (1, 3000, .byte, []),
  (1, 3000, .byte, []),
  (1, 6000, .int, []),
  (1, 6000, .int, []),
  (1, 6000, .int, []),
  (1, 6000, .int, []),
  (1, 6000, .boolean, []),
  (1, 20000, .int, []),
  (1, 3100, .int, []),
  (2, 41, .long, []),
  (1, 41, .int, []),
  (1, 41, .int, []),
  (1, 41, .int, []),
  (1, 41, .int, []),
  (1, 164, .int, []),
  (1, 41, .int, []),
  (1, 41, .int, []),
  (1, 41, .boolean, []),
  (1, 3100, .int, []),
  (1, 3100, .int, []),
  (1, 3100, .int, []),
  (1, 3100, .int, []),
  (1, 3100, .int, []),
  (1, 3100, .int, []),
  (1, 3100, .int, []),
  (1, 3100, .int, []),
  (1, 3100, .int, []),
  (2, 3100, .long, []),
  (2, 60, .long, []),
  (1, 6000, .int, []),
  (1, 6000, .int, []),
  (1, 100, .int, []),
  (1, 100, .int, []),
  (1, 400, .int, []),
  (1, 400, .int, []),
  (1, 400, .int, []),
  (1, 400, .int, []),
  (1, 3100, .int, []),
  (1, 24000, .int, []),
  (1, 24000, .int, []),
  (1, 24000, .int, []),
  (1, 24000, .int, []),
  (1, 41, .int, []),
  (1, 3100, .int, []),
  (1, 3100, .int, []),
  (1, 3100, .int, []),
  (1, 13000, .int, []),
  (1, 13000, .int, []),
  (1, 13000, .int, []),
  (1, 3100, .int, []),
  (1, 12000, .int, []),
  (1, 12000, .int, []),
  (1, 12000, .int, []),
  (1, 12000, .int, []),
  (1, 12000, .int, []),
  (1, 41, .boolean, []),
  (1, 3200, .int, []),
  (1, 60, .int, []),
  (1, 20400, .int, []),
  (1, 20400, .int, []),
  (1, 5000, .int, []),
  (1, 5000, .int, []),
  (1, 1000, .boolean, []),
  (1, 1000, .int, []),
  (1, 1000, .int, []),
  (1, 1000, .int, []),
  (1, 1000, .int, []),
  (1, 1000, .int, []),
  (1, 1000, .int, []),
  (1, 1000, .int, []),
  (1, 1000, .int, []),
  (1, 1000, .int, []),
  (1, 4000, .int, []),
  (1, 4000, .int, []),
  (1, 2300, .int, [])]
def YR_78 : List Ent := [(0, 9, .int, [0, 0, 0, 0, 0, 0, 0, 0, 0, 0, 0, 0, 0, 0, 0, 0, 0, 0, 0, 0, 0, 0, 0, 0, 0, 0, 0, 0, 0, 0, 0, 0, 0, 0, 0, 0, 0, 0, 0, 0, 0, 0, 0, 0, 0, 0, 0, 1, 4, 5, 6, 7, 8, 9, 10, 11, 12, 13, 14, 15, 16, 17, 18, 19, 20, 21, 22, 23, 24, 25, 26, 27, 28, 29, 30, 31, 32, 33, 34, 35, 36, 37, 38, 39, 40, 41, 42, 43, 44, 45, 46, 47, 48, 49, 50, 51, 52, 53, 54, 55, 56, 57, 58, 59, 60, 61, 62, 63, 64, 65, 66, 67, 68, 69, 70, 71, 72, 73, 74, 75, 76, 77, 78, 79, 80, 2, 2, 2, 2]),
  (1, 3000, .byte, []),
  (1, 3000, .byte, []),
  (1, 3000, .byte, []),
  (1, 6000, .int, []),
  (1, 6000, .int, []),
  (1, 6000, .int, []),
  (1, 6000, .int, []),
  (1, 6000, .boolean, []),
  (1, 20000, .int, []),
  (1, 3100, .int, []),
  (2, 41, .long, []),
  (1, 41, .int, []),
  (1, 41, .int, []),
  (1, 41, .int, []),
  (1, 41, .int, []),
  (1, 164, .int, []),
  (1, 41, .int, []),
  (1, 41, .int, []),
  (1, 41, .boolean, []),
  (1, 3100, .int, []),
  (1, 3100, .int, []),
  (1, 3100, .int, []),
  (1, 3100, .int, []),
  (1, 3100, .int, []),
  (1, 3100, .int, []),
  (1, 3100, .int, []),
  (1, 3100, .int, []),
  (1, 3100, .int, []),
  (2, 3100, .long, []),
  (2, 60, .long, []),
  (1, 6000, .int, []),
  (1, 6000, .int, []),
  (1, 100, .int, []),
  (1, 100, .int, []),
  (1, 400, .int, []),
  (1, 400, .int, []),
  (1, 400, .int, []),
  (1, 400, .int, []),
  (1, 3100, .int, []),
  (1, 24000, .int, []),
  (1, 24000, .int, []),
  (1, 24000, .int, []),
  (1, 24000, .int, []),
  (1, 41, .int, []),
  (1, 3100, .int, []),
  (1, 3100, .int, []),
  (1, 3100, .int, []),
  (1, 13000, .int, []),
  (1, 13000, .int, []),
  (1, 13000, .int, []),
  (1, 3100, .int, []),
  (1, 12000, .int, []),
  (1, 12000, .int, []),
  (1, 12000, .int, []),
  (1, 12000, .int, []),
  (1, 12000, .int, []),
  (1, 41, .boolean, []),
  (1, 3200, .int, []),
  (1, 60, .int, []),
  (1, 20400, .int, []),
  (1, 20400, .int, []),
  (1, 5000, .int, []),
  (1, 5000, .int, []),
  (1, 1000, .boolean, []),
  (1, 1000, .int, []),
  (1, 1000, .int, []),
  (1, 1000, .int, []),
  (1, 1000, .int, []),
  (1, 1000, .int, []),
  (1, 1000, .int, []),
  (1, 1000, .int, []),
  (1, 1000, .int, []),
  (1, 1000, .int, []),
  (1, 4000, .int, []),
  (1, 4000, .int, []),
  (1, 2300, .int, []),
  (1, 2300, .int, [])]
def YR_79 : List Ent := [(0, 9, .int, [0, 0, 0, 0, 0, 0, 0, 0, 0, 0, 0, 0, 0, 0, 0, 0, 0, 0, 0, 0, 0, 0, 0, 0, 0, 0, 0, 0, 0, 0, 0, 0, 0, 0, 0, 0, 0, 0, 0, 0, 0, 0, 0, 0, 0, 0, 0, 1, 4, 5, 6, 7, 8, 9, 10, 11, 12, 13, 14, 15, 16, 17, 18, 19, 20, 21, 22, 23, 24, 25, 26, 27, 28, 29, 30, 31, 32, 33, 34, 35, 36, 37, 38, 39, 40, 41, 42, 43, 44, 45, 46, 47, 48, 49, 50, 51, 52, 53, 54, 55, 56, 57, 58, 59, 60, 61, 62, 63, 64, 65, 66, 67, 68, 69, 70, 71, 72, 73, 74, 75, 76, 77, 78, 79, 80, 81, 2, 2, 2]),
  (1, 3000, .byte, []),
  (1, 3000, .byte, []),
  (1, 3000, .byte, []),
  (1, 6000, .int, []),
  (1, 6000, .int, []),
  (1, 6000, .int, []),
  (1, 6000, .int, []),
  (1, 6000, .boolean, []),
  (1, 20000, .int, []),
  (1, 3100, .int, []),
  (2, 41, .long, []),
  (1, 41, .int, []),
  (1, 41, .int, []),
  (1, 41, .int, []),
  (1, 41, .int, []),
  (1, 164, .int, []),
  (1, 41, .int, []),
  (1, 41, .int, []),
  (1, 41, .boolean, []),
  (1, 3100, .int, []),
  (1, 3100, .int, []),
  (1, 3100, .int, []),
  (1, 3100, .int, []),
  (1, 3100, .int, []),
  (1, 3100, .int, []),
  (1, 3100, .int, []),
  (1, 3100, .int, []),
  (1, 3100, .int, []),
  (2, 3100, .long, []),
  (2, 60, .long, []),
  (1, 6000, .int, []),
  (1, 6000, .int, []),
  (1, 100, .int, []),
  (1, 100, .int, []),
  (1, 400, .int, []),
  (1, 400, .int, []),
  (1, 400, .int, []),
  (1, 400, .int, []),
  (1, 3100, .int, []),
  (1, 24000, .int, []),
  (1, 24000, .int, []),
  (1, 24000, .int, []),
  (1, 24000, .int, []),
  (1, 41, .int, []),
  (1, 3100, .int, []),
  (1, 3100, .int, []),
  (1, 3100, .int, []),
  (1, 13000, .int, []),
  (1, 13000, .int, []),
  (1, 13000, .int, []),
  (1, 3100, .int, []),
  (1, 12000, .int, []),
  (1, 12000, .int, []),
  (1, 12000, .int, []),
  (1, 12000, .int, []),
  (1, 12000, .int, []),
  (1, 41, .boolean, []),
  (1, 3200, .int, []),
  (1, 60, .int, []),
  (1, 20400, .int, []),
  (1, 20400, .int, []),
  (1, 5000, .int, []),
  (1, 5000, .int, []),
  (1, 1000, .boolean, []),
  (1, 1000, .int, []),
  (1, 1000, .int, []),
  (1, 1000, .int, []),
  (1, 1000, .int, []),
  (1, 1000, .int, []),
  (1, 1000, .int, []),
  (1, 1000, .int, []),
  (1, 1000, .int, []),
  (1, 1000, .int, []),
  (1, 4000, .int, []),
  (1, 4000, .int, []),
  (1, 2300, .int, []),
  (1, 2300, .int, []),
  (1, 2300, .int, [])]
def YR_80 : List Ent := [(0, 9, .int, [0, 0, 0, 0, 0, 0, 0, 0, 0, 0, 0, 0, 0, 0, 0, 0, 0, 0, 0, 0, 0, 0, 0, 0, 0, 0, 0, 0, 0, 0, 0, 0, 0, 0, 0, 0, 0, 0, 0, 0, 0, 0, 0, 0, 0, 0, 0, 1, 4, 5, 6, 7, 8, 9, 10, 11, 12, 13, 14, 15, 16, 17, 18, 19, 20, 21, 22, 23, 24, 25, 26, 27, 28, 29, 30, 31, 32, 33, 34, 35, 36, 37, 38, 39, 40, 41, 42, 43, 44, 45, 46, 47, 48, 49, 50, 51, 52, 53, 54, 55, 56, 57, 58, 59, 60, 61, 62, 63, 64, 65, 66, 67, 68, 69, 70, 71, 72, 73, 74, 75, 76, 77, 78, 79, 80, 81, 82, 2, 2]),
  (1, 3000, .byte, []),
  (1, 3000, .byte, []),
  (1, 3000, .byte, []),
  (1, 6000, .int, []),
  (1, 6000, .int, []),
  (1, 6000, .int, []),
  (1, 6000, .int, []),
  (1, 6000, .boolean, []),
  (1, 20000, .int, []),
  (1, 3100, .int, []),
  (2, 41, .long, []),
  (1, 41, .int, []),
  (1, 41, .int, []),
  (1, 41, .int, []),
  (1, 41, .int, []),
  (1, 164, .int, []),
  (1, 41, .int, []),
  (1, 41, .int, []),
  (1, 41, .boolean, []),
  (1, 3100, .int, []),
  (1, 3100, .int, []),
  (1, 3100, .int, []),
  (1, 3100, .int, []),
  (1, 3100, .int, []),
  (1, 3100, .int, []),
  (1, 3100, .int, []),
  (1, 3100, .int, []),
  (1, 3100, .int, []),
  (2, 3100, .long, []),
  (2, 60, .long, []),
  (1, 6000, .int, []),
  (1, 6000, .int, []),
  (1, 100, .int, []),
  (1, 100, .int, []),
  (1, 400, .int, []),
  (1, 400, .int, []),
  (1, 400, .int, []),
  (1, 400, .int, []),
  (1, 3100, .int, []),
  (1, 24000, .int, []),
  (1, 24000, .int, []),
  (1, 24000, .int, []),
  (1, 24000, .int, []),
  (1, 41, .int, []),
  (1, 3100, .int, []),
  (1, 3100, .int, []),
  (1, 3100, .int, []),
  (1, 13000, .int, []),
  (1, 13000, .int, []),
  (1, 13000, .int, []),
  (1, 3100, .int, []),
  (1, 12000, .int, []),
  (1, 12000, .int, []),
  (1, 12000, .int, []),
  (1, 12000, .int, []),
  (1, 12000, .int, []),
  (1, 41, .boolean, []),
  (1, 3200, .int, []),
  (1, 60, .int, []),
  (1, 20400, .int, []),
  (1, 20400, .int, []),
  (1, 5000, .int, []),
  (1, 5000, .int, []),
  (1, 1000, .boolean, []),
  (1, 1000, .int, []),
  (1, 1000, .int, []),
  (1, 1000, .int, []),
  (1, 1000, .int, []),
  (1, 1000, .int, []),
  (1, 1000, .int, []),
  (1, 1000, .int, []),
  (1, 1000, .int, []),
  (1, 1000, .int, []),
  (1, 4000, .int, []),
  (1, 4000, .int, []),
  (1, 2300, .int, []),
  (1, 2300, .int, []),
  (1, 2300, .int, []),
  (1, 200, .int, [])]
def YR_81 : List Ent := [(0, 9, .int, [0, 0, 0, 0, 0, 0, 0, 0, 0, 0, 0, 0, 0, 0, 0, 0, 0, 0, 0, 0, 0, 0, 0, 0, 0, 0, 0, 0, 0, 0, 0, 0, 0, 0, 0, 0, 0, 0, 0, 0, 0, 0, 0, 0, 0, 0, 0, 1, 4, 5, 6, 7, 8, 9, 10, 11, 12, 13, 14, 15, 16, 17, 18, 19, 20, 21, 22, 23, 24, 25, 26, 27, 28, 29, 30, 31, 32, 33, 34, 35, 36, 37, 38, 39, 40, 41, 42, 43, 44, 45, 46, 47, 48, 49, 50, 51, 52, 53, 54, 55, 56, 57, 58, 59, 60, 61, 62, 63, 64, 65, 66, 67, 68, 69, 70, 71, 72, 73, 74, 75, 76, 77, 78, 79, 80, 81, 82, 83, 2]),
  (1, 3000, .byte, []),
  (1, 3000, .byte, []),
  (1, 3000, .byte, []),
  (1, 6000, .int, []),
  (1, 6000, .int, []),
  (1, 6000, .int, []),
  (1, 6000, .int, []),
  (1, 6000, .boolean, []),
  (1, 20000, .int, []),
  (1, 3100, .int, []),
  (2, 41, .long, []),
  (1, 41, .int, []),
  (1, 41, .int, []),
  (1, 41, .int, []),
  (1, 41, .int, []),
  (1, 164, .int, []),
  (1, 41, .int, []),
  (1, 41, .int, []),
  (1, 41, .boolean, []),
  (1, 3100, .int, []),
  (1, 3100, .int, []),
  (1, 3100, .int, []),
  (1, 3100, .int, []),
  (1, 3100, .int, []),
  (1, 3100, .int, []),
  (1, 3100, .int, []),
  (1, 3100, .int, []),
  (1, 3100, .int, []),
  (2, 3100, .long, []),
  (2, 60, .long, []),
  (1, 6000, .int, []),
  (1, 6000, .int, []),
  (1, 100, .int, []),
  (1, 100, .int, []),
  (1, 400, .int, []),
  (1, 400, .int, []),
  (1, 400, .int, []),
  (1, 400, .int, []),
  (1, 3100, .int, []),
  (1, 24000, .int, []),
  (1, 24000, .int, []),
  (1, 24000, .int, []),
  (1, 24000, .int, []),
  (1, 41, .int, []),
  (1, 3100, .int, []),
  (1, 3100, .int, []),
  (1, 3100, .int, []),
  (1, 13000, .int, []),
  (1, 13000, .int, []),
  (1, 13000, .int, []),
  (1, 3100, .int, []),
  (1, 12000, .int, []),
  (1, 12000, .int, []),
  (1, 12000, .int, []),
  (1, 12000, .int, []),
  (1, 12000, .int, []),
  (1, 41, .boolean, []),
  (1, 3200, .int, []),
  (1, 60, .int, []),
  (1, 20400, .int, []),
  (1, 20400, .int, []),
  (1, 5000, .int, []),
  (1, 5000, .int, []),
  (1, 1000, .boolean, []),
  (1, 1000, .int, []),
  (1, 1000, .int, []),
  (1, 1000, .int, []),
  (1, 1000, .int, []),
  (1, 1000, .int, []),
  (1, 1000, .int, []),
  (1, 1000, .int, []),
  (1, 1000, .int, []),
  (1, 1000, .int, []),
  (1, 4000, .int, []),
  (1, 4000, .int, []),
  (1, 2300, .int, []),
  (1, 2300, .int, []),
  (1, 2300, .int, []),
  (1, 200, .int, []),
  (1, 1681, .int, [])]
noncomputable def ctor_R (X : St) : Option St :=
  chk (RB X 1 = true) (letV (zE X 1) fun X2 =>
  chk (RB X2 2 = true) (letV (zE X2 2) fun X9 =>
  chk (RB X9 3 = true) (letV (zE X9 3) fun X16 =>
  letV (wI X16 0 11 ((-1))) fun X22 =>
  letV (wI X22 0 12 ((-1))) fun X23 =>
  chk (RB X23 4 = true) (letV (zE X23 4) fun X25 =>
  chk (RB X25 5 = true) (letV (zE X25 5) fun X32 =>
  chk (RB X32 6 = true) (letV (zE X32 6) fun X39 =>
  chk (RB X39 7 = true) (letV (zE X39 7) fun X46 =>
  chk (RB X46 8 = true) (letV (zE X46 8) fun X53 =>
  chk (RB X53 9 = true) (letV (zE X53 9) fun X60 =>
  chk (RB X60 10 = true) (letV (zE X60 10) fun X67 =>
  chk (RB X67 11 = true) (letV (zE X67 11) fun X74 =>
  chk (RB X74 12 = true) (letV (zE X74 12) fun X81 =>
  chk (RB X81 13 = true) (letV (zE X81 13) fun X88 =>
  chk (RB X88 14 = true) (letV (zE X88 14) fun X95 =>
  chk (RB X95 15 = true) (letV (zE X95 15) fun X102 =>
  chk (RB X102 16 = true) (letV (zE X102 16) fun X109 =>
  chk (RB X109 17 = true) (letV (zE X109 17) fun X116 =>
  chk (RB X116 18 = true) (letV (zE X116 18) fun X123 =>
  chk (RB X123 19 = true) (letV (zE X123 19) fun X130 =>
  chk (RB X130 20 = true) (letV (zE X130 20) fun X137 =>
  chk (RB X137 21 = true) (letV (zE X137 21) fun X144 =>
  chk (RB X144 22 = true) (letV (zE X144 22) fun X151 =>
  chk (RB X151 23 = true) (letV (zE X151 23) fun X158 =>
  chk (RB X158 24 = true) (letV (zE X158 24) fun X165 =>
  chk (RB X165 25 = true) (letV (zE X165 25) fun X172 =>
  chk (RB X172 26 = true) (letV (zE X172 26) fun X179 =>
  chk (RB X179 27 = true) (letV (zE X179 27) fun X186 =>
  chk (RB X186 28 = true) (letV (zE X186 28) fun X193 =>
  chk (RB X193 29 = true) (letV (zE X193 29) fun X200 =>
  chk (RB X200 30 = true) (letV (zE X200 30) fun X207 =>
  chk (RB X207 31 = true) (letV (zE X207 31) fun X214 =>
  chk (RB X214 32 = true) (letV (zE X214 32) fun X221 =>
  chk (RB X221 33 = true) (letV (zE X221 33) fun X228 =>
  chk (RB X228 34 = true) (letV (zE X228 34) fun X235 =>
  chk (RB X235 35 = true) (letV (zE X235 35) fun X242 =>
  chk (RB X242 36 = true) (letV (zE X242 36) fun X249 =>
  chk (RB X249 37 = true) (letV (zE X249 37) fun X256 =>
  chk (RB X256 38 = true) (letV (zE X256 38) fun X263 =>
  chk (RB X263 39 = true) (letV (zE X263 39) fun X270 =>
  chk (RB X270 40 = true) (letV (zE X270 40) fun X277 =>
  chk (RB X277 41 = true) (letV (zE X277 41) fun X284 =>
  chk (RB X284 42 = true) (letV (zE X284 42) fun X291 =>
  chk (RB X291 43 = true) (letV (zE X291 43) fun X298 =>
  chk (RB X298 44 = true) (letV (zE X298 44) fun X305 =>
  chk (RB X305 45 = true) (letV (zE X305 45) fun X312 =>
  chk (RB X312 46 = true) (letV (zE X312 46) fun X319 =>
  chk (RB X319 47 = true) (letV (zE X319 47) fun X326 =>
  chk (RB X326 48 = true) (letV (zE X326 48) fun X333 =>
  chk (RB X333 49 = true) (letV (zE X333 49) fun X340 =>
  chk (RB X340 50 = true) (letV (zE X340 50) fun X347 =>
  chk (RB X347 51 = true) (letV (zE X347 51) fun X354 =>
  chk (RB X354 52 = true) (letV (zE X354 52) fun X361 =>
  chk (RB X361 53 = true) (letV (zE X361 53) fun X368 =>
  chk (RB X368 54 = true) (letV (zE X368 54) fun X375 =>
  chk (RB X375 55 = true) (letV (zE X375 55) fun X382 =>
  chk (RB X382 56 = true) (letV (zE X382 56) fun X389 =>
  chk (RB X389 57 = true) (letV (zE X389 57) fun X396 =>
  chk (RB X396 58 = true) (letV (zE X396 58) fun X403 =>
  chk (RB X403 59 = true) (letV (zE X403 59) fun X410 =>
  chk (RB X410 60 = true) (letV (zE X410 60) fun X417 =>
  chk (RB X417 61 = true) (letV (zE X417 61) fun X424 =>
  chk (RB X424 62 = true) (letV (zE X424 62) fun X431 =>
  chk (RB X431 63 = true) (letV (zE X431 63) fun X438 =>
  chk (RB X438 64 = true) (letV (zE X438 64) fun X445 =>
  chk (RB X445 65 = true) (letV (zE X445 65) fun X452 =>
  chk (RB X452 66 = true) (letV (zE X452 66) fun X459 =>
  chk (RB X459 67 = true) (letV (zE X459 67) fun X466 =>
  chk (RB X466 68 = true) (letV (zE X466 68) fun X473 =>
  chk (RB X473 69 = true) (letV (zE X473 69) fun X480 =>
  chk (RB X480 70 = true) (letV (zE X480 70) fun X487 =>
  chk (RB X487 71 = true) (letV (zE X487 71) fun X494 =>
  chk (RB X494 72 = true) (letV (zE X494 72) fun X501 =>
  chk (RB X501 73 = true) (letV (zE X501 73) fun X508 =>
  chk (RB X508 74 = true) (letV (zE X508 74) fun X515 =>
  chk (RB X515 75 = true) (letV (zE X515 75) fun X522 =>
  chk (RB X522 76 = true) (letV (zE X522 76) fun X529 =>
  chk (RB X529 77 = true) (letV (zE X529 77) fun X536 =>
  chk (RB X536 78 = true) (letV (zE X536 78) fun X543 =>
  chk (RB X543 79 = true) (letV (zE X543 79) fun X550 =>
  chk (RB X550 80 = true) (letV (zE X550 80) fun X557 =>
  chk (RB X557 81 = true) (letV (zE X557 81) fun X564 =>
  bnd (f_kinds (0 : Int32) X564) fun _ X571 =>
  some X571)))))))))))))))))))))))))))))))))))))))))))))))))))))))))))))))))))))))))))))))))
set_option maxHeartbeats 4000000 in
set_option maxRecDepth 100000 in
theorem kctor_R (Λ : Lx) (ad : Nat → Nat) (cA : Nat → ClassId) (X : St) (b0 : Addr) (h0 : ad 0 = b0) : NM Λ yX11_init cX11_init 1 { frames := 11, cells := 81, slots := 398896, locals := 171 } [.ref b0] (YR_0, ad, cA, X) YR (ctor_R X) := by
  refine NM.of (by decide) rfl (Nat.le_of_ble_eq_true rfl) rfl ?_
  show N Λ cX11_init 1 "BlameCourtModel" { frames := 11, cells := 81, slots := 398896, locals := 171 } _ _ _ 0 [(0, .ref b0)] [] _ 0 0 (ctor_R X)
  unfold ctor_R
  refine N.aload_n dX11_init_0 rfl 0 rfl ?_
  refine N.obj k1356 k206 k207 dX11_init_1 (Nat.le_of_ble_eq_true rfl) (Nat.le_of_ble_eq_true rfl) ?_
  refine N.aload_n dX11_init_4 rfl 0 rfl ?_
  refine N.sipush (w := 3000) dX11_init_5 (by decide) ?_
  refine N.newa (atype := .byte) (ty := .byte) k276 rfl 1 rfl (a0 := (3000, .inl (fun _ => 0))) (z := 3000) rfl (fun _ => rfl) (by decide) rfl (Nat.le_of_ble_eq_true rfl) (n := 1) rfl (by decide +kernel) (ce' := 1) (sl' := 3000) rfl rfl (Nat.le_of_ble_eq_true rfl) (Nat.le_of_ble_eq_true rfl) (Nat.le_of_ble_eq_true rfl) dX11_init_8 (fun q1 c3 X2 => ?_)
  have gb0 := (adU_ne ad 1 q1 (show (0 : Nat) ≠ 1 by decide)).trans h0
  have gq1 := adU_at ad 1 q1
  generalize adU ad 1 q1 = ad4 at gb0 gq1 ⊢
  generalize adU cA 1 c3 = cA5
  have h6 := gb0
  clear gb0
  have h7 := gq1
  clear gq1
  refine N.putC 0 h6 1 h7 (show isO (YR_0 ++ [(1, 3000, .byte, [])]) 0 9 129 from ⟨rfl, rfl, rfl⟩) rfl iX11 48 (by decide) k1365 tyX11 tyX11_ok nmX11 rfl rfl rfl rfl dX11_init_10 ?_
  refine N.eqY (Y1 := YR_2) rfl ?_
  refine N.aload_n dX11_init_13 rfl 0 rfl ?_
  refine N.sipush (w := 3000) dX11_init_14 (by decide) ?_
  refine N.newa (atype := .byte) (ty := .byte) k276 rfl 1 rfl (a0 := (3000, .inl (fun _ => 0))) (z := 3000) rfl (fun _ => rfl) (by decide) rfl (Nat.le_of_ble_eq_true rfl) (n := 2) rfl (by decide +kernel) (ce' := 2) (sl' := 6000) rfl rfl (Nat.le_of_ble_eq_true rfl) (Nat.le_of_ble_eq_true rfl) (Nat.le_of_ble_eq_true rfl) dX11_init_17 (fun q8 c10 X9 => ?_)
  have gb0 := (adU_ne ad4 2 q8 (show (0 : Nat) ≠ 2 by decide)).trans h6
  have gq8 := adU_at ad4 2 q8
  generalize adU ad4 2 q8 = ad11 at gb0 gq8 ⊢
  generalize adU cA5 2 c10 = cA12
  have h13 := gb0
  clear gb0
  have h14 := gq8
  clear gq8
  refine N.putC 0 h13 2 h14 (show isO (YR_2 ++ [(1, 3000, .byte, [])]) 0 9 129 from ⟨rfl, rfl, rfl⟩) rfl iX11 49 (by decide) k1367 tyX11 tyX11_ok nmX11 rfl rfl rfl rfl dX11_init_19 ?_
  refine N.eqY (Y1 := YR_3) rfl ?_
  refine N.aload_n dX11_init_22 rfl 0 rfl ?_
  refine N.sipush (w := 3000) dX11_init_23 (by decide) ?_
  refine N.newa (atype := .byte) (ty := .byte) k276 rfl 1 rfl (a0 := (3000, .inl (fun _ => 0))) (z := 3000) rfl (fun _ => rfl) (by decide) rfl (Nat.le_of_ble_eq_true rfl) (n := 3) rfl (by decide +kernel) (ce' := 3) (sl' := 9000) rfl rfl (Nat.le_of_ble_eq_true rfl) (Nat.le_of_ble_eq_true rfl) (Nat.le_of_ble_eq_true rfl) dX11_init_26 (fun q15 c17 X16 => ?_)
  have gb0 := (adU_ne ad11 3 q15 (show (0 : Nat) ≠ 3 by decide)).trans h13
  have gq15 := adU_at ad11 3 q15
  generalize adU ad11 3 q15 = ad18 at gb0 gq15 ⊢
  generalize adU cA12 3 c17 = cA19
  have h20 := gb0
  clear gb0
  have h21 := gq15
  clear gq15
  refine N.putC 0 h20 3 h21 (show isO (YR_3 ++ [(1, 3000, .byte, [])]) 0 9 129 from ⟨rfl, rfl, rfl⟩) rfl iX11 50 (by decide) k1369 tyX11 tyX11_ok nmX11 rfl rfl rfl rfl dX11_init_28 ?_
  refine N.eqY (Y1 := YR_4) rfl ?_
  refine N.aload_n dX11_init_31 rfl 0 rfl ?_
  refine N.iconst (w := (-1)) dX11_init_32 (by decide) ?_
  refine N.putI 0 h20 (show isO YR_4 0 9 129 from ⟨rfl, rfl, rfl⟩) rfl iX11 11 (by decide) rfl k1380 tyX11 tyX11_ok nmX11 rfl rfl rfl dX11_init_33 (fun X22 => ?_)
  refine N.aload_n dX11_init_36 rfl 0 rfl ?_
  refine N.iconst (w := (-1)) dX11_init_37 (by decide) ?_
  refine N.putI 0 h20 (show isO YR_4 0 9 129 from ⟨rfl, rfl, rfl⟩) rfl iX11 12 (by decide) rfl k1381 tyX11 tyX11_ok nmX11 rfl rfl rfl dX11_init_38 (fun X23 => ?_)
  refine N.aload_n dX11_init_41 rfl 0 rfl ?_
  refine N.sipush (w := 6000) dX11_init_42 (by decide) ?_
  refine N.newa (atype := .int) (ty := .int) k277 rfl 1 rfl (a0 := (6000, .inl (fun _ => 0))) (z := 6000) rfl (fun _ => rfl) (by decide) rfl (Nat.le_of_ble_eq_true rfl) (n := 4) rfl (by decide +kernel) (ce' := 4) (sl' := 15000) rfl rfl (Nat.le_of_ble_eq_true rfl) (Nat.le_of_ble_eq_true rfl) (Nat.le_of_ble_eq_true rfl) dX11_init_45 (fun q24 c26 X25 => ?_)
  have gb0 := (adU_ne ad18 4 q24 (show (0 : Nat) ≠ 4 by decide)).trans h20
  have gq24 := adU_at ad18 4 q24
  generalize adU ad18 4 q24 = ad27 at gb0 gq24 ⊢
  generalize adU cA19 4 c26 = cA28
  have h29 := gb0
  clear gb0
  have h30 := gq24
  clear gq24
  refine N.putC 0 h29 4 h30 (show isO (YR_4 ++ [(1, 6000, .int, [])]) 0 9 129 from ⟨rfl, rfl, rfl⟩) rfl iX11 51 (by decide) k1384 tyX11 tyX11_ok nmX11 rfl rfl rfl rfl dX11_init_47 ?_
  refine N.eqY (Y1 := YR_5) rfl ?_
  refine N.aload_n dX11_init_50 rfl 0 rfl ?_
  refine N.sipush (w := 6000) dX11_init_51 (by decide) ?_
  refine N.newa (atype := .int) (ty := .int) k277 rfl 1 rfl (a0 := (6000, .inl (fun _ => 0))) (z := 6000) rfl (fun _ => rfl) (by decide) rfl (Nat.le_of_ble_eq_true rfl) (n := 5) rfl (by decide +kernel) (ce' := 5) (sl' := 21000) rfl rfl (Nat.le_of_ble_eq_true rfl) (Nat.le_of_ble_eq_true rfl) (Nat.le_of_ble_eq_true rfl) dX11_init_54 (fun q31 c33 X32 => ?_)
  have gb0 := (adU_ne ad27 5 q31 (show (0 : Nat) ≠ 5 by decide)).trans h29
  have gq31 := adU_at ad27 5 q31
  generalize adU ad27 5 q31 = ad34 at gb0 gq31 ⊢
  generalize adU cA28 5 c33 = cA35
  have h36 := gb0
  clear gb0
  have h37 := gq31
  clear gq31
  refine N.putC 0 h36 5 h37 (show isO (YR_5 ++ [(1, 6000, .int, [])]) 0 9 129 from ⟨rfl, rfl, rfl⟩) rfl iX11 52 (by decide) k1385 tyX11 tyX11_ok nmX11 rfl rfl rfl rfl dX11_init_56 ?_
  refine N.eqY (Y1 := YR_6) rfl ?_
  refine N.aload_n dX11_init_59 rfl 0 rfl ?_
  refine N.sipush (w := 6000) dX11_init_60 (by decide) ?_
  refine N.newa (atype := .int) (ty := .int) k277 rfl 1 rfl (a0 := (6000, .inl (fun _ => 0))) (z := 6000) rfl (fun _ => rfl) (by decide) rfl (Nat.le_of_ble_eq_true rfl) (n := 6) rfl (by decide +kernel) (ce' := 6) (sl' := 27000) rfl rfl (Nat.le_of_ble_eq_true rfl) (Nat.le_of_ble_eq_true rfl) (Nat.le_of_ble_eq_true rfl) dX11_init_63 (fun q38 c40 X39 => ?_)
  have gb0 := (adU_ne ad34 6 q38 (show (0 : Nat) ≠ 6 by decide)).trans h36
  have gq38 := adU_at ad34 6 q38
  generalize adU ad34 6 q38 = ad41 at gb0 gq38 ⊢
  generalize adU cA35 6 c40 = cA42
  have h43 := gb0
  clear gb0
  have h44 := gq38
  clear gq38
  refine N.putC 0 h43 6 h44 (show isO (YR_6 ++ [(1, 6000, .int, [])]) 0 9 129 from ⟨rfl, rfl, rfl⟩) rfl iX11 53 (by decide) k1386 tyX11 tyX11_ok nmX11 rfl rfl rfl rfl dX11_init_65 ?_
  refine N.eqY (Y1 := YR_7) rfl ?_
  refine N.aload_n dX11_init_68 rfl 0 rfl ?_
  refine N.sipush (w := 6000) dX11_init_69 (by decide) ?_
  refine N.newa (atype := .int) (ty := .int) k277 rfl 1 rfl (a0 := (6000, .inl (fun _ => 0))) (z := 6000) rfl (fun _ => rfl) (by decide) rfl (Nat.le_of_ble_eq_true rfl) (n := 7) rfl (by decide +kernel) (ce' := 7) (sl' := 33000) rfl rfl (Nat.le_of_ble_eq_true rfl) (Nat.le_of_ble_eq_true rfl) (Nat.le_of_ble_eq_true rfl) dX11_init_72 (fun q45 c47 X46 => ?_)
  have gb0 := (adU_ne ad41 7 q45 (show (0 : Nat) ≠ 7 by decide)).trans h43
  have gq45 := adU_at ad41 7 q45
  generalize adU ad41 7 q45 = ad48 at gb0 gq45 ⊢
  generalize adU cA42 7 c47 = cA49
  have h50 := gb0
  clear gb0
  have h51 := gq45
  clear gq45
  refine N.putC 0 h50 7 h51 (show isO (YR_7 ++ [(1, 6000, .int, [])]) 0 9 129 from ⟨rfl, rfl, rfl⟩) rfl iX11 54 (by decide) k1387 tyX11 tyX11_ok nmX11 rfl rfl rfl rfl dX11_init_74 ?_
  refine N.eqY (Y1 := YR_8) rfl ?_
  refine N.aload_n dX11_init_77 rfl 0 rfl ?_
  refine N.sipush (w := 6000) dX11_init_78 (by decide) ?_
  refine N.newa (atype := .boolean) (ty := .boolean) k278 rfl 1 rfl (a0 := (6000, .inl (fun _ => 0))) (z := 6000) rfl (fun _ => rfl) (by decide) rfl (Nat.le_of_ble_eq_true rfl) (n := 8) rfl (by decide +kernel) (ce' := 8) (sl' := 39000) rfl rfl (Nat.le_of_ble_eq_true rfl) (Nat.le_of_ble_eq_true rfl) (Nat.le_of_ble_eq_true rfl) dX11_init_81 (fun q52 c54 X53 => ?_)
  have gb0 := (adU_ne ad48 8 q52 (show (0 : Nat) ≠ 8 by decide)).trans h50
  have gq52 := adU_at ad48 8 q52
  generalize adU ad48 8 q52 = ad55 at gb0 gq52 ⊢
  generalize adU cA49 8 c54 = cA56
  have h57 := gb0
  clear gb0
  have h58 := gq52
  clear gq52
  refine N.putC 0 h57 8 h58 (show isO (YR_8 ++ [(1, 6000, .boolean, [])]) 0 9 129 from ⟨rfl, rfl, rfl⟩) rfl iX11 55 (by decide) k1388 tyX11 tyX11_ok nmX11 rfl rfl rfl rfl dX11_init_83 ?_
  refine N.eqY (Y1 := YR_9) rfl ?_
  refine N.aload_n dX11_init_86 rfl 0 rfl ?_
  refine N.sipush (w := 20000) dX11_init_87 (by decide) ?_
  refine N.newa (atype := .int) (ty := .int) k277 rfl 1 rfl (a0 := (20000, .inl (fun _ => 0))) (z := 20000) rfl (fun _ => rfl) (by decide) rfl (Nat.le_of_ble_eq_true rfl) (n := 9) rfl (by decide +kernel) (ce' := 9) (sl' := 59000) rfl rfl (Nat.le_of_ble_eq_true rfl) (Nat.le_of_ble_eq_true rfl) (Nat.le_of_ble_eq_true rfl) dX11_init_90 (fun q59 c61 X60 => ?_)
  have gb0 := (adU_ne ad55 9 q59 (show (0 : Nat) ≠ 9 by decide)).trans h57
  have gq59 := adU_at ad55 9 q59
  generalize adU ad55 9 q59 = ad62 at gb0 gq59 ⊢
  generalize adU cA56 9 c61 = cA63
  have h64 := gb0
  clear gb0
  have h65 := gq59
  clear gq59
  refine N.putC 0 h64 9 h65 (show isO (YR_9 ++ [(1, 20000, .int, [])]) 0 9 129 from ⟨rfl, rfl, rfl⟩) rfl iX11 56 (by decide) k1391 tyX11 tyX11_ok nmX11 rfl rfl rfl rfl dX11_init_92 ?_
  refine N.eqY (Y1 := YR_10) rfl ?_
  refine N.aload_n dX11_init_95 rfl 0 rfl ?_
  refine N.sipush (w := 3100) dX11_init_96 (by decide) ?_
  refine N.newa (atype := .int) (ty := .int) k277 rfl 1 rfl (a0 := (3100, .inl (fun _ => 0))) (z := 3100) rfl (fun _ => rfl) (by decide) rfl (Nat.le_of_ble_eq_true rfl) (n := 10) rfl (by decide +kernel) (ce' := 10) (sl' := 62100) rfl rfl (Nat.le_of_ble_eq_true rfl) (Nat.le_of_ble_eq_true rfl) (Nat.le_of_ble_eq_true rfl) dX11_init_99 (fun q66 c68 X67 => ?_)
  have gb0 := (adU_ne ad62 10 q66 (show (0 : Nat) ≠ 10 by decide)).trans h64
  have gq66 := adU_at ad62 10 q66
  generalize adU ad62 10 q66 = ad69 at gb0 gq66 ⊢
  generalize adU cA63 10 c68 = cA70
  have h71 := gb0
  clear gb0
  have h72 := gq66
  clear gq66
  refine N.putC 0 h71 10 h72 (show isO (YR_10 ++ [(1, 3100, .int, [])]) 0 9 129 from ⟨rfl, rfl, rfl⟩) rfl iX11 57 (by decide) k1392 tyX11 tyX11_ok nmX11 rfl rfl rfl rfl dX11_init_101 ?_
  refine N.eqY (Y1 := YR_11) rfl ?_
  refine N.aload_n dX11_init_104 rfl 0 rfl ?_
  refine N.bipush (w := 41) dX11_init_105 (by decide) ?_
  refine N.newa (atype := .long) (ty := .long) k373 rfl 2 rfl (a0 := (41, .inr (.inl (fun _ => 0)))) (z := 41) rfl (fun _ => rfl) (by decide) rfl (Nat.le_of_ble_eq_true rfl) (n := 11) rfl (by decide +kernel) (ce' := 11) (sl' := 62141) rfl rfl (Nat.le_of_ble_eq_true rfl) (Nat.le_of_ble_eq_true rfl) (Nat.le_of_ble_eq_true rfl) dX11_init_107 (fun q73 c75 X74 => ?_)
  have gb0 := (adU_ne ad69 11 q73 (show (0 : Nat) ≠ 11 by decide)).trans h71
  have gq73 := adU_at ad69 11 q73
  generalize adU ad69 11 q73 = ad76 at gb0 gq73 ⊢
  generalize adU cA70 11 c75 = cA77
  have h78 := gb0
  clear gb0
  have h79 := gq73
  clear gq73
  refine N.putC 0 h78 11 h79 (show isO (YR_11 ++ [(2, 41, .long, [])]) 0 9 129 from ⟨rfl, rfl, rfl⟩) rfl iX11 58 (by decide) k1395 tyX11 tyX11_ok nmX11 rfl rfl rfl rfl dX11_init_109 ?_
  refine N.eqY (Y1 := YR_12) rfl ?_
  refine N.aload_n dX11_init_112 rfl 0 rfl ?_
  refine N.bipush (w := 41) dX11_init_113 (by decide) ?_
  refine N.newa (atype := .int) (ty := .int) k277 rfl 1 rfl (a0 := (41, .inl (fun _ => 0))) (z := 41) rfl (fun _ => rfl) (by decide) rfl (Nat.le_of_ble_eq_true rfl) (n := 12) rfl (by decide +kernel) (ce' := 12) (sl' := 62182) rfl rfl (Nat.le_of_ble_eq_true rfl) (Nat.le_of_ble_eq_true rfl) (Nat.le_of_ble_eq_true rfl) dX11_init_115 (fun q80 c82 X81 => ?_)
  have gb0 := (adU_ne ad76 12 q80 (show (0 : Nat) ≠ 12 by decide)).trans h78
  have gq80 := adU_at ad76 12 q80
  generalize adU ad76 12 q80 = ad83 at gb0 gq80 ⊢
  generalize adU cA77 12 c82 = cA84
  have h85 := gb0
  clear gb0
  have h86 := gq80
  clear gq80
  refine N.putC 0 h85 12 h86 (show isO (YR_12 ++ [(1, 41, .int, [])]) 0 9 129 from ⟨rfl, rfl, rfl⟩) rfl iX11 59 (by decide) k1396 tyX11 tyX11_ok nmX11 rfl rfl rfl rfl dX11_init_117 ?_
  refine N.eqY (Y1 := YR_13) rfl ?_
  refine N.aload_n dX11_init_120 rfl 0 rfl ?_
  refine N.bipush (w := 41) dX11_init_121 (by decide) ?_
  refine N.newa (atype := .int) (ty := .int) k277 rfl 1 rfl (a0 := (41, .inl (fun _ => 0))) (z := 41) rfl (fun _ => rfl) (by decide) rfl (Nat.le_of_ble_eq_true rfl) (n := 13) rfl (by decide +kernel) (ce' := 13) (sl' := 62223) rfl rfl (Nat.le_of_ble_eq_true rfl) (Nat.le_of_ble_eq_true rfl) (Nat.le_of_ble_eq_true rfl) dX11_init_123 (fun q87 c89 X88 => ?_)
  have gb0 := (adU_ne ad83 13 q87 (show (0 : Nat) ≠ 13 by decide)).trans h85
  have gq87 := adU_at ad83 13 q87
  generalize adU ad83 13 q87 = ad90 at gb0 gq87 ⊢
  generalize adU cA84 13 c89 = cA91
  have h92 := gb0
  clear gb0
  have h93 := gq87
  clear gq87
  refine N.putC 0 h92 13 h93 (show isO (YR_13 ++ [(1, 41, .int, [])]) 0 9 129 from ⟨rfl, rfl, rfl⟩) rfl iX11 60 (by decide) k1397 tyX11 tyX11_ok nmX11 rfl rfl rfl rfl dX11_init_125 ?_
  refine N.eqY (Y1 := YR_14) rfl ?_
  refine N.aload_n dX11_init_128 rfl 0 rfl ?_
  refine N.bipush (w := 41) dX11_init_129 (by decide) ?_
  refine N.newa (atype := .int) (ty := .int) k277 rfl 1 rfl (a0 := (41, .inl (fun _ => 0))) (z := 41) rfl (fun _ => rfl) (by decide) rfl (Nat.le_of_ble_eq_true rfl) (n := 14) rfl (by decide +kernel) (ce' := 14) (sl' := 62264) rfl rfl (Nat.le_of_ble_eq_true rfl) (Nat.le_of_ble_eq_true rfl) (Nat.le_of_ble_eq_true rfl) dX11_init_131 (fun q94 c96 X95 => ?_)
  have gb0 := (adU_ne ad90 14 q94 (show (0 : Nat) ≠ 14 by decide)).trans h92
  have gq94 := adU_at ad90 14 q94
  generalize adU ad90 14 q94 = ad97 at gb0 gq94 ⊢
  generalize adU cA91 14 c96 = cA98
  have h99 := gb0
  clear gb0
  have h100 := gq94
  clear gq94
  refine N.putC 0 h99 14 h100 (show isO (YR_14 ++ [(1, 41, .int, [])]) 0 9 129 from ⟨rfl, rfl, rfl⟩) rfl iX11 61 (by decide) k1398 tyX11 tyX11_ok nmX11 rfl rfl rfl rfl dX11_init_133 ?_
  refine N.eqY (Y1 := YR_15) rfl ?_
  refine N.aload_n dX11_init_136 rfl 0 rfl ?_
  refine N.bipush (w := 41) dX11_init_137 (by decide) ?_
  refine N.newa (atype := .int) (ty := .int) k277 rfl 1 rfl (a0 := (41, .inl (fun _ => 0))) (z := 41) rfl (fun _ => rfl) (by decide) rfl (Nat.le_of_ble_eq_true rfl) (n := 15) rfl (by decide +kernel) (ce' := 15) (sl' := 62305) rfl rfl (Nat.le_of_ble_eq_true rfl) (Nat.le_of_ble_eq_true rfl) (Nat.le_of_ble_eq_true rfl) dX11_init_139 (fun q101 c103 X102 => ?_)
  have gb0 := (adU_ne ad97 15 q101 (show (0 : Nat) ≠ 15 by decide)).trans h99
  have gq101 := adU_at ad97 15 q101
  generalize adU ad97 15 q101 = ad104 at gb0 gq101 ⊢
  generalize adU cA98 15 c103 = cA105
  have h106 := gb0
  clear gb0
  have h107 := gq101
  clear gq101
  refine N.putC 0 h106 15 h107 (show isO (YR_15 ++ [(1, 41, .int, [])]) 0 9 129 from ⟨rfl, rfl, rfl⟩) rfl iX11 62 (by decide) k1399 tyX11 tyX11_ok nmX11 rfl rfl rfl rfl dX11_init_141 ?_
  refine N.eqY (Y1 := YR_16) rfl ?_
  refine N.aload_n dX11_init_144 rfl 0 rfl ?_
  refine N.sipush (w := 164) dX11_init_145 (by decide) ?_
  refine N.newa (atype := .int) (ty := .int) k277 rfl 1 rfl (a0 := (164, .inl (fun _ => 0))) (z := 164) rfl (fun _ => rfl) (by decide) rfl (Nat.le_of_ble_eq_true rfl) (n := 16) rfl (by decide +kernel) (ce' := 16) (sl' := 62469) rfl rfl (Nat.le_of_ble_eq_true rfl) (Nat.le_of_ble_eq_true rfl) (Nat.le_of_ble_eq_true rfl) dX11_init_148 (fun q108 c110 X109 => ?_)
  have gb0 := (adU_ne ad104 16 q108 (show (0 : Nat) ≠ 16 by decide)).trans h106
  have gq108 := adU_at ad104 16 q108
  generalize adU ad104 16 q108 = ad111 at gb0 gq108 ⊢
  generalize adU cA105 16 c110 = cA112
  have h113 := gb0
  clear gb0
  have h114 := gq108
  clear gq108
  refine N.putC 0 h113 16 h114 (show isO (YR_16 ++ [(1, 164, .int, [])]) 0 9 129 from ⟨rfl, rfl, rfl⟩) rfl iX11 63 (by decide) k1400 tyX11 tyX11_ok nmX11 rfl rfl rfl rfl dX11_init_150 ?_
  refine N.eqY (Y1 := YR_17) rfl ?_
  refine N.aload_n dX11_init_153 rfl 0 rfl ?_
  refine N.bipush (w := 41) dX11_init_154 (by decide) ?_
  refine N.newa (atype := .int) (ty := .int) k277 rfl 1 rfl (a0 := (41, .inl (fun _ => 0))) (z := 41) rfl (fun _ => rfl) (by decide) rfl (Nat.le_of_ble_eq_true rfl) (n := 17) rfl (by decide +kernel) (ce' := 17) (sl' := 62510) rfl rfl (Nat.le_of_ble_eq_true rfl) (Nat.le_of_ble_eq_true rfl) (Nat.le_of_ble_eq_true rfl) dX11_init_156 (fun q115 c117 X116 => ?_)
  have gb0 := (adU_ne ad111 17 q115 (show (0 : Nat) ≠ 17 by decide)).trans h113
  have gq115 := adU_at ad111 17 q115
  generalize adU ad111 17 q115 = ad118 at gb0 gq115 ⊢
  generalize adU cA112 17 c117 = cA119
  have h120 := gb0
  clear gb0
  have h121 := gq115
  clear gq115
  refine N.putC 0 h120 17 h121 (show isO (YR_17 ++ [(1, 41, .int, [])]) 0 9 129 from ⟨rfl, rfl, rfl⟩) rfl iX11 64 (by decide) k1401 tyX11 tyX11_ok nmX11 rfl rfl rfl rfl dX11_init_158 ?_
  refine N.eqY (Y1 := YR_18) rfl ?_
  refine N.aload_n dX11_init_161 rfl 0 rfl ?_
  refine N.bipush (w := 41) dX11_init_162 (by decide) ?_
  refine N.newa (atype := .int) (ty := .int) k277 rfl 1 rfl (a0 := (41, .inl (fun _ => 0))) (z := 41) rfl (fun _ => rfl) (by decide) rfl (Nat.le_of_ble_eq_true rfl) (n := 18) rfl (by decide +kernel) (ce' := 18) (sl' := 62551) rfl rfl (Nat.le_of_ble_eq_true rfl) (Nat.le_of_ble_eq_true rfl) (Nat.le_of_ble_eq_true rfl) dX11_init_164 (fun q122 c124 X123 => ?_)
  have gb0 := (adU_ne ad118 18 q122 (show (0 : Nat) ≠ 18 by decide)).trans h120
  have gq122 := adU_at ad118 18 q122
  generalize adU ad118 18 q122 = ad125 at gb0 gq122 ⊢
  generalize adU cA119 18 c124 = cA126
  have h127 := gb0
  clear gb0
  have h128 := gq122
  clear gq122
  refine N.putC 0 h127 18 h128 (show isO (YR_18 ++ [(1, 41, .int, [])]) 0 9 129 from ⟨rfl, rfl, rfl⟩) rfl iX11 65 (by decide) k1402 tyX11 tyX11_ok nmX11 rfl rfl rfl rfl dX11_init_166 ?_
  refine N.eqY (Y1 := YR_19) rfl ?_
  refine N.aload_n dX11_init_169 rfl 0 rfl ?_
  refine N.bipush (w := 41) dX11_init_170 (by decide) ?_
  refine N.newa (atype := .boolean) (ty := .boolean) k278 rfl 1 rfl (a0 := (41, .inl (fun _ => 0))) (z := 41) rfl (fun _ => rfl) (by decide) rfl (Nat.le_of_ble_eq_true rfl) (n := 19) rfl (by decide +kernel) (ce' := 19) (sl' := 62592) rfl rfl (Nat.le_of_ble_eq_true rfl) (Nat.le_of_ble_eq_true rfl) (Nat.le_of_ble_eq_true rfl) dX11_init_172 (fun q129 c131 X130 => ?_)
  have gb0 := (adU_ne ad125 19 q129 (show (0 : Nat) ≠ 19 by decide)).trans h127
  have gq129 := adU_at ad125 19 q129
  generalize adU ad125 19 q129 = ad132 at gb0 gq129 ⊢
  generalize adU cA126 19 c131 = cA133
  have h134 := gb0
  clear gb0
  have h135 := gq129
  clear gq129
  refine N.putC 0 h134 19 h135 (show isO (YR_19 ++ [(1, 41, .boolean, [])]) 0 9 129 from ⟨rfl, rfl, rfl⟩) rfl iX11 66 (by decide) k1403 tyX11 tyX11_ok nmX11 rfl rfl rfl rfl dX11_init_174 ?_
  refine N.eqY (Y1 := YR_20) rfl ?_
  refine N.aload_n dX11_init_177 rfl 0 rfl ?_
  refine N.sipush (w := 3100) dX11_init_178 (by decide) ?_
  refine N.newa (atype := .int) (ty := .int) k277 rfl 1 rfl (a0 := (3100, .inl (fun _ => 0))) (z := 3100) rfl (fun _ => rfl) (by decide) rfl (Nat.le_of_ble_eq_true rfl) (n := 20) rfl (by decide +kernel) (ce' := 20) (sl' := 65692) rfl rfl (Nat.le_of_ble_eq_true rfl) (Nat.le_of_ble_eq_true rfl) (Nat.le_of_ble_eq_true rfl) dX11_init_181 (fun q136 c138 X137 => ?_)
  have gb0 := (adU_ne ad132 20 q136 (show (0 : Nat) ≠ 20 by decide)).trans h134
  have gq136 := adU_at ad132 20 q136
  generalize adU ad132 20 q136 = ad139 at gb0 gq136 ⊢
  generalize adU cA133 20 c138 = cA140
  have h141 := gb0
  clear gb0
  have h142 := gq136
  clear gq136
  refine N.putC 0 h141 20 h142 (show isO (YR_20 ++ [(1, 3100, .int, [])]) 0 9 129 from ⟨rfl, rfl, rfl⟩) rfl iX11 67 (by decide) k1405 tyX11 tyX11_ok nmX11 rfl rfl rfl rfl dX11_init_183 ?_
  refine N.eqY (Y1 := YR_21) rfl ?_
  refine N.aload_n dX11_init_186 rfl 0 rfl ?_
  refine N.sipush (w := 3100) dX11_init_187 (by decide) ?_
  refine N.newa (atype := .int) (ty := .int) k277 rfl 1 rfl (a0 := (3100, .inl (fun _ => 0))) (z := 3100) rfl (fun _ => rfl) (by decide) rfl (Nat.le_of_ble_eq_true rfl) (n := 21) rfl (by decide +kernel) (ce' := 21) (sl' := 68792) rfl rfl (Nat.le_of_ble_eq_true rfl) (Nat.le_of_ble_eq_true rfl) (Nat.le_of_ble_eq_true rfl) dX11_init_190 (fun q143 c145 X144 => ?_)
  have gb0 := (adU_ne ad139 21 q143 (show (0 : Nat) ≠ 21 by decide)).trans h141
  have gq143 := adU_at ad139 21 q143
  generalize adU ad139 21 q143 = ad146 at gb0 gq143 ⊢
  generalize adU cA140 21 c145 = cA147
  have h148 := gb0
  clear gb0
  have h149 := gq143
  clear gq143
  refine N.putC 0 h148 21 h149 (show isO (YR_21 ++ [(1, 3100, .int, [])]) 0 9 129 from ⟨rfl, rfl, rfl⟩) rfl iX11 68 (by decide) k1406 tyX11 tyX11_ok nmX11 rfl rfl rfl rfl dX11_init_192 ?_
  refine N.eqY (Y1 := YR_22) rfl ?_
  refine N.aload_n dX11_init_195 rfl 0 rfl ?_
  refine N.sipush (w := 3100) dX11_init_196 (by decide) ?_
  refine N.newa (atype := .int) (ty := .int) k277 rfl 1 rfl (a0 := (3100, .inl (fun _ => 0))) (z := 3100) rfl (fun _ => rfl) (by decide) rfl (Nat.le_of_ble_eq_true rfl) (n := 22) rfl (by decide +kernel) (ce' := 22) (sl' := 71892) rfl rfl (Nat.le_of_ble_eq_true rfl) (Nat.le_of_ble_eq_true rfl) (Nat.le_of_ble_eq_true rfl) dX11_init_199 (fun q150 c152 X151 => ?_)
  have gb0 := (adU_ne ad146 22 q150 (show (0 : Nat) ≠ 22 by decide)).trans h148
  have gq150 := adU_at ad146 22 q150
  generalize adU ad146 22 q150 = ad153 at gb0 gq150 ⊢
  generalize adU cA147 22 c152 = cA154
  have h155 := gb0
  clear gb0
  have h156 := gq150
  clear gq150
  refine N.putC 0 h155 22 h156 (show isO (YR_22 ++ [(1, 3100, .int, [])]) 0 9 129 from ⟨rfl, rfl, rfl⟩) rfl iX11 69 (by decide) k1407 tyX11 tyX11_ok nmX11 rfl rfl rfl rfl dX11_init_201 ?_
  refine N.eqY (Y1 := YR_23) rfl ?_
  refine N.aload_n dX11_init_204 rfl 0 rfl ?_
  refine N.sipush (w := 3100) dX11_init_205 (by decide) ?_
  refine N.newa (atype := .int) (ty := .int) k277 rfl 1 rfl (a0 := (3100, .inl (fun _ => 0))) (z := 3100) rfl (fun _ => rfl) (by decide) rfl (Nat.le_of_ble_eq_true rfl) (n := 23) rfl (by decide +kernel) (ce' := 23) (sl' := 74992) rfl rfl (Nat.le_of_ble_eq_true rfl) (Nat.le_of_ble_eq_true rfl) (Nat.le_of_ble_eq_true rfl) dX11_init_208 (fun q157 c159 X158 => ?_)
  have gb0 := (adU_ne ad153 23 q157 (show (0 : Nat) ≠ 23 by decide)).trans h155
  have gq157 := adU_at ad153 23 q157
  generalize adU ad153 23 q157 = ad160 at gb0 gq157 ⊢
  generalize adU cA154 23 c159 = cA161
  have h162 := gb0
  clear gb0
  have h163 := gq157
  clear gq157
  refine N.putC 0 h162 23 h163 (show isO (YR_23 ++ [(1, 3100, .int, [])]) 0 9 129 from ⟨rfl, rfl, rfl⟩) rfl iX11 70 (by decide) k1408 tyX11 tyX11_ok nmX11 rfl rfl rfl rfl dX11_init_210 ?_
  refine N.eqY (Y1 := YR_24) rfl ?_
  refine N.aload_n dX11_init_213 rfl 0 rfl ?_
  refine N.sipush (w := 3100) dX11_init_214 (by decide) ?_
  refine N.newa (atype := .int) (ty := .int) k277 rfl 1 rfl (a0 := (3100, .inl (fun _ => 0))) (z := 3100) rfl (fun _ => rfl) (by decide) rfl (Nat.le_of_ble_eq_true rfl) (n := 24) rfl (by decide +kernel) (ce' := 24) (sl' := 78092) rfl rfl (Nat.le_of_ble_eq_true rfl) (Nat.le_of_ble_eq_true rfl) (Nat.le_of_ble_eq_true rfl) dX11_init_217 (fun q164 c166 X165 => ?_)
  have gb0 := (adU_ne ad160 24 q164 (show (0 : Nat) ≠ 24 by decide)).trans h162
  have gq164 := adU_at ad160 24 q164
  generalize adU ad160 24 q164 = ad167 at gb0 gq164 ⊢
  generalize adU cA161 24 c166 = cA168
  have h169 := gb0
  clear gb0
  have h170 := gq164
  clear gq164
  refine N.putC 0 h169 24 h170 (show isO (YR_24 ++ [(1, 3100, .int, [])]) 0 9 129 from ⟨rfl, rfl, rfl⟩) rfl iX11 71 (by decide) k1409 tyX11 tyX11_ok nmX11 rfl rfl rfl rfl dX11_init_219 ?_
  refine N.eqY (Y1 := YR_25) rfl ?_
  refine N.aload_n dX11_init_222 rfl 0 rfl ?_
  refine N.sipush (w := 3100) dX11_init_223 (by decide) ?_
  refine N.newa (atype := .int) (ty := .int) k277 rfl 1 rfl (a0 := (3100, .inl (fun _ => 0))) (z := 3100) rfl (fun _ => rfl) (by decide) rfl (Nat.le_of_ble_eq_true rfl) (n := 25) rfl (by decide +kernel) (ce' := 25) (sl' := 81192) rfl rfl (Nat.le_of_ble_eq_true rfl) (Nat.le_of_ble_eq_true rfl) (Nat.le_of_ble_eq_true rfl) dX11_init_226 (fun q171 c173 X172 => ?_)
  have gb0 := (adU_ne ad167 25 q171 (show (0 : Nat) ≠ 25 by decide)).trans h169
  have gq171 := adU_at ad167 25 q171
  generalize adU ad167 25 q171 = ad174 at gb0 gq171 ⊢
  generalize adU cA168 25 c173 = cA175
  have h176 := gb0
  clear gb0
  have h177 := gq171
  clear gq171
  refine N.putC 0 h176 25 h177 (show isO (YR_25 ++ [(1, 3100, .int, [])]) 0 9 129 from ⟨rfl, rfl, rfl⟩) rfl iX11 72 (by decide) k1410 tyX11 tyX11_ok nmX11 rfl rfl rfl rfl dX11_init_228 ?_
  refine N.eqY (Y1 := YR_26) rfl ?_
  refine N.aload_n dX11_init_231 rfl 0 rfl ?_
  refine N.sipush (w := 3100) dX11_init_232 (by decide) ?_
  refine N.newa (atype := .int) (ty := .int) k277 rfl 1 rfl (a0 := (3100, .inl (fun _ => 0))) (z := 3100) rfl (fun _ => rfl) (by decide) rfl (Nat.le_of_ble_eq_true rfl) (n := 26) rfl (by decide +kernel) (ce' := 26) (sl' := 84292) rfl rfl (Nat.le_of_ble_eq_true rfl) (Nat.le_of_ble_eq_true rfl) (Nat.le_of_ble_eq_true rfl) dX11_init_235 (fun q178 c180 X179 => ?_)
  have gb0 := (adU_ne ad174 26 q178 (show (0 : Nat) ≠ 26 by decide)).trans h176
  have gq178 := adU_at ad174 26 q178
  generalize adU ad174 26 q178 = ad181 at gb0 gq178 ⊢
  generalize adU cA175 26 c180 = cA182
  have h183 := gb0
  clear gb0
  have h184 := gq178
  clear gq178
  refine N.putC 0 h183 26 h184 (show isO (YR_26 ++ [(1, 3100, .int, [])]) 0 9 129 from ⟨rfl, rfl, rfl⟩) rfl iX11 73 (by decide) k1411 tyX11 tyX11_ok nmX11 rfl rfl rfl rfl dX11_init_237 ?_
  refine N.eqY (Y1 := YR_27) rfl ?_
  refine N.aload_n dX11_init_240 rfl 0 rfl ?_
  refine N.sipush (w := 3100) dX11_init_241 (by decide) ?_
  refine N.newa (atype := .int) (ty := .int) k277 rfl 1 rfl (a0 := (3100, .inl (fun _ => 0))) (z := 3100) rfl (fun _ => rfl) (by decide) rfl (Nat.le_of_ble_eq_true rfl) (n := 27) rfl (by decide +kernel) (ce' := 27) (sl' := 87392) rfl rfl (Nat.le_of_ble_eq_true rfl) (Nat.le_of_ble_eq_true rfl) (Nat.le_of_ble_eq_true rfl) dX11_init_244 (fun q185 c187 X186 => ?_)
  have gb0 := (adU_ne ad181 27 q185 (show (0 : Nat) ≠ 27 by decide)).trans h183
  have gq185 := adU_at ad181 27 q185
  generalize adU ad181 27 q185 = ad188 at gb0 gq185 ⊢
  generalize adU cA182 27 c187 = cA189
  have h190 := gb0
  clear gb0
  have h191 := gq185
  clear gq185
  refine N.putC 0 h190 27 h191 (show isO (YR_27 ++ [(1, 3100, .int, [])]) 0 9 129 from ⟨rfl, rfl, rfl⟩) rfl iX11 74 (by decide) k1412 tyX11 tyX11_ok nmX11 rfl rfl rfl rfl dX11_init_246 ?_
  refine N.eqY (Y1 := YR_28) rfl ?_
  refine N.aload_n dX11_init_249 rfl 0 rfl ?_
  refine N.sipush (w := 3100) dX11_init_250 (by decide) ?_
  refine N.newa (atype := .int) (ty := .int) k277 rfl 1 rfl (a0 := (3100, .inl (fun _ => 0))) (z := 3100) rfl (fun _ => rfl) (by decide) rfl (Nat.le_of_ble_eq_true rfl) (n := 28) rfl (by decide +kernel) (ce' := 28) (sl' := 90492) rfl rfl (Nat.le_of_ble_eq_true rfl) (Nat.le_of_ble_eq_true rfl) (Nat.le_of_ble_eq_true rfl) dX11_init_253 (fun q192 c194 X193 => ?_)
  have gb0 := (adU_ne ad188 28 q192 (show (0 : Nat) ≠ 28 by decide)).trans h190
  have gq192 := adU_at ad188 28 q192
  generalize adU ad188 28 q192 = ad195 at gb0 gq192 ⊢
  generalize adU cA189 28 c194 = cA196
  have h197 := gb0
  clear gb0
  have h198 := gq192
  clear gq192
  refine N.putC 0 h197 28 h198 (show isO (YR_28 ++ [(1, 3100, .int, [])]) 0 9 129 from ⟨rfl, rfl, rfl⟩) rfl iX11 75 (by decide) k1413 tyX11 tyX11_ok nmX11 rfl rfl rfl rfl dX11_init_255 ?_
  refine N.eqY (Y1 := YR_29) rfl ?_
  refine N.aload_n dX11_init_258 rfl 0 rfl ?_
  refine N.sipush (w := 3100) dX11_init_259 (by decide) ?_
  refine N.newa (atype := .long) (ty := .long) k373 rfl 2 rfl (a0 := (3100, .inr (.inl (fun _ => 0)))) (z := 3100) rfl (fun _ => rfl) (by decide) rfl (Nat.le_of_ble_eq_true rfl) (n := 29) rfl (by decide +kernel) (ce' := 29) (sl' := 93592) rfl rfl (Nat.le_of_ble_eq_true rfl) (Nat.le_of_ble_eq_true rfl) (Nat.le_of_ble_eq_true rfl) dX11_init_262 (fun q199 c201 X200 => ?_)
  have gb0 := (adU_ne ad195 29 q199 (show (0 : Nat) ≠ 29 by decide)).trans h197
  have gq199 := adU_at ad195 29 q199
  generalize adU ad195 29 q199 = ad202 at gb0 gq199 ⊢
  generalize adU cA196 29 c201 = cA203
  have h204 := gb0
  clear gb0
  have h205 := gq199
  clear gq199
  refine N.putC 0 h204 29 h205 (show isO (YR_29 ++ [(2, 3100, .long, [])]) 0 9 129 from ⟨rfl, rfl, rfl⟩) rfl iX11 76 (by decide) k1414 tyX11 tyX11_ok nmX11 rfl rfl rfl rfl dX11_init_264 ?_
  refine N.eqY (Y1 := YR_30) rfl ?_
  refine N.aload_n dX11_init_267 rfl 0 rfl ?_
  refine N.bipush (w := 60) dX11_init_268 (by decide) ?_
  refine N.newa (atype := .long) (ty := .long) k373 rfl 2 rfl (a0 := (60, .inr (.inl (fun _ => 0)))) (z := 60) rfl (fun _ => rfl) (by decide) rfl (Nat.le_of_ble_eq_true rfl) (n := 30) rfl (by decide +kernel) (ce' := 30) (sl' := 93652) rfl rfl (Nat.le_of_ble_eq_true rfl) (Nat.le_of_ble_eq_true rfl) (Nat.le_of_ble_eq_true rfl) dX11_init_270 (fun q206 c208 X207 => ?_)
  have gb0 := (adU_ne ad202 30 q206 (show (0 : Nat) ≠ 30 by decide)).trans h204
  have gq206 := adU_at ad202 30 q206
  generalize adU ad202 30 q206 = ad209 at gb0 gq206 ⊢
  generalize adU cA203 30 c208 = cA210
  have h211 := gb0
  clear gb0
  have h212 := gq206
  clear gq206
  refine N.putC 0 h211 30 h212 (show isO (YR_30 ++ [(2, 60, .long, [])]) 0 9 129 from ⟨rfl, rfl, rfl⟩) rfl iX11 77 (by decide) k1416 tyX11 tyX11_ok nmX11 rfl rfl rfl rfl dX11_init_272 ?_
  refine N.eqY (Y1 := YR_31) rfl ?_
  refine N.aload_n dX11_init_275 rfl 0 rfl ?_
  refine N.sipush (w := 6000) dX11_init_276 (by decide) ?_
  refine N.newa (atype := .int) (ty := .int) k277 rfl 1 rfl (a0 := (6000, .inl (fun _ => 0))) (z := 6000) rfl (fun _ => rfl) (by decide) rfl (Nat.le_of_ble_eq_true rfl) (n := 31) rfl (by decide +kernel) (ce' := 31) (sl' := 99652) rfl rfl (Nat.le_of_ble_eq_true rfl) (Nat.le_of_ble_eq_true rfl) (Nat.le_of_ble_eq_true rfl) dX11_init_279 (fun q213 c215 X214 => ?_)
  have gb0 := (adU_ne ad209 31 q213 (show (0 : Nat) ≠ 31 by decide)).trans h211
  have gq213 := adU_at ad209 31 q213
  generalize adU ad209 31 q213 = ad216 at gb0 gq213 ⊢
  generalize adU cA210 31 c215 = cA217
  have h218 := gb0
  clear gb0
  have h219 := gq213
  clear gq213
  refine N.putC 0 h218 31 h219 (show isO (YR_31 ++ [(1, 6000, .int, [])]) 0 9 129 from ⟨rfl, rfl, rfl⟩) rfl iX11 78 (by decide) k1417 tyX11 tyX11_ok nmX11 rfl rfl rfl rfl dX11_init_281 ?_
  refine N.eqY (Y1 := YR_32) rfl ?_
  refine N.aload_n dX11_init_284 rfl 0 rfl ?_
  refine N.sipush (w := 6000) dX11_init_285 (by decide) ?_
  refine N.newa (atype := .int) (ty := .int) k277 rfl 1 rfl (a0 := (6000, .inl (fun _ => 0))) (z := 6000) rfl (fun _ => rfl) (by decide) rfl (Nat.le_of_ble_eq_true rfl) (n := 32) rfl (by decide +kernel) (ce' := 32) (sl' := 105652) rfl rfl (Nat.le_of_ble_eq_true rfl) (Nat.le_of_ble_eq_true rfl) (Nat.le_of_ble_eq_true rfl) dX11_init_288 (fun q220 c222 X221 => ?_)
  have gb0 := (adU_ne ad216 32 q220 (show (0 : Nat) ≠ 32 by decide)).trans h218
  have gq220 := adU_at ad216 32 q220
  generalize adU ad216 32 q220 = ad223 at gb0 gq220 ⊢
  generalize adU cA217 32 c222 = cA224
  have h225 := gb0
  clear gb0
  have h226 := gq220
  clear gq220
  refine N.putC 0 h225 32 h226 (show isO (YR_32 ++ [(1, 6000, .int, [])]) 0 9 129 from ⟨rfl, rfl, rfl⟩) rfl iX11 79 (by decide) k1418 tyX11 tyX11_ok nmX11 rfl rfl rfl rfl dX11_init_290 ?_
  refine N.eqY (Y1 := YR_33) rfl ?_
  refine N.aload_n dX11_init_293 rfl 0 rfl ?_
  refine N.bipush (w := 100) dX11_init_294 (by decide) ?_
  refine N.newa (atype := .int) (ty := .int) k277 rfl 1 rfl (a0 := (100, .inl (fun _ => 0))) (z := 100) rfl (fun _ => rfl) (by decide) rfl (Nat.le_of_ble_eq_true rfl) (n := 33) rfl (by decide +kernel) (ce' := 33) (sl' := 105752) rfl rfl (Nat.le_of_ble_eq_true rfl) (Nat.le_of_ble_eq_true rfl) (Nat.le_of_ble_eq_true rfl) dX11_init_296 (fun q227 c229 X228 => ?_)
  have gb0 := (adU_ne ad223 33 q227 (show (0 : Nat) ≠ 33 by decide)).trans h225
  have gq227 := adU_at ad223 33 q227
  generalize adU ad223 33 q227 = ad230 at gb0 gq227 ⊢
  generalize adU cA224 33 c229 = cA231
  have h232 := gb0
  clear gb0
  have h233 := gq227
  clear gq227
  refine N.putC 0 h232 33 h233 (show isO (YR_33 ++ [(1, 100, .int, [])]) 0 9 129 from ⟨rfl, rfl, rfl⟩) rfl iX11 80 (by decide) k1420 tyX11 tyX11_ok nmX11 rfl rfl rfl rfl dX11_init_298 ?_
  refine N.eqY (Y1 := YR_34) rfl ?_
  refine N.aload_n dX11_init_301 rfl 0 rfl ?_
  refine N.bipush (w := 100) dX11_init_302 (by decide) ?_
  refine N.newa (atype := .int) (ty := .int) k277 rfl 1 rfl (a0 := (100, .inl (fun _ => 0))) (z := 100) rfl (fun _ => rfl) (by decide) rfl (Nat.le_of_ble_eq_true rfl) (n := 34) rfl (by decide +kernel) (ce' := 34) (sl' := 105852) rfl rfl (Nat.le_of_ble_eq_true rfl) (Nat.le_of_ble_eq_true rfl) (Nat.le_of_ble_eq_true rfl) dX11_init_304 (fun q234 c236 X235 => ?_)
  have gb0 := (adU_ne ad230 34 q234 (show (0 : Nat) ≠ 34 by decide)).trans h232
  have gq234 := adU_at ad230 34 q234
  generalize adU ad230 34 q234 = ad237 at gb0 gq234 ⊢
  generalize adU cA231 34 c236 = cA238
  have h239 := gb0
  clear gb0
  have h240 := gq234
  clear gq234
  refine N.putC 0 h239 34 h240 (show isO (YR_34 ++ [(1, 100, .int, [])]) 0 9 129 from ⟨rfl, rfl, rfl⟩) rfl iX11 81 (by decide) k1421 tyX11 tyX11_ok nmX11 rfl rfl rfl rfl dX11_init_306 ?_
  refine N.eqY (Y1 := YR_35) rfl ?_
  refine N.aload_n dX11_init_309 rfl 0 rfl ?_
  refine N.sipush (w := 400) dX11_init_310 (by decide) ?_
  refine N.newa (atype := .int) (ty := .int) k277 rfl 1 rfl (a0 := (400, .inl (fun _ => 0))) (z := 400) rfl (fun _ => rfl) (by decide) rfl (Nat.le_of_ble_eq_true rfl) (n := 35) rfl (by decide +kernel) (ce' := 35) (sl' := 106252) rfl rfl (Nat.le_of_ble_eq_true rfl) (Nat.le_of_ble_eq_true rfl) (Nat.le_of_ble_eq_true rfl) dX11_init_313 (fun q241 c243 X242 => ?_)
  have gb0 := (adU_ne ad237 35 q241 (show (0 : Nat) ≠ 35 by decide)).trans h239
  have gq241 := adU_at ad237 35 q241
  generalize adU ad237 35 q241 = ad244 at gb0 gq241 ⊢
  generalize adU cA238 35 c243 = cA245
  have h246 := gb0
  clear gb0
  have h247 := gq241
  clear gq241
  refine N.putC 0 h246 35 h247 (show isO (YR_35 ++ [(1, 400, .int, [])]) 0 9 129 from ⟨rfl, rfl, rfl⟩) rfl iX11 82 (by decide) k1423 tyX11 tyX11_ok nmX11 rfl rfl rfl rfl dX11_init_315 ?_
  refine N.eqY (Y1 := YR_36) rfl ?_
  refine N.aload_n dX11_init_318 rfl 0 rfl ?_
  refine N.sipush (w := 400) dX11_init_319 (by decide) ?_
  refine N.newa (atype := .int) (ty := .int) k277 rfl 1 rfl (a0 := (400, .inl (fun _ => 0))) (z := 400) rfl (fun _ => rfl) (by decide) rfl (Nat.le_of_ble_eq_true rfl) (n := 36) rfl (by decide +kernel) (ce' := 36) (sl' := 106652) rfl rfl (Nat.le_of_ble_eq_true rfl) (Nat.le_of_ble_eq_true rfl) (Nat.le_of_ble_eq_true rfl) dX11_init_322 (fun q248 c250 X249 => ?_)
  have gb0 := (adU_ne ad244 36 q248 (show (0 : Nat) ≠ 36 by decide)).trans h246
  have gq248 := adU_at ad244 36 q248
  generalize adU ad244 36 q248 = ad251 at gb0 gq248 ⊢
  generalize adU cA245 36 c250 = cA252
  have h253 := gb0
  clear gb0
  have h254 := gq248
  clear gq248
  refine N.putC 0 h253 36 h254 (show isO (YR_36 ++ [(1, 400, .int, [])]) 0 9 129 from ⟨rfl, rfl, rfl⟩) rfl iX11 83 (by decide) k1424 tyX11 tyX11_ok nmX11 rfl rfl rfl rfl dX11_init_324 ?_
  refine N.eqY (Y1 := YR_37) rfl ?_
  refine N.aload_n dX11_init_327 rfl 0 rfl ?_
  refine N.sipush (w := 400) dX11_init_328 (by decide) ?_
  refine N.newa (atype := .int) (ty := .int) k277 rfl 1 rfl (a0 := (400, .inl (fun _ => 0))) (z := 400) rfl (fun _ => rfl) (by decide) rfl (Nat.le_of_ble_eq_true rfl) (n := 37) rfl (by decide +kernel) (ce' := 37) (sl' := 107052) rfl rfl (Nat.le_of_ble_eq_true rfl) (Nat.le_of_ble_eq_true rfl) (Nat.le_of_ble_eq_true rfl) dX11_init_331 (fun q255 c257 X256 => ?_)
  have gb0 := (adU_ne ad251 37 q255 (show (0 : Nat) ≠ 37 by decide)).trans h253
  have gq255 := adU_at ad251 37 q255
  generalize adU ad251 37 q255 = ad258 at gb0 gq255 ⊢
  generalize adU cA252 37 c257 = cA259
  have h260 := gb0
  clear gb0
  have h261 := gq255
  clear gq255
  refine N.putC 0 h260 37 h261 (show isO (YR_37 ++ [(1, 400, .int, [])]) 0 9 129 from ⟨rfl, rfl, rfl⟩) rfl iX11 84 (by decide) k1425 tyX11 tyX11_ok nmX11 rfl rfl rfl rfl dX11_init_333 ?_
  refine N.eqY (Y1 := YR_38) rfl ?_
  refine N.aload_n dX11_init_336 rfl 0 rfl ?_
  refine N.sipush (w := 400) dX11_init_337 (by decide) ?_
  refine N.newa (atype := .int) (ty := .int) k277 rfl 1 rfl (a0 := (400, .inl (fun _ => 0))) (z := 400) rfl (fun _ => rfl) (by decide) rfl (Nat.le_of_ble_eq_true rfl) (n := 38) rfl (by decide +kernel) (ce' := 38) (sl' := 107452) rfl rfl (Nat.le_of_ble_eq_true rfl) (Nat.le_of_ble_eq_true rfl) (Nat.le_of_ble_eq_true rfl) dX11_init_340 (fun q262 c264 X263 => ?_)
  have gb0 := (adU_ne ad258 38 q262 (show (0 : Nat) ≠ 38 by decide)).trans h260
  have gq262 := adU_at ad258 38 q262
  generalize adU ad258 38 q262 = ad265 at gb0 gq262 ⊢
  generalize adU cA259 38 c264 = cA266
  have h267 := gb0
  clear gb0
  have h268 := gq262
  clear gq262
  refine N.putC 0 h267 38 h268 (show isO (YR_38 ++ [(1, 400, .int, [])]) 0 9 129 from ⟨rfl, rfl, rfl⟩) rfl iX11 85 (by decide) k1426 tyX11 tyX11_ok nmX11 rfl rfl rfl rfl dX11_init_342 ?_
  refine N.eqY (Y1 := YR_39) rfl ?_
  refine N.aload_n dX11_init_345 rfl 0 rfl ?_
  refine N.sipush (w := 3100) dX11_init_346 (by decide) ?_
  refine N.newa (atype := .int) (ty := .int) k277 rfl 1 rfl (a0 := (3100, .inl (fun _ => 0))) (z := 3100) rfl (fun _ => rfl) (by decide) rfl (Nat.le_of_ble_eq_true rfl) (n := 39) rfl (by decide +kernel) (ce' := 39) (sl' := 110552) rfl rfl (Nat.le_of_ble_eq_true rfl) (Nat.le_of_ble_eq_true rfl) (Nat.le_of_ble_eq_true rfl) dX11_init_349 (fun q269 c271 X270 => ?_)
  have gb0 := (adU_ne ad265 39 q269 (show (0 : Nat) ≠ 39 by decide)).trans h267
  have gq269 := adU_at ad265 39 q269
  generalize adU ad265 39 q269 = ad272 at gb0 gq269 ⊢
  generalize adU cA266 39 c271 = cA273
  have h274 := gb0
  clear gb0
  have h275 := gq269
  clear gq269
  refine N.putC 0 h274 39 h275 (show isO (YR_39 ++ [(1, 3100, .int, [])]) 0 9 129 from ⟨rfl, rfl, rfl⟩) rfl iX11 86 (by decide) k1427 tyX11 tyX11_ok nmX11 rfl rfl rfl rfl dX11_init_351 ?_
  refine N.eqY (Y1 := YR_40) rfl ?_
  refine N.aload_n dX11_init_354 rfl 0 rfl ?_
  refine N.sipush (w := 24000) dX11_init_355 (by decide) ?_
  refine N.newa (atype := .int) (ty := .int) k277 rfl 1 rfl (a0 := (24000, .inl (fun _ => 0))) (z := 24000) rfl (fun _ => rfl) (by decide) rfl (Nat.le_of_ble_eq_true rfl) (n := 40) rfl (by decide +kernel) (ce' := 40) (sl' := 134552) rfl rfl (Nat.le_of_ble_eq_true rfl) (Nat.le_of_ble_eq_true rfl) (Nat.le_of_ble_eq_true rfl) dX11_init_358 (fun q276 c278 X277 => ?_)
  have gb0 := (adU_ne ad272 40 q276 (show (0 : Nat) ≠ 40 by decide)).trans h274
  have gq276 := adU_at ad272 40 q276
  generalize adU ad272 40 q276 = ad279 at gb0 gq276 ⊢
  generalize adU cA273 40 c278 = cA280
  have h281 := gb0
  clear gb0
  have h282 := gq276
  clear gq276
  refine N.putC 0 h281 40 h282 (show isO (YR_40 ++ [(1, 24000, .int, [])]) 0 9 129 from ⟨rfl, rfl, rfl⟩) rfl iX11 87 (by decide) k1432 tyX11 tyX11_ok nmX11 rfl rfl rfl rfl dX11_init_360 ?_
  refine N.eqY (Y1 := YR_41) rfl ?_
  refine N.aload_n dX11_init_363 rfl 0 rfl ?_
  refine N.sipush (w := 24000) dX11_init_364 (by decide) ?_
  refine N.newa (atype := .int) (ty := .int) k277 rfl 1 rfl (a0 := (24000, .inl (fun _ => 0))) (z := 24000) rfl (fun _ => rfl) (by decide) rfl (Nat.le_of_ble_eq_true rfl) (n := 41) rfl (by decide +kernel) (ce' := 41) (sl' := 158552) rfl rfl (Nat.le_of_ble_eq_true rfl) (Nat.le_of_ble_eq_true rfl) (Nat.le_of_ble_eq_true rfl) dX11_init_367 (fun q283 c285 X284 => ?_)
  have gb0 := (adU_ne ad279 41 q283 (show (0 : Nat) ≠ 41 by decide)).trans h281
  have gq283 := adU_at ad279 41 q283
  generalize adU ad279 41 q283 = ad286 at gb0 gq283 ⊢
  generalize adU cA280 41 c285 = cA287
  have h288 := gb0
  clear gb0
  have h289 := gq283
  clear gq283
  refine N.putC 0 h288 41 h289 (show isO (YR_41 ++ [(1, 24000, .int, [])]) 0 9 129 from ⟨rfl, rfl, rfl⟩) rfl iX11 88 (by decide) k1433 tyX11 tyX11_ok nmX11 rfl rfl rfl rfl dX11_init_369 ?_
  refine N.eqY (Y1 := YR_42) rfl ?_
  refine N.aload_n dX11_init_372 rfl 0 rfl ?_
  refine N.sipush (w := 24000) dX11_init_373 (by decide) ?_
  refine N.newa (atype := .int) (ty := .int) k277 rfl 1 rfl (a0 := (24000, .inl (fun _ => 0))) (z := 24000) rfl (fun _ => rfl) (by decide) rfl (Nat.le_of_ble_eq_true rfl) (n := 42) rfl (by decide +kernel) (ce' := 42) (sl' := 182552) rfl rfl (Nat.le_of_ble_eq_true rfl) (Nat.le_of_ble_eq_true rfl) (Nat.le_of_ble_eq_true rfl) dX11_init_376 (fun q290 c292 X291 => ?_)
  have gb0 := (adU_ne ad286 42 q290 (show (0 : Nat) ≠ 42 by decide)).trans h288
  have gq290 := adU_at ad286 42 q290
  generalize adU ad286 42 q290 = ad293 at gb0 gq290 ⊢
  generalize adU cA287 42 c292 = cA294
  have h295 := gb0
  clear gb0
  have h296 := gq290
  clear gq290
  refine N.putC 0 h295 42 h296 (show isO (YR_42 ++ [(1, 24000, .int, [])]) 0 9 129 from ⟨rfl, rfl, rfl⟩) rfl iX11 89 (by decide) k1434 tyX11 tyX11_ok nmX11 rfl rfl rfl rfl dX11_init_378 ?_
  refine N.eqY (Y1 := YR_43) rfl ?_
  refine N.aload_n dX11_init_381 rfl 0 rfl ?_
  refine N.sipush (w := 24000) dX11_init_382 (by decide) ?_
  refine N.newa (atype := .int) (ty := .int) k277 rfl 1 rfl (a0 := (24000, .inl (fun _ => 0))) (z := 24000) rfl (fun _ => rfl) (by decide) rfl (Nat.le_of_ble_eq_true rfl) (n := 43) rfl (by decide +kernel) (ce' := 43) (sl' := 206552) rfl rfl (Nat.le_of_ble_eq_true rfl) (Nat.le_of_ble_eq_true rfl) (Nat.le_of_ble_eq_true rfl) dX11_init_385 (fun q297 c299 X298 => ?_)
  have gb0 := (adU_ne ad293 43 q297 (show (0 : Nat) ≠ 43 by decide)).trans h295
  have gq297 := adU_at ad293 43 q297
  generalize adU ad293 43 q297 = ad300 at gb0 gq297 ⊢
  generalize adU cA294 43 c299 = cA301
  have h302 := gb0
  clear gb0
  have h303 := gq297
  clear gq297
  refine N.putC 0 h302 43 h303 (show isO (YR_43 ++ [(1, 24000, .int, [])]) 0 9 129 from ⟨rfl, rfl, rfl⟩) rfl iX11 90 (by decide) k1435 tyX11 tyX11_ok nmX11 rfl rfl rfl rfl dX11_init_387 ?_
  refine N.eqY (Y1 := YR_44) rfl ?_
  refine N.aload_n dX11_init_390 rfl 0 rfl ?_
  refine N.bipush (w := 41) dX11_init_391 (by decide) ?_
  refine N.newa (atype := .int) (ty := .int) k277 rfl 1 rfl (a0 := (41, .inl (fun _ => 0))) (z := 41) rfl (fun _ => rfl) (by decide) rfl (Nat.le_of_ble_eq_true rfl) (n := 44) rfl (by decide +kernel) (ce' := 44) (sl' := 206593) rfl rfl (Nat.le_of_ble_eq_true rfl) (Nat.le_of_ble_eq_true rfl) (Nat.le_of_ble_eq_true rfl) dX11_init_393 (fun q304 c306 X305 => ?_)
  have gb0 := (adU_ne ad300 44 q304 (show (0 : Nat) ≠ 44 by decide)).trans h302
  have gq304 := adU_at ad300 44 q304
  generalize adU ad300 44 q304 = ad307 at gb0 gq304 ⊢
  generalize adU cA301 44 c306 = cA308
  have h309 := gb0
  clear gb0
  have h310 := gq304
  clear gq304
  refine N.putC 0 h309 44 h310 (show isO (YR_44 ++ [(1, 41, .int, [])]) 0 9 129 from ⟨rfl, rfl, rfl⟩) rfl iX11 91 (by decide) k1436 tyX11 tyX11_ok nmX11 rfl rfl rfl rfl dX11_init_395 ?_
  refine N.eqY (Y1 := YR_45) rfl ?_
  refine N.aload_n dX11_init_398 rfl 0 rfl ?_
  refine N.sipush (w := 3100) dX11_init_399 (by decide) ?_
  refine N.newa (atype := .int) (ty := .int) k277 rfl 1 rfl (a0 := (3100, .inl (fun _ => 0))) (z := 3100) rfl (fun _ => rfl) (by decide) rfl (Nat.le_of_ble_eq_true rfl) (n := 45) rfl (by decide +kernel) (ce' := 45) (sl' := 209693) rfl rfl (Nat.le_of_ble_eq_true rfl) (Nat.le_of_ble_eq_true rfl) (Nat.le_of_ble_eq_true rfl) dX11_init_402 (fun q311 c313 X312 => ?_)
  have gb0 := (adU_ne ad307 45 q311 (show (0 : Nat) ≠ 45 by decide)).trans h309
  have gq311 := adU_at ad307 45 q311
  generalize adU ad307 45 q311 = ad314 at gb0 gq311 ⊢
  generalize adU cA308 45 c313 = cA315
  have h316 := gb0
  clear gb0
  have h317 := gq311
  clear gq311
  refine N.putC 0 h316 45 h317 (show isO (YR_45 ++ [(1, 3100, .int, [])]) 0 9 129 from ⟨rfl, rfl, rfl⟩) rfl iX11 92 (by decide) k1437 tyX11 tyX11_ok nmX11 rfl rfl rfl rfl dX11_init_404 ?_
  refine N.eqY (Y1 := YR_46) rfl ?_
  refine N.aload_n dX11_init_407 rfl 0 rfl ?_
  refine N.sipush (w := 3100) dX11_init_408 (by decide) ?_
  refine N.newa (atype := .int) (ty := .int) k277 rfl 1 rfl (a0 := (3100, .inl (fun _ => 0))) (z := 3100) rfl (fun _ => rfl) (by decide) rfl (Nat.le_of_ble_eq_true rfl) (n := 46) rfl (by decide +kernel) (ce' := 46) (sl' := 212793) rfl rfl (Nat.le_of_ble_eq_true rfl) (Nat.le_of_ble_eq_true rfl) (Nat.le_of_ble_eq_true rfl) dX11_init_411 (fun q318 c320 X319 => ?_)
  have gb0 := (adU_ne ad314 46 q318 (show (0 : Nat) ≠ 46 by decide)).trans h316
  have gq318 := adU_at ad314 46 q318
  generalize adU ad314 46 q318 = ad321 at gb0 gq318 ⊢
  generalize adU cA315 46 c320 = cA322
  have h323 := gb0
  clear gb0
  have h324 := gq318
  clear gq318
  refine N.putC 0 h323 46 h324 (show isO (YR_46 ++ [(1, 3100, .int, [])]) 0 9 129 from ⟨rfl, rfl, rfl⟩) rfl iX11 93 (by decide) k1438 tyX11 tyX11_ok nmX11 rfl rfl rfl rfl dX11_init_413 ?_
  refine N.eqY (Y1 := YR_47) rfl ?_
  refine N.aload_n dX11_init_416 rfl 0 rfl ?_
  refine N.sipush (w := 3100) dX11_init_417 (by decide) ?_
  refine N.newa (atype := .int) (ty := .int) k277 rfl 1 rfl (a0 := (3100, .inl (fun _ => 0))) (z := 3100) rfl (fun _ => rfl) (by decide) rfl (Nat.le_of_ble_eq_true rfl) (n := 47) rfl (by decide +kernel) (ce' := 47) (sl' := 215893) rfl rfl (Nat.le_of_ble_eq_true rfl) (Nat.le_of_ble_eq_true rfl) (Nat.le_of_ble_eq_true rfl) dX11_init_420 (fun q325 c327 X326 => ?_)
  have gb0 := (adU_ne ad321 47 q325 (show (0 : Nat) ≠ 47 by decide)).trans h323
  have gq325 := adU_at ad321 47 q325
  generalize adU ad321 47 q325 = ad328 at gb0 gq325 ⊢
  generalize adU cA322 47 c327 = cA329
  have h330 := gb0
  clear gb0
  have h331 := gq325
  clear gq325
  refine N.putC 0 h330 47 h331 (show isO (YR_47 ++ [(1, 3100, .int, [])]) 0 9 129 from ⟨rfl, rfl, rfl⟩) rfl iX11 94 (by decide) k1439 tyX11 tyX11_ok nmX11 rfl rfl rfl rfl dX11_init_422 ?_
  refine N.eqY (Y1 := YR_48) rfl ?_
  refine N.aload_n dX11_init_425 rfl 0 rfl ?_
  refine N.sipush (w := 13000) dX11_init_426 (by decide) ?_
  refine N.newa (atype := .int) (ty := .int) k277 rfl 1 rfl (a0 := (13000, .inl (fun _ => 0))) (z := 13000) rfl (fun _ => rfl) (by decide) rfl (Nat.le_of_ble_eq_true rfl) (n := 48) rfl (by decide +kernel) (ce' := 48) (sl' := 228893) rfl rfl (Nat.le_of_ble_eq_true rfl) (Nat.le_of_ble_eq_true rfl) (Nat.le_of_ble_eq_true rfl) dX11_init_429 (fun q332 c334 X333 => ?_)
  have gb0 := (adU_ne ad328 48 q332 (show (0 : Nat) ≠ 48 by decide)).trans h330
  have gq332 := adU_at ad328 48 q332
  generalize adU ad328 48 q332 = ad335 at gb0 gq332 ⊢
  generalize adU cA329 48 c334 = cA336
  have h337 := gb0
  clear gb0
  have h338 := gq332
  clear gq332
  refine N.putC 0 h337 48 h338 (show isO (YR_48 ++ [(1, 13000, .int, [])]) 0 9 129 from ⟨rfl, rfl, rfl⟩) rfl iX11 95 (by decide) k1441 tyX11 tyX11_ok nmX11 rfl rfl rfl rfl dX11_init_431 ?_
  refine N.eqY (Y1 := YR_49) rfl ?_
  refine N.aload_n dX11_init_434 rfl 0 rfl ?_
  refine N.sipush (w := 13000) dX11_init_435 (by decide) ?_
  refine N.newa (atype := .int) (ty := .int) k277 rfl 1 rfl (a0 := (13000, .inl (fun _ => 0))) (z := 13000) rfl (fun _ => rfl) (by decide) rfl (Nat.le_of_ble_eq_true rfl) (n := 49) rfl (by decide +kernel) (ce' := 49) (sl' := 241893) rfl rfl (Nat.le_of_ble_eq_true rfl) (Nat.le_of_ble_eq_true rfl) (Nat.le_of_ble_eq_true rfl) dX11_init_438 (fun q339 c341 X340 => ?_)
  have gb0 := (adU_ne ad335 49 q339 (show (0 : Nat) ≠ 49 by decide)).trans h337
  have gq339 := adU_at ad335 49 q339
  generalize adU ad335 49 q339 = ad342 at gb0 gq339 ⊢
  generalize adU cA336 49 c341 = cA343
  have h344 := gb0
  clear gb0
  have h345 := gq339
  clear gq339
  refine N.putC 0 h344 49 h345 (show isO (YR_49 ++ [(1, 13000, .int, [])]) 0 9 129 from ⟨rfl, rfl, rfl⟩) rfl iX11 96 (by decide) k1442 tyX11 tyX11_ok nmX11 rfl rfl rfl rfl dX11_init_440 ?_
  refine N.eqY (Y1 := YR_50) rfl ?_
  refine N.aload_n dX11_init_443 rfl 0 rfl ?_
  refine N.sipush (w := 13000) dX11_init_444 (by decide) ?_
  refine N.newa (atype := .int) (ty := .int) k277 rfl 1 rfl (a0 := (13000, .inl (fun _ => 0))) (z := 13000) rfl (fun _ => rfl) (by decide) rfl (Nat.le_of_ble_eq_true rfl) (n := 50) rfl (by decide +kernel) (ce' := 50) (sl' := 254893) rfl rfl (Nat.le_of_ble_eq_true rfl) (Nat.le_of_ble_eq_true rfl) (Nat.le_of_ble_eq_true rfl) dX11_init_447 (fun q346 c348 X347 => ?_)
  have gb0 := (adU_ne ad342 50 q346 (show (0 : Nat) ≠ 50 by decide)).trans h344
  have gq346 := adU_at ad342 50 q346
  generalize adU ad342 50 q346 = ad349 at gb0 gq346 ⊢
  generalize adU cA343 50 c348 = cA350
  have h351 := gb0
  clear gb0
  have h352 := gq346
  clear gq346
  refine N.putC 0 h351 50 h352 (show isO (YR_50 ++ [(1, 13000, .int, [])]) 0 9 129 from ⟨rfl, rfl, rfl⟩) rfl iX11 97 (by decide) k1443 tyX11 tyX11_ok nmX11 rfl rfl rfl rfl dX11_init_449 ?_
  refine N.eqY (Y1 := YR_51) rfl ?_
  refine N.aload_n dX11_init_452 rfl 0 rfl ?_
  refine N.sipush (w := 3100) dX11_init_453 (by decide) ?_
  refine N.newa (atype := .int) (ty := .int) k277 rfl 1 rfl (a0 := (3100, .inl (fun _ => 0))) (z := 3100) rfl (fun _ => rfl) (by decide) rfl (Nat.le_of_ble_eq_true rfl) (n := 51) rfl (by decide +kernel) (ce' := 51) (sl' := 257993) rfl rfl (Nat.le_of_ble_eq_true rfl) (Nat.le_of_ble_eq_true rfl) (Nat.le_of_ble_eq_true rfl) dX11_init_456 (fun q353 c355 X354 => ?_)
  have gb0 := (adU_ne ad349 51 q353 (show (0 : Nat) ≠ 51 by decide)).trans h351
  have gq353 := adU_at ad349 51 q353
  generalize adU ad349 51 q353 = ad356 at gb0 gq353 ⊢
  generalize adU cA350 51 c355 = cA357
  have h358 := gb0
  clear gb0
  have h359 := gq353
  clear gq353
  refine N.putC 0 h358 51 h359 (show isO (YR_51 ++ [(1, 3100, .int, [])]) 0 9 129 from ⟨rfl, rfl, rfl⟩) rfl iX11 98 (by decide) k1444 tyX11 tyX11_ok nmX11 rfl rfl rfl rfl dX11_init_458 ?_
  refine N.eqY (Y1 := YR_52) rfl ?_
  refine N.aload_n dX11_init_461 rfl 0 rfl ?_
  refine N.sipush (w := 12000) dX11_init_462 (by decide) ?_
  refine N.newa (atype := .int) (ty := .int) k277 rfl 1 rfl (a0 := (12000, .inl (fun _ => 0))) (z := 12000) rfl (fun _ => rfl) (by decide) rfl (Nat.le_of_ble_eq_true rfl) (n := 52) rfl (by decide +kernel) (ce' := 52) (sl' := 269993) rfl rfl (Nat.le_of_ble_eq_true rfl) (Nat.le_of_ble_eq_true rfl) (Nat.le_of_ble_eq_true rfl) dX11_init_465 (fun q360 c362 X361 => ?_)
  have gb0 := (adU_ne ad356 52 q360 (show (0 : Nat) ≠ 52 by decide)).trans h358
  have gq360 := adU_at ad356 52 q360
  generalize adU ad356 52 q360 = ad363 at gb0 gq360 ⊢
  generalize adU cA357 52 c362 = cA364
  have h365 := gb0
  clear gb0
  have h366 := gq360
  clear gq360
  refine N.putC 0 h365 52 h366 (show isO (YR_52 ++ [(1, 12000, .int, [])]) 0 9 129 from ⟨rfl, rfl, rfl⟩) rfl iX11 99 (by decide) k1446 tyX11 tyX11_ok nmX11 rfl rfl rfl rfl dX11_init_467 ?_
  refine N.eqY (Y1 := YR_53) rfl ?_
  refine N.aload_n dX11_init_470 rfl 0 rfl ?_
  refine N.sipush (w := 12000) dX11_init_471 (by decide) ?_
  refine N.newa (atype := .int) (ty := .int) k277 rfl 1 rfl (a0 := (12000, .inl (fun _ => 0))) (z := 12000) rfl (fun _ => rfl) (by decide) rfl (Nat.le_of_ble_eq_true rfl) (n := 53) rfl (by decide +kernel) (ce' := 53) (sl' := 281993) rfl rfl (Nat.le_of_ble_eq_true rfl) (Nat.le_of_ble_eq_true rfl) (Nat.le_of_ble_eq_true rfl) dX11_init_474 (fun q367 c369 X368 => ?_)
  have gb0 := (adU_ne ad363 53 q367 (show (0 : Nat) ≠ 53 by decide)).trans h365
  have gq367 := adU_at ad363 53 q367
  generalize adU ad363 53 q367 = ad370 at gb0 gq367 ⊢
  generalize adU cA364 53 c369 = cA371
  have h372 := gb0
  clear gb0
  have h373 := gq367
  clear gq367
  refine N.putC 0 h372 53 h373 (show isO (YR_53 ++ [(1, 12000, .int, [])]) 0 9 129 from ⟨rfl, rfl, rfl⟩) rfl iX11 100 (by decide) k1447 tyX11 tyX11_ok nmX11 rfl rfl rfl rfl dX11_init_476 ?_
  refine N.eqY (Y1 := YR_54) rfl ?_
  refine N.aload_n dX11_init_479 rfl 0 rfl ?_
  refine N.sipush (w := 12000) dX11_init_480 (by decide) ?_
  refine N.newa (atype := .int) (ty := .int) k277 rfl 1 rfl (a0 := (12000, .inl (fun _ => 0))) (z := 12000) rfl (fun _ => rfl) (by decide) rfl (Nat.le_of_ble_eq_true rfl) (n := 54) rfl (by decide +kernel) (ce' := 54) (sl' := 293993) rfl rfl (Nat.le_of_ble_eq_true rfl) (Nat.le_of_ble_eq_true rfl) (Nat.le_of_ble_eq_true rfl) dX11_init_483 (fun q374 c376 X375 => ?_)
  have gb0 := (adU_ne ad370 54 q374 (show (0 : Nat) ≠ 54 by decide)).trans h372
  have gq374 := adU_at ad370 54 q374
  generalize adU ad370 54 q374 = ad377 at gb0 gq374 ⊢
  generalize adU cA371 54 c376 = cA378
  have h379 := gb0
  clear gb0
  have h380 := gq374
  clear gq374
  refine N.putC 0 h379 54 h380 (show isO (YR_54 ++ [(1, 12000, .int, [])]) 0 9 129 from ⟨rfl, rfl, rfl⟩) rfl iX11 101 (by decide) k1448 tyX11 tyX11_ok nmX11 rfl rfl rfl rfl dX11_init_485 ?_
  refine N.eqY (Y1 := YR_55) rfl ?_
  refine N.aload_n dX11_init_488 rfl 0 rfl ?_
  refine N.sipush (w := 12000) dX11_init_489 (by decide) ?_
  refine N.newa (atype := .int) (ty := .int) k277 rfl 1 rfl (a0 := (12000, .inl (fun _ => 0))) (z := 12000) rfl (fun _ => rfl) (by decide) rfl (Nat.le_of_ble_eq_true rfl) (n := 55) rfl (by decide +kernel) (ce' := 55) (sl' := 305993) rfl rfl (Nat.le_of_ble_eq_true rfl) (Nat.le_of_ble_eq_true rfl) (Nat.le_of_ble_eq_true rfl) dX11_init_492 (fun q381 c383 X382 => ?_)
  have gb0 := (adU_ne ad377 55 q381 (show (0 : Nat) ≠ 55 by decide)).trans h379
  have gq381 := adU_at ad377 55 q381
  generalize adU ad377 55 q381 = ad384 at gb0 gq381 ⊢
  generalize adU cA378 55 c383 = cA385
  have h386 := gb0
  clear gb0
  have h387 := gq381
  clear gq381
  refine N.putC 0 h386 55 h387 (show isO (YR_55 ++ [(1, 12000, .int, [])]) 0 9 129 from ⟨rfl, rfl, rfl⟩) rfl iX11 102 (by decide) k1449 tyX11 tyX11_ok nmX11 rfl rfl rfl rfl dX11_init_494 ?_
  refine N.eqY (Y1 := YR_56) rfl ?_
  refine N.aload_n dX11_init_497 rfl 0 rfl ?_
  refine N.sipush (w := 12000) dX11_init_498 (by decide) ?_
  refine N.newa (atype := .int) (ty := .int) k277 rfl 1 rfl (a0 := (12000, .inl (fun _ => 0))) (z := 12000) rfl (fun _ => rfl) (by decide) rfl (Nat.le_of_ble_eq_true rfl) (n := 56) rfl (by decide +kernel) (ce' := 56) (sl' := 317993) rfl rfl (Nat.le_of_ble_eq_true rfl) (Nat.le_of_ble_eq_true rfl) (Nat.le_of_ble_eq_true rfl) dX11_init_501 (fun q388 c390 X389 => ?_)
  have gb0 := (adU_ne ad384 56 q388 (show (0 : Nat) ≠ 56 by decide)).trans h386
  have gq388 := adU_at ad384 56 q388
  generalize adU ad384 56 q388 = ad391 at gb0 gq388 ⊢
  generalize adU cA385 56 c390 = cA392
  have h393 := gb0
  clear gb0
  have h394 := gq388
  clear gq388
  refine N.putC 0 h393 56 h394 (show isO (YR_56 ++ [(1, 12000, .int, [])]) 0 9 129 from ⟨rfl, rfl, rfl⟩) rfl iX11 103 (by decide) k1450 tyX11 tyX11_ok nmX11 rfl rfl rfl rfl dX11_init_503 ?_
  refine N.eqY (Y1 := YR_57) rfl ?_
  refine N.aload_n dX11_init_506 rfl 0 rfl ?_
  refine N.bipush (w := 41) dX11_init_507 (by decide) ?_
  refine N.newa (atype := .boolean) (ty := .boolean) k278 rfl 1 rfl (a0 := (41, .inl (fun _ => 0))) (z := 41) rfl (fun _ => rfl) (by decide) rfl (Nat.le_of_ble_eq_true rfl) (n := 57) rfl (by decide +kernel) (ce' := 57) (sl' := 318034) rfl rfl (Nat.le_of_ble_eq_true rfl) (Nat.le_of_ble_eq_true rfl) (Nat.le_of_ble_eq_true rfl) dX11_init_509 (fun q395 c397 X396 => ?_)
  have gb0 := (adU_ne ad391 57 q395 (show (0 : Nat) ≠ 57 by decide)).trans h393
  have gq395 := adU_at ad391 57 q395
  generalize adU ad391 57 q395 = ad398 at gb0 gq395 ⊢
  generalize adU cA392 57 c397 = cA399
  have h400 := gb0
  clear gb0
  have h401 := gq395
  clear gq395
  refine N.putC 0 h400 57 h401 (show isO (YR_57 ++ [(1, 41, .boolean, [])]) 0 9 129 from ⟨rfl, rfl, rfl⟩) rfl iX11 104 (by decide) k1451 tyX11 tyX11_ok nmX11 rfl rfl rfl rfl dX11_init_511 ?_
  refine N.eqY (Y1 := YR_58) rfl ?_
  refine N.aload_n dX11_init_514 rfl 0 rfl ?_
  refine N.sipush (w := 3200) dX11_init_515 (by decide) ?_
  refine N.newa (atype := .int) (ty := .int) k277 rfl 1 rfl (a0 := (3200, .inl (fun _ => 0))) (z := 3200) rfl (fun _ => rfl) (by decide) rfl (Nat.le_of_ble_eq_true rfl) (n := 58) rfl (by decide +kernel) (ce' := 58) (sl' := 321234) rfl rfl (Nat.le_of_ble_eq_true rfl) (Nat.le_of_ble_eq_true rfl) (Nat.le_of_ble_eq_true rfl) dX11_init_518 (fun q402 c404 X403 => ?_)
  have gb0 := (adU_ne ad398 58 q402 (show (0 : Nat) ≠ 58 by decide)).trans h400
  have gq402 := adU_at ad398 58 q402
  generalize adU ad398 58 q402 = ad405 at gb0 gq402 ⊢
  generalize adU cA399 58 c404 = cA406
  have h407 := gb0
  clear gb0
  have h408 := gq402
  clear gq402
  refine N.putC 0 h407 58 h408 (show isO (YR_58 ++ [(1, 3200, .int, [])]) 0 9 129 from ⟨rfl, rfl, rfl⟩) rfl iX11 105 (by decide) k1454 tyX11 tyX11_ok nmX11 rfl rfl rfl rfl dX11_init_520 ?_
  refine N.eqY (Y1 := YR_59) rfl ?_
  refine N.aload_n dX11_init_523 rfl 0 rfl ?_
  refine N.bipush (w := 60) dX11_init_524 (by decide) ?_
  refine N.newa (atype := .int) (ty := .int) k277 rfl 1 rfl (a0 := (60, .inl (fun _ => 0))) (z := 60) rfl (fun _ => rfl) (by decide) rfl (Nat.le_of_ble_eq_true rfl) (n := 59) rfl (by decide +kernel) (ce' := 59) (sl' := 321294) rfl rfl (Nat.le_of_ble_eq_true rfl) (Nat.le_of_ble_eq_true rfl) (Nat.le_of_ble_eq_true rfl) dX11_init_526 (fun q409 c411 X410 => ?_)
  have gb0 := (adU_ne ad405 59 q409 (show (0 : Nat) ≠ 59 by decide)).trans h407
  have gq409 := adU_at ad405 59 q409
  generalize adU ad405 59 q409 = ad412 at gb0 gq409 ⊢
  generalize adU cA406 59 c411 = cA413
  have h414 := gb0
  clear gb0
  have h415 := gq409
  clear gq409
  refine N.putC 0 h414 59 h415 (show isO (YR_59 ++ [(1, 60, .int, [])]) 0 9 129 from ⟨rfl, rfl, rfl⟩) rfl iX11 106 (by decide) k1455 tyX11 tyX11_ok nmX11 rfl rfl rfl rfl dX11_init_528 ?_
  refine N.eqY (Y1 := YR_60) rfl ?_
  refine N.aload_n dX11_init_531 rfl 0 rfl ?_
  refine N.sipush (w := 20400) dX11_init_532 (by decide) ?_
  refine N.newa (atype := .int) (ty := .int) k277 rfl 1 rfl (a0 := (20400, .inl (fun _ => 0))) (z := 20400) rfl (fun _ => rfl) (by decide) rfl (Nat.le_of_ble_eq_true rfl) (n := 60) rfl (by decide +kernel) (ce' := 60) (sl' := 341694) rfl rfl (Nat.le_of_ble_eq_true rfl) (Nat.le_of_ble_eq_true rfl) (Nat.le_of_ble_eq_true rfl) dX11_init_535 (fun q416 c418 X417 => ?_)
  have gb0 := (adU_ne ad412 60 q416 (show (0 : Nat) ≠ 60 by decide)).trans h414
  have gq416 := adU_at ad412 60 q416
  generalize adU ad412 60 q416 = ad419 at gb0 gq416 ⊢
  generalize adU cA413 60 c418 = cA420
  have h421 := gb0
  clear gb0
  have h422 := gq416
  clear gq416
  refine N.putC 0 h421 60 h422 (show isO (YR_60 ++ [(1, 20400, .int, [])]) 0 9 129 from ⟨rfl, rfl, rfl⟩) rfl iX11 107 (by decide) k1457 tyX11 tyX11_ok nmX11 rfl rfl rfl rfl dX11_init_537 ?_
  refine N.eqY (Y1 := YR_61) rfl ?_
  refine N.aload_n dX11_init_540 rfl 0 rfl ?_
  refine N.sipush (w := 20400) dX11_init_541 (by decide) ?_
  refine N.newa (atype := .int) (ty := .int) k277 rfl 1 rfl (a0 := (20400, .inl (fun _ => 0))) (z := 20400) rfl (fun _ => rfl) (by decide) rfl (Nat.le_of_ble_eq_true rfl) (n := 61) rfl (by decide +kernel) (ce' := 61) (sl' := 362094) rfl rfl (Nat.le_of_ble_eq_true rfl) (Nat.le_of_ble_eq_true rfl) (Nat.le_of_ble_eq_true rfl) dX11_init_544 (fun q423 c425 X424 => ?_)
  have gb0 := (adU_ne ad419 61 q423 (show (0 : Nat) ≠ 61 by decide)).trans h421
  have gq423 := adU_at ad419 61 q423
  generalize adU ad419 61 q423 = ad426 at gb0 gq423 ⊢
  generalize adU cA420 61 c425 = cA427
  have h428 := gb0
  clear gb0
  have h429 := gq423
  clear gq423
  refine N.putC 0 h428 61 h429 (show isO (YR_61 ++ [(1, 20400, .int, [])]) 0 9 129 from ⟨rfl, rfl, rfl⟩) rfl iX11 108 (by decide) k1458 tyX11 tyX11_ok nmX11 rfl rfl rfl rfl dX11_init_546 ?_
  refine N.eqY (Y1 := YR_62) rfl ?_
  refine N.aload_n dX11_init_549 rfl 0 rfl ?_
  refine N.sipush (w := 5000) dX11_init_550 (by decide) ?_
  refine N.newa (atype := .int) (ty := .int) k277 rfl 1 rfl (a0 := (5000, .inl (fun _ => 0))) (z := 5000) rfl (fun _ => rfl) (by decide) rfl (Nat.le_of_ble_eq_true rfl) (n := 62) rfl (by decide +kernel) (ce' := 62) (sl' := 367094) rfl rfl (Nat.le_of_ble_eq_true rfl) (Nat.le_of_ble_eq_true rfl) (Nat.le_of_ble_eq_true rfl) dX11_init_553 (fun q430 c432 X431 => ?_)
  have gb0 := (adU_ne ad426 62 q430 (show (0 : Nat) ≠ 62 by decide)).trans h428
  have gq430 := adU_at ad426 62 q430
  generalize adU ad426 62 q430 = ad433 at gb0 gq430 ⊢
  generalize adU cA427 62 c432 = cA434
  have h435 := gb0
  clear gb0
  have h436 := gq430
  clear gq430
  refine N.putC 0 h435 62 h436 (show isO (YR_62 ++ [(1, 5000, .int, [])]) 0 9 129 from ⟨rfl, rfl, rfl⟩) rfl iX11 109 (by decide) k1460 tyX11 tyX11_ok nmX11 rfl rfl rfl rfl dX11_init_555 ?_
  refine N.eqY (Y1 := YR_63) rfl ?_
  refine N.aload_n dX11_init_558 rfl 0 rfl ?_
  refine N.sipush (w := 5000) dX11_init_559 (by decide) ?_
  refine N.newa (atype := .int) (ty := .int) k277 rfl 1 rfl (a0 := (5000, .inl (fun _ => 0))) (z := 5000) rfl (fun _ => rfl) (by decide) rfl (Nat.le_of_ble_eq_true rfl) (n := 63) rfl (by decide +kernel) (ce' := 63) (sl' := 372094) rfl rfl (Nat.le_of_ble_eq_true rfl) (Nat.le_of_ble_eq_true rfl) (Nat.le_of_ble_eq_true rfl) dX11_init_562 (fun q437 c439 X438 => ?_)
  have gb0 := (adU_ne ad433 63 q437 (show (0 : Nat) ≠ 63 by decide)).trans h435
  have gq437 := adU_at ad433 63 q437
  generalize adU ad433 63 q437 = ad440 at gb0 gq437 ⊢
  generalize adU cA434 63 c439 = cA441
  have h442 := gb0
  clear gb0
  have h443 := gq437
  clear gq437
  refine N.putC 0 h442 63 h443 (show isO (YR_63 ++ [(1, 5000, .int, [])]) 0 9 129 from ⟨rfl, rfl, rfl⟩) rfl iX11 110 (by decide) k1461 tyX11 tyX11_ok nmX11 rfl rfl rfl rfl dX11_init_564 ?_
  refine N.eqY (Y1 := YR_64) rfl ?_
  refine N.aload_n dX11_init_567 rfl 0 rfl ?_
  refine N.sipush (w := 1000) dX11_init_568 (by decide) ?_
  refine N.newa (atype := .boolean) (ty := .boolean) k278 rfl 1 rfl (a0 := (1000, .inl (fun _ => 0))) (z := 1000) rfl (fun _ => rfl) (by decide) rfl (Nat.le_of_ble_eq_true rfl) (n := 64) rfl (by decide +kernel) (ce' := 64) (sl' := 373094) rfl rfl (Nat.le_of_ble_eq_true rfl) (Nat.le_of_ble_eq_true rfl) (Nat.le_of_ble_eq_true rfl) dX11_init_571 (fun q444 c446 X445 => ?_)
  have gb0 := (adU_ne ad440 64 q444 (show (0 : Nat) ≠ 64 by decide)).trans h442
  have gq444 := adU_at ad440 64 q444
  generalize adU ad440 64 q444 = ad447 at gb0 gq444 ⊢
  generalize adU cA441 64 c446 = cA448
  have h449 := gb0
  clear gb0
  have h450 := gq444
  clear gq444
  refine N.putC 0 h449 64 h450 (show isO (YR_64 ++ [(1, 1000, .boolean, [])]) 0 9 129 from ⟨rfl, rfl, rfl⟩) rfl iX11 111 (by decide) k1463 tyX11 tyX11_ok nmX11 rfl rfl rfl rfl dX11_init_573 ?_
  refine N.eqY (Y1 := YR_65) rfl ?_
  refine N.aload_n dX11_init_576 rfl 0 rfl ?_
  refine N.sipush (w := 1000) dX11_init_577 (by decide) ?_
  refine N.newa (atype := .int) (ty := .int) k277 rfl 1 rfl (a0 := (1000, .inl (fun _ => 0))) (z := 1000) rfl (fun _ => rfl) (by decide) rfl (Nat.le_of_ble_eq_true rfl) (n := 65) rfl (by decide +kernel) (ce' := 65) (sl' := 374094) rfl rfl (Nat.le_of_ble_eq_true rfl) (Nat.le_of_ble_eq_true rfl) (Nat.le_of_ble_eq_true rfl) dX11_init_580 (fun q451 c453 X452 => ?_)
  have gb0 := (adU_ne ad447 65 q451 (show (0 : Nat) ≠ 65 by decide)).trans h449
  have gq451 := adU_at ad447 65 q451
  generalize adU ad447 65 q451 = ad454 at gb0 gq451 ⊢
  generalize adU cA448 65 c453 = cA455
  have h456 := gb0
  clear gb0
  have h457 := gq451
  clear gq451
  refine N.putC 0 h456 65 h457 (show isO (YR_65 ++ [(1, 1000, .int, [])]) 0 9 129 from ⟨rfl, rfl, rfl⟩) rfl iX11 112 (by decide) k1464 tyX11 tyX11_ok nmX11 rfl rfl rfl rfl dX11_init_582 ?_
  refine N.eqY (Y1 := YR_66) rfl ?_
  refine N.aload_n dX11_init_585 rfl 0 rfl ?_
  refine N.sipush (w := 1000) dX11_init_586 (by decide) ?_
  refine N.newa (atype := .int) (ty := .int) k277 rfl 1 rfl (a0 := (1000, .inl (fun _ => 0))) (z := 1000) rfl (fun _ => rfl) (by decide) rfl (Nat.le_of_ble_eq_true rfl) (n := 66) rfl (by decide +kernel) (ce' := 66) (sl' := 375094) rfl rfl (Nat.le_of_ble_eq_true rfl) (Nat.le_of_ble_eq_true rfl) (Nat.le_of_ble_eq_true rfl) dX11_init_589 (fun q458 c460 X459 => ?_)
  have gb0 := (adU_ne ad454 66 q458 (show (0 : Nat) ≠ 66 by decide)).trans h456
  have gq458 := adU_at ad454 66 q458
  generalize adU ad454 66 q458 = ad461 at gb0 gq458 ⊢
  generalize adU cA455 66 c460 = cA462
  have h463 := gb0
  clear gb0
  have h464 := gq458
  clear gq458
  refine N.putC 0 h463 66 h464 (show isO (YR_66 ++ [(1, 1000, .int, [])]) 0 9 129 from ⟨rfl, rfl, rfl⟩) rfl iX11 113 (by decide) k1465 tyX11 tyX11_ok nmX11 rfl rfl rfl rfl dX11_init_591 ?_
  refine N.eqY (Y1 := YR_67) rfl ?_
  refine N.aload_n dX11_init_594 rfl 0 rfl ?_
  refine N.sipush (w := 1000) dX11_init_595 (by decide) ?_
  refine N.newa (atype := .int) (ty := .int) k277 rfl 1 rfl (a0 := (1000, .inl (fun _ => 0))) (z := 1000) rfl (fun _ => rfl) (by decide) rfl (Nat.le_of_ble_eq_true rfl) (n := 67) rfl (by decide +kernel) (ce' := 67) (sl' := 376094) rfl rfl (Nat.le_of_ble_eq_true rfl) (Nat.le_of_ble_eq_true rfl) (Nat.le_of_ble_eq_true rfl) dX11_init_598 (fun q465 c467 X466 => ?_)
  have gb0 := (adU_ne ad461 67 q465 (show (0 : Nat) ≠ 67 by decide)).trans h463
  have gq465 := adU_at ad461 67 q465
  generalize adU ad461 67 q465 = ad468 at gb0 gq465 ⊢
  generalize adU cA462 67 c467 = cA469
  have h470 := gb0
  clear gb0
  have h471 := gq465
  clear gq465
  refine N.putC 0 h470 67 h471 (show isO (YR_67 ++ [(1, 1000, .int, [])]) 0 9 129 from ⟨rfl, rfl, rfl⟩) rfl iX11 114 (by decide) k1466 tyX11 tyX11_ok nmX11 rfl rfl rfl rfl dX11_init_600 ?_
  refine N.eqY (Y1 := YR_68) rfl ?_
  refine N.aload_n dX11_init_603 rfl 0 rfl ?_
  refine N.sipush (w := 1000) dX11_init_604 (by decide) ?_
  refine N.newa (atype := .int) (ty := .int) k277 rfl 1 rfl (a0 := (1000, .inl (fun _ => 0))) (z := 1000) rfl (fun _ => rfl) (by decide) rfl (Nat.le_of_ble_eq_true rfl) (n := 68) rfl (by decide +kernel) (ce' := 68) (sl' := 377094) rfl rfl (Nat.le_of_ble_eq_true rfl) (Nat.le_of_ble_eq_true rfl) (Nat.le_of_ble_eq_true rfl) dX11_init_607 (fun q472 c474 X473 => ?_)
  have gb0 := (adU_ne ad468 68 q472 (show (0 : Nat) ≠ 68 by decide)).trans h470
  have gq472 := adU_at ad468 68 q472
  generalize adU ad468 68 q472 = ad475 at gb0 gq472 ⊢
  generalize adU cA469 68 c474 = cA476
  have h477 := gb0
  clear gb0
  have h478 := gq472
  clear gq472
  refine N.putC 0 h477 68 h478 (show isO (YR_68 ++ [(1, 1000, .int, [])]) 0 9 129 from ⟨rfl, rfl, rfl⟩) rfl iX11 115 (by decide) k1467 tyX11 tyX11_ok nmX11 rfl rfl rfl rfl dX11_init_609 ?_
  refine N.eqY (Y1 := YR_69) rfl ?_
  refine N.aload_n dX11_init_612 rfl 0 rfl ?_
  refine N.sipush (w := 1000) dX11_init_613 (by decide) ?_
  refine N.newa (atype := .int) (ty := .int) k277 rfl 1 rfl (a0 := (1000, .inl (fun _ => 0))) (z := 1000) rfl (fun _ => rfl) (by decide) rfl (Nat.le_of_ble_eq_true rfl) (n := 69) rfl (by decide +kernel) (ce' := 69) (sl' := 378094) rfl rfl (Nat.le_of_ble_eq_true rfl) (Nat.le_of_ble_eq_true rfl) (Nat.le_of_ble_eq_true rfl) dX11_init_616 (fun q479 c481 X480 => ?_)
  have gb0 := (adU_ne ad475 69 q479 (show (0 : Nat) ≠ 69 by decide)).trans h477
  have gq479 := adU_at ad475 69 q479
  generalize adU ad475 69 q479 = ad482 at gb0 gq479 ⊢
  generalize adU cA476 69 c481 = cA483
  have h484 := gb0
  clear gb0
  have h485 := gq479
  clear gq479
  refine N.putC 0 h484 69 h485 (show isO (YR_69 ++ [(1, 1000, .int, [])]) 0 9 129 from ⟨rfl, rfl, rfl⟩) rfl iX11 116 (by decide) k1468 tyX11 tyX11_ok nmX11 rfl rfl rfl rfl dX11_init_618 ?_
  refine N.eqY (Y1 := YR_70) rfl ?_
  refine N.aload_n dX11_init_621 rfl 0 rfl ?_
  refine N.sipush (w := 1000) dX11_init_622 (by decide) ?_
  refine N.newa (atype := .int) (ty := .int) k277 rfl 1 rfl (a0 := (1000, .inl (fun _ => 0))) (z := 1000) rfl (fun _ => rfl) (by decide) rfl (Nat.le_of_ble_eq_true rfl) (n := 70) rfl (by decide +kernel) (ce' := 70) (sl' := 379094) rfl rfl (Nat.le_of_ble_eq_true rfl) (Nat.le_of_ble_eq_true rfl) (Nat.le_of_ble_eq_true rfl) dX11_init_625 (fun q486 c488 X487 => ?_)
  have gb0 := (adU_ne ad482 70 q486 (show (0 : Nat) ≠ 70 by decide)).trans h484
  have gq486 := adU_at ad482 70 q486
  generalize adU ad482 70 q486 = ad489 at gb0 gq486 ⊢
  generalize adU cA483 70 c488 = cA490
  have h491 := gb0
  clear gb0
  have h492 := gq486
  clear gq486
  refine N.putC 0 h491 70 h492 (show isO (YR_70 ++ [(1, 1000, .int, [])]) 0 9 129 from ⟨rfl, rfl, rfl⟩) rfl iX11 117 (by decide) k1469 tyX11 tyX11_ok nmX11 rfl rfl rfl rfl dX11_init_627 ?_
  refine N.eqY (Y1 := YR_71) rfl ?_
  refine N.aload_n dX11_init_630 rfl 0 rfl ?_
  refine N.sipush (w := 1000) dX11_init_631 (by decide) ?_
  refine N.newa (atype := .int) (ty := .int) k277 rfl 1 rfl (a0 := (1000, .inl (fun _ => 0))) (z := 1000) rfl (fun _ => rfl) (by decide) rfl (Nat.le_of_ble_eq_true rfl) (n := 71) rfl (by decide +kernel) (ce' := 71) (sl' := 380094) rfl rfl (Nat.le_of_ble_eq_true rfl) (Nat.le_of_ble_eq_true rfl) (Nat.le_of_ble_eq_true rfl) dX11_init_634 (fun q493 c495 X494 => ?_)
  have gb0 := (adU_ne ad489 71 q493 (show (0 : Nat) ≠ 71 by decide)).trans h491
  have gq493 := adU_at ad489 71 q493
  generalize adU ad489 71 q493 = ad496 at gb0 gq493 ⊢
  generalize adU cA490 71 c495 = cA497
  have h498 := gb0
  clear gb0
  have h499 := gq493
  clear gq493
  refine N.putC 0 h498 71 h499 (show isO (YR_71 ++ [(1, 1000, .int, [])]) 0 9 129 from ⟨rfl, rfl, rfl⟩) rfl iX11 118 (by decide) k1470 tyX11 tyX11_ok nmX11 rfl rfl rfl rfl dX11_init_636 ?_
  refine N.eqY (Y1 := YR_72) rfl ?_
  refine N.aload_n dX11_init_639 rfl 0 rfl ?_
  refine N.sipush (w := 1000) dX11_init_640 (by decide) ?_
  refine N.newa (atype := .int) (ty := .int) k277 rfl 1 rfl (a0 := (1000, .inl (fun _ => 0))) (z := 1000) rfl (fun _ => rfl) (by decide) rfl (Nat.le_of_ble_eq_true rfl) (n := 72) rfl (by decide +kernel) (ce' := 72) (sl' := 381094) rfl rfl (Nat.le_of_ble_eq_true rfl) (Nat.le_of_ble_eq_true rfl) (Nat.le_of_ble_eq_true rfl) dX11_init_643 (fun q500 c502 X501 => ?_)
  have gb0 := (adU_ne ad496 72 q500 (show (0 : Nat) ≠ 72 by decide)).trans h498
  have gq500 := adU_at ad496 72 q500
  generalize adU ad496 72 q500 = ad503 at gb0 gq500 ⊢
  generalize adU cA497 72 c502 = cA504
  have h505 := gb0
  clear gb0
  have h506 := gq500
  clear gq500
  refine N.putC 0 h505 72 h506 (show isO (YR_72 ++ [(1, 1000, .int, [])]) 0 9 129 from ⟨rfl, rfl, rfl⟩) rfl iX11 119 (by decide) k1471 tyX11 tyX11_ok nmX11 rfl rfl rfl rfl dX11_init_645 ?_
  refine N.eqY (Y1 := YR_73) rfl ?_
  refine N.aload_n dX11_init_648 rfl 0 rfl ?_
  refine N.sipush (w := 1000) dX11_init_649 (by decide) ?_
  refine N.newa (atype := .int) (ty := .int) k277 rfl 1 rfl (a0 := (1000, .inl (fun _ => 0))) (z := 1000) rfl (fun _ => rfl) (by decide) rfl (Nat.le_of_ble_eq_true rfl) (n := 73) rfl (by decide +kernel) (ce' := 73) (sl' := 382094) rfl rfl (Nat.le_of_ble_eq_true rfl) (Nat.le_of_ble_eq_true rfl) (Nat.le_of_ble_eq_true rfl) dX11_init_652 (fun q507 c509 X508 => ?_)
  have gb0 := (adU_ne ad503 73 q507 (show (0 : Nat) ≠ 73 by decide)).trans h505
  have gq507 := adU_at ad503 73 q507
  generalize adU ad503 73 q507 = ad510 at gb0 gq507 ⊢
  generalize adU cA504 73 c509 = cA511
  have h512 := gb0
  clear gb0
  have h513 := gq507
  clear gq507
  refine N.putC 0 h512 73 h513 (show isO (YR_73 ++ [(1, 1000, .int, [])]) 0 9 129 from ⟨rfl, rfl, rfl⟩) rfl iX11 120 (by decide) k1472 tyX11 tyX11_ok nmX11 rfl rfl rfl rfl dX11_init_654 ?_
  refine N.eqY (Y1 := YR_74) rfl ?_
  refine N.aload_n dX11_init_657 rfl 0 rfl ?_
  refine N.sipush (w := 4000) dX11_init_658 (by decide) ?_
  refine N.newa (atype := .int) (ty := .int) k277 rfl 1 rfl (a0 := (4000, .inl (fun _ => 0))) (z := 4000) rfl (fun _ => rfl) (by decide) rfl (Nat.le_of_ble_eq_true rfl) (n := 74) rfl (by decide +kernel) (ce' := 74) (sl' := 386094) rfl rfl (Nat.le_of_ble_eq_true rfl) (Nat.le_of_ble_eq_true rfl) (Nat.le_of_ble_eq_true rfl) dX11_init_661 (fun q514 c516 X515 => ?_)
  have gb0 := (adU_ne ad510 74 q514 (show (0 : Nat) ≠ 74 by decide)).trans h512
  have gq514 := adU_at ad510 74 q514
  generalize adU ad510 74 q514 = ad517 at gb0 gq514 ⊢
  generalize adU cA511 74 c516 = cA518
  have h519 := gb0
  clear gb0
  have h520 := gq514
  clear gq514
  refine N.putC 0 h519 74 h520 (show isO (YR_74 ++ [(1, 4000, .int, [])]) 0 9 129 from ⟨rfl, rfl, rfl⟩) rfl iX11 121 (by decide) k1474 tyX11 tyX11_ok nmX11 rfl rfl rfl rfl dX11_init_663 ?_
  refine N.eqY (Y1 := YR_75) rfl ?_
  refine N.aload_n dX11_init_666 rfl 0 rfl ?_
  refine N.sipush (w := 4000) dX11_init_667 (by decide) ?_
  refine N.newa (atype := .int) (ty := .int) k277 rfl 1 rfl (a0 := (4000, .inl (fun _ => 0))) (z := 4000) rfl (fun _ => rfl) (by decide) rfl (Nat.le_of_ble_eq_true rfl) (n := 75) rfl (by decide +kernel) (ce' := 75) (sl' := 390094) rfl rfl (Nat.le_of_ble_eq_true rfl) (Nat.le_of_ble_eq_true rfl) (Nat.le_of_ble_eq_true rfl) dX11_init_670 (fun q521 c523 X522 => ?_)
  have gb0 := (adU_ne ad517 75 q521 (show (0 : Nat) ≠ 75 by decide)).trans h519
  have gq521 := adU_at ad517 75 q521
  generalize adU ad517 75 q521 = ad524 at gb0 gq521 ⊢
  generalize adU cA518 75 c523 = cA525
  have h526 := gb0
  clear gb0
  have h527 := gq521
  clear gq521
  refine N.putC 0 h526 75 h527 (show isO (YR_75 ++ [(1, 4000, .int, [])]) 0 9 129 from ⟨rfl, rfl, rfl⟩) rfl iX11 122 (by decide) k1475 tyX11 tyX11_ok nmX11 rfl rfl rfl rfl dX11_init_672 ?_
  refine N.eqY (Y1 := YR_76) rfl ?_
  refine N.aload_n dX11_init_675 rfl 0 rfl ?_
  refine N.sipush (w := 2300) dX11_init_676 (by decide) ?_
  refine N.newa (atype := .int) (ty := .int) k277 rfl 1 rfl (a0 := (2300, .inl (fun _ => 0))) (z := 2300) rfl (fun _ => rfl) (by decide) rfl (Nat.le_of_ble_eq_true rfl) (n := 76) rfl (by decide +kernel) (ce' := 76) (sl' := 392394) rfl rfl (Nat.le_of_ble_eq_true rfl) (Nat.le_of_ble_eq_true rfl) (Nat.le_of_ble_eq_true rfl) dX11_init_679 (fun q528 c530 X529 => ?_)
  have gb0 := (adU_ne ad524 76 q528 (show (0 : Nat) ≠ 76 by decide)).trans h526
  have gq528 := adU_at ad524 76 q528
  generalize adU ad524 76 q528 = ad531 at gb0 gq528 ⊢
  generalize adU cA525 76 c530 = cA532
  have h533 := gb0
  clear gb0
  have h534 := gq528
  clear gq528
  refine N.putC 0 h533 76 h534 (show isO (YR_76 ++ [(1, 2300, .int, [])]) 0 9 129 from ⟨rfl, rfl, rfl⟩) rfl iX11 123 (by decide) k1480 tyX11 tyX11_ok nmX11 rfl rfl rfl rfl dX11_init_681 ?_
  refine N.eqY (Y1 := YR_77) rfl ?_
  refine N.aload_n dX11_init_684 rfl 0 rfl ?_
  refine N.sipush (w := 2300) dX11_init_685 (by decide) ?_
  refine N.newa (atype := .int) (ty := .int) k277 rfl 1 rfl (a0 := (2300, .inl (fun _ => 0))) (z := 2300) rfl (fun _ => rfl) (by decide) rfl (Nat.le_of_ble_eq_true rfl) (n := 77) rfl (by decide +kernel) (ce' := 77) (sl' := 394694) rfl rfl (Nat.le_of_ble_eq_true rfl) (Nat.le_of_ble_eq_true rfl) (Nat.le_of_ble_eq_true rfl) dX11_init_688 (fun q535 c537 X536 => ?_)
  have gb0 := (adU_ne ad531 77 q535 (show (0 : Nat) ≠ 77 by decide)).trans h533
  have gq535 := adU_at ad531 77 q535
  generalize adU ad531 77 q535 = ad538 at gb0 gq535 ⊢
  generalize adU cA532 77 c537 = cA539
  have h540 := gb0
  clear gb0
  have h541 := gq535
  clear gq535
  refine N.putC 0 h540 77 h541 (show isO (YR_77 ++ [(1, 2300, .int, [])]) 0 9 129 from ⟨rfl, rfl, rfl⟩) rfl iX11 124 (by decide) k1481 tyX11 tyX11_ok nmX11 rfl rfl rfl rfl dX11_init_690 ?_
  refine N.eqY (Y1 := YR_78) rfl ?_
  refine N.aload_n dX11_init_693 rfl 0 rfl ?_
  refine N.sipush (w := 2300) dX11_init_694 (by decide) ?_
  refine N.newa (atype := .int) (ty := .int) k277 rfl 1 rfl (a0 := (2300, .inl (fun _ => 0))) (z := 2300) rfl (fun _ => rfl) (by decide) rfl (Nat.le_of_ble_eq_true rfl) (n := 78) rfl (by decide +kernel) (ce' := 78) (sl' := 396994) rfl rfl (Nat.le_of_ble_eq_true rfl) (Nat.le_of_ble_eq_true rfl) (Nat.le_of_ble_eq_true rfl) dX11_init_697 (fun q542 c544 X543 => ?_)
  have gb0 := (adU_ne ad538 78 q542 (show (0 : Nat) ≠ 78 by decide)).trans h540
  have gq542 := adU_at ad538 78 q542
  generalize adU ad538 78 q542 = ad545 at gb0 gq542 ⊢
  generalize adU cA539 78 c544 = cA546
  have h547 := gb0
  clear gb0
  have h548 := gq542
  clear gq542
  refine N.putC 0 h547 78 h548 (show isO (YR_78 ++ [(1, 2300, .int, [])]) 0 9 129 from ⟨rfl, rfl, rfl⟩) rfl iX11 125 (by decide) k1482 tyX11 tyX11_ok nmX11 rfl rfl rfl rfl dX11_init_699 ?_
  refine N.eqY (Y1 := YR_79) rfl ?_
  refine N.aload_n dX11_init_702 rfl 0 rfl ?_
  refine N.sipush (w := 200) dX11_init_703 (by decide) ?_
  refine N.newa (atype := .int) (ty := .int) k277 rfl 1 rfl (a0 := (200, .inl (fun _ => 0))) (z := 200) rfl (fun _ => rfl) (by decide) rfl (Nat.le_of_ble_eq_true rfl) (n := 79) rfl (by decide +kernel) (ce' := 79) (sl' := 397194) rfl rfl (Nat.le_of_ble_eq_true rfl) (Nat.le_of_ble_eq_true rfl) (Nat.le_of_ble_eq_true rfl) dX11_init_706 (fun q549 c551 X550 => ?_)
  have gb0 := (adU_ne ad545 79 q549 (show (0 : Nat) ≠ 79 by decide)).trans h547
  have gq549 := adU_at ad545 79 q549
  generalize adU ad545 79 q549 = ad552 at gb0 gq549 ⊢
  generalize adU cA546 79 c551 = cA553
  have h554 := gb0
  clear gb0
  have h555 := gq549
  clear gq549
  refine N.putC 0 h554 79 h555 (show isO (YR_79 ++ [(1, 200, .int, [])]) 0 9 129 from ⟨rfl, rfl, rfl⟩) rfl iX11 126 (by decide) k1491 tyX11 tyX11_ok nmX11 rfl rfl rfl rfl dX11_init_708 ?_
  refine N.eqY (Y1 := YR_80) rfl ?_
  refine N.aload_n dX11_init_711 rfl 0 rfl ?_
  refine N.sipush (w := 1681) dX11_init_712 (by decide) ?_
  refine N.newa (atype := .int) (ty := .int) k277 rfl 1 rfl (a0 := (1681, .inl (fun _ => 0))) (z := 1681) rfl (fun _ => rfl) (by decide) rfl (Nat.le_of_ble_eq_true rfl) (n := 80) rfl (by decide +kernel) (ce' := 80) (sl' := 398875) rfl rfl (Nat.le_of_ble_eq_true rfl) (Nat.le_of_ble_eq_true rfl) (Nat.le_of_ble_eq_true rfl) dX11_init_715 (fun q556 c558 X557 => ?_)
  have gb0 := (adU_ne ad552 80 q556 (show (0 : Nat) ≠ 80 by decide)).trans h554
  have gq556 := adU_at ad552 80 q556
  generalize adU ad552 80 q556 = ad559 at gb0 gq556 ⊢
  generalize adU cA553 80 c558 = cA560
  have h561 := gb0
  clear gb0
  have h562 := gq556
  clear gq556
  refine N.putC 0 h561 80 h562 (show isO (YR_80 ++ [(1, 1681, .int, [])]) 0 9 129 from ⟨rfl, rfl, rfl⟩) rfl iX11 127 (by decide) k1492 tyX11 tyX11_ok nmX11 rfl rfl rfl rfl dX11_init_717 ?_
  refine N.eqY (Y1 := YR_81) rfl ?_
  refine N.aload_n dX11_init_720 rfl 0 rfl ?_
  refine N.bipush (w := 21) dX11_init_721 (by decide) ?_
  refine N.newa (atype := .int) (ty := .int) k277 rfl 1 rfl (a0 := (21, .inl (fun _ => 0))) (z := 21) rfl (fun _ => rfl) (by decide) rfl (Nat.le_of_ble_eq_true rfl) (n := 81) rfl (by decide +kernel) (ce' := 81) (sl' := 398896) rfl rfl (Nat.le_of_ble_eq_true rfl) (Nat.le_of_ble_eq_true rfl) (Nat.le_of_ble_eq_true rfl) dX11_init_723 (fun q563 c565 X564 => ?_)
  have gb0 := (adU_ne ad559 81 q563 (show (0 : Nat) ≠ 81 by decide)).trans h561
  have gq563 := adU_at ad559 81 q563
  generalize adU ad559 81 q563 = ad566 at gb0 gq563 ⊢
  generalize adU cA560 81 c565 = cA567
  have h568 := gb0
  clear gb0
  have h569 := gq563
  clear gq563
  refine N.putC 0 h568 81 h569 (show isO (YR_81 ++ [(1, 21, .int, [])]) 0 9 129 from ⟨rfl, rfl, rfl⟩) rfl iX11 128 (by decide) k1493 tyX11 tyX11_ok nmX11 rfl rfl rfl rfl dX11_init_725 ?_
  refine N.eqY (Y1 := YR) rfl ?_
  refine N.aload_n dX11_init_728 rfl 0 rfl ?_
  refine N.iconst (w := 0) dX11_init_729 (by decide) ?_
  subst h568
  refine N.callT 0 rfl (As1 := [.int 0]) (rest := []) (c_kinds (Λ.1, Λ.2.1, Λ.2.2, ad566, cA567) (0 : Int32) X564) ka_X11_kinds kv_X11_kinds ⟨rfl, rfl, rfl⟩ rfl k1357 rfl rfl rfl rfl ⟨(Nat.le_of_ble_eq_true rfl), (Nat.le_of_ble_eq_true rfl)⟩ (Nat.le_of_ble_eq_true rfl) ⟨(Nat.le_of_ble_eq_true rfl), (Nat.le_of_ble_eq_true rfl)⟩ dX11_init_730 (fun _ X571 => ?_)
  exact N.ret rfl (Nat.le_of_ble_eq_true rfl) (Nat.le_of_ble_eq_true rfl) dX11_init_733
