theorem dL_law_0 : decode code 0 = .ok (.new 7, 3) := by decide +kernel
theorem dL_law_3 : decode code 3 = .ok (.dup, 1) := by decide +kernel
theorem dL_law_4 : decode code 4 = .ok (.invokespecial 9, 3) := by decide +kernel
theorem dL_law_7 : decode code 7 = .ok (.astore_n 1, 1) := by decide +kernel
theorem dL_law_8 : decode code 8 = .ok (.new 10, 3) := by decide +kernel
theorem dL_law_11 : decode code 11 = .ok (.dup, 1) := by decide +kernel
theorem dL_law_12 : decode code 12 = .ok (.invokespecial 12, 3) := by decide +kernel
theorem dL_law_15 : decode code 15 = .ok (.astore_n 2, 1) := by decide +kernel
theorem dL_law_16 : decode code 16 = .ok (.iconst 0, 1) := by decide +kernel
theorem dL_law_17 : decode code 17 = .ok (.istore_n 3, 1) := by decide +kernel
theorem dL_law_18 : decode code 18 = .ok (.iload_n 3, 1) := by decide +kernel
theorem dL_law_19 : decode code 19 = .ok (.aload_n 0, 1) := by decide +kernel
theorem dL_law_20 : decode code 20 = .ok (.arraylength, 1) := by decide +kernel
theorem dL_law_21 : decode code 21 = .ok (.bipush 6, 2) := by decide +kernel
theorem dL_law_23 : decode code 23 = .ok (.isub, 1) := by decide +kernel
theorem dL_law_24 : decode code 24 = .ok (.if_icmp .gt 484, 3) := by decide +kernel
theorem dL_law_27 : decode code 27 = .ok (.aload_n 0, 1) := by decide +kernel
theorem dL_law_28 : decode code 28 = .ok (.iload_n 3, 1) := by decide +kernel
theorem dL_law_29 : decode code 29 = .ok (.iaload, 1) := by decide +kernel
theorem dL_law_30 : decode code 30 = .ok (.bipush 15, 2) := by decide +kernel
theorem dL_law_32 : decode code 32 = .ok (.iand, 1) := by decide +kernel
theorem dL_law_33 : decode code 33 = .ok (.tableswitch 469 0 13 #[71, 134, 157, 170, 193, 242, 255, 288, 321, 344, 367, 390, 413, 446], 71) := by decide +kernel
theorem dL_law_104 : decode code 104 = .ok (.aload_n 1, 1) := by decide +kernel
theorem dL_law_105 : decode code 105 = .ok (.aload_n 0, 1) := by decide +kernel
theorem dL_law_106 : decode code 106 = .ok (.iload_n 3, 1) := by decide +kernel
theorem dL_law_107 : decode code 107 = .ok (.iconst 1, 1) := by decide +kernel
theorem dL_law_108 : decode code 108 = .ok (.iadd, 1) := by decide +kernel
theorem dL_law_109 : decode code 109 = .ok (.iaload, 1) := by decide +kernel
theorem dL_law_110 : decode code 110 = .ok (.aload_n 0, 1) := by decide +kernel
theorem dL_law_111 : decode code 111 = .ok (.iload_n 3, 1) := by decide +kernel
theorem dL_law_112 : decode code 112 = .ok (.iconst 2, 1) := by decide +kernel
theorem dL_law_113 : decode code 113 = .ok (.iadd, 1) := by decide +kernel
theorem dL_law_114 : decode code 114 = .ok (.iaload, 1) := by decide +kernel
theorem dL_law_115 : decode code 115 = .ok (.aload_n 0, 1) := by decide +kernel
theorem dL_law_116 : decode code 116 = .ok (.iload_n 3, 1) := by decide +kernel
theorem dL_law_117 : decode code 117 = .ok (.iconst 3, 1) := by decide +kernel
theorem dL_law_118 : decode code 118 = .ok (.iadd, 1) := by decide +kernel
theorem dL_law_119 : decode code 119 = .ok (.iaload, 1) := by decide +kernel
theorem dL_law_120 : decode code 120 = .ok (.aload_n 0, 1) := by decide +kernel
theorem dL_law_121 : decode code 121 = .ok (.iload_n 3, 1) := by decide +kernel
theorem dL_law_122 : decode code 122 = .ok (.iconst 4, 1) := by decide +kernel
theorem dL_law_123 : decode code 123 = .ok (.iadd, 1) := by decide +kernel
theorem dL_law_124 : decode code 124 = .ok (.iaload, 1) := by decide +kernel
theorem dL_law_125 : decode code 125 = .ok (.aload_n 0, 1) := by decide +kernel
theorem dL_law_126 : decode code 126 = .ok (.iload_n 3, 1) := by decide +kernel
theorem dL_law_127 : decode code 127 = .ok (.iconst 5, 1) := by decide +kernel
theorem dL_law_128 : decode code 128 = .ok (.iadd, 1) := by decide +kernel
theorem dL_law_129 : decode code 129 = .ok (.iaload, 1) := by decide +kernel
theorem dL_law_130 : decode code 130 = .ok (.invokevirtual 13, 3) := by decide +kernel
theorem dL_law_133 : decode code 133 = .ok (.aload_n 2, 1) := by decide +kernel
theorem dL_law_134 : decode code 134 = .ok (.aload_n 0, 1) := by decide +kernel
theorem dL_law_135 : decode code 135 = .ok (.iload_n 3, 1) := by decide +kernel
theorem dL_law_136 : decode code 136 = .ok (.iconst 1, 1) := by decide +kernel
theorem dL_law_137 : decode code 137 = .ok (.iadd, 1) := by decide +kernel
theorem dL_law_138 : decode code 138 = .ok (.iaload, 1) := by decide +kernel
theorem dL_law_139 : decode code 139 = .ok (.aload_n 0, 1) := by decide +kernel
theorem dL_law_140 : decode code 140 = .ok (.iload_n 3, 1) := by decide +kernel
theorem dL_law_141 : decode code 141 = .ok (.iconst 2, 1) := by decide +kernel
theorem dL_law_142 : decode code 142 = .ok (.iadd, 1) := by decide +kernel
theorem dL_law_143 : decode code 143 = .ok (.iaload, 1) := by decide +kernel
theorem dL_law_144 : decode code 144 = .ok (.aload_n 0, 1) := by decide +kernel
theorem dL_law_145 : decode code 145 = .ok (.iload_n 3, 1) := by decide +kernel
theorem dL_law_146 : decode code 146 = .ok (.iconst 3, 1) := by decide +kernel
theorem dL_law_147 : decode code 147 = .ok (.iadd, 1) := by decide +kernel
theorem dL_law_148 : decode code 148 = .ok (.iaload, 1) := by decide +kernel
theorem dL_law_149 : decode code 149 = .ok (.aload_n 0, 1) := by decide +kernel
theorem dL_law_150 : decode code 150 = .ok (.iload_n 3, 1) := by decide +kernel
theorem dL_law_151 : decode code 151 = .ok (.iconst 4, 1) := by decide +kernel
theorem dL_law_152 : decode code 152 = .ok (.iadd, 1) := by decide +kernel
theorem dL_law_153 : decode code 153 = .ok (.iaload, 1) := by decide +kernel
theorem dL_law_154 : decode code 154 = .ok (.aload_n 0, 1) := by decide +kernel
theorem dL_law_155 : decode code 155 = .ok (.iload_n 3, 1) := by decide +kernel
theorem dL_law_156 : decode code 156 = .ok (.iconst 5, 1) := by decide +kernel
theorem dL_law_157 : decode code 157 = .ok (.iadd, 1) := by decide +kernel
theorem dL_law_158 : decode code 158 = .ok (.iaload, 1) := by decide +kernel
theorem dL_law_159 : decode code 159 = .ok (.invokevirtual 17, 3) := by decide +kernel
theorem dL_law_162 : decode code 162 = .ok (.if_icmp .eq 340, 3) := by decide +kernel
theorem dL_law_167 : decode code 167 = .ok (.aload_n 1, 1) := by decide +kernel
theorem dL_law_168 : decode code 168 = .ok (.aload_n 0, 1) := by decide +kernel
theorem dL_law_169 : decode code 169 = .ok (.iload_n 3, 1) := by decide +kernel
theorem dL_law_170 : decode code 170 = .ok (.iconst 1, 1) := by decide +kernel
theorem dL_law_171 : decode code 171 = .ok (.iadd, 1) := by decide +kernel
theorem dL_law_172 : decode code 172 = .ok (.iaload, 1) := by decide +kernel
theorem dL_law_173 : decode code 173 = .ok (.invokevirtual 18, 3) := by decide +kernel
theorem dL_law_176 : decode code 176 = .ok (.aload_n 2, 1) := by decide +kernel
theorem dL_law_177 : decode code 177 = .ok (.aload_n 0, 1) := by decide +kernel
theorem dL_law_178 : decode code 178 = .ok (.iload_n 3, 1) := by decide +kernel
theorem dL_law_179 : decode code 179 = .ok (.iconst 1, 1) := by decide +kernel
theorem dL_law_180 : decode code 180 = .ok (.iadd, 1) := by decide +kernel
theorem dL_law_181 : decode code 181 = .ok (.iaload, 1) := by decide +kernel
theorem dL_law_182 : decode code 182 = .ok (.invokevirtual 22, 3) := by decide +kernel
theorem dL_law_185 : decode code 185 = .ok (.if_icmp .eq 317, 3) := by decide +kernel
theorem dL_law_190 : decode code 190 = .ok (.aload_n 1, 1) := by decide +kernel
theorem dL_law_191 : decode code 191 = .ok (.invokevirtual 23, 3) := by decide +kernel
theorem dL_law_194 : decode code 194 = .ok (.aload_n 2, 1) := by decide +kernel
theorem dL_law_195 : decode code 195 = .ok (.invokevirtual 27, 3) := by decide +kernel
theorem dL_law_198 : decode code 198 = .ok (.if_icmp .eq 304, 3) := by decide +kernel
theorem dL_law_203 : decode code 203 = .ok (.aload_n 1, 1) := by decide +kernel
theorem dL_law_204 : decode code 204 = .ok (.aload_n 0, 1) := by decide +kernel
theorem dL_law_205 : decode code 205 = .ok (.iload_n 3, 1) := by decide +kernel
theorem dL_law_206 : decode code 206 = .ok (.iconst 1, 1) := by decide +kernel
theorem dL_law_207 : decode code 207 = .ok (.iadd, 1) := by decide +kernel
theorem dL_law_208 : decode code 208 = .ok (.iaload, 1) := by decide +kernel
theorem dL_law_209 : decode code 209 = .ok (.invokevirtual 28, 3) := by decide +kernel
theorem dL_law_212 : decode code 212 = .ok (.aload_n 2, 1) := by decide +kernel
theorem dL_law_213 : decode code 213 = .ok (.aload_n 0, 1) := by decide +kernel
theorem dL_law_214 : decode code 214 = .ok (.iload_n 3, 1) := by decide +kernel
theorem dL_law_215 : decode code 215 = .ok (.iconst 1, 1) := by decide +kernel
theorem dL_law_216 : decode code 216 = .ok (.iadd, 1) := by decide +kernel
theorem dL_law_217 : decode code 217 = .ok (.iaload, 1) := by decide +kernel
theorem dL_law_218 : decode code 218 = .ok (.invokevirtual 31, 3) := by decide +kernel
theorem dL_law_221 : decode code 221 = .ok (.if_icmp .eq 281, 3) := by decide +kernel
theorem dL_law_226 : decode code 226 = .ok (.aload_n 1, 1) := by decide +kernel
theorem dL_law_227 : decode code 227 = .ok (.aload_n 0, 1) := by decide +kernel
theorem dL_law_228 : decode code 228 = .ok (.iload_n 3, 1) := by decide +kernel
theorem dL_law_229 : decode code 229 = .ok (.iconst 1, 1) := by decide +kernel
theorem dL_law_230 : decode code 230 = .ok (.iadd, 1) := by decide +kernel
theorem dL_law_231 : decode code 231 = .ok (.iaload, 1) := by decide +kernel
theorem dL_law_232 : decode code 232 = .ok (.aload_n 0, 1) := by decide +kernel
theorem dL_law_233 : decode code 233 = .ok (.iload_n 3, 1) := by decide +kernel
theorem dL_law_234 : decode code 234 = .ok (.iconst 2, 1) := by decide +kernel
theorem dL_law_235 : decode code 235 = .ok (.iadd, 1) := by decide +kernel
theorem dL_law_236 : decode code 236 = .ok (.iaload, 1) := by decide +kernel
theorem dL_law_237 : decode code 237 = .ok (.ifCond .eq 7, 3) := by decide +kernel
theorem dL_law_240 : decode code 240 = .ok (.iconst 1, 1) := by decide +kernel
theorem dL_law_241 : decode code 241 = .ok (.goto 4, 3) := by decide +kernel
theorem dL_law_244 : decode code 244 = .ok (.iconst 0, 1) := by decide +kernel
theorem dL_law_245 : decode code 245 = .ok (.invokevirtual 32, 3) := by decide +kernel
theorem dL_law_248 : decode code 248 = .ok (.aload_n 2, 1) := by decide +kernel
theorem dL_law_249 : decode code 249 = .ok (.aload_n 0, 1) := by decide +kernel
theorem dL_law_250 : decode code 250 = .ok (.iload_n 3, 1) := by decide +kernel
theorem dL_law_251 : decode code 251 = .ok (.iconst 1, 1) := by decide +kernel
theorem dL_law_252 : decode code 252 = .ok (.iadd, 1) := by decide +kernel
theorem dL_law_253 : decode code 253 = .ok (.iaload, 1) := by decide +kernel
theorem dL_law_254 : decode code 254 = .ok (.aload_n 0, 1) := by decide +kernel
theorem dL_law_255 : decode code 255 = .ok (.iload_n 3, 1) := by decide +kernel
theorem dL_law_256 : decode code 256 = .ok (.iconst 2, 1) := by decide +kernel
theorem dL_law_257 : decode code 257 = .ok (.iadd, 1) := by decide +kernel
theorem dL_law_258 : decode code 258 = .ok (.iaload, 1) := by decide +kernel
theorem dL_law_259 : decode code 259 = .ok (.ifCond .eq 7, 3) := by decide +kernel
theorem dL_law_262 : decode code 262 = .ok (.iconst 1, 1) := by decide +kernel
theorem dL_law_263 : decode code 263 = .ok (.goto 4, 3) := by decide +kernel
theorem dL_law_266 : decode code 266 = .ok (.iconst 0, 1) := by decide +kernel
theorem dL_law_267 : decode code 267 = .ok (.invokevirtual 36, 3) := by decide +kernel
theorem dL_law_270 : decode code 270 = .ok (.if_icmp .eq 232, 3) := by decide +kernel
theorem dL_law_275 : decode code 275 = .ok (.aload_n 1, 1) := by decide +kernel
theorem dL_law_276 : decode code 276 = .ok (.invokevirtual 37, 3) := by decide +kernel
theorem dL_law_279 : decode code 279 = .ok (.aload_n 2, 1) := by decide +kernel
theorem dL_law_280 : decode code 280 = .ok (.invokevirtual 40, 3) := by decide +kernel
theorem dL_law_283 : decode code 283 = .ok (.if_icmp .eq 219, 3) := by decide +kernel
theorem dL_law_288 : decode code 288 = .ok (.aload_n 1, 1) := by decide +kernel
theorem dL_law_289 : decode code 289 = .ok (.aload_n 0, 1) := by decide +kernel
theorem dL_law_290 : decode code 290 = .ok (.iload_n 3, 1) := by decide +kernel
theorem dL_law_291 : decode code 291 = .ok (.iconst 1, 1) := by decide +kernel
theorem dL_law_292 : decode code 292 = .ok (.iadd, 1) := by decide +kernel
theorem dL_law_293 : decode code 293 = .ok (.iaload, 1) := by decide +kernel
theorem dL_law_294 : decode code 294 = .ok (.aload_n 0, 1) := by decide +kernel
theorem dL_law_295 : decode code 295 = .ok (.iload_n 3, 1) := by decide +kernel
theorem dL_law_296 : decode code 296 = .ok (.iconst 2, 1) := by decide +kernel
theorem dL_law_297 : decode code 297 = .ok (.iadd, 1) := by decide +kernel
theorem dL_law_298 : decode code 298 = .ok (.iaload, 1) := by decide +kernel
theorem dL_law_299 : decode code 299 = .ok (.invokevirtual 41, 3) := by decide +kernel
theorem dL_law_302 : decode code 302 = .ok (.aload_n 2, 1) := by decide +kernel
theorem dL_law_303 : decode code 303 = .ok (.aload_n 0, 1) := by decide +kernel
theorem dL_law_304 : decode code 304 = .ok (.iload_n 3, 1) := by decide +kernel
theorem dL_law_305 : decode code 305 = .ok (.iconst 1, 1) := by decide +kernel
theorem dL_law_306 : decode code 306 = .ok (.iadd, 1) := by decide +kernel
theorem dL_law_307 : decode code 307 = .ok (.iaload, 1) := by decide +kernel
theorem dL_law_308 : decode code 308 = .ok (.aload_n 0, 1) := by decide +kernel
theorem dL_law_309 : decode code 309 = .ok (.iload_n 3, 1) := by decide +kernel
theorem dL_law_310 : decode code 310 = .ok (.iconst 2, 1) := by decide +kernel
theorem dL_law_311 : decode code 311 = .ok (.iadd, 1) := by decide +kernel
theorem dL_law_312 : decode code 312 = .ok (.iaload, 1) := by decide +kernel
theorem dL_law_313 : decode code 313 = .ok (.invokevirtual 45, 3) := by decide +kernel
theorem dL_law_316 : decode code 316 = .ok (.if_icmp .eq 186, 3) := by decide +kernel
theorem dL_law_321 : decode code 321 = .ok (.aload_n 1, 1) := by decide +kernel
theorem dL_law_322 : decode code 322 = .ok (.aload_n 0, 1) := by decide +kernel
theorem dL_law_323 : decode code 323 = .ok (.iload_n 3, 1) := by decide +kernel
theorem dL_law_324 : decode code 324 = .ok (.iconst 1, 1) := by decide +kernel
theorem dL_law_325 : decode code 325 = .ok (.iadd, 1) := by decide +kernel
theorem dL_law_326 : decode code 326 = .ok (.iaload, 1) := by decide +kernel
theorem dL_law_327 : decode code 327 = .ok (.aload_n 0, 1) := by decide +kernel
theorem dL_law_328 : decode code 328 = .ok (.iload_n 3, 1) := by decide +kernel
theorem dL_law_329 : decode code 329 = .ok (.iconst 2, 1) := by decide +kernel
theorem dL_law_330 : decode code 330 = .ok (.iadd, 1) := by decide +kernel
theorem dL_law_331 : decode code 331 = .ok (.iaload, 1) := by decide +kernel
theorem dL_law_332 : decode code 332 = .ok (.invokevirtual 46, 3) := by decide +kernel
theorem dL_law_335 : decode code 335 = .ok (.aload_n 2, 1) := by decide +kernel
theorem dL_law_336 : decode code 336 = .ok (.aload_n 0, 1) := by decide +kernel
theorem dL_law_337 : decode code 337 = .ok (.iload_n 3, 1) := by decide +kernel
theorem dL_law_338 : decode code 338 = .ok (.iconst 1, 1) := by decide +kernel
theorem dL_law_339 : decode code 339 = .ok (.iadd, 1) := by decide +kernel
theorem dL_law_340 : decode code 340 = .ok (.iaload, 1) := by decide +kernel
theorem dL_law_341 : decode code 341 = .ok (.aload_n 0, 1) := by decide +kernel
theorem dL_law_342 : decode code 342 = .ok (.iload_n 3, 1) := by decide +kernel
theorem dL_law_343 : decode code 343 = .ok (.iconst 2, 1) := by decide +kernel
theorem dL_law_344 : decode code 344 = .ok (.iadd, 1) := by decide +kernel
theorem dL_law_345 : decode code 345 = .ok (.iaload, 1) := by decide +kernel
theorem dL_law_346 : decode code 346 = .ok (.invokevirtual 49, 3) := by decide +kernel
theorem dL_law_349 : decode code 349 = .ok (.if_icmp .eq 153, 3) := by decide +kernel
theorem dL_law_354 : decode code 354 = .ok (.aload_n 1, 1) := by decide +kernel
theorem dL_law_355 : decode code 355 = .ok (.aload_n 0, 1) := by decide +kernel
theorem dL_law_356 : decode code 356 = .ok (.iload_n 3, 1) := by decide +kernel
theorem dL_law_357 : decode code 357 = .ok (.iconst 1, 1) := by decide +kernel
theorem dL_law_358 : decode code 358 = .ok (.iadd, 1) := by decide +kernel
theorem dL_law_359 : decode code 359 = .ok (.iaload, 1) := by decide +kernel
theorem dL_law_360 : decode code 360 = .ok (.invokevirtual 50, 3) := by decide +kernel
theorem dL_law_363 : decode code 363 = .ok (.aload_n 2, 1) := by decide +kernel
theorem dL_law_364 : decode code 364 = .ok (.aload_n 0, 1) := by decide +kernel
theorem dL_law_365 : decode code 365 = .ok (.iload_n 3, 1) := by decide +kernel
theorem dL_law_366 : decode code 366 = .ok (.iconst 1, 1) := by decide +kernel
theorem dL_law_367 : decode code 367 = .ok (.iadd, 1) := by decide +kernel
theorem dL_law_368 : decode code 368 = .ok (.iaload, 1) := by decide +kernel
theorem dL_law_369 : decode code 369 = .ok (.invokevirtual 53, 3) := by decide +kernel
theorem dL_law_372 : decode code 372 = .ok (.if_icmp .eq 130, 3) := by decide +kernel
theorem dL_law_377 : decode code 377 = .ok (.aload_n 1, 1) := by decide +kernel
theorem dL_law_378 : decode code 378 = .ok (.aload_n 0, 1) := by decide +kernel
theorem dL_law_379 : decode code 379 = .ok (.iload_n 3, 1) := by decide +kernel
theorem dL_law_380 : decode code 380 = .ok (.iconst 1, 1) := by decide +kernel
theorem dL_law_381 : decode code 381 = .ok (.iadd, 1) := by decide +kernel
theorem dL_law_382 : decode code 382 = .ok (.iaload, 1) := by decide +kernel
theorem dL_law_383 : decode code 383 = .ok (.invokevirtual 54, 3) := by decide +kernel
theorem dL_law_386 : decode code 386 = .ok (.aload_n 2, 1) := by decide +kernel
theorem dL_law_387 : decode code 387 = .ok (.aload_n 0, 1) := by decide +kernel
theorem dL_law_388 : decode code 388 = .ok (.iload_n 3, 1) := by decide +kernel
theorem dL_law_389 : decode code 389 = .ok (.iconst 1, 1) := by decide +kernel
theorem dL_law_390 : decode code 390 = .ok (.iadd, 1) := by decide +kernel
theorem dL_law_391 : decode code 391 = .ok (.iaload, 1) := by decide +kernel
theorem dL_law_392 : decode code 392 = .ok (.invokevirtual 57, 3) := by decide +kernel
theorem dL_law_395 : decode code 395 = .ok (.if_icmp .eq 107, 3) := by decide +kernel
theorem dL_law_400 : decode code 400 = .ok (.aload_n 1, 1) := by decide +kernel
theorem dL_law_401 : decode code 401 = .ok (.aload_n 0, 1) := by decide +kernel
theorem dL_law_402 : decode code 402 = .ok (.iload_n 3, 1) := by decide +kernel
theorem dL_law_403 : decode code 403 = .ok (.iconst 1, 1) := by decide +kernel
theorem dL_law_404 : decode code 404 = .ok (.iadd, 1) := by decide +kernel
theorem dL_law_405 : decode code 405 = .ok (.iaload, 1) := by decide +kernel
theorem dL_law_406 : decode code 406 = .ok (.invokevirtual 58, 3) := by decide +kernel
theorem dL_law_409 : decode code 409 = .ok (.aload_n 2, 1) := by decide +kernel
theorem dL_law_410 : decode code 410 = .ok (.aload_n 0, 1) := by decide +kernel
theorem dL_law_411 : decode code 411 = .ok (.iload_n 3, 1) := by decide +kernel
theorem dL_law_412 : decode code 412 = .ok (.iconst 1, 1) := by decide +kernel
theorem dL_law_413 : decode code 413 = .ok (.iadd, 1) := by decide +kernel
theorem dL_law_414 : decode code 414 = .ok (.iaload, 1) := by decide +kernel
theorem dL_law_415 : decode code 415 = .ok (.invokevirtual 61, 3) := by decide +kernel
theorem dL_law_418 : decode code 418 = .ok (.if_icmp .eq 84, 3) := by decide +kernel
theorem dL_law_423 : decode code 423 = .ok (.aload_n 1, 1) := by decide +kernel
theorem dL_law_424 : decode code 424 = .ok (.aload_n 0, 1) := by decide +kernel
theorem dL_law_425 : decode code 425 = .ok (.iload_n 3, 1) := by decide +kernel
theorem dL_law_426 : decode code 426 = .ok (.iconst 1, 1) := by decide +kernel
theorem dL_law_427 : decode code 427 = .ok (.iadd, 1) := by decide +kernel
theorem dL_law_428 : decode code 428 = .ok (.iaload, 1) := by decide +kernel
theorem dL_law_429 : decode code 429 = .ok (.invokevirtual 62, 3) := by decide +kernel
theorem dL_law_432 : decode code 432 = .ok (.aload_n 2, 1) := by decide +kernel
theorem dL_law_433 : decode code 433 = .ok (.aload_n 0, 1) := by decide +kernel
theorem dL_law_434 : decode code 434 = .ok (.iload_n 3, 1) := by decide +kernel
theorem dL_law_435 : decode code 435 = .ok (.iconst 1, 1) := by decide +kernel
theorem dL_law_436 : decode code 436 = .ok (.iadd, 1) := by decide +kernel
theorem dL_law_437 : decode code 437 = .ok (.iaload, 1) := by decide +kernel
theorem dL_law_438 : decode code 438 = .ok (.invokevirtual 65, 3) := by decide +kernel
theorem dL_law_441 : decode code 441 = .ok (.if_icmp .eq 61, 3) := by decide +kernel
theorem dL_law_446 : decode code 446 = .ok (.aload_n 1, 1) := by decide +kernel
theorem dL_law_447 : decode code 447 = .ok (.aload_n 0, 1) := by decide +kernel
theorem dL_law_448 : decode code 448 = .ok (.iload_n 3, 1) := by decide +kernel
theorem dL_law_449 : decode code 449 = .ok (.iconst 1, 1) := by decide +kernel
theorem dL_law_450 : decode code 450 = .ok (.iadd, 1) := by decide +kernel
theorem dL_law_451 : decode code 451 = .ok (.iaload, 1) := by decide +kernel
theorem dL_law_452 : decode code 452 = .ok (.aload_n 0, 1) := by decide +kernel
theorem dL_law_453 : decode code 453 = .ok (.iload_n 3, 1) := by decide +kernel
theorem dL_law_454 : decode code 454 = .ok (.iconst 2, 1) := by decide +kernel
theorem dL_law_455 : decode code 455 = .ok (.iadd, 1) := by decide +kernel
theorem dL_law_456 : decode code 456 = .ok (.iaload, 1) := by decide +kernel
theorem dL_law_457 : decode code 457 = .ok (.invokevirtual 66, 3) := by decide +kernel
theorem dL_law_460 : decode code 460 = .ok (.aload_n 2, 1) := by decide +kernel
theorem dL_law_461 : decode code 461 = .ok (.aload_n 0, 1) := by decide +kernel
theorem dL_law_462 : decode code 462 = .ok (.iload_n 3, 1) := by decide +kernel
theorem dL_law_463 : decode code 463 = .ok (.iconst 1, 1) := by decide +kernel
theorem dL_law_464 : decode code 464 = .ok (.iadd, 1) := by decide +kernel
theorem dL_law_465 : decode code 465 = .ok (.iaload, 1) := by decide +kernel
theorem dL_law_466 : decode code 466 = .ok (.aload_n 0, 1) := by decide +kernel
theorem dL_law_467 : decode code 467 = .ok (.iload_n 3, 1) := by decide +kernel
theorem dL_law_468 : decode code 468 = .ok (.iconst 2, 1) := by decide +kernel
theorem dL_law_469 : decode code 469 = .ok (.iadd, 1) := by decide +kernel
theorem dL_law_470 : decode code 470 = .ok (.iaload, 1) := by decide +kernel
theorem dL_law_471 : decode code 471 = .ok (.invokevirtual 69, 3) := by decide +kernel
theorem dL_law_474 : decode code 474 = .ok (.if_icmp .eq 28, 3) := by decide +kernel
theorem dL_law_479 : decode code 479 = .ok (.aload_n 1, 1) := by decide +kernel
theorem dL_law_480 : decode code 480 = .ok (.aload_n 0, 1) := by decide +kernel
theorem dL_law_481 : decode code 481 = .ok (.iload_n 3, 1) := by decide +kernel
theorem dL_law_482 : decode code 482 = .ok (.iconst 1, 1) := by decide +kernel
theorem dL_law_483 : decode code 483 = .ok (.iadd, 1) := by decide +kernel
theorem dL_law_484 : decode code 484 = .ok (.iaload, 1) := by decide +kernel
theorem dL_law_485 : decode code 485 = .ok (.invokevirtual 70, 3) := by decide +kernel
theorem dL_law_488 : decode code 488 = .ok (.aload_n 2, 1) := by decide +kernel
theorem dL_law_489 : decode code 489 = .ok (.aload_n 0, 1) := by decide +kernel
theorem dL_law_490 : decode code 490 = .ok (.iload_n 3, 1) := by decide +kernel
theorem dL_law_491 : decode code 491 = .ok (.iconst 1, 1) := by decide +kernel
theorem dL_law_492 : decode code 492 = .ok (.iadd, 1) := by decide +kernel
theorem dL_law_493 : decode code 493 = .ok (.iaload, 1) := by decide +kernel
theorem dL_law_494 : decode code 494 = .ok (.invokevirtual 73, 3) := by decide +kernel
theorem dL_law_497 : decode code 497 = .ok (.if_icmp .eq 5, 3) := by decide +kernel
theorem dL_law_502 : decode code 502 = .ok (.iinc 3 6, 3) := by decide +kernel
theorem dL_law_505 : decode code 505 = .ok (.goto (-487), 3) := by decide +kernel
theorem dL_law_508 : decode code 508 = .ok (.iconst 1, 1) := by decide +kernel
theorem dL_law_509 : decode code 509 = .ok (.ireturn, 1) := by decide +kernel
theorem k200 : Cond.classLink "BlameCourtLaw" 7 "BlameCourt" ∈ gtb := gtm (in_tables_1_1 (List.mem_of_getElem? (i := 14) rfl)) rfl
theorem k201 : Cond.instantiable "BlameCourt" 13 ∈ gtb := gtm (in_tables_1_1 (List.mem_of_getElem? (i := 15) rfl)) rfl
theorem k202 : Cond.methodLink "BlameCourtLaw" 9 yX10_init ∈ gtb := gtm (in_tables_1_1 (List.mem_of_getElem? (i := 16) rfl)) rfl
theorem k203 : Cond.instanceMethod yX10_init ∈ gtb := gtm (in_tables_1_1 (List.mem_of_getElem? (i := 17) rfl)) rfl
theorem k719 : Cond.methodLink "BlameCourtLaw" 13 yX10_feed ∈ gtb := gtm (in_tables_1_3 (List.mem_of_getElem? (i := 53) rfl)) rfl
theorem k727 : Cond.methodLink "BlameCourtLaw" 18 yX10_end ∈ gtb := gtm (in_tables_1_3 (List.mem_of_getElem? (i := 61) rfl)) rfl
theorem k731 : Cond.methodLink "BlameCourtLaw" 23 yX10_read ∈ gtb := gtm (in_tables_1_3 (List.mem_of_getElem? (i := 65) rfl)) rfl
theorem k980 : Cond.methodLink "BlameCourtLaw" 28 yX10_fault ∈ gtb := gtm (in_tables_1_4 (List.mem_of_getElem? (i := 74) rfl)) rfl
theorem k984 : Cond.methodLink "BlameCourtLaw" 32 yX10_tell ∈ gtb := gtm (in_tables_1_4 (List.mem_of_getElem? (i := 78) rfl)) rfl
theorem k992 : Cond.methodLink "BlameCourtLaw" 37 yX10_judge ∈ gtb := gtm (in_tables_1_4 (List.mem_of_getElem? (i := 86) rfl)) rfl
theorem k1112 : Cond.methodLink "BlameCourtLaw" 41 yX10_guard ∈ gtb := gtm (in_tables_1_4 (List.mem_of_getElem? (i := 206) rfl)) rfl
theorem k1117 : Cond.methodLink "BlameCourtLaw" 46 yX10_part ∈ gtb := gtm (in_tables_1_4 (List.mem_of_getElem? (i := 211) rfl)) rfl
theorem k1125 : Cond.methodLink "BlameCourtLaw" 50 yX10_run ∈ gtb := gtm (in_tables_1_4 (List.mem_of_getElem? (i := 219) rfl)) rfl
theorem k1319 : Cond.methodLink "BlameCourtLaw" 54 yX10_runUntold ∈ gtb := gtm (in_tables_1_5 (List.mem_of_getElem? (i := 173) rfl)) rfl
theorem k1323 : Cond.methodLink "BlameCourtLaw" 58 yX10_told ∈ gtb := gtm (in_tables_1_5 (List.mem_of_getElem? (i := 177) rfl)) rfl
theorem k1339 : Cond.methodLink "BlameCourtLaw" 62 yX10_out ∈ gtb := gtm (in_tables_1_5 (List.mem_of_getElem? (i := 193) rfl)) rfl
theorem k1343 : Cond.methodLink "BlameCourtLaw" 66 yX10_asked ∈ gtb := gtm (in_tables_1_5 (List.mem_of_getElem? (i := 197) rfl)) rfl
theorem k1347 : Cond.methodLink "BlameCourtLaw" 70 yX10_about ∈ gtb := gtm (in_tables_1_5 (List.mem_of_getElem? (i := 201) rfl)) rfl
theorem k1351 : Cond.classLink "BlameCourtLaw" 10 "BlameCourtModel" ∈ gtb := gtm (in_tables_1_5 (List.mem_of_getElem? (i := 205) rfl)) rfl
theorem k1352 : Cond.instantiable "BlameCourtModel" 129 ∈ gtb := gtm (in_tables_1_5 (List.mem_of_getElem? (i := 206) rfl)) rfl
theorem k1353 : Cond.methodLink "BlameCourtLaw" 12 yX11_init ∈ gtb := gtm (in_tables_1_5 (List.mem_of_getElem? (i := 207) rfl)) rfl
theorem k1354 : Cond.instanceMethod yX11_init ∈ gtb := gtm (in_tables_1_5 (List.mem_of_getElem? (i := 208) rfl)) rfl
theorem k1753 : Cond.methodLink "BlameCourtLaw" 17 yX11_feed ∈ gtb := gtm (in_tables_1_7 (List.mem_of_getElem? (i := 127) rfl)) rfl
theorem k1761 : Cond.methodLink "BlameCourtLaw" 22 yX11_end ∈ gtb := gtm (in_tables_1_7 (List.mem_of_getElem? (i := 135) rfl)) rfl
theorem k1768 : Cond.methodLink "BlameCourtLaw" 27 yX11_read ∈ gtb := gtm (in_tables_1_7 (List.mem_of_getElem? (i := 142) rfl)) rfl
theorem k2072 : Cond.methodLink "BlameCourtLaw" 31 yX11_fault ∈ gtb := gtm (in_tables_1_8 (List.mem_of_getElem? (i := 206) rfl)) rfl
theorem k2076 : Cond.methodLink "BlameCourtLaw" 36 yX11_tell ∈ gtb := gtm (in_tables_1_8 (List.mem_of_getElem? (i := 210) rfl)) rfl
theorem k2080 : Cond.methodLink "BlameCourtLaw" 40 yX11_judge ∈ gtb := gtm (in_tables_1_8 (List.mem_of_getElem? (i := 214) rfl)) rfl
theorem k2084 : Cond.methodLink "BlameCourtLaw" 45 yX11_guard ∈ gtb := gtm (in_tables_1_8 (List.mem_of_getElem? (i := 218) rfl)) rfl
theorem k2088 : Cond.methodLink "BlameCourtLaw" 49 yX11_part_ ∈ gtb := gtm (in_tables_1_8 (List.mem_of_getElem? (i := 222) rfl)) rfl
theorem k2092 : Cond.methodLink "BlameCourtLaw" 53 yX11_run ∈ gtb := gtm (in_tables_1_8 (List.mem_of_getElem? (i := 226) rfl)) rfl
theorem k2180 : Cond.methodLink "BlameCourtLaw" 57 yX11_runUntold ∈ gtb := gtm (in_tables_1_9 (List.mem_of_getElem? (i := 74) rfl)) rfl
theorem k2184 : Cond.methodLink "BlameCourtLaw" 61 yX11_told ∈ gtb := gtm (in_tables_1_9 (List.mem_of_getElem? (i := 78) rfl)) rfl
theorem k2188 : Cond.methodLink "BlameCourtLaw" 65 yX11_out ∈ gtb := gtm (in_tables_1_9 (List.mem_of_getElem? (i := 82) rfl)) rfl
theorem k2192 : Cond.methodLink "BlameCourtLaw" 69 yX11_asked ∈ gtb := gtm (in_tables_1_9 (List.mem_of_getElem? (i := 86) rfl)) rfl
theorem k2196 : Cond.methodLink "BlameCourtLaw" 73 yX11_about ∈ gtb := gtm (in_tables_1_9 (List.mem_of_getElem? (i := 90) rfl)) rfl
theorem law_cut {L : Nat} (hL : L ≤ 6) (h : ¬ Int32.ofNat L - 6 < 0) : L = 6 := by
  have q : L = 0 ∨ L = 1 ∨ L = 2 ∨ L = 3 ∨ L = 4 ∨ L = 5 ∨ L = 6 := by omega
  rcases q with rfl | rfl | rfl | rfl | rfl | rfl | rfl
  · exact absurd (by decide) h
  · exact absurd (by decide) h
  · exact absurd (by decide) h
  · exact absurd (by decide) h
  · exact absurd (by decide) h
  · exact absurd (by decide) h
  · rfl

theorem classes_known {s : State} {args : Array Value} (hts : ∀ w ∈ gtb, w.before args s = true) : ∃ (dC : Nat → ClassId) (dI : Nat → Nat → Nat), ∀ (k : Nat) (q : vw_C), classes[k]? = some q → u_Kn s q.1 q.2.1 q.2.2 (dC k) (dI k) := by
  obtain ⟨c0, iS0, hKn0⟩ := u_known (C := RX0) (T := TX0) (N := 6) (n := 6) hts iX0 (hts _ k462)
  obtain ⟨c1, iS1, hKn1⟩ := u_known (C := RX1) (T := TX1) (N := 13) (n := 13) hts iX1 (hts _ k561)
  obtain ⟨c2, iS2, hKn2⟩ := u_known (C := RX2) (T := TX2) (N := 15) (n := 15) hts iX2 (hts _ k500)
  obtain ⟨c3, iS3, hKn3⟩ := u_known (C := RX3) (T := TX3) (N := 8) (n := 8) hts iX3 (hts _ k215)
  obtain ⟨c4, iS4, hKn4⟩ := u_known (C := RX5) (T := TX5) (N := 17) (n := 17) hts iX5 (hts _ k209)
  obtain ⟨c5, iS5, hKn5⟩ := u_known (C := RX6) (T := TX6) (N := 14) (n := 14) hts iX6 (hts _ k375)
  obtain ⟨c6, iS6, hKn6⟩ := u_known (C := RX7) (T := TX7) (N := 20) (n := 20) hts iX7 (hts _ k555)
  obtain ⟨c7, iS7, hKn7⟩ := u_known (C := RX9) (T := TX9) (N := 8) (n := 8) hts iX9 (hts _ k381)
  obtain ⟨c8, iS8, hKn8⟩ := u_known (C := RX10) (T := TX10) (N := 13) (n := 13) hts iX10 (hts _ k201)
  obtain ⟨c9, iS9, hKn9⟩ := u_known (C := RX11) (T := TX11) (N := 129) (n := 129) hts iX11 (hts _ k1352)
  refine ⟨fun k => if k = 0 then c0 else if k = 1 then c1 else if k = 2 then c2 else if k = 3 then c3 else if k = 4 then c4 else if k = 5 then c5 else if k = 6 then c6 else if k = 7 then c7 else if k = 8 then c8 else c9, fun k => if k = 0 then iS0 else if k = 1 then iS1 else if k = 2 then iS2 else if k = 3 then iS3 else if k = 4 then iS4 else if k = 5 then iS5 else if k = 6 then iS6 else if k = 7 then iS7 else if k = 8 then iS8 else iS9, ?_⟩
  intro k q hq
  match k, hq with
  | 0, hq => cases hq; exact hKn0
  | 1, hq => cases hq; exact hKn1
  | 2, hq => cases hq; exact hKn2
  | 3, hq => cases hq; exact hKn3
  | 4, hq => cases hq; exact hKn4
  | 5, hq => cases hq; exact hKn5
  | 6, hq => cases hq; exact hKn6
  | 7, hq => cases hq; exact hKn7
  | 8, hq => cases hq; exact hKn8
  | 9, hq => cases hq; exact hKn9
  | k + 10, hq => simp [classes] at hq

/-! THE CLAIM OUT OF ONE WALK OF THE LAW'S BODY. Your part is whole_start (and what it stands on); all else here is the same for every law, but numbers. -/
def R_law : String := "BlameCourtLaw"
def lw_P (b : Addr) (xs : List Int32) (args : Array Value) (s : State) : Prop := args = #[.ref b] ∧ s.IntsAt b xs ∧ xs.length ≤ 6 ∧ (Jvm.Cond.and given_1 narrow_1).before args s = true
def lw_Q (_ : Array Value) (s : State) (o : Outcome) (t : State) : Prop := o = .returned (some (.int 1)) ∧ Framed s o t [] 600000 7302250
def lw_Z (below : List Frame) (a : Array Value) (s : State) : State → Prop := fun t => ∃ o, t.status = .running ∧ Ended t below o ∧ lw_Q a s o t
/-- the law's own end, with 1 on the stack, nothing written that was there before, its room as the claim has it -/
theorem lw_ret {p : Program} {l : Launch} {e : Env} {s : State} {m : MethodId} {below : List Frame} {meth : Method} {c : Code} {b : Nat} (hx : p.tables.exec = Jvm.exec) (hb : c.code = code) (hr : meth.sig.returnType = ret) (hlocks : meth.locks = false) {pc : Nat} {H : Heap} {ls : Array Slot} (hdg : decode code pc = .ok (.ireturn, 1)) : W p l e room_1 s m #[Value.ref b] below meth c H [] 600000 7302250 (lw_Z below #[Value.ref b] s) (F0 m pc ls [.int 1]) := by
  intro T hT X
  obtain ⟨fs, hret, hrun, hended, hW, hframe⟩ := X.leave (v := some (.int 1)) (hlocks := hlocks) (fun h => by rw [hr] at h; cases h)
  have hmeth' : T.vm.method? m = some meth := X.method'
  refine ⟨T.setFrames fs, ?_, .returned (some (.int 1)), hrun, hended, rfl, ⟨_, rfl⟩, hW, hframe⟩
  jvm_step X.here [X.here.top, hx, hb, hdg, hmeth', hr, ret, narrow_b1]
  (try refine ⟨rfl, ?_⟩); (try refine ⟨rfl, ?_⟩)
  first | (intro acts; rw [hret _ acts rfl rfl rfl]) | rw [hret _ _ rfl rfl rfl]
  exact Steps.refl _
/-- what holds at the law's entry: the machine, the code, the tables' words (any of lw_tbl by 'hts w (by decide +kernel)'), the script of L ints xs at the cell b, what the Statement gives of the start (any of its parts by flat_of_before) -/
def lw_At (p : Program) (s : State) (m : MethodId) (meth : Method) (c : Code) (b L : Nat) (xs : Nat → Int32) : Prop :=
  p.tables.exec = Jvm.exec ∧ c.code = code ∧ meth.sig.returnType = ret ∧ c.maxLocals = 4 ∧ s.vm.findClass R_law = some m.cls ∧ (∀ w ∈ lw_tbl, w.before #[Value.ref b] s = true) ∧ va_X b L xs s s.heap ∧ b < s.heap.size ∧ meth.locks = false ∧ (Jvm.Cond.and given_1 narrow_1).before #[Value.ref b] s = true

set_option maxHeartbeats 8000000 in
set_option maxRecDepth 100000 in
/-- the law's body, its world told -/
theorem law_body {p : Program} {e : Env} {s : State} {m : MethodId} {below : List Frame} {meth : Method} {c : Code} (l : Launch) {b L : Nat} {xs : Nat → Int32} {dC : Nat → ClassId} {dI : Nat → Nat → Nat} (hL : L ≤ 6) (hf : Fx p c code 4 s #[Value.ref b] m R_law) (hr : meth.sig.returnType = ret) (hlocks : meth.locks = false) (hX : va_X b L xs s s.heap) (hbl : b < s.heap.size) (H : Heap) (hw : Wd dC dI (fun q : Nat => s.heap.size ≤ q) [] [] s H []) (ls : Array Slot) (hl : lv_has ls 4 [(0, .ref b)]) : W p l e room_1 s m #[Value.ref b] below meth c H [] 0 0 (lw_Z below #[Value.ref b] s) (F0 m 0 ls []) := by
  have hbA : ¬ (fun q : Nat => s.heap.size ≤ q) b := Nat.not_le.mpr hbl
  refine mnew (ci := 8) (fs := .null :: .int 0 :: .null :: .int 0 :: .int 0 :: .int 0 :: .null :: .int 0 :: .int 0 :: dtX10) hf hw iX10 tyX10 tyX10_ok k200 k201 k187 rfl (hfs_of dfX10_ok) (ce := 1) (sl := 13) rfl rfl (Nat.le_of_ble_eq_true rfl) (Nat.le_of_ble_eq_true rfl) dL_law_0 (fun q_1 H hw => ?_)
  refine lv_dup hf.1 hf.2.1 dL_law_3 rfl ?_
  refine mI_v (As := []) (rest := [.ref q_1]) (wr := []) (tr := []) hf hw (c_BlameCourt_init l dC dI q_1 dtX10 H.size hdtX10) ka_X10_init k203 rfl k202 [0] [] [] [] rfl rfl rfl rfl rfl (by decide) rfl rfl rfl hl.1 rfl rfl ⟨Nat.le_of_ble_eq_true rfl, Nat.le_of_ble_eq_true rfl⟩ (Nat.le_of_ble_eq_true rfl) (ce := 88) (sl := 172945) rfl rfl ⟨Nat.le_of_ble_eq_true rfl, Nat.le_of_ble_eq_true rfl⟩ dL_law_4 (fun u_19 hu_19 H locs hw => ?_)
  obtain ⟨tp_2, sp_3, k_4, it_5, en_6, n_7, rd_8, tk_9, ut_10, ct_11, ci_12, ce_13, tkK_14, tlP_15, tlR_16, tl_17⟩ := u_19
  obtain ⟨hn_7, htkK_14, htlP_15, htlR_16, htl_17⟩ := hu_19
  have hw : Wd dC dI (fun q : Nat => s.heap.size ≤ q) [(q_1, .inr (8, .ref tp_2 :: .int 0 :: .ref sp_3 :: .int 0 :: .int 0 :: .int 0 :: .ref rd_8 :: .int (-1) :: .int (-1) :: tl_17)), (tp_2, .inl (ct_11, 3000, .inl (fun _ => 0))), (sp_3, .inr (4, .ref k_4 :: .int 0 :: .int (-1) :: .ref it_5 :: .ref en_6 :: .int 0 :: .int 0 :: tlP_15)), (k_4, .inr (3, .int (nI n_7) :: tkK_14)), (it_5, .inl (ci_12, 40, .inl (fun _ => 0))), (en_6, .inl (ce_13, 41, .inl (fun _ => 0))), (rd_8, .inr (5, .ref tk_9 :: .null :: .int 0 :: .int 0 :: .int (-1) :: .int 0 :: .int 0 :: tlR_16)), (tk_9, .inr (7, [.ref ut_10, .int 0, .int 0, .int 257, .int 0, .long 0, .int 0, .long 0]))] [(ct_11, .byte), (ci_12, .boolean), (ce_13, .int)] s H locs := hw
  refine lv_astore_n (lv' := [(1, .ref q_1), (0, .ref b)]) hf.1 hf.2.1 dL_law_7 rfl hl (by decide) rfl (fun ls hl => ?_)
  refine mnew (ci := 9) (fs := .int 0 :: .int 0 :: .int 0 :: .int 0 :: .int 0 :: .int 0 :: .int 0 :: .long 0 :: .int 0 :: .int 0 :: .int 0 :: .int 0 :: .int 0 :: .int 0 :: .int 0 :: .int 0 :: .int 0 :: .int 0 :: .int 0 :: .int 0 :: .null :: .null :: .null :: .null :: .null :: .null :: dtX11) hf hw iX11 tyX11 tyX11_ok k1351 k1352 k197 rfl (hfs_of dfX11_ok) (ce := 89) (sl := 173074) rfl rfl (Nat.le_of_ble_eq_true rfl) (Nat.le_of_ble_eq_true rfl) dL_law_8 (fun q_20 H hw => ?_)
  refine lv_dup hf.1 hf.2.1 dL_law_11 rfl ?_
  refine mI_v (As := []) (rest := [.ref q_20]) (wr := [(q_1, .inr (8, .ref tp_2 :: .int 0 :: .ref sp_3 :: .int 0 :: .int 0 :: .int 0 :: .ref rd_8 :: .int (-1) :: .int (-1) :: tl_17)), (tp_2, .inl (ct_11, 3000, .inl (fun _ => 0))), (sp_3, .inr (4, .ref k_4 :: .int 0 :: .int (-1) :: .ref it_5 :: .ref en_6 :: .int 0 :: .int 0 :: tlP_15)), (k_4, .inr (3, .int (nI n_7) :: tkK_14)), (it_5, .inl (ci_12, 40, .inl (fun _ => 0))), (en_6, .inl (ce_13, 41, .inl (fun _ => 0))), (rd_8, .inr (5, .ref tk_9 :: .null :: .int 0 :: .int 0 :: .int (-1) :: .int 0 :: .int 0 :: tlR_16)), (tk_9, .inr (7, [.ref ut_10, .int 0, .int 0, .int 257, .int 0, .long 0, .int 0, .long 0]))]) (tr := [(ct_11, .byte), (ci_12, .boolean), (ce_13, .int)]) hf hw (c_Model_init l dC dI q_20 dtX11 H.size hdtX11) ka_X11_init k1354 rfl k1353 [8] [] [0, 1, 2, 3, 4, 5, 6, 7] [0, 1, 2] rfl rfl rfl rfl rfl (by decide) rfl rfl rfl hl.1 rfl rfl ⟨Nat.le_of_ble_eq_true rfl, Nat.le_of_ble_eq_true rfl⟩ (Nat.le_of_ble_eq_true rfl) (ce := 170) (sl := 571970) rfl rfl ⟨Nat.le_of_ble_eq_true rfl, Nat.le_of_ble_eq_true rfl⟩ dL_law_12 (fun u_41 hmtl_39 H locs hw => ?_)
  obtain ⟨mat_21, ma1_22, ma2_23, ma3_24, ma4_25, ma5_26, mcT_27, md1_28, md2_29, md3_30, md4_31, md5_32, mk_33, mp1_34, mp2_35, mp3_36, mp4_37, mp5_38, mtl_39⟩ := u_41
  have hw : Wd dC dI (fun q : Nat => s.heap.size ≤ q) [(q_1, .inr (8, .ref tp_2 :: .int 0 :: .ref sp_3 :: .int 0 :: .int 0 :: .int 0 :: .ref rd_8 :: .int (-1) :: .int (-1) :: tl_17)), (tp_2, .inl (ct_11, 3000, .inl (fun _ => 0))), (sp_3, .inr (4, .ref k_4 :: .int 0 :: .int (-1) :: .ref it_5 :: .ref en_6 :: .int 0 :: .int 0 :: tlP_15)), (k_4, .inr (3, .int (nI n_7) :: tkK_14)), (it_5, .inl (ci_12, 40, .inl (fun _ => 0))), (en_6, .inl (ce_13, 41, .inl (fun _ => 0))), (rd_8, .inr (5, .ref tk_9 :: .null :: .int 0 :: .int 0 :: .int (-1) :: .int 0 :: .int 0 :: tlR_16)), (tk_9, .inr (7, [.ref ut_10, .int 0, .int 0, .int 257, .int 0, .long 0, .int 0, .long 0])), (q_20, .inr (9, .int 0 :: .int 0 :: .int 0 :: .int 0 :: .int 0 :: .int 0 :: .int 0 :: .long 0 :: .int 0 :: .int 0 :: .int (-1) :: .int (-1) :: .int (nI mk_33) :: .int 0 :: .int 0 :: .int 0 :: .int 0 :: .int 0 :: .int 0 :: .int 0 :: .ref mat_21 :: .ref ma1_22 :: .ref ma2_23 :: .ref ma3_24 :: .ref ma4_25 :: .ref ma5_26 :: mtl_39)), (mat_21, .inl (mcT_27, 3000, .inl (fun _ => 0))), (ma1_22, .inl (md1_28, 6000, .inl mp1_34)), (ma2_23, .inl (md2_29, 6000, .inl mp2_35)), (ma3_24, .inl (md3_30, 6000, .inl mp3_36)), (ma4_25, .inl (md4_31, 6000, .inl mp4_37)), (ma5_26, .inl (md5_32, 6000, .inl mp5_38))] [(ct_11, .byte), (ci_12, .boolean), (ce_13, .int), (mcT_27, .byte), (md1_28, .int), (md2_29, .int), (md3_30, .int), (md4_31, .int), (md5_32, .boolean)] s H locs := hw
  refine lv_astore_n (lv' := [(2, .ref q_20), (1, .ref q_1), (0, .ref b)]) hf.1 hf.2.1 dL_law_15 rfl hl (by decide) rfl (fun ls hl => ?_)
  refine lv_iconst (v := 0) hf.1 hf.2.1 dL_law_16 (by decide) ?_
  refine lv_istore_n (lv' := [(3, .int 0), (2, .ref q_20), (1, .ref q_1), (0, .ref b)]) hf.1 hf.2.1 dL_law_17 rfl hl (by decide) rfl (fun ls hl => ?_)
  have J508 : ∀ (H : Heap) (locs : List Loc) (ls : Array Slot), va_S (fun q : Nat => s.heap.size ≤ q) s.heap H locs → W p l e room_1 s m #[Value.ref b] below meth c H locs 170 571970 (lw_Z below #[Value.ref b] s) (F0 m 508 ls []) := by
    intro H locs ls hS
    refine lv_iconst (v := 1) hf.1 hf.2.1 dL_law_508 (by decide) ?_
    refine va_forget hS.2.2 ?_
    refine W.widen (k := 600000) (n := 7302250) (Nat.le_of_ble_eq_true rfl) (Nat.le_of_ble_eq_true rfl) ?_
    exact lw_ret hf.1 hf.2.1 hr hlocks dL_law_509
  refine lv_iload_n hf.1 hf.2.1 dL_law_18 rfl (lv_at hl 0 rfl) ?_
  refine lv_aload_n hf.1 hf.2.1 dL_law_19 rfl (lv_at hl 3 rfl) ?_
  refine va_slen hf.1 hf.2.1 hX hbl hbA hw.2.2.2.1 dL_law_20 ?_
  refine lv_bipush (v := 6) hf.1 hf.2.1 dL_law_21 (by decide) ?_
  refine lv_isub hf.1 hf.2.1 dL_law_23 ?_
  refine lv_topi (fun x_42 ex_42 => ?_)
  refine lv_icmp_gt (tgt := 508) hf.1 hf.2.1 dL_law_24 (by decide) (fun c_43 => ?_) (fun c_43 => ?_)
  · exact J508 _ _ _ hw.2.2.2.1
  · obtain rfl : L = 6 := law_cut hL (by rw [← ex_42]; exact c_43)
    have J502 : ∀ (H : Heap) (locs : List Loc) (ls : Array Slot), va_S (fun q : Nat => s.heap.size ≤ q) s.heap H locs → lv_has ls 4 [(3, .int 0), (0, .ref b)] → W p l e room_1 s m #[Value.ref b] below meth c H locs 170 571970 (lw_Z below #[Value.ref b] s) (F0 m 502 ls []) := by
      intro H locs ls hS hl
      obtain ⟨x_44, ex_44⟩ : ∃ y : Int32, y = 0 + 6 := ⟨_, rfl⟩
      refine lv_iinc (v := x_44) (lv' := [(3, .int x_44), (0, .ref b)]) hf.1 hf.2.1 dL_law_502 hl (k := 0) rfl (by rw [ex_44]; rfl) (by decide) rfl (fun ls hl => ?_)
      obtain rfl : x_44 = 6 := by rw [ex_44]; decide
      refine lv_goto (tgt := 18) hf.1 hf.2.1 dL_law_505 (by decide) ?_
      refine lv_iload_n hf.1 hf.2.1 dL_law_18 rfl (lv_at hl 0 rfl) ?_
      refine lv_aload_n hf.1 hf.2.1 dL_law_19 rfl (lv_at hl 1 rfl) ?_
      refine va_slen hf.1 hf.2.1 hX hbl hbA hS dL_law_20 ?_
      refine lv_bipush (v := 6) hf.1 hf.2.1 dL_law_21 (by decide) ?_
      refine lv_isub hf.1 hf.2.1 dL_law_23 ?_
      refine lv_topi (fun x_45 ex_45 => ?_)
      obtain rfl : x_45 = 0 := by rw [ex_45]; decide
      refine lv_icmp_gt (tgt := 508) hf.1 hf.2.1 dL_law_24 (by decide) (fun c_46 => ?_) (fun c_46 => absurd (by decide) c_46)
      exact J508 _ _ _ hS
    refine lv_aload_n hf.1 hf.2.1 dL_law_27 rfl (lv_at hl 3 rfl) ?_
    refine lv_iload_n hf.1 hf.2.1 dL_law_28 rfl (lv_at hl 0 rfl) ?_
    refine va_sld hf.1 hf.2.1 hX hbl hbA hw.2.2.2.1 (by unfold vp_in; decide) dL_law_29 ?_
    refine lv_topi (fun z_47 ez_47 => ?_)
    refine lv_bipush (v := 15) hf.1 hf.2.1 dL_law_30 (by decide) ?_
    refine lv_iand hf.1 hf.2.1 dL_law_32 ?_
    refine lv_topi (fun x_48 ex_48 => ?_)
    rcases swc 14 (by decide) x_48 with ⟨ks, hks, eks⟩ | hsw
    · have hcs : ks = 0 ∨ ks = 1 ∨ ks = 2 ∨ ks = 3 ∨ ks = 4 ∨ ks = 5 ∨ ks = 6 ∨ ks = 7 ∨ ks = 8 ∨ ks = 9 ∨ ks = 10 ∨ ks = 11 ∨ ks = 12 ∨ ks = 13 := by omega
      rcases hcs with rfl | rfl | rfl | rfl | rfl | rfl | rfl | rfl | rfl | rfl | rfl | rfl | rfl | rfl
      · subst eks
        refine lv_tableIn (tgt := 104) hf.1 hf.2.1 dL_law_33 (by decide) (by decide) rfl (by decide) ?_
        refine lv_aload_n hf.1 hf.2.1 dL_law_104 rfl (lv_at hl 2 rfl) ?_
        refine lv_aload_n hf.1 hf.2.1 dL_law_105 rfl (lv_at hl 3 rfl) ?_
        refine lv_iload_n hf.1 hf.2.1 dL_law_106 rfl (lv_at hl 0 rfl) ?_
        refine lv_iconst (v := 1) hf.1 hf.2.1 dL_law_107 (by decide) ?_
        refine lv_iadd hf.1 hf.2.1 dL_law_108 ?_
        refine lv_topi (fun x_49 ex_49 => ?_)
        obtain rfl : x_49 = 1 := by rw [ex_49]; decide
        refine va_sld hf.1 hf.2.1 hX hbl hbA hw.2.2.2.1 (by unfold vp_in; decide) dL_law_109 ?_
        refine lv_topi (fun z_50 ez_50 => ?_)
        refine lv_aload_n hf.1 hf.2.1 dL_law_110 rfl (lv_at hl 3 rfl) ?_
        refine lv_iload_n hf.1 hf.2.1 dL_law_111 rfl (lv_at hl 0 rfl) ?_
        refine lv_iconst (v := 2) hf.1 hf.2.1 dL_law_112 (by decide) ?_
        refine lv_iadd hf.1 hf.2.1 dL_law_113 ?_
        refine lv_topi (fun x_51 ex_51 => ?_)
        obtain rfl : x_51 = 2 := by rw [ex_51]; decide
        refine va_sld hf.1 hf.2.1 hX hbl hbA hw.2.2.2.1 (by unfold vp_in; decide) dL_law_114 ?_
        refine lv_topi (fun z_52 ez_52 => ?_)
        refine lv_aload_n hf.1 hf.2.1 dL_law_115 rfl (lv_at hl 3 rfl) ?_
        refine lv_iload_n hf.1 hf.2.1 dL_law_116 rfl (lv_at hl 0 rfl) ?_
        refine lv_iconst (v := 3) hf.1 hf.2.1 dL_law_117 (by decide) ?_
        refine lv_iadd hf.1 hf.2.1 dL_law_118 ?_
        refine lv_topi (fun x_53 ex_53 => ?_)
        obtain rfl : x_53 = 3 := by rw [ex_53]; decide
        refine va_sld hf.1 hf.2.1 hX hbl hbA hw.2.2.2.1 (by unfold vp_in; decide) dL_law_119 ?_
        refine lv_topi (fun z_54 ez_54 => ?_)
        refine lv_aload_n hf.1 hf.2.1 dL_law_120 rfl (lv_at hl 3 rfl) ?_
        refine lv_iload_n hf.1 hf.2.1 dL_law_121 rfl (lv_at hl 0 rfl) ?_
        refine lv_iconst (v := 4) hf.1 hf.2.1 dL_law_122 (by decide) ?_
        refine lv_iadd hf.1 hf.2.1 dL_law_123 ?_
        refine lv_topi (fun x_55 ex_55 => ?_)
        obtain rfl : x_55 = 4 := by rw [ex_55]; decide
        refine va_sld hf.1 hf.2.1 hX hbl hbA hw.2.2.2.1 (by unfold vp_in; decide) dL_law_124 ?_
        refine lv_topi (fun z_56 ez_56 => ?_)
        refine lv_aload_n hf.1 hf.2.1 dL_law_125 rfl (lv_at hl 3 rfl) ?_
        refine lv_iload_n hf.1 hf.2.1 dL_law_126 rfl (lv_at hl 0 rfl) ?_
        refine lv_iconst (v := 5) hf.1 hf.2.1 dL_law_127 (by decide) ?_
        refine lv_iadd hf.1 hf.2.1 dL_law_128 ?_
        refine lv_topi (fun x_57 ex_57 => ?_)
        obtain rfl : x_57 = 5 := by rw [ex_57]; decide
        refine va_sld hf.1 hf.2.1 hX hbl hbA hw.2.2.2.1 (by unfold vp_in; decide) dL_law_129 ?_
        refine lv_topi (fun z_58 ez_58 => ?_)
        refine mV_i (As := [.int z_50, .int z_52, .int z_54, .int z_56, .int z_58]) (rest := []) (wr := [(sp_3, .inr (4, .ref k_4 :: .int 0 :: .int (-1) :: .ref it_5 :: .ref en_6 :: .int 0 :: .int 0 :: tlP_15)), (k_4, .inr (3, .int (nI n_7) :: tkK_14)), (it_5, .inl (ci_12, 40, .inl (fun _ => 0))), (en_6, .inl (ce_13, 41, .inl (fun _ => 0))), (rd_8, .inr (5, .ref tk_9 :: .null :: .int 0 :: .int 0 :: .int (-1) :: .int 0 :: .int 0 :: tlR_16)), (tk_9, .inr (7, [.ref ut_10, .int 0, .int 0, .int 257, .int 0, .long 0, .int 0, .long 0])), (q_20, .inr (9, .int 0 :: .int 0 :: .int 0 :: .int 0 :: .int 0 :: .int 0 :: .int 0 :: .long 0 :: .int 0 :: .int 0 :: .int (-1) :: .int (-1) :: .int (nI mk_33) :: .int 0 :: .int 0 :: .int 0 :: .int 0 :: .int 0 :: .int 0 :: .int 0 :: .ref mat_21 :: .ref ma1_22 :: .ref ma2_23 :: .ref ma3_24 :: .ref ma4_25 :: .ref ma5_26 :: mtl_39)), (mat_21, .inl (mcT_27, 3000, .inl (fun _ => 0))), (ma1_22, .inl (md1_28, 6000, .inl mp1_34)), (ma2_23, .inl (md2_29, 6000, .inl mp2_35)), (ma3_24, .inl (md3_30, 6000, .inl mp3_36)), (ma4_25, .inl (md4_31, 6000, .inl mp4_37)), (ma5_26, .inl (md5_32, 6000, .inl mp5_38))]) (tr := [(ci_12, .boolean), (ce_13, .int), (mcT_27, .byte), (md1_28, .int), (md2_29, .int), (md3_30, .int), (md4_31, .int), (md5_32, .boolean)]) hf hw (b_feed l dC dI q_1 tp_2 sp_3 rd_8 tl_17 ct_11 (fun _ => 0) z_50 z_52 z_54 z_56 z_58 H.size htl_17) ka_X10_feed kv_X10_feed 0 rfl rfl k719 [0, 1] [0] [2, 3, 4, 5, 6, 7, 8, 9, 10, 11, 12, 13, 14] [1, 2, 3, 4, 5, 6, 7, 8] rfl rfl rfl rfl rfl (by decide) rfl rfl rfl hl.1 rfl rfl ⟨Nat.le_of_ble_eq_true rfl, Nat.le_of_ble_eq_true rfl⟩ (Nat.le_of_ble_eq_true rfl) (ce := 170) (sl := 571970) rfl rfl ⟨Nat.le_of_ble_eq_true rfl, Nat.le_of_ble_eq_true rfl⟩ dL_law_130 (fun r_59 u_60 hu_60 H locs hw => ?_)
        have hw : Wd dC dI (fun q : Nat => s.heap.size ≤ q) [(sp_3, .inr (4, .ref k_4 :: .int 0 :: .int (-1) :: .ref it_5 :: .ref en_6 :: .int 0 :: .int 0 :: tlP_15)), (k_4, .inr (3, .int (nI n_7) :: tkK_14)), (it_5, .inl (ci_12, 40, .inl (fun _ => 0))), (en_6, .inl (ce_13, 41, .inl (fun _ => 0))), (rd_8, .inr (5, .ref tk_9 :: .null :: .int 0 :: .int 0 :: .int (-1) :: .int 0 :: .int 0 :: tlR_16)), (tk_9, .inr (7, [.ref ut_10, .int 0, .int 0, .int 257, .int 0, .long 0, .int 0, .long 0])), (q_20, .inr (9, .int 0 :: .int 0 :: .int 0 :: .int 0 :: .int 0 :: .int 0 :: .int 0 :: .long 0 :: .int 0 :: .int 0 :: .int (-1) :: .int (-1) :: .int (nI mk_33) :: .int 0 :: .int 0 :: .int 0 :: .int 0 :: .int 0 :: .int 0 :: .int 0 :: .ref mat_21 :: .ref ma1_22 :: .ref ma2_23 :: .ref ma3_24 :: .ref ma4_25 :: .ref ma5_26 :: mtl_39)), (mat_21, .inl (mcT_27, 3000, .inl (fun _ => 0))), (ma1_22, .inl (md1_28, 6000, .inl mp1_34)), (ma2_23, .inl (md2_29, 6000, .inl mp2_35)), (ma3_24, .inl (md3_30, 6000, .inl mp3_36)), (ma4_25, .inl (md4_31, 6000, .inl mp4_37)), (ma5_26, .inl (md5_32, 6000, .inl mp5_38))] [(ci_12, .boolean), (ce_13, .int), (mcT_27, .byte), (md1_28, .int), (md2_29, .int), (md3_30, .int), (md4_31, .int), (md5_32, .boolean)] s H locs := hw
        obtain rfl := hu_60
        refine lv_aload_n hf.1 hf.2.1 dL_law_133 rfl (lv_at hl 1 rfl) ?_
        refine lv_aload_n hf.1 hf.2.1 dL_law_134 rfl (lv_at hl 3 rfl) ?_
        refine lv_iload_n hf.1 hf.2.1 dL_law_135 rfl (lv_at hl 0 rfl) ?_
        refine lv_iconst (v := 1) hf.1 hf.2.1 dL_law_136 (by decide) ?_
        refine lv_iadd hf.1 hf.2.1 dL_law_137 ?_
        refine lv_topi (fun x_61 ex_61 => ?_)
        obtain rfl : x_61 = 1 := by rw [ex_61]; decide
        refine va_sld hf.1 hf.2.1 hX hbl hbA hw.2.2.2.1 (by unfold vp_in; decide) dL_law_138 ?_
        refine lv_topi (fun z_62 ez_62 => ?_)
        obtain rfl : z_50 = z_62 := by rw [ez_50, ez_62]
        refine lv_aload_n hf.1 hf.2.1 dL_law_139 rfl (lv_at hl 3 rfl) ?_
        refine lv_iload_n hf.1 hf.2.1 dL_law_140 rfl (lv_at hl 0 rfl) ?_
        refine lv_iconst (v := 2) hf.1 hf.2.1 dL_law_141 (by decide) ?_
        refine lv_iadd hf.1 hf.2.1 dL_law_142 ?_
        refine lv_topi (fun x_63 ex_63 => ?_)
        obtain rfl : x_63 = 2 := by rw [ex_63]; decide
        refine va_sld hf.1 hf.2.1 hX hbl hbA hw.2.2.2.1 (by unfold vp_in; decide) dL_law_143 ?_
        refine lv_topi (fun z_64 ez_64 => ?_)
        obtain rfl : z_52 = z_64 := by rw [ez_52, ez_64]
        refine lv_aload_n hf.1 hf.2.1 dL_law_144 rfl (lv_at hl 3 rfl) ?_
        refine lv_iload_n hf.1 hf.2.1 dL_law_145 rfl (lv_at hl 0 rfl) ?_
        refine lv_iconst (v := 3) hf.1 hf.2.1 dL_law_146 (by decide) ?_
        refine lv_iadd hf.1 hf.2.1 dL_law_147 ?_
        refine lv_topi (fun x_65 ex_65 => ?_)
        obtain rfl : x_65 = 3 := by rw [ex_65]; decide
        refine va_sld hf.1 hf.2.1 hX hbl hbA hw.2.2.2.1 (by unfold vp_in; decide) dL_law_148 ?_
        refine lv_topi (fun z_66 ez_66 => ?_)
        obtain rfl : z_54 = z_66 := by rw [ez_54, ez_66]
        refine lv_aload_n hf.1 hf.2.1 dL_law_149 rfl (lv_at hl 3 rfl) ?_
        refine lv_iload_n hf.1 hf.2.1 dL_law_150 rfl (lv_at hl 0 rfl) ?_
        refine lv_iconst (v := 4) hf.1 hf.2.1 dL_law_151 (by decide) ?_
        refine lv_iadd hf.1 hf.2.1 dL_law_152 ?_
        refine lv_topi (fun x_67 ex_67 => ?_)
        obtain rfl : x_67 = 4 := by rw [ex_67]; decide
        refine va_sld hf.1 hf.2.1 hX hbl hbA hw.2.2.2.1 (by unfold vp_in; decide) dL_law_153 ?_
        refine lv_topi (fun z_68 ez_68 => ?_)
        obtain rfl : z_56 = z_68 := by rw [ez_56, ez_68]
        refine lv_aload_n hf.1 hf.2.1 dL_law_154 rfl (lv_at hl 3 rfl) ?_
        refine lv_iload_n hf.1 hf.2.1 dL_law_155 rfl (lv_at hl 0 rfl) ?_
        refine lv_iconst (v := 5) hf.1 hf.2.1 dL_law_156 (by decide) ?_
        refine lv_iadd hf.1 hf.2.1 dL_law_157 ?_
        refine lv_topi (fun x_69 ex_69 => ?_)
        obtain rfl : x_69 = 5 := by rw [ex_69]; decide
        refine va_sld hf.1 hf.2.1 hX hbl hbA hw.2.2.2.1 (by unfold vp_in; decide) dL_law_158 ?_
        refine lv_topi (fun z_70 ez_70 => ?_)
        obtain rfl : z_58 = z_70 := by rw [ez_58, ez_70]
        refine mV_i (As := [.int z_50, .int z_52, .int z_54, .int z_56, .int z_58]) (rest := [.int 20]) (wr := [(sp_3, .inr (4, .ref k_4 :: .int 0 :: .int (-1) :: .ref it_5 :: .ref en_6 :: .int 0 :: .int 0 :: tlP_15)), (k_4, .inr (3, .int (nI n_7) :: tkK_14)), (it_5, .inl (ci_12, 40, .inl (fun _ => 0))), (en_6, .inl (ce_13, 41, .inl (fun _ => 0))), (rd_8, .inr (5, .ref tk_9 :: .null :: .int 0 :: .int 0 :: .int (-1) :: .int 0 :: .int 0 :: tlR_16)), (tk_9, .inr (7, [.ref ut_10, .int 0, .int 0, .int 257, .int 0, .long 0, .int 0, .long 0])), (ma1_22, .inl (md1_28, 6000, .inl mp1_34)), (ma2_23, .inl (md2_29, 6000, .inl mp2_35)), (ma3_24, .inl (md3_30, 6000, .inl mp3_36)), (ma4_25, .inl (md4_31, 6000, .inl mp4_37)), (ma5_26, .inl (md5_32, 6000, .inl mp5_38))]) (tr := [(ci_12, .boolean), (ce_13, .int), (md1_28, .int), (md2_29, .int), (md3_30, .int), (md4_31, .int), (md5_32, .boolean)]) hf hw (m_feed l dC dI q_20 mtl_39 (.int 0) (.int 0) (.int 0) (.int 0) (.int 0) (.int 0) (.long 0) (.int 0) (.int 0) (.int (-1)) (.int (-1)) (.int (nI mk_33)) (.int 0) (.int 0) (.int 0) (.int 0) (.int 0) (.int 0) (.int 0) (.ref ma1_22) (.ref ma2_23) (.ref ma3_24) (.ref ma4_25) (.ref ma5_26) mat_21 mcT_27 (fun _ => 0) z_50 z_52 z_54 z_56 z_58 H.size hmtl_39) ka_X11_feed kv_X11_feed 6 rfl rfl k1753 [6, 7] [2] [0, 1, 2, 3, 4, 5, 8, 9, 10, 11, 12] [0, 1, 3, 4, 5, 6, 7] rfl rfl rfl rfl rfl (by decide) rfl rfl rfl hl.1 rfl rfl ⟨Nat.le_of_ble_eq_true rfl, Nat.le_of_ble_eq_true rfl⟩ (Nat.le_of_ble_eq_true rfl) (ce := 170) (sl := 571970) rfl rfl ⟨Nat.le_of_ble_eq_true rfl, Nat.le_of_ble_eq_true rfl⟩ dL_law_159 (fun r_71 u_72 hu_72 H locs hw => ?_)
        have hw : Wd dC dI (fun q : Nat => s.heap.size ≤ q) [(sp_3, .inr (4, .ref k_4 :: .int 0 :: .int (-1) :: .ref it_5 :: .ref en_6 :: .int 0 :: .int 0 :: tlP_15)), (k_4, .inr (3, .int (nI n_7) :: tkK_14)), (it_5, .inl (ci_12, 40, .inl (fun _ => 0))), (en_6, .inl (ce_13, 41, .inl (fun _ => 0))), (rd_8, .inr (5, .ref tk_9 :: .null :: .int 0 :: .int 0 :: .int (-1) :: .int 0 :: .int 0 :: tlR_16)), (tk_9, .inr (7, [.ref ut_10, .int 0, .int 0, .int 257, .int 0, .long 0, .int 0, .long 0])), (ma1_22, .inl (md1_28, 6000, .inl mp1_34)), (ma2_23, .inl (md2_29, 6000, .inl mp2_35)), (ma3_24, .inl (md3_30, 6000, .inl mp3_36)), (ma4_25, .inl (md4_31, 6000, .inl mp4_37)), (ma5_26, .inl (md5_32, 6000, .inl mp5_38))] [(ci_12, .boolean), (ce_13, .int), (md1_28, .int), (md2_29, .int), (md3_30, .int), (md4_31, .int), (md5_32, .boolean)] s H locs := hw
        obtain rfl := hu_72
        refine lv_icmp_eq (tgt := 502) hf.1 hf.2.1 dL_law_162 (by decide) (fun c_73 => ?_) (fun c_73 => absurd (by decide) c_73)
        exact J502 _ _ _ hw.2.2.2.1 (lv_sub hl [0, 3] rfl)
      · subst eks
        refine lv_tableIn (tgt := 167) hf.1 hf.2.1 dL_law_33 (by decide) (by decide) rfl (by decide) ?_
        refine lv_aload_n hf.1 hf.2.1 dL_law_167 rfl (lv_at hl 2 rfl) ?_
        refine lv_aload_n hf.1 hf.2.1 dL_law_168 rfl (lv_at hl 3 rfl) ?_
        refine lv_iload_n hf.1 hf.2.1 dL_law_169 rfl (lv_at hl 0 rfl) ?_
        refine lv_iconst (v := 1) hf.1 hf.2.1 dL_law_170 (by decide) ?_
        refine lv_iadd hf.1 hf.2.1 dL_law_171 ?_
        refine lv_topi (fun x_74 ex_74 => ?_)
        obtain rfl : x_74 = 1 := by rw [ex_74]; decide
        refine va_sld hf.1 hf.2.1 hX hbl hbA hw.2.2.2.1 (by unfold vp_in; decide) dL_law_172 ?_
        refine lv_topi (fun z_75 ez_75 => ?_)
        refine mV_i (As := [.int z_75]) (rest := []) (wr := [(tp_2, .inl (ct_11, 3000, .inl (fun _ => 0))), (sp_3, .inr (4, .ref k_4 :: .int 0 :: .int (-1) :: .ref it_5 :: .ref en_6 :: .int 0 :: .int 0 :: tlP_15)), (k_4, .inr (3, .int (nI n_7) :: tkK_14)), (it_5, .inl (ci_12, 40, .inl (fun _ => 0))), (en_6, .inl (ce_13, 41, .inl (fun _ => 0))), (rd_8, .inr (5, .ref tk_9 :: .null :: .int 0 :: .int 0 :: .int (-1) :: .int 0 :: .int 0 :: tlR_16)), (tk_9, .inr (7, [.ref ut_10, .int 0, .int 0, .int 257, .int 0, .long 0, .int 0, .long 0])), (q_20, .inr (9, .int 0 :: .int 0 :: .int 0 :: .int 0 :: .int 0 :: .int 0 :: .int 0 :: .long 0 :: .int 0 :: .int 0 :: .int (-1) :: .int (-1) :: .int (nI mk_33) :: .int 0 :: .int 0 :: .int 0 :: .int 0 :: .int 0 :: .int 0 :: .int 0 :: .ref mat_21 :: .ref ma1_22 :: .ref ma2_23 :: .ref ma3_24 :: .ref ma4_25 :: .ref ma5_26 :: mtl_39)), (mat_21, .inl (mcT_27, 3000, .inl (fun _ => 0))), (ma1_22, .inl (md1_28, 6000, .inl mp1_34)), (ma2_23, .inl (md2_29, 6000, .inl mp2_35)), (ma3_24, .inl (md3_30, 6000, .inl mp3_36)), (ma4_25, .inl (md4_31, 6000, .inl mp4_37)), (ma5_26, .inl (md5_32, 6000, .inl mp5_38))]) (tr := [(ct_11, .byte), (ci_12, .boolean), (ce_13, .int), (mcT_27, .byte), (md1_28, .int), (md2_29, .int), (md3_30, .int), (md4_31, .int), (md5_32, .boolean)]) hf hw (b_end l dC dI q_1 tp_2 sp_3 rd_8 tl_17 z_75 H.size htl_17) ka_X10_end kv_X10_end 0 rfl rfl k727 [0] [] [1, 2, 3, 4, 5, 6, 7, 8, 9, 10, 11, 12, 13, 14] [0, 1, 2, 3, 4, 5, 6, 7, 8] rfl rfl rfl rfl rfl (by decide) rfl rfl rfl hl.1 rfl rfl ⟨Nat.le_of_ble_eq_true rfl, Nat.le_of_ble_eq_true rfl⟩ (Nat.le_of_ble_eq_true rfl) (ce := 170) (sl := 571970) rfl rfl ⟨Nat.le_of_ble_eq_true rfl, Nat.le_of_ble_eq_true rfl⟩ dL_law_173 (fun r_76 u_77 hu_77 H locs hw => ?_)
        have hw : Wd dC dI (fun q : Nat => s.heap.size ≤ q) [(tp_2, .inl (ct_11, 3000, .inl (fun _ => 0))), (sp_3, .inr (4, .ref k_4 :: .int 0 :: .int (-1) :: .ref it_5 :: .ref en_6 :: .int 0 :: .int 0 :: tlP_15)), (k_4, .inr (3, .int (nI n_7) :: tkK_14)), (it_5, .inl (ci_12, 40, .inl (fun _ => 0))), (en_6, .inl (ce_13, 41, .inl (fun _ => 0))), (rd_8, .inr (5, .ref tk_9 :: .null :: .int 0 :: .int 0 :: .int (-1) :: .int 0 :: .int 0 :: tlR_16)), (tk_9, .inr (7, [.ref ut_10, .int 0, .int 0, .int 257, .int 0, .long 0, .int 0, .long 0])), (q_20, .inr (9, .int 0 :: .int 0 :: .int 0 :: .int 0 :: .int 0 :: .int 0 :: .int 0 :: .long 0 :: .int 0 :: .int 0 :: .int (-1) :: .int (-1) :: .int (nI mk_33) :: .int 0 :: .int 0 :: .int 0 :: .int 0 :: .int 0 :: .int 0 :: .int 0 :: .ref mat_21 :: .ref ma1_22 :: .ref ma2_23 :: .ref ma3_24 :: .ref ma4_25 :: .ref ma5_26 :: mtl_39)), (mat_21, .inl (mcT_27, 3000, .inl (fun _ => 0))), (ma1_22, .inl (md1_28, 6000, .inl mp1_34)), (ma2_23, .inl (md2_29, 6000, .inl mp2_35)), (ma3_24, .inl (md3_30, 6000, .inl mp3_36)), (ma4_25, .inl (md4_31, 6000, .inl mp4_37)), (ma5_26, .inl (md5_32, 6000, .inl mp5_38))] [(ct_11, .byte), (ci_12, .boolean), (ce_13, .int), (mcT_27, .byte), (md1_28, .int), (md2_29, .int), (md3_30, .int), (md4_31, .int), (md5_32, .boolean)] s H locs := hw
        obtain rfl := hu_77
        refine lv_aload_n hf.1 hf.2.1 dL_law_176 rfl (lv_at hl 1 rfl) ?_
        refine lv_aload_n hf.1 hf.2.1 dL_law_177 rfl (lv_at hl 3 rfl) ?_
        refine lv_iload_n hf.1 hf.2.1 dL_law_178 rfl (lv_at hl 0 rfl) ?_
        refine lv_iconst (v := 1) hf.1 hf.2.1 dL_law_179 (by decide) ?_
        refine lv_iadd hf.1 hf.2.1 dL_law_180 ?_
        refine lv_topi (fun x_78 ex_78 => ?_)
        obtain rfl : x_78 = 1 := by rw [ex_78]; decide
        refine va_sld hf.1 hf.2.1 hX hbl hbA hw.2.2.2.1 (by unfold vp_in; decide) dL_law_181 ?_
        refine lv_topi (fun z_79 ez_79 => ?_)
        obtain rfl : z_75 = z_79 := by rw [ez_75, ez_79]
        refine mV_i (As := [.int z_75]) (rest := [.int (endV z_75)]) (wr := [(tp_2, .inl (ct_11, 3000, .inl (fun _ => 0))), (sp_3, .inr (4, .ref k_4 :: .int 0 :: .int (-1) :: .ref it_5 :: .ref en_6 :: .int 0 :: .int 0 :: tlP_15)), (k_4, .inr (3, .int (nI n_7) :: tkK_14)), (it_5, .inl (ci_12, 40, .inl (fun _ => 0))), (en_6, .inl (ce_13, 41, .inl (fun _ => 0))), (rd_8, .inr (5, .ref tk_9 :: .null :: .int 0 :: .int 0 :: .int (-1) :: .int 0 :: .int 0 :: tlR_16)), (tk_9, .inr (7, [.ref ut_10, .int 0, .int 0, .int 257, .int 0, .long 0, .int 0, .long 0])), (mat_21, .inl (mcT_27, 3000, .inl (fun _ => 0))), (ma1_22, .inl (md1_28, 6000, .inl mp1_34)), (ma2_23, .inl (md2_29, 6000, .inl mp2_35)), (ma3_24, .inl (md3_30, 6000, .inl mp3_36)), (ma4_25, .inl (md4_31, 6000, .inl mp4_37)), (ma5_26, .inl (md5_32, 6000, .inl mp5_38))]) (tr := [(ct_11, .byte), (ci_12, .boolean), (ce_13, .int), (mcT_27, .byte), (md1_28, .int), (md2_29, .int), (md3_30, .int), (md4_31, .int), (md5_32, .boolean)]) hf hw (m_end l dC dI q_20 mtl_39 (.int 0) (.int 0) (.int 0) (.int 0) (.int 0) (.int 0) (.long 0) (.int 0) (.int 0) (.int (-1)) (.int (-1)) (.int (nI mk_33)) (.int 0) (.int 0) (.int 0) (.int 0) (.int 0) (.int 0) (.int 0) (.ref mat_21) (.ref ma1_22) (.ref ma2_23) (.ref ma3_24) (.ref ma4_25) (.ref ma5_26) z_75 H.size hmtl_39) ka_X11_end kv_X11_end 7 rfl rfl k1761 [7] [] [0, 1, 2, 3, 4, 5, 6, 8, 9, 10, 11, 12, 13] [0, 1, 2, 3, 4, 5, 6, 7, 8] rfl rfl rfl rfl rfl (by decide) rfl rfl rfl hl.1 rfl rfl ⟨Nat.le_of_ble_eq_true rfl, Nat.le_of_ble_eq_true rfl⟩ (Nat.le_of_ble_eq_true rfl) (ce := 170) (sl := 571970) rfl rfl ⟨Nat.le_of_ble_eq_true rfl, Nat.le_of_ble_eq_true rfl⟩ dL_law_182 (fun r_80 u_81 hu_81 H locs hw => ?_)
        have hw : Wd dC dI (fun q : Nat => s.heap.size ≤ q) [(tp_2, .inl (ct_11, 3000, .inl (fun _ => 0))), (sp_3, .inr (4, .ref k_4 :: .int 0 :: .int (-1) :: .ref it_5 :: .ref en_6 :: .int 0 :: .int 0 :: tlP_15)), (k_4, .inr (3, .int (nI n_7) :: tkK_14)), (it_5, .inl (ci_12, 40, .inl (fun _ => 0))), (en_6, .inl (ce_13, 41, .inl (fun _ => 0))), (rd_8, .inr (5, .ref tk_9 :: .null :: .int 0 :: .int 0 :: .int (-1) :: .int 0 :: .int 0 :: tlR_16)), (tk_9, .inr (7, [.ref ut_10, .int 0, .int 0, .int 257, .int 0, .long 0, .int 0, .long 0])), (mat_21, .inl (mcT_27, 3000, .inl (fun _ => 0))), (ma1_22, .inl (md1_28, 6000, .inl mp1_34)), (ma2_23, .inl (md2_29, 6000, .inl mp2_35)), (ma3_24, .inl (md3_30, 6000, .inl mp3_36)), (ma4_25, .inl (md4_31, 6000, .inl mp4_37)), (ma5_26, .inl (md5_32, 6000, .inl mp5_38))] [(ct_11, .byte), (ci_12, .boolean), (ce_13, .int), (mcT_27, .byte), (md1_28, .int), (md2_29, .int), (md3_30, .int), (md4_31, .int), (md5_32, .boolean)] s H locs := hw
        obtain rfl := hu_81
        refine lv_icmp_eq (tgt := 502) hf.1 hf.2.1 dL_law_185 (by decide) (fun c_82 => ?_) (fun c_82 => absurd rfl c_82)
        exact J502 _ _ _ hw.2.2.2.1 (lv_sub hl [0, 3] rfl)
      · subst eks
        refine lv_tableIn (tgt := 190) hf.1 hf.2.1 dL_law_33 (by decide) (by decide) rfl (by decide) ?_
        refine lv_aload_n hf.1 hf.2.1 dL_law_190 rfl (lv_at hl 2 rfl) ?_
        refine mV_i (As := []) (rest := []) (wr := [(q_20, .inr (9, .int 0 :: .int 0 :: .int 0 :: .int 0 :: .int 0 :: .int 0 :: .int 0 :: .long 0 :: .int 0 :: .int 0 :: .int (-1) :: .int (-1) :: .int (nI mk_33) :: .int 0 :: .int 0 :: .int 0 :: .int 0 :: .int 0 :: .int 0 :: .int 0 :: .ref mat_21 :: .ref ma1_22 :: .ref ma2_23 :: .ref ma3_24 :: .ref ma4_25 :: .ref ma5_26 :: mtl_39)), (mat_21, .inl (mcT_27, 3000, .inl (fun _ => 0))), (ma1_22, .inl (md1_28, 6000, .inl mp1_34)), (ma2_23, .inl (md2_29, 6000, .inl mp2_35)), (ma3_24, .inl (md3_30, 6000, .inl mp3_36)), (ma4_25, .inl (md4_31, 6000, .inl mp4_37)), (ma5_26, .inl (md5_32, 6000, .inl mp5_38))]) (tr := [(mcT_27, .byte), (md1_28, .int), (md2_29, .int), (md3_30, .int), (md4_31, .int), (md5_32, .boolean)]) hf hw (b_read l dC dI q_1 tp_2 sp_3 k_4 it_5 en_6 n_7 rd_8 tk_9 ut_10 ct_11 ci_12 ce_13 tkK_14 tlP_15 tlR_16 tl_17 H.size hn_7 htkK_14 htlP_15 htlR_16 htl_17) ka_X10_read kv_X10_read 0 rfl rfl k731 [0, 1, 2, 3, 4, 5, 6, 7] [0, 1, 2] [8, 9, 10, 11, 12, 13, 14] [3, 4, 5, 6, 7, 8] rfl rfl rfl rfl rfl (by decide) rfl rfl rfl hl.1 rfl rfl ⟨Nat.le_of_ble_eq_true rfl, Nat.le_of_ble_eq_true rfl⟩ (Nat.le_of_ble_eq_true rfl) (ce := 170) (sl := 571970) rfl rfl ⟨Nat.le_of_ble_eq_true rfl, Nat.le_of_ble_eq_true rfl⟩ dL_law_191 (fun r_83 u_84 hu_84 H locs hw => ?_)
        have hw : Wd dC dI (fun q : Nat => s.heap.size ≤ q) [(q_20, .inr (9, .int 0 :: .int 0 :: .int 0 :: .int 0 :: .int 0 :: .int 0 :: .int 0 :: .long 0 :: .int 0 :: .int 0 :: .int (-1) :: .int (-1) :: .int (nI mk_33) :: .int 0 :: .int 0 :: .int 0 :: .int 0 :: .int 0 :: .int 0 :: .int 0 :: .ref mat_21 :: .ref ma1_22 :: .ref ma2_23 :: .ref ma3_24 :: .ref ma4_25 :: .ref ma5_26 :: mtl_39)), (mat_21, .inl (mcT_27, 3000, .inl (fun _ => 0))), (ma1_22, .inl (md1_28, 6000, .inl mp1_34)), (ma2_23, .inl (md2_29, 6000, .inl mp2_35)), (ma3_24, .inl (md3_30, 6000, .inl mp3_36)), (ma4_25, .inl (md4_31, 6000, .inl mp4_37)), (ma5_26, .inl (md5_32, 6000, .inl mp5_38))] [(mcT_27, .byte), (md1_28, .int), (md2_29, .int), (md3_30, .int), (md4_31, .int), (md5_32, .boolean)] s H locs := hw
        obtain rfl := hu_84
        refine lv_aload_n hf.1 hf.2.1 dL_law_194 rfl (lv_at hl 1 rfl) ?_
        refine mV_i (As := []) (rest := [.int (-1)]) (wr := [(mat_21, .inl (mcT_27, 3000, .inl (fun _ => 0)))]) (tr := [(mcT_27, .byte)]) hf hw (m_read l dC dI q_20 mtl_39 (.ref mat_21) ma1_22 ma2_23 ma3_24 ma4_25 ma5_26 md1_28 md2_29 md3_30 md4_31 md5_32 mp1_34 mp2_35 mp3_36 mp4_37 mp5_38 mk_33 H.size hmtl_39) ka_X11_read kv_X11_read 0 rfl rfl k1768 [0, 2, 3, 4, 5, 6] [1, 2, 3, 4, 5] [1] [0] rfl rfl rfl rfl rfl (by decide) rfl rfl rfl hl.1 rfl rfl ⟨Nat.le_of_ble_eq_true rfl, Nat.le_of_ble_eq_true rfl⟩ (Nat.le_of_ble_eq_true rfl) (ce := 170) (sl := 571970) rfl rfl ⟨Nat.le_of_ble_eq_true rfl, Nat.le_of_ble_eq_true rfl⟩ dL_law_195 (fun r_85 u_86 hu_86 H locs hw => ?_)
        have hw : Wd dC dI (fun q : Nat => s.heap.size ≤ q) [(mat_21, .inl (mcT_27, 3000, .inl (fun _ => 0)))] [(mcT_27, .byte)] s H locs := hw
        obtain rfl := hu_86
        refine lv_icmp_eq (tgt := 502) hf.1 hf.2.1 dL_law_198 (by decide) (fun c_87 => ?_) (fun c_87 => absurd (by decide) c_87)
        exact J502 _ _ _ hw.2.2.2.1 (lv_sub hl [0, 3] rfl)
      · subst eks
        refine lv_tableIn (tgt := 203) hf.1 hf.2.1 dL_law_33 (by decide) (by decide) rfl (by decide) ?_
        refine lv_aload_n hf.1 hf.2.1 dL_law_203 rfl (lv_at hl 2 rfl) ?_
        refine lv_aload_n hf.1 hf.2.1 dL_law_204 rfl (lv_at hl 3 rfl) ?_
        refine lv_iload_n hf.1 hf.2.1 dL_law_205 rfl (lv_at hl 0 rfl) ?_
        refine lv_iconst (v := 1) hf.1 hf.2.1 dL_law_206 (by decide) ?_
        refine lv_iadd hf.1 hf.2.1 dL_law_207 ?_
        refine lv_topi (fun x_88 ex_88 => ?_)
        obtain rfl : x_88 = 1 := by rw [ex_88]; decide
        refine va_sld hf.1 hf.2.1 hX hbl hbA hw.2.2.2.1 (by unfold vp_in; decide) dL_law_208 ?_
        refine lv_topi (fun z_89 ez_89 => ?_)
        refine mV_i (As := [.int z_89]) (rest := []) (wr := [(tp_2, .inl (ct_11, 3000, .inl (fun _ => 0))), (sp_3, .inr (4, .ref k_4 :: .int 0 :: .int (-1) :: .ref it_5 :: .ref en_6 :: .int 0 :: .int 0 :: tlP_15)), (k_4, .inr (3, .int (nI n_7) :: tkK_14)), (it_5, .inl (ci_12, 40, .inl (fun _ => 0))), (en_6, .inl (ce_13, 41, .inl (fun _ => 0))), (rd_8, .inr (5, .ref tk_9 :: .null :: .int 0 :: .int 0 :: .int (-1) :: .int 0 :: .int 0 :: tlR_16)), (tk_9, .inr (7, [.ref ut_10, .int 0, .int 0, .int 257, .int 0, .long 0, .int 0, .long 0])), (q_20, .inr (9, .int 0 :: .int 0 :: .int 0 :: .int 0 :: .int 0 :: .int 0 :: .int 0 :: .long 0 :: .int 0 :: .int 0 :: .int (-1) :: .int (-1) :: .int (nI mk_33) :: .int 0 :: .int 0 :: .int 0 :: .int 0 :: .int 0 :: .int 0 :: .int 0 :: .ref mat_21 :: .ref ma1_22 :: .ref ma2_23 :: .ref ma3_24 :: .ref ma4_25 :: .ref ma5_26 :: mtl_39)), (mat_21, .inl (mcT_27, 3000, .inl (fun _ => 0))), (ma1_22, .inl (md1_28, 6000, .inl mp1_34)), (ma2_23, .inl (md2_29, 6000, .inl mp2_35)), (ma3_24, .inl (md3_30, 6000, .inl mp3_36)), (ma4_25, .inl (md4_31, 6000, .inl mp4_37)), (ma5_26, .inl (md5_32, 6000, .inl mp5_38))]) (tr := [(ct_11, .byte), (ci_12, .boolean), (ce_13, .int), (mcT_27, .byte), (md1_28, .int), (md2_29, .int), (md3_30, .int), (md4_31, .int), (md5_32, .boolean)]) hf hw (b_fault l dC dI q_1 tp_2 sp_3 rd_8 tl_17 z_89 H.size htl_17) ka_X10_fault kv_X10_fault 0 rfl rfl k980 [0] [] [1, 2, 3, 4, 5, 6, 7, 8, 9, 10, 11, 12, 13, 14] [0, 1, 2, 3, 4, 5, 6, 7, 8] rfl rfl rfl rfl rfl (by decide) rfl rfl rfl hl.1 rfl rfl ⟨Nat.le_of_ble_eq_true rfl, Nat.le_of_ble_eq_true rfl⟩ (Nat.le_of_ble_eq_true rfl) (ce := 170) (sl := 571970) rfl rfl ⟨Nat.le_of_ble_eq_true rfl, Nat.le_of_ble_eq_true rfl⟩ dL_law_209 (fun r_90 u_91 hu_91 H locs hw => ?_)
        have hw : Wd dC dI (fun q : Nat => s.heap.size ≤ q) [(tp_2, .inl (ct_11, 3000, .inl (fun _ => 0))), (sp_3, .inr (4, .ref k_4 :: .int 0 :: .int (-1) :: .ref it_5 :: .ref en_6 :: .int 0 :: .int 0 :: tlP_15)), (k_4, .inr (3, .int (nI n_7) :: tkK_14)), (it_5, .inl (ci_12, 40, .inl (fun _ => 0))), (en_6, .inl (ce_13, 41, .inl (fun _ => 0))), (rd_8, .inr (5, .ref tk_9 :: .null :: .int 0 :: .int 0 :: .int (-1) :: .int 0 :: .int 0 :: tlR_16)), (tk_9, .inr (7, [.ref ut_10, .int 0, .int 0, .int 257, .int 0, .long 0, .int 0, .long 0])), (q_20, .inr (9, .int 0 :: .int 0 :: .int 0 :: .int 0 :: .int 0 :: .int 0 :: .int 0 :: .long 0 :: .int 0 :: .int 0 :: .int (-1) :: .int (-1) :: .int (nI mk_33) :: .int 0 :: .int 0 :: .int 0 :: .int 0 :: .int 0 :: .int 0 :: .int 0 :: .ref mat_21 :: .ref ma1_22 :: .ref ma2_23 :: .ref ma3_24 :: .ref ma4_25 :: .ref ma5_26 :: mtl_39)), (mat_21, .inl (mcT_27, 3000, .inl (fun _ => 0))), (ma1_22, .inl (md1_28, 6000, .inl mp1_34)), (ma2_23, .inl (md2_29, 6000, .inl mp2_35)), (ma3_24, .inl (md3_30, 6000, .inl mp3_36)), (ma4_25, .inl (md4_31, 6000, .inl mp4_37)), (ma5_26, .inl (md5_32, 6000, .inl mp5_38))] [(ct_11, .byte), (ci_12, .boolean), (ce_13, .int), (mcT_27, .byte), (md1_28, .int), (md2_29, .int), (md3_30, .int), (md4_31, .int), (md5_32, .boolean)] s H locs := hw
        obtain rfl := hu_91
        refine lv_aload_n hf.1 hf.2.1 dL_law_212 rfl (lv_at hl 1 rfl) ?_
        refine lv_aload_n hf.1 hf.2.1 dL_law_213 rfl (lv_at hl 3 rfl) ?_
        refine lv_iload_n hf.1 hf.2.1 dL_law_214 rfl (lv_at hl 0 rfl) ?_
        refine lv_iconst (v := 1) hf.1 hf.2.1 dL_law_215 (by decide) ?_
        refine lv_iadd hf.1 hf.2.1 dL_law_216 ?_
        refine lv_topi (fun x_92 ex_92 => ?_)
        obtain rfl : x_92 = 1 := by rw [ex_92]; decide
        refine va_sld hf.1 hf.2.1 hX hbl hbA hw.2.2.2.1 (by unfold vp_in; decide) dL_law_217 ?_
        refine lv_topi (fun z_93 ez_93 => ?_)
        obtain rfl : z_89 = z_93 := by rw [ez_89, ez_93]
        refine mV_i (As := [.int z_89]) (rest := [.int (-1)]) (wr := [(tp_2, .inl (ct_11, 3000, .inl (fun _ => 0))), (sp_3, .inr (4, .ref k_4 :: .int 0 :: .int (-1) :: .ref it_5 :: .ref en_6 :: .int 0 :: .int 0 :: tlP_15)), (k_4, .inr (3, .int (nI n_7) :: tkK_14)), (it_5, .inl (ci_12, 40, .inl (fun _ => 0))), (en_6, .inl (ce_13, 41, .inl (fun _ => 0))), (rd_8, .inr (5, .ref tk_9 :: .null :: .int 0 :: .int 0 :: .int (-1) :: .int 0 :: .int 0 :: tlR_16)), (tk_9, .inr (7, [.ref ut_10, .int 0, .int 0, .int 257, .int 0, .long 0, .int 0, .long 0])), (mat_21, .inl (mcT_27, 3000, .inl (fun _ => 0))), (ma1_22, .inl (md1_28, 6000, .inl mp1_34)), (ma2_23, .inl (md2_29, 6000, .inl mp2_35)), (ma3_24, .inl (md3_30, 6000, .inl mp3_36)), (ma4_25, .inl (md4_31, 6000, .inl mp4_37)), (ma5_26, .inl (md5_32, 6000, .inl mp5_38))]) (tr := [(ct_11, .byte), (ci_12, .boolean), (ce_13, .int), (mcT_27, .byte), (md1_28, .int), (md2_29, .int), (md3_30, .int), (md4_31, .int), (md5_32, .boolean)]) hf hw (m_fault l dC dI q_20 mtl_39 (.int 0) (.int 0) (.int 0) (.int 0) (.int 0) (.int 0) (.int 0) (.long 0) (.int 0) (.int 0) (.int (nI mk_33)) (.int 0) (.int 0) (.int 0) (.int 0) (.int 0) (.int 0) (.int 0) (.ref mat_21) (.ref ma1_22) (.ref ma2_23) (.ref ma3_24) (.ref ma4_25) (.ref ma5_26) z_89 H.size hmtl_39) ka_X11_fault kv_X11_fault 7 rfl rfl k2072 [7] [] [0, 1, 2, 3, 4, 5, 6, 8, 9, 10, 11, 12, 13] [0, 1, 2, 3, 4, 5, 6, 7, 8] rfl rfl rfl rfl rfl (by decide) rfl rfl rfl hl.1 rfl rfl ⟨Nat.le_of_ble_eq_true rfl, Nat.le_of_ble_eq_true rfl⟩ (Nat.le_of_ble_eq_true rfl) (ce := 170) (sl := 571970) rfl rfl ⟨Nat.le_of_ble_eq_true rfl, Nat.le_of_ble_eq_true rfl⟩ dL_law_218 (fun r_94 u_95 hu_95 H locs hw => ?_)
        have hw : Wd dC dI (fun q : Nat => s.heap.size ≤ q) [(tp_2, .inl (ct_11, 3000, .inl (fun _ => 0))), (sp_3, .inr (4, .ref k_4 :: .int 0 :: .int (-1) :: .ref it_5 :: .ref en_6 :: .int 0 :: .int 0 :: tlP_15)), (k_4, .inr (3, .int (nI n_7) :: tkK_14)), (it_5, .inl (ci_12, 40, .inl (fun _ => 0))), (en_6, .inl (ce_13, 41, .inl (fun _ => 0))), (rd_8, .inr (5, .ref tk_9 :: .null :: .int 0 :: .int 0 :: .int (-1) :: .int 0 :: .int 0 :: tlR_16)), (tk_9, .inr (7, [.ref ut_10, .int 0, .int 0, .int 257, .int 0, .long 0, .int 0, .long 0])), (mat_21, .inl (mcT_27, 3000, .inl (fun _ => 0))), (ma1_22, .inl (md1_28, 6000, .inl mp1_34)), (ma2_23, .inl (md2_29, 6000, .inl mp2_35)), (ma3_24, .inl (md3_30, 6000, .inl mp3_36)), (ma4_25, .inl (md4_31, 6000, .inl mp4_37)), (ma5_26, .inl (md5_32, 6000, .inl mp5_38))] [(ct_11, .byte), (ci_12, .boolean), (ce_13, .int), (mcT_27, .byte), (md1_28, .int), (md2_29, .int), (md3_30, .int), (md4_31, .int), (md5_32, .boolean)] s H locs := hw
        obtain rfl := hu_95
        refine lv_icmp_eq (tgt := 502) hf.1 hf.2.1 dL_law_221 (by decide) (fun c_96 => ?_) (fun c_96 => absurd (by decide) c_96)
        exact J502 _ _ _ hw.2.2.2.1 (lv_sub hl [0, 3] rfl)
      · subst eks
        refine lv_tableIn (tgt := 226) hf.1 hf.2.1 dL_law_33 (by decide) (by decide) rfl (by decide) ?_
        refine lv_aload_n hf.1 hf.2.1 dL_law_226 rfl (lv_at hl 2 rfl) ?_
        refine lv_aload_n hf.1 hf.2.1 dL_law_227 rfl (lv_at hl 3 rfl) ?_
        refine lv_iload_n hf.1 hf.2.1 dL_law_228 rfl (lv_at hl 0 rfl) ?_
        refine lv_iconst (v := 1) hf.1 hf.2.1 dL_law_229 (by decide) ?_
        refine lv_iadd hf.1 hf.2.1 dL_law_230 ?_
        refine lv_topi (fun x_97 ex_97 => ?_)
        obtain rfl : x_97 = 1 := by rw [ex_97]; decide
        refine va_sld hf.1 hf.2.1 hX hbl hbA hw.2.2.2.1 (by unfold vp_in; decide) dL_law_231 ?_
        refine lv_topi (fun z_98 ez_98 => ?_)
        refine lv_aload_n hf.1 hf.2.1 dL_law_232 rfl (lv_at hl 3 rfl) ?_
        refine lv_iload_n hf.1 hf.2.1 dL_law_233 rfl (lv_at hl 0 rfl) ?_
        refine lv_iconst (v := 2) hf.1 hf.2.1 dL_law_234 (by decide) ?_
        refine lv_iadd hf.1 hf.2.1 dL_law_235 ?_
        refine lv_topi (fun x_99 ex_99 => ?_)
        obtain rfl : x_99 = 2 := by rw [ex_99]; decide
        refine va_sld hf.1 hf.2.1 hX hbl hbA hw.2.2.2.1 (by unfold vp_in; decide) dL_law_236 ?_
        refine lv_topi (fun z_100 ez_100 => ?_)
        refine lv_if_eq (tgt := 244) hf.1 hf.2.1 dL_law_237 (by decide) (fun c_101 => ?_) (fun c_101 => ?_)
        · refine lv_iconst (v := 0) hf.1 hf.2.1 dL_law_244 (by decide) ?_
          refine mV_i (As := [.int z_98, .int 0]) (rest := []) (wr := [(tp_2, .inl (ct_11, 3000, .inl (fun _ => 0))), (sp_3, .inr (4, .ref k_4 :: .int 0 :: .int (-1) :: .ref it_5 :: .ref en_6 :: .int 0 :: .int 0 :: tlP_15)), (k_4, .inr (3, .int (nI n_7) :: tkK_14)), (it_5, .inl (ci_12, 40, .inl (fun _ => 0))), (en_6, .inl (ce_13, 41, .inl (fun _ => 0))), (rd_8, .inr (5, .ref tk_9 :: .null :: .int 0 :: .int 0 :: .int (-1) :: .int 0 :: .int 0 :: tlR_16)), (tk_9, .inr (7, [.ref ut_10, .int 0, .int 0, .int 257, .int 0, .long 0, .int 0, .long 0])), (q_20, .inr (9, .int 0 :: .int 0 :: .int 0 :: .int 0 :: .int 0 :: .int 0 :: .int 0 :: .long 0 :: .int 0 :: .int 0 :: .int (-1) :: .int (-1) :: .int (nI mk_33) :: .int 0 :: .int 0 :: .int 0 :: .int 0 :: .int 0 :: .int 0 :: .int 0 :: .ref mat_21 :: .ref ma1_22 :: .ref ma2_23 :: .ref ma3_24 :: .ref ma4_25 :: .ref ma5_26 :: mtl_39)), (mat_21, .inl (mcT_27, 3000, .inl (fun _ => 0))), (ma1_22, .inl (md1_28, 6000, .inl mp1_34)), (ma2_23, .inl (md2_29, 6000, .inl mp2_35)), (ma3_24, .inl (md3_30, 6000, .inl mp3_36)), (ma4_25, .inl (md4_31, 6000, .inl mp4_37)), (ma5_26, .inl (md5_32, 6000, .inl mp5_38))]) (tr := [(ct_11, .byte), (ci_12, .boolean), (ce_13, .int), (mcT_27, .byte), (md1_28, .int), (md2_29, .int), (md3_30, .int), (md4_31, .int), (md5_32, .boolean)]) hf hw (b_tell l dC dI q_1 tp_2 sp_3 rd_8 tl_17 z_98 0 H.size htl_17) ka_X10_tell kv_X10_tell 0 rfl rfl k984 [0] [] [1, 2, 3, 4, 5, 6, 7, 8, 9, 10, 11, 12, 13, 14] [0, 1, 2, 3, 4, 5, 6, 7, 8] rfl rfl rfl rfl rfl (by decide) rfl rfl rfl hl.1 rfl rfl ⟨Nat.le_of_ble_eq_true rfl, Nat.le_of_ble_eq_true rfl⟩ (Nat.le_of_ble_eq_true rfl) (ce := 170) (sl := 571970) rfl rfl ⟨Nat.le_of_ble_eq_true rfl, Nat.le_of_ble_eq_true rfl⟩ dL_law_245 (fun r_102 u_103 hu_103 H locs hw => ?_)
          have hw : Wd dC dI (fun q : Nat => s.heap.size ≤ q) [(tp_2, .inl (ct_11, 3000, .inl (fun _ => 0))), (sp_3, .inr (4, .ref k_4 :: .int 0 :: .int (-1) :: .ref it_5 :: .ref en_6 :: .int 0 :: .int 0 :: tlP_15)), (k_4, .inr (3, .int (nI n_7) :: tkK_14)), (it_5, .inl (ci_12, 40, .inl (fun _ => 0))), (en_6, .inl (ce_13, 41, .inl (fun _ => 0))), (rd_8, .inr (5, .ref tk_9 :: .null :: .int 0 :: .int 0 :: .int (-1) :: .int 0 :: .int 0 :: tlR_16)), (tk_9, .inr (7, [.ref ut_10, .int 0, .int 0, .int 257, .int 0, .long 0, .int 0, .long 0])), (q_20, .inr (9, .int 0 :: .int 0 :: .int 0 :: .int 0 :: .int 0 :: .int 0 :: .int 0 :: .long 0 :: .int 0 :: .int 0 :: .int (-1) :: .int (-1) :: .int (nI mk_33) :: .int 0 :: .int 0 :: .int 0 :: .int 0 :: .int 0 :: .int 0 :: .int 0 :: .ref mat_21 :: .ref ma1_22 :: .ref ma2_23 :: .ref ma3_24 :: .ref ma4_25 :: .ref ma5_26 :: mtl_39)), (mat_21, .inl (mcT_27, 3000, .inl (fun _ => 0))), (ma1_22, .inl (md1_28, 6000, .inl mp1_34)), (ma2_23, .inl (md2_29, 6000, .inl mp2_35)), (ma3_24, .inl (md3_30, 6000, .inl mp3_36)), (ma4_25, .inl (md4_31, 6000, .inl mp4_37)), (ma5_26, .inl (md5_32, 6000, .inl mp5_38))] [(ct_11, .byte), (ci_12, .boolean), (ce_13, .int), (mcT_27, .byte), (md1_28, .int), (md2_29, .int), (md3_30, .int), (md4_31, .int), (md5_32, .boolean)] s H locs := hw
          obtain rfl := hu_103
          refine lv_aload_n hf.1 hf.2.1 dL_law_248 rfl (lv_at hl 1 rfl) ?_
          refine lv_aload_n hf.1 hf.2.1 dL_law_249 rfl (lv_at hl 3 rfl) ?_
          refine lv_iload_n hf.1 hf.2.1 dL_law_250 rfl (lv_at hl 0 rfl) ?_
          refine lv_iconst (v := 1) hf.1 hf.2.1 dL_law_251 (by decide) ?_
          refine lv_iadd hf.1 hf.2.1 dL_law_252 ?_
          refine lv_topi (fun x_104 ex_104 => ?_)
          obtain rfl : x_104 = 1 := by rw [ex_104]; decide
          refine va_sld hf.1 hf.2.1 hX hbl hbA hw.2.2.2.1 (by unfold vp_in; decide) dL_law_253 ?_
          refine lv_topi (fun z_105 ez_105 => ?_)
          obtain rfl : z_98 = z_105 := by rw [ez_98, ez_105]
          refine lv_aload_n hf.1 hf.2.1 dL_law_254 rfl (lv_at hl 3 rfl) ?_
          refine lv_iload_n hf.1 hf.2.1 dL_law_255 rfl (lv_at hl 0 rfl) ?_
          refine lv_iconst (v := 2) hf.1 hf.2.1 dL_law_256 (by decide) ?_
          refine lv_iadd hf.1 hf.2.1 dL_law_257 ?_
          refine lv_topi (fun x_106 ex_106 => ?_)
          obtain rfl : x_106 = 2 := by rw [ex_106]; decide
          refine va_sld hf.1 hf.2.1 hX hbl hbA hw.2.2.2.1 (by unfold vp_in; decide) dL_law_258 ?_
          refine lv_topi (fun z_107 ez_107 => ?_)
          obtain rfl : z_100 = z_107 := by rw [ez_100, ez_107]
          refine lv_if_eq (tgt := 266) hf.1 hf.2.1 dL_law_259 (by decide) (fun c_108 => ?_) (fun c_108 => ?_)
          · refine lv_iconst (v := 0) hf.1 hf.2.1 dL_law_266 (by decide) ?_
            refine mV_i (As := [.int z_98, .int 0]) (rest := [.int 0]) (wr := [(tp_2, .inl (ct_11, 3000, .inl (fun _ => 0))), (sp_3, .inr (4, .ref k_4 :: .int 0 :: .int (-1) :: .ref it_5 :: .ref en_6 :: .int 0 :: .int 0 :: tlP_15)), (k_4, .inr (3, .int (nI n_7) :: tkK_14)), (it_5, .inl (ci_12, 40, .inl (fun _ => 0))), (en_6, .inl (ce_13, 41, .inl (fun _ => 0))), (rd_8, .inr (5, .ref tk_9 :: .null :: .int 0 :: .int 0 :: .int (-1) :: .int 0 :: .int 0 :: tlR_16)), (tk_9, .inr (7, [.ref ut_10, .int 0, .int 0, .int 257, .int 0, .long 0, .int 0, .long 0])), (mat_21, .inl (mcT_27, 3000, .inl (fun _ => 0))), (ma1_22, .inl (md1_28, 6000, .inl mp1_34)), (ma2_23, .inl (md2_29, 6000, .inl mp2_35)), (ma3_24, .inl (md3_30, 6000, .inl mp3_36)), (ma4_25, .inl (md4_31, 6000, .inl mp4_37)), (ma5_26, .inl (md5_32, 6000, .inl mp5_38))]) (tr := [(ct_11, .byte), (ci_12, .boolean), (ce_13, .int), (mcT_27, .byte), (md1_28, .int), (md2_29, .int), (md3_30, .int), (md4_31, .int), (md5_32, .boolean)]) hf hw (m_tell l dC dI q_20 mtl_39 (.int 0) (.int 0) (.int 0) (.int 0) (.int 0) (.int 0) (.long 0) (.int 0) (.int 0) (.int (-1)) (.int (-1)) (.int (nI mk_33)) (.int 0) (.int 0) (.int 0) (.int 0) (.int 0) (.int 0) (.int 0) (.ref mat_21) (.ref ma1_22) (.ref ma2_23) (.ref ma3_24) (.ref ma4_25) (.ref ma5_26) z_98 0 H.size hmtl_39) ka_X11_tell kv_X11_tell 7 rfl rfl k2076 [7] [] [0, 1, 2, 3, 4, 5, 6, 8, 9, 10, 11, 12, 13] [0, 1, 2, 3, 4, 5, 6, 7, 8] rfl rfl rfl rfl rfl (by decide) rfl rfl rfl hl.1 rfl rfl ⟨Nat.le_of_ble_eq_true rfl, Nat.le_of_ble_eq_true rfl⟩ (Nat.le_of_ble_eq_true rfl) (ce := 170) (sl := 571970) rfl rfl ⟨Nat.le_of_ble_eq_true rfl, Nat.le_of_ble_eq_true rfl⟩ dL_law_267 (fun r_109 u_110 hu_110 H locs hw => ?_)
            have hw : Wd dC dI (fun q : Nat => s.heap.size ≤ q) [(tp_2, .inl (ct_11, 3000, .inl (fun _ => 0))), (sp_3, .inr (4, .ref k_4 :: .int 0 :: .int (-1) :: .ref it_5 :: .ref en_6 :: .int 0 :: .int 0 :: tlP_15)), (k_4, .inr (3, .int (nI n_7) :: tkK_14)), (it_5, .inl (ci_12, 40, .inl (fun _ => 0))), (en_6, .inl (ce_13, 41, .inl (fun _ => 0))), (rd_8, .inr (5, .ref tk_9 :: .null :: .int 0 :: .int 0 :: .int (-1) :: .int 0 :: .int 0 :: tlR_16)), (tk_9, .inr (7, [.ref ut_10, .int 0, .int 0, .int 257, .int 0, .long 0, .int 0, .long 0])), (mat_21, .inl (mcT_27, 3000, .inl (fun _ => 0))), (ma1_22, .inl (md1_28, 6000, .inl mp1_34)), (ma2_23, .inl (md2_29, 6000, .inl mp2_35)), (ma3_24, .inl (md3_30, 6000, .inl mp3_36)), (ma4_25, .inl (md4_31, 6000, .inl mp4_37)), (ma5_26, .inl (md5_32, 6000, .inl mp5_38))] [(ct_11, .byte), (ci_12, .boolean), (ce_13, .int), (mcT_27, .byte), (md1_28, .int), (md2_29, .int), (md3_30, .int), (md4_31, .int), (md5_32, .boolean)] s H locs := hw
            obtain rfl := hu_110
            refine lv_icmp_eq (tgt := 502) hf.1 hf.2.1 dL_law_270 (by decide) (fun c_111 => ?_) (fun c_111 => absurd (by decide) c_111)
            exact J502 _ _ _ hw.2.2.2.1 (lv_sub hl [0, 3] rfl)
          · refine lv_iconst (v := 1) hf.1 hf.2.1 dL_law_262 (by decide) ?_
            refine lv_goto (tgt := 267) hf.1 hf.2.1 dL_law_263 (by decide) ?_
            refine mV_i (As := [.int z_98, .int 1]) (rest := [.int 0]) (wr := [(tp_2, .inl (ct_11, 3000, .inl (fun _ => 0))), (sp_3, .inr (4, .ref k_4 :: .int 0 :: .int (-1) :: .ref it_5 :: .ref en_6 :: .int 0 :: .int 0 :: tlP_15)), (k_4, .inr (3, .int (nI n_7) :: tkK_14)), (it_5, .inl (ci_12, 40, .inl (fun _ => 0))), (en_6, .inl (ce_13, 41, .inl (fun _ => 0))), (rd_8, .inr (5, .ref tk_9 :: .null :: .int 0 :: .int 0 :: .int (-1) :: .int 0 :: .int 0 :: tlR_16)), (tk_9, .inr (7, [.ref ut_10, .int 0, .int 0, .int 257, .int 0, .long 0, .int 0, .long 0])), (mat_21, .inl (mcT_27, 3000, .inl (fun _ => 0))), (ma1_22, .inl (md1_28, 6000, .inl mp1_34)), (ma2_23, .inl (md2_29, 6000, .inl mp2_35)), (ma3_24, .inl (md3_30, 6000, .inl mp3_36)), (ma4_25, .inl (md4_31, 6000, .inl mp4_37)), (ma5_26, .inl (md5_32, 6000, .inl mp5_38))]) (tr := [(ct_11, .byte), (ci_12, .boolean), (ce_13, .int), (mcT_27, .byte), (md1_28, .int), (md2_29, .int), (md3_30, .int), (md4_31, .int), (md5_32, .boolean)]) hf hw (m_tell l dC dI q_20 mtl_39 (.int 0) (.int 0) (.int 0) (.int 0) (.int 0) (.int 0) (.long 0) (.int 0) (.int 0) (.int (-1)) (.int (-1)) (.int (nI mk_33)) (.int 0) (.int 0) (.int 0) (.int 0) (.int 0) (.int 0) (.int 0) (.ref mat_21) (.ref ma1_22) (.ref ma2_23) (.ref ma3_24) (.ref ma4_25) (.ref ma5_26) z_98 1 H.size hmtl_39) ka_X11_tell kv_X11_tell 7 rfl rfl k2076 [7] [] [0, 1, 2, 3, 4, 5, 6, 8, 9, 10, 11, 12, 13] [0, 1, 2, 3, 4, 5, 6, 7, 8] rfl rfl rfl rfl rfl (by decide) rfl rfl rfl hl.1 rfl rfl ⟨Nat.le_of_ble_eq_true rfl, Nat.le_of_ble_eq_true rfl⟩ (Nat.le_of_ble_eq_true rfl) (ce := 170) (sl := 571970) rfl rfl ⟨Nat.le_of_ble_eq_true rfl, Nat.le_of_ble_eq_true rfl⟩ dL_law_267 (fun r_112 u_113 hu_113 H locs hw => ?_)
            have hw : Wd dC dI (fun q : Nat => s.heap.size ≤ q) [(tp_2, .inl (ct_11, 3000, .inl (fun _ => 0))), (sp_3, .inr (4, .ref k_4 :: .int 0 :: .int (-1) :: .ref it_5 :: .ref en_6 :: .int 0 :: .int 0 :: tlP_15)), (k_4, .inr (3, .int (nI n_7) :: tkK_14)), (it_5, .inl (ci_12, 40, .inl (fun _ => 0))), (en_6, .inl (ce_13, 41, .inl (fun _ => 0))), (rd_8, .inr (5, .ref tk_9 :: .null :: .int 0 :: .int 0 :: .int (-1) :: .int 0 :: .int 0 :: tlR_16)), (tk_9, .inr (7, [.ref ut_10, .int 0, .int 0, .int 257, .int 0, .long 0, .int 0, .long 0])), (mat_21, .inl (mcT_27, 3000, .inl (fun _ => 0))), (ma1_22, .inl (md1_28, 6000, .inl mp1_34)), (ma2_23, .inl (md2_29, 6000, .inl mp2_35)), (ma3_24, .inl (md3_30, 6000, .inl mp3_36)), (ma4_25, .inl (md4_31, 6000, .inl mp4_37)), (ma5_26, .inl (md5_32, 6000, .inl mp5_38))] [(ct_11, .byte), (ci_12, .boolean), (ce_13, .int), (mcT_27, .byte), (md1_28, .int), (md2_29, .int), (md3_30, .int), (md4_31, .int), (md5_32, .boolean)] s H locs := hw
            obtain rfl := hu_113
            refine lv_icmp_eq (tgt := 502) hf.1 hf.2.1 dL_law_270 (by decide) (fun c_114 => ?_) (fun c_114 => absurd (by decide) c_114)
            exact J502 _ _ _ hw.2.2.2.1 (lv_sub hl [0, 3] rfl)
        · refine lv_iconst (v := 1) hf.1 hf.2.1 dL_law_240 (by decide) ?_
          refine lv_goto (tgt := 245) hf.1 hf.2.1 dL_law_241 (by decide) ?_
          refine mV_i (As := [.int z_98, .int 1]) (rest := []) (wr := [(tp_2, .inl (ct_11, 3000, .inl (fun _ => 0))), (sp_3, .inr (4, .ref k_4 :: .int 0 :: .int (-1) :: .ref it_5 :: .ref en_6 :: .int 0 :: .int 0 :: tlP_15)), (k_4, .inr (3, .int (nI n_7) :: tkK_14)), (it_5, .inl (ci_12, 40, .inl (fun _ => 0))), (en_6, .inl (ce_13, 41, .inl (fun _ => 0))), (rd_8, .inr (5, .ref tk_9 :: .null :: .int 0 :: .int 0 :: .int (-1) :: .int 0 :: .int 0 :: tlR_16)), (tk_9, .inr (7, [.ref ut_10, .int 0, .int 0, .int 257, .int 0, .long 0, .int 0, .long 0])), (q_20, .inr (9, .int 0 :: .int 0 :: .int 0 :: .int 0 :: .int 0 :: .int 0 :: .int 0 :: .long 0 :: .int 0 :: .int 0 :: .int (-1) :: .int (-1) :: .int (nI mk_33) :: .int 0 :: .int 0 :: .int 0 :: .int 0 :: .int 0 :: .int 0 :: .int 0 :: .ref mat_21 :: .ref ma1_22 :: .ref ma2_23 :: .ref ma3_24 :: .ref ma4_25 :: .ref ma5_26 :: mtl_39)), (mat_21, .inl (mcT_27, 3000, .inl (fun _ => 0))), (ma1_22, .inl (md1_28, 6000, .inl mp1_34)), (ma2_23, .inl (md2_29, 6000, .inl mp2_35)), (ma3_24, .inl (md3_30, 6000, .inl mp3_36)), (ma4_25, .inl (md4_31, 6000, .inl mp4_37)), (ma5_26, .inl (md5_32, 6000, .inl mp5_38))]) (tr := [(ct_11, .byte), (ci_12, .boolean), (ce_13, .int), (mcT_27, .byte), (md1_28, .int), (md2_29, .int), (md3_30, .int), (md4_31, .int), (md5_32, .boolean)]) hf hw (b_tell l dC dI q_1 tp_2 sp_3 rd_8 tl_17 z_98 1 H.size htl_17) ka_X10_tell kv_X10_tell 0 rfl rfl k984 [0] [] [1, 2, 3, 4, 5, 6, 7, 8, 9, 10, 11, 12, 13, 14] [0, 1, 2, 3, 4, 5, 6, 7, 8] rfl rfl rfl rfl rfl (by decide) rfl rfl rfl hl.1 rfl rfl ⟨Nat.le_of_ble_eq_true rfl, Nat.le_of_ble_eq_true rfl⟩ (Nat.le_of_ble_eq_true rfl) (ce := 170) (sl := 571970) rfl rfl ⟨Nat.le_of_ble_eq_true rfl, Nat.le_of_ble_eq_true rfl⟩ dL_law_245 (fun r_115 u_116 hu_116 H locs hw => ?_)
          have hw : Wd dC dI (fun q : Nat => s.heap.size ≤ q) [(tp_2, .inl (ct_11, 3000, .inl (fun _ => 0))), (sp_3, .inr (4, .ref k_4 :: .int 0 :: .int (-1) :: .ref it_5 :: .ref en_6 :: .int 0 :: .int 0 :: tlP_15)), (k_4, .inr (3, .int (nI n_7) :: tkK_14)), (it_5, .inl (ci_12, 40, .inl (fun _ => 0))), (en_6, .inl (ce_13, 41, .inl (fun _ => 0))), (rd_8, .inr (5, .ref tk_9 :: .null :: .int 0 :: .int 0 :: .int (-1) :: .int 0 :: .int 0 :: tlR_16)), (tk_9, .inr (7, [.ref ut_10, .int 0, .int 0, .int 257, .int 0, .long 0, .int 0, .long 0])), (q_20, .inr (9, .int 0 :: .int 0 :: .int 0 :: .int 0 :: .int 0 :: .int 0 :: .int 0 :: .long 0 :: .int 0 :: .int 0 :: .int (-1) :: .int (-1) :: .int (nI mk_33) :: .int 0 :: .int 0 :: .int 0 :: .int 0 :: .int 0 :: .int 0 :: .int 0 :: .ref mat_21 :: .ref ma1_22 :: .ref ma2_23 :: .ref ma3_24 :: .ref ma4_25 :: .ref ma5_26 :: mtl_39)), (mat_21, .inl (mcT_27, 3000, .inl (fun _ => 0))), (ma1_22, .inl (md1_28, 6000, .inl mp1_34)), (ma2_23, .inl (md2_29, 6000, .inl mp2_35)), (ma3_24, .inl (md3_30, 6000, .inl mp3_36)), (ma4_25, .inl (md4_31, 6000, .inl mp4_37)), (ma5_26, .inl (md5_32, 6000, .inl mp5_38))] [(ct_11, .byte), (ci_12, .boolean), (ce_13, .int), (mcT_27, .byte), (md1_28, .int), (md2_29, .int), (md3_30, .int), (md4_31, .int), (md5_32, .boolean)] s H locs := hw
          obtain rfl := hu_116
          refine lv_aload_n hf.1 hf.2.1 dL_law_248 rfl (lv_at hl 1 rfl) ?_
          refine lv_aload_n hf.1 hf.2.1 dL_law_249 rfl (lv_at hl 3 rfl) ?_
          refine lv_iload_n hf.1 hf.2.1 dL_law_250 rfl (lv_at hl 0 rfl) ?_
          refine lv_iconst (v := 1) hf.1 hf.2.1 dL_law_251 (by decide) ?_
          refine lv_iadd hf.1 hf.2.1 dL_law_252 ?_
          refine lv_topi (fun x_117 ex_117 => ?_)
          obtain rfl : x_117 = 1 := by rw [ex_117]; decide
          refine va_sld hf.1 hf.2.1 hX hbl hbA hw.2.2.2.1 (by unfold vp_in; decide) dL_law_253 ?_
          refine lv_topi (fun z_118 ez_118 => ?_)
          obtain rfl : z_98 = z_118 := by rw [ez_98, ez_118]
          refine lv_aload_n hf.1 hf.2.1 dL_law_254 rfl (lv_at hl 3 rfl) ?_
          refine lv_iload_n hf.1 hf.2.1 dL_law_255 rfl (lv_at hl 0 rfl) ?_
          refine lv_iconst (v := 2) hf.1 hf.2.1 dL_law_256 (by decide) ?_
          refine lv_iadd hf.1 hf.2.1 dL_law_257 ?_
          refine lv_topi (fun x_119 ex_119 => ?_)
          obtain rfl : x_119 = 2 := by rw [ex_119]; decide
          refine va_sld hf.1 hf.2.1 hX hbl hbA hw.2.2.2.1 (by unfold vp_in; decide) dL_law_258 ?_
          refine lv_topi (fun z_120 ez_120 => ?_)
          obtain rfl : z_100 = z_120 := by rw [ez_100, ez_120]
          refine lv_if_eq (tgt := 266) hf.1 hf.2.1 dL_law_259 (by decide) (fun c_121 => ?_) (fun c_121 => ?_)
          · refine lv_iconst (v := 0) hf.1 hf.2.1 dL_law_266 (by decide) ?_
            refine mV_i (As := [.int z_98, .int 0]) (rest := [.int 0]) (wr := [(tp_2, .inl (ct_11, 3000, .inl (fun _ => 0))), (sp_3, .inr (4, .ref k_4 :: .int 0 :: .int (-1) :: .ref it_5 :: .ref en_6 :: .int 0 :: .int 0 :: tlP_15)), (k_4, .inr (3, .int (nI n_7) :: tkK_14)), (it_5, .inl (ci_12, 40, .inl (fun _ => 0))), (en_6, .inl (ce_13, 41, .inl (fun _ => 0))), (rd_8, .inr (5, .ref tk_9 :: .null :: .int 0 :: .int 0 :: .int (-1) :: .int 0 :: .int 0 :: tlR_16)), (tk_9, .inr (7, [.ref ut_10, .int 0, .int 0, .int 257, .int 0, .long 0, .int 0, .long 0])), (mat_21, .inl (mcT_27, 3000, .inl (fun _ => 0))), (ma1_22, .inl (md1_28, 6000, .inl mp1_34)), (ma2_23, .inl (md2_29, 6000, .inl mp2_35)), (ma3_24, .inl (md3_30, 6000, .inl mp3_36)), (ma4_25, .inl (md4_31, 6000, .inl mp4_37)), (ma5_26, .inl (md5_32, 6000, .inl mp5_38))]) (tr := [(ct_11, .byte), (ci_12, .boolean), (ce_13, .int), (mcT_27, .byte), (md1_28, .int), (md2_29, .int), (md3_30, .int), (md4_31, .int), (md5_32, .boolean)]) hf hw (m_tell l dC dI q_20 mtl_39 (.int 0) (.int 0) (.int 0) (.int 0) (.int 0) (.int 0) (.long 0) (.int 0) (.int 0) (.int (-1)) (.int (-1)) (.int (nI mk_33)) (.int 0) (.int 0) (.int 0) (.int 0) (.int 0) (.int 0) (.int 0) (.ref mat_21) (.ref ma1_22) (.ref ma2_23) (.ref ma3_24) (.ref ma4_25) (.ref ma5_26) z_98 0 H.size hmtl_39) ka_X11_tell kv_X11_tell 7 rfl rfl k2076 [7] [] [0, 1, 2, 3, 4, 5, 6, 8, 9, 10, 11, 12, 13] [0, 1, 2, 3, 4, 5, 6, 7, 8] rfl rfl rfl rfl rfl (by decide) rfl rfl rfl hl.1 rfl rfl ⟨Nat.le_of_ble_eq_true rfl, Nat.le_of_ble_eq_true rfl⟩ (Nat.le_of_ble_eq_true rfl) (ce := 170) (sl := 571970) rfl rfl ⟨Nat.le_of_ble_eq_true rfl, Nat.le_of_ble_eq_true rfl⟩ dL_law_267 (fun r_122 u_123 hu_123 H locs hw => ?_)
            have hw : Wd dC dI (fun q : Nat => s.heap.size ≤ q) [(tp_2, .inl (ct_11, 3000, .inl (fun _ => 0))), (sp_3, .inr (4, .ref k_4 :: .int 0 :: .int (-1) :: .ref it_5 :: .ref en_6 :: .int 0 :: .int 0 :: tlP_15)), (k_4, .inr (3, .int (nI n_7) :: tkK_14)), (it_5, .inl (ci_12, 40, .inl (fun _ => 0))), (en_6, .inl (ce_13, 41, .inl (fun _ => 0))), (rd_8, .inr (5, .ref tk_9 :: .null :: .int 0 :: .int 0 :: .int (-1) :: .int 0 :: .int 0 :: tlR_16)), (tk_9, .inr (7, [.ref ut_10, .int 0, .int 0, .int 257, .int 0, .long 0, .int 0, .long 0])), (mat_21, .inl (mcT_27, 3000, .inl (fun _ => 0))), (ma1_22, .inl (md1_28, 6000, .inl mp1_34)), (ma2_23, .inl (md2_29, 6000, .inl mp2_35)), (ma3_24, .inl (md3_30, 6000, .inl mp3_36)), (ma4_25, .inl (md4_31, 6000, .inl mp4_37)), (ma5_26, .inl (md5_32, 6000, .inl mp5_38))] [(ct_11, .byte), (ci_12, .boolean), (ce_13, .int), (mcT_27, .byte), (md1_28, .int), (md2_29, .int), (md3_30, .int), (md4_31, .int), (md5_32, .boolean)] s H locs := hw
            obtain rfl := hu_123
            refine lv_icmp_eq (tgt := 502) hf.1 hf.2.1 dL_law_270 (by decide) (fun c_124 => ?_) (fun c_124 => absurd (by decide) c_124)
            exact J502 _ _ _ hw.2.2.2.1 (lv_sub hl [0, 3] rfl)
          · refine lv_iconst (v := 1) hf.1 hf.2.1 dL_law_262 (by decide) ?_
            refine lv_goto (tgt := 267) hf.1 hf.2.1 dL_law_263 (by decide) ?_
            refine mV_i (As := [.int z_98, .int 1]) (rest := [.int 0]) (wr := [(tp_2, .inl (ct_11, 3000, .inl (fun _ => 0))), (sp_3, .inr (4, .ref k_4 :: .int 0 :: .int (-1) :: .ref it_5 :: .ref en_6 :: .int 0 :: .int 0 :: tlP_15)), (k_4, .inr (3, .int (nI n_7) :: tkK_14)), (it_5, .inl (ci_12, 40, .inl (fun _ => 0))), (en_6, .inl (ce_13, 41, .inl (fun _ => 0))), (rd_8, .inr (5, .ref tk_9 :: .null :: .int 0 :: .int 0 :: .int (-1) :: .int 0 :: .int 0 :: tlR_16)), (tk_9, .inr (7, [.ref ut_10, .int 0, .int 0, .int 257, .int 0, .long 0, .int 0, .long 0])), (mat_21, .inl (mcT_27, 3000, .inl (fun _ => 0))), (ma1_22, .inl (md1_28, 6000, .inl mp1_34)), (ma2_23, .inl (md2_29, 6000, .inl mp2_35)), (ma3_24, .inl (md3_30, 6000, .inl mp3_36)), (ma4_25, .inl (md4_31, 6000, .inl mp4_37)), (ma5_26, .inl (md5_32, 6000, .inl mp5_38))]) (tr := [(ct_11, .byte), (ci_12, .boolean), (ce_13, .int), (mcT_27, .byte), (md1_28, .int), (md2_29, .int), (md3_30, .int), (md4_31, .int), (md5_32, .boolean)]) hf hw (m_tell l dC dI q_20 mtl_39 (.int 0) (.int 0) (.int 0) (.int 0) (.int 0) (.int 0) (.long 0) (.int 0) (.int 0) (.int (-1)) (.int (-1)) (.int (nI mk_33)) (.int 0) (.int 0) (.int 0) (.int 0) (.int 0) (.int 0) (.int 0) (.ref mat_21) (.ref ma1_22) (.ref ma2_23) (.ref ma3_24) (.ref ma4_25) (.ref ma5_26) z_98 1 H.size hmtl_39) ka_X11_tell kv_X11_tell 7 rfl rfl k2076 [7] [] [0, 1, 2, 3, 4, 5, 6, 8, 9, 10, 11, 12, 13] [0, 1, 2, 3, 4, 5, 6, 7, 8] rfl rfl rfl rfl rfl (by decide) rfl rfl rfl hl.1 rfl rfl ⟨Nat.le_of_ble_eq_true rfl, Nat.le_of_ble_eq_true rfl⟩ (Nat.le_of_ble_eq_true rfl) (ce := 170) (sl := 571970) rfl rfl ⟨Nat.le_of_ble_eq_true rfl, Nat.le_of_ble_eq_true rfl⟩ dL_law_267 (fun r_125 u_126 hu_126 H locs hw => ?_)
            have hw : Wd dC dI (fun q : Nat => s.heap.size ≤ q) [(tp_2, .inl (ct_11, 3000, .inl (fun _ => 0))), (sp_3, .inr (4, .ref k_4 :: .int 0 :: .int (-1) :: .ref it_5 :: .ref en_6 :: .int 0 :: .int 0 :: tlP_15)), (k_4, .inr (3, .int (nI n_7) :: tkK_14)), (it_5, .inl (ci_12, 40, .inl (fun _ => 0))), (en_6, .inl (ce_13, 41, .inl (fun _ => 0))), (rd_8, .inr (5, .ref tk_9 :: .null :: .int 0 :: .int 0 :: .int (-1) :: .int 0 :: .int 0 :: tlR_16)), (tk_9, .inr (7, [.ref ut_10, .int 0, .int 0, .int 257, .int 0, .long 0, .int 0, .long 0])), (mat_21, .inl (mcT_27, 3000, .inl (fun _ => 0))), (ma1_22, .inl (md1_28, 6000, .inl mp1_34)), (ma2_23, .inl (md2_29, 6000, .inl mp2_35)), (ma3_24, .inl (md3_30, 6000, .inl mp3_36)), (ma4_25, .inl (md4_31, 6000, .inl mp4_37)), (ma5_26, .inl (md5_32, 6000, .inl mp5_38))] [(ct_11, .byte), (ci_12, .boolean), (ce_13, .int), (mcT_27, .byte), (md1_28, .int), (md2_29, .int), (md3_30, .int), (md4_31, .int), (md5_32, .boolean)] s H locs := hw
            obtain rfl := hu_126
            refine lv_icmp_eq (tgt := 502) hf.1 hf.2.1 dL_law_270 (by decide) (fun c_127 => ?_) (fun c_127 => absurd (by decide) c_127)
            exact J502 _ _ _ hw.2.2.2.1 (lv_sub hl [0, 3] rfl)
      · subst eks
        refine lv_tableIn (tgt := 275) hf.1 hf.2.1 dL_law_33 (by decide) (by decide) rfl (by decide) ?_
        refine lv_aload_n hf.1 hf.2.1 dL_law_275 rfl (lv_at hl 2 rfl) ?_
        refine mV_i (As := []) (rest := []) (wr := [(tp_2, .inl (ct_11, 3000, .inl (fun _ => 0))), (sp_3, .inr (4, .ref k_4 :: .int 0 :: .int (-1) :: .ref it_5 :: .ref en_6 :: .int 0 :: .int 0 :: tlP_15)), (k_4, .inr (3, .int (nI n_7) :: tkK_14)), (it_5, .inl (ci_12, 40, .inl (fun _ => 0))), (en_6, .inl (ce_13, 41, .inl (fun _ => 0))), (rd_8, .inr (5, .ref tk_9 :: .null :: .int 0 :: .int 0 :: .int (-1) :: .int 0 :: .int 0 :: tlR_16)), (tk_9, .inr (7, [.ref ut_10, .int 0, .int 0, .int 257, .int 0, .long 0, .int 0, .long 0])), (q_20, .inr (9, .int 0 :: .int 0 :: .int 0 :: .int 0 :: .int 0 :: .int 0 :: .int 0 :: .long 0 :: .int 0 :: .int 0 :: .int (-1) :: .int (-1) :: .int (nI mk_33) :: .int 0 :: .int 0 :: .int 0 :: .int 0 :: .int 0 :: .int 0 :: .int 0 :: .ref mat_21 :: .ref ma1_22 :: .ref ma2_23 :: .ref ma3_24 :: .ref ma4_25 :: .ref ma5_26 :: mtl_39)), (mat_21, .inl (mcT_27, 3000, .inl (fun _ => 0))), (ma1_22, .inl (md1_28, 6000, .inl mp1_34)), (ma2_23, .inl (md2_29, 6000, .inl mp2_35)), (ma3_24, .inl (md3_30, 6000, .inl mp3_36)), (ma4_25, .inl (md4_31, 6000, .inl mp4_37)), (ma5_26, .inl (md5_32, 6000, .inl mp5_38))]) (tr := [(ct_11, .byte), (ci_12, .boolean), (ce_13, .int), (mcT_27, .byte), (md1_28, .int), (md2_29, .int), (md3_30, .int), (md4_31, .int), (md5_32, .boolean)]) hf hw (b_judge l dC dI q_1 tp_2 sp_3 rd_8 tl_17 H.size htl_17) ka_X10_judge kv_X10_judge 0 rfl rfl k992 [0] [] [1, 2, 3, 4, 5, 6, 7, 8, 9, 10, 11, 12, 13, 14] [0, 1, 2, 3, 4, 5, 6, 7, 8] rfl rfl rfl rfl rfl (by decide) rfl rfl rfl hl.1 rfl rfl ⟨Nat.le_of_ble_eq_true rfl, Nat.le_of_ble_eq_true rfl⟩ (Nat.le_of_ble_eq_true rfl) (ce := 170) (sl := 571970) rfl rfl ⟨Nat.le_of_ble_eq_true rfl, Nat.le_of_ble_eq_true rfl⟩ dL_law_276 (fun r_128 u_129 hu_129 H locs hw => ?_)
        have hw : Wd dC dI (fun q : Nat => s.heap.size ≤ q) [(tp_2, .inl (ct_11, 3000, .inl (fun _ => 0))), (sp_3, .inr (4, .ref k_4 :: .int 0 :: .int (-1) :: .ref it_5 :: .ref en_6 :: .int 0 :: .int 0 :: tlP_15)), (k_4, .inr (3, .int (nI n_7) :: tkK_14)), (it_5, .inl (ci_12, 40, .inl (fun _ => 0))), (en_6, .inl (ce_13, 41, .inl (fun _ => 0))), (rd_8, .inr (5, .ref tk_9 :: .null :: .int 0 :: .int 0 :: .int (-1) :: .int 0 :: .int 0 :: tlR_16)), (tk_9, .inr (7, [.ref ut_10, .int 0, .int 0, .int 257, .int 0, .long 0, .int 0, .long 0])), (q_20, .inr (9, .int 0 :: .int 0 :: .int 0 :: .int 0 :: .int 0 :: .int 0 :: .int 0 :: .long 0 :: .int 0 :: .int 0 :: .int (-1) :: .int (-1) :: .int (nI mk_33) :: .int 0 :: .int 0 :: .int 0 :: .int 0 :: .int 0 :: .int 0 :: .int 0 :: .ref mat_21 :: .ref ma1_22 :: .ref ma2_23 :: .ref ma3_24 :: .ref ma4_25 :: .ref ma5_26 :: mtl_39)), (mat_21, .inl (mcT_27, 3000, .inl (fun _ => 0))), (ma1_22, .inl (md1_28, 6000, .inl mp1_34)), (ma2_23, .inl (md2_29, 6000, .inl mp2_35)), (ma3_24, .inl (md3_30, 6000, .inl mp3_36)), (ma4_25, .inl (md4_31, 6000, .inl mp4_37)), (ma5_26, .inl (md5_32, 6000, .inl mp5_38))] [(ct_11, .byte), (ci_12, .boolean), (ce_13, .int), (mcT_27, .byte), (md1_28, .int), (md2_29, .int), (md3_30, .int), (md4_31, .int), (md5_32, .boolean)] s H locs := hw
        obtain rfl := hu_129
        refine lv_aload_n hf.1 hf.2.1 dL_law_279 rfl (lv_at hl 1 rfl) ?_
        refine mV_i (As := []) (rest := [.int (-1)]) (wr := [(tp_2, .inl (ct_11, 3000, .inl (fun _ => 0))), (sp_3, .inr (4, .ref k_4 :: .int 0 :: .int (-1) :: .ref it_5 :: .ref en_6 :: .int 0 :: .int 0 :: tlP_15)), (k_4, .inr (3, .int (nI n_7) :: tkK_14)), (it_5, .inl (ci_12, 40, .inl (fun _ => 0))), (en_6, .inl (ce_13, 41, .inl (fun _ => 0))), (rd_8, .inr (5, .ref tk_9 :: .null :: .int 0 :: .int 0 :: .int (-1) :: .int 0 :: .int 0 :: tlR_16)), (tk_9, .inr (7, [.ref ut_10, .int 0, .int 0, .int 257, .int 0, .long 0, .int 0, .long 0])), (mat_21, .inl (mcT_27, 3000, .inl (fun _ => 0))), (ma1_22, .inl (md1_28, 6000, .inl mp1_34)), (ma2_23, .inl (md2_29, 6000, .inl mp2_35)), (ma3_24, .inl (md3_30, 6000, .inl mp3_36)), (ma4_25, .inl (md4_31, 6000, .inl mp4_37)), (ma5_26, .inl (md5_32, 6000, .inl mp5_38))]) (tr := [(ct_11, .byte), (ci_12, .boolean), (ce_13, .int), (mcT_27, .byte), (md1_28, .int), (md2_29, .int), (md3_30, .int), (md4_31, .int), (md5_32, .boolean)]) hf hw (m_judge l dC dI q_20 mtl_39 (.int 0) (.int 0) (.int 0) (.int 0) (.int 0) (.int 0) (.long 0) (.int 0) (.int 0) (.int (-1)) (.int (-1)) (.int (nI mk_33)) (.int 0) (.int 0) (.int 0) (.int 0) (.int 0) (.int 0) (.int 0) (.ref mat_21) (.ref ma1_22) (.ref ma2_23) (.ref ma3_24) (.ref ma4_25) (.ref ma5_26) H.size hmtl_39) ka_X11_judge kv_X11_judge 7 rfl rfl k2080 [7] [] [0, 1, 2, 3, 4, 5, 6, 8, 9, 10, 11, 12, 13] [0, 1, 2, 3, 4, 5, 6, 7, 8] rfl rfl rfl rfl rfl (by decide) rfl rfl rfl hl.1 rfl rfl ⟨Nat.le_of_ble_eq_true rfl, Nat.le_of_ble_eq_true rfl⟩ (Nat.le_of_ble_eq_true rfl) (ce := 170) (sl := 571970) rfl rfl ⟨Nat.le_of_ble_eq_true rfl, Nat.le_of_ble_eq_true rfl⟩ dL_law_280 (fun r_130 u_131 hu_131 H locs hw => ?_)
        have hw : Wd dC dI (fun q : Nat => s.heap.size ≤ q) [(tp_2, .inl (ct_11, 3000, .inl (fun _ => 0))), (sp_3, .inr (4, .ref k_4 :: .int 0 :: .int (-1) :: .ref it_5 :: .ref en_6 :: .int 0 :: .int 0 :: tlP_15)), (k_4, .inr (3, .int (nI n_7) :: tkK_14)), (it_5, .inl (ci_12, 40, .inl (fun _ => 0))), (en_6, .inl (ce_13, 41, .inl (fun _ => 0))), (rd_8, .inr (5, .ref tk_9 :: .null :: .int 0 :: .int 0 :: .int (-1) :: .int 0 :: .int 0 :: tlR_16)), (tk_9, .inr (7, [.ref ut_10, .int 0, .int 0, .int 257, .int 0, .long 0, .int 0, .long 0])), (mat_21, .inl (mcT_27, 3000, .inl (fun _ => 0))), (ma1_22, .inl (md1_28, 6000, .inl mp1_34)), (ma2_23, .inl (md2_29, 6000, .inl mp2_35)), (ma3_24, .inl (md3_30, 6000, .inl mp3_36)), (ma4_25, .inl (md4_31, 6000, .inl mp4_37)), (ma5_26, .inl (md5_32, 6000, .inl mp5_38))] [(ct_11, .byte), (ci_12, .boolean), (ce_13, .int), (mcT_27, .byte), (md1_28, .int), (md2_29, .int), (md3_30, .int), (md4_31, .int), (md5_32, .boolean)] s H locs := hw
        obtain rfl := hu_131
        refine lv_icmp_eq (tgt := 502) hf.1 hf.2.1 dL_law_283 (by decide) (fun c_132 => ?_) (fun c_132 => absurd (by decide) c_132)
        exact J502 _ _ _ hw.2.2.2.1 (lv_sub hl [0, 3] rfl)
      · subst eks
        refine lv_tableIn (tgt := 288) hf.1 hf.2.1 dL_law_33 (by decide) (by decide) rfl (by decide) ?_
        refine lv_aload_n hf.1 hf.2.1 dL_law_288 rfl (lv_at hl 2 rfl) ?_
        refine lv_aload_n hf.1 hf.2.1 dL_law_289 rfl (lv_at hl 3 rfl) ?_
        refine lv_iload_n hf.1 hf.2.1 dL_law_290 rfl (lv_at hl 0 rfl) ?_
        refine lv_iconst (v := 1) hf.1 hf.2.1 dL_law_291 (by decide) ?_
        refine lv_iadd hf.1 hf.2.1 dL_law_292 ?_
        refine lv_topi (fun x_133 ex_133 => ?_)
        obtain rfl : x_133 = 1 := by rw [ex_133]; decide
        refine va_sld hf.1 hf.2.1 hX hbl hbA hw.2.2.2.1 (by unfold vp_in; decide) dL_law_293 ?_
        refine lv_topi (fun z_134 ez_134 => ?_)
        refine lv_aload_n hf.1 hf.2.1 dL_law_294 rfl (lv_at hl 3 rfl) ?_
        refine lv_iload_n hf.1 hf.2.1 dL_law_295 rfl (lv_at hl 0 rfl) ?_
        refine lv_iconst (v := 2) hf.1 hf.2.1 dL_law_296 (by decide) ?_
        refine lv_iadd hf.1 hf.2.1 dL_law_297 ?_
        refine lv_topi (fun x_135 ex_135 => ?_)
        obtain rfl : x_135 = 2 := by rw [ex_135]; decide
        refine va_sld hf.1 hf.2.1 hX hbl hbA hw.2.2.2.1 (by unfold vp_in; decide) dL_law_298 ?_
        refine lv_topi (fun z_136 ez_136 => ?_)
        refine mV_i (As := [.int z_134, .int z_136]) (rest := []) (wr := [(tp_2, .inl (ct_11, 3000, .inl (fun _ => 0))), (sp_3, .inr (4, .ref k_4 :: .int 0 :: .int (-1) :: .ref it_5 :: .ref en_6 :: .int 0 :: .int 0 :: tlP_15)), (k_4, .inr (3, .int (nI n_7) :: tkK_14)), (it_5, .inl (ci_12, 40, .inl (fun _ => 0))), (en_6, .inl (ce_13, 41, .inl (fun _ => 0))), (rd_8, .inr (5, .ref tk_9 :: .null :: .int 0 :: .int 0 :: .int (-1) :: .int 0 :: .int 0 :: tlR_16)), (tk_9, .inr (7, [.ref ut_10, .int 0, .int 0, .int 257, .int 0, .long 0, .int 0, .long 0])), (q_20, .inr (9, .int 0 :: .int 0 :: .int 0 :: .int 0 :: .int 0 :: .int 0 :: .int 0 :: .long 0 :: .int 0 :: .int 0 :: .int (-1) :: .int (-1) :: .int (nI mk_33) :: .int 0 :: .int 0 :: .int 0 :: .int 0 :: .int 0 :: .int 0 :: .int 0 :: .ref mat_21 :: .ref ma1_22 :: .ref ma2_23 :: .ref ma3_24 :: .ref ma4_25 :: .ref ma5_26 :: mtl_39)), (mat_21, .inl (mcT_27, 3000, .inl (fun _ => 0))), (ma1_22, .inl (md1_28, 6000, .inl mp1_34)), (ma2_23, .inl (md2_29, 6000, .inl mp2_35)), (ma3_24, .inl (md3_30, 6000, .inl mp3_36)), (ma4_25, .inl (md4_31, 6000, .inl mp4_37)), (ma5_26, .inl (md5_32, 6000, .inl mp5_38))]) (tr := [(ct_11, .byte), (ci_12, .boolean), (ce_13, .int), (mcT_27, .byte), (md1_28, .int), (md2_29, .int), (md3_30, .int), (md4_31, .int), (md5_32, .boolean)]) hf hw (b_guard l dC dI q_1 tp_2 sp_3 rd_8 tl_17 z_134 z_136 H.size htl_17) ka_X10_guard kv_X10_guard 0 rfl rfl k1112 [0] [] [1, 2, 3, 4, 5, 6, 7, 8, 9, 10, 11, 12, 13, 14] [0, 1, 2, 3, 4, 5, 6, 7, 8] rfl rfl rfl rfl rfl (by decide) rfl rfl rfl hl.1 rfl rfl ⟨Nat.le_of_ble_eq_true rfl, Nat.le_of_ble_eq_true rfl⟩ (Nat.le_of_ble_eq_true rfl) (ce := 170) (sl := 571970) rfl rfl ⟨Nat.le_of_ble_eq_true rfl, Nat.le_of_ble_eq_true rfl⟩ dL_law_299 (fun r_137 u_138 hu_138 H locs hw => ?_)
        have hw : Wd dC dI (fun q : Nat => s.heap.size ≤ q) [(tp_2, .inl (ct_11, 3000, .inl (fun _ => 0))), (sp_3, .inr (4, .ref k_4 :: .int 0 :: .int (-1) :: .ref it_5 :: .ref en_6 :: .int 0 :: .int 0 :: tlP_15)), (k_4, .inr (3, .int (nI n_7) :: tkK_14)), (it_5, .inl (ci_12, 40, .inl (fun _ => 0))), (en_6, .inl (ce_13, 41, .inl (fun _ => 0))), (rd_8, .inr (5, .ref tk_9 :: .null :: .int 0 :: .int 0 :: .int (-1) :: .int 0 :: .int 0 :: tlR_16)), (tk_9, .inr (7, [.ref ut_10, .int 0, .int 0, .int 257, .int 0, .long 0, .int 0, .long 0])), (q_20, .inr (9, .int 0 :: .int 0 :: .int 0 :: .int 0 :: .int 0 :: .int 0 :: .int 0 :: .long 0 :: .int 0 :: .int 0 :: .int (-1) :: .int (-1) :: .int (nI mk_33) :: .int 0 :: .int 0 :: .int 0 :: .int 0 :: .int 0 :: .int 0 :: .int 0 :: .ref mat_21 :: .ref ma1_22 :: .ref ma2_23 :: .ref ma3_24 :: .ref ma4_25 :: .ref ma5_26 :: mtl_39)), (mat_21, .inl (mcT_27, 3000, .inl (fun _ => 0))), (ma1_22, .inl (md1_28, 6000, .inl mp1_34)), (ma2_23, .inl (md2_29, 6000, .inl mp2_35)), (ma3_24, .inl (md3_30, 6000, .inl mp3_36)), (ma4_25, .inl (md4_31, 6000, .inl mp4_37)), (ma5_26, .inl (md5_32, 6000, .inl mp5_38))] [(ct_11, .byte), (ci_12, .boolean), (ce_13, .int), (mcT_27, .byte), (md1_28, .int), (md2_29, .int), (md3_30, .int), (md4_31, .int), (md5_32, .boolean)] s H locs := hw
        obtain rfl := hu_138
        refine lv_aload_n hf.1 hf.2.1 dL_law_302 rfl (lv_at hl 1 rfl) ?_
        refine lv_aload_n hf.1 hf.2.1 dL_law_303 rfl (lv_at hl 3 rfl) ?_
        refine lv_iload_n hf.1 hf.2.1 dL_law_304 rfl (lv_at hl 0 rfl) ?_
        refine lv_iconst (v := 1) hf.1 hf.2.1 dL_law_305 (by decide) ?_
        refine lv_iadd hf.1 hf.2.1 dL_law_306 ?_
        refine lv_topi (fun x_139 ex_139 => ?_)
        obtain rfl : x_139 = 1 := by rw [ex_139]; decide
        refine va_sld hf.1 hf.2.1 hX hbl hbA hw.2.2.2.1 (by unfold vp_in; decide) dL_law_307 ?_
        refine lv_topi (fun z_140 ez_140 => ?_)
        obtain rfl : z_134 = z_140 := by rw [ez_134, ez_140]
        refine lv_aload_n hf.1 hf.2.1 dL_law_308 rfl (lv_at hl 3 rfl) ?_
        refine lv_iload_n hf.1 hf.2.1 dL_law_309 rfl (lv_at hl 0 rfl) ?_
        refine lv_iconst (v := 2) hf.1 hf.2.1 dL_law_310 (by decide) ?_
        refine lv_iadd hf.1 hf.2.1 dL_law_311 ?_
        refine lv_topi (fun x_141 ex_141 => ?_)
        obtain rfl : x_141 = 2 := by rw [ex_141]; decide
        refine va_sld hf.1 hf.2.1 hX hbl hbA hw.2.2.2.1 (by unfold vp_in; decide) dL_law_312 ?_
        refine lv_topi (fun z_142 ez_142 => ?_)
        obtain rfl : z_136 = z_142 := by rw [ez_136, ez_142]
        refine mV_i (As := [.int z_134, .int z_136]) (rest := [.int (-1)]) (wr := [(tp_2, .inl (ct_11, 3000, .inl (fun _ => 0))), (sp_3, .inr (4, .ref k_4 :: .int 0 :: .int (-1) :: .ref it_5 :: .ref en_6 :: .int 0 :: .int 0 :: tlP_15)), (k_4, .inr (3, .int (nI n_7) :: tkK_14)), (it_5, .inl (ci_12, 40, .inl (fun _ => 0))), (en_6, .inl (ce_13, 41, .inl (fun _ => 0))), (rd_8, .inr (5, .ref tk_9 :: .null :: .int 0 :: .int 0 :: .int (-1) :: .int 0 :: .int 0 :: tlR_16)), (tk_9, .inr (7, [.ref ut_10, .int 0, .int 0, .int 257, .int 0, .long 0, .int 0, .long 0])), (mat_21, .inl (mcT_27, 3000, .inl (fun _ => 0))), (ma1_22, .inl (md1_28, 6000, .inl mp1_34)), (ma2_23, .inl (md2_29, 6000, .inl mp2_35)), (ma3_24, .inl (md3_30, 6000, .inl mp3_36)), (ma4_25, .inl (md4_31, 6000, .inl mp4_37)), (ma5_26, .inl (md5_32, 6000, .inl mp5_38))]) (tr := [(ct_11, .byte), (ci_12, .boolean), (ce_13, .int), (mcT_27, .byte), (md1_28, .int), (md2_29, .int), (md3_30, .int), (md4_31, .int), (md5_32, .boolean)]) hf hw (m_guard l dC dI q_20 mtl_39 (.int 0) (.int 0) (.int 0) (.int 0) (.int 0) (.int 0) (.long 0) (.int 0) (.int 0) (.int (-1)) (.int (-1)) (.int (nI mk_33)) (.int 0) (.int 0) (.int 0) (.int 0) (.int 0) (.int 0) (.int 0) (.ref mat_21) (.ref ma1_22) (.ref ma2_23) (.ref ma3_24) (.ref ma4_25) (.ref ma5_26) z_134 z_136 H.size hmtl_39) ka_X11_guard kv_X11_guard 7 rfl rfl k2084 [7] [] [0, 1, 2, 3, 4, 5, 6, 8, 9, 10, 11, 12, 13] [0, 1, 2, 3, 4, 5, 6, 7, 8] rfl rfl rfl rfl rfl (by decide) rfl rfl rfl hl.1 rfl rfl ⟨Nat.le_of_ble_eq_true rfl, Nat.le_of_ble_eq_true rfl⟩ (Nat.le_of_ble_eq_true rfl) (ce := 170) (sl := 571970) rfl rfl ⟨Nat.le_of_ble_eq_true rfl, Nat.le_of_ble_eq_true rfl⟩ dL_law_313 (fun r_143 u_144 hu_144 H locs hw => ?_)
        have hw : Wd dC dI (fun q : Nat => s.heap.size ≤ q) [(tp_2, .inl (ct_11, 3000, .inl (fun _ => 0))), (sp_3, .inr (4, .ref k_4 :: .int 0 :: .int (-1) :: .ref it_5 :: .ref en_6 :: .int 0 :: .int 0 :: tlP_15)), (k_4, .inr (3, .int (nI n_7) :: tkK_14)), (it_5, .inl (ci_12, 40, .inl (fun _ => 0))), (en_6, .inl (ce_13, 41, .inl (fun _ => 0))), (rd_8, .inr (5, .ref tk_9 :: .null :: .int 0 :: .int 0 :: .int (-1) :: .int 0 :: .int 0 :: tlR_16)), (tk_9, .inr (7, [.ref ut_10, .int 0, .int 0, .int 257, .int 0, .long 0, .int 0, .long 0])), (mat_21, .inl (mcT_27, 3000, .inl (fun _ => 0))), (ma1_22, .inl (md1_28, 6000, .inl mp1_34)), (ma2_23, .inl (md2_29, 6000, .inl mp2_35)), (ma3_24, .inl (md3_30, 6000, .inl mp3_36)), (ma4_25, .inl (md4_31, 6000, .inl mp4_37)), (ma5_26, .inl (md5_32, 6000, .inl mp5_38))] [(ct_11, .byte), (ci_12, .boolean), (ce_13, .int), (mcT_27, .byte), (md1_28, .int), (md2_29, .int), (md3_30, .int), (md4_31, .int), (md5_32, .boolean)] s H locs := hw
        obtain rfl := hu_144
        refine lv_icmp_eq (tgt := 502) hf.1 hf.2.1 dL_law_316 (by decide) (fun c_145 => ?_) (fun c_145 => absurd (by decide) c_145)
        exact J502 _ _ _ hw.2.2.2.1 (lv_sub hl [0, 3] rfl)
      · subst eks
        refine lv_tableIn (tgt := 321) hf.1 hf.2.1 dL_law_33 (by decide) (by decide) rfl (by decide) ?_
        refine lv_aload_n hf.1 hf.2.1 dL_law_321 rfl (lv_at hl 2 rfl) ?_
        refine lv_aload_n hf.1 hf.2.1 dL_law_322 rfl (lv_at hl 3 rfl) ?_
        refine lv_iload_n hf.1 hf.2.1 dL_law_323 rfl (lv_at hl 0 rfl) ?_
        refine lv_iconst (v := 1) hf.1 hf.2.1 dL_law_324 (by decide) ?_
        refine lv_iadd hf.1 hf.2.1 dL_law_325 ?_
        refine lv_topi (fun x_146 ex_146 => ?_)
        obtain rfl : x_146 = 1 := by rw [ex_146]; decide
        refine va_sld hf.1 hf.2.1 hX hbl hbA hw.2.2.2.1 (by unfold vp_in; decide) dL_law_326 ?_
        refine lv_topi (fun z_147 ez_147 => ?_)
        refine lv_aload_n hf.1 hf.2.1 dL_law_327 rfl (lv_at hl 3 rfl) ?_
        refine lv_iload_n hf.1 hf.2.1 dL_law_328 rfl (lv_at hl 0 rfl) ?_
        refine lv_iconst (v := 2) hf.1 hf.2.1 dL_law_329 (by decide) ?_
        refine lv_iadd hf.1 hf.2.1 dL_law_330 ?_
        refine lv_topi (fun x_148 ex_148 => ?_)
        obtain rfl : x_148 = 2 := by rw [ex_148]; decide
        refine va_sld hf.1 hf.2.1 hX hbl hbA hw.2.2.2.1 (by unfold vp_in; decide) dL_law_331 ?_
        refine lv_topi (fun z_149 ez_149 => ?_)
        refine mV_i (As := [.int z_147, .int z_149]) (rest := []) (wr := [(tp_2, .inl (ct_11, 3000, .inl (fun _ => 0))), (sp_3, .inr (4, .ref k_4 :: .int 0 :: .int (-1) :: .ref it_5 :: .ref en_6 :: .int 0 :: .int 0 :: tlP_15)), (k_4, .inr (3, .int (nI n_7) :: tkK_14)), (it_5, .inl (ci_12, 40, .inl (fun _ => 0))), (en_6, .inl (ce_13, 41, .inl (fun _ => 0))), (rd_8, .inr (5, .ref tk_9 :: .null :: .int 0 :: .int 0 :: .int (-1) :: .int 0 :: .int 0 :: tlR_16)), (tk_9, .inr (7, [.ref ut_10, .int 0, .int 0, .int 257, .int 0, .long 0, .int 0, .long 0])), (q_20, .inr (9, .int 0 :: .int 0 :: .int 0 :: .int 0 :: .int 0 :: .int 0 :: .int 0 :: .long 0 :: .int 0 :: .int 0 :: .int (-1) :: .int (-1) :: .int (nI mk_33) :: .int 0 :: .int 0 :: .int 0 :: .int 0 :: .int 0 :: .int 0 :: .int 0 :: .ref mat_21 :: .ref ma1_22 :: .ref ma2_23 :: .ref ma3_24 :: .ref ma4_25 :: .ref ma5_26 :: mtl_39)), (mat_21, .inl (mcT_27, 3000, .inl (fun _ => 0))), (ma1_22, .inl (md1_28, 6000, .inl mp1_34)), (ma2_23, .inl (md2_29, 6000, .inl mp2_35)), (ma3_24, .inl (md3_30, 6000, .inl mp3_36)), (ma4_25, .inl (md4_31, 6000, .inl mp4_37)), (ma5_26, .inl (md5_32, 6000, .inl mp5_38))]) (tr := [(ct_11, .byte), (ci_12, .boolean), (ce_13, .int), (mcT_27, .byte), (md1_28, .int), (md2_29, .int), (md3_30, .int), (md4_31, .int), (md5_32, .boolean)]) hf hw (b_part l dC dI q_1 tp_2 sp_3 rd_8 tl_17 z_147 z_149 H.size htl_17) ka_X10_part kv_X10_part 0 rfl rfl k1117 [0] [] [1, 2, 3, 4, 5, 6, 7, 8, 9, 10, 11, 12, 13, 14] [0, 1, 2, 3, 4, 5, 6, 7, 8] rfl rfl rfl rfl rfl (by decide) rfl rfl rfl hl.1 rfl rfl ⟨Nat.le_of_ble_eq_true rfl, Nat.le_of_ble_eq_true rfl⟩ (Nat.le_of_ble_eq_true rfl) (ce := 170) (sl := 571970) rfl rfl ⟨Nat.le_of_ble_eq_true rfl, Nat.le_of_ble_eq_true rfl⟩ dL_law_332 (fun r_150 u_151 hu_151 H locs hw => ?_)
        have hw : Wd dC dI (fun q : Nat => s.heap.size ≤ q) [(tp_2, .inl (ct_11, 3000, .inl (fun _ => 0))), (sp_3, .inr (4, .ref k_4 :: .int 0 :: .int (-1) :: .ref it_5 :: .ref en_6 :: .int 0 :: .int 0 :: tlP_15)), (k_4, .inr (3, .int (nI n_7) :: tkK_14)), (it_5, .inl (ci_12, 40, .inl (fun _ => 0))), (en_6, .inl (ce_13, 41, .inl (fun _ => 0))), (rd_8, .inr (5, .ref tk_9 :: .null :: .int 0 :: .int 0 :: .int (-1) :: .int 0 :: .int 0 :: tlR_16)), (tk_9, .inr (7, [.ref ut_10, .int 0, .int 0, .int 257, .int 0, .long 0, .int 0, .long 0])), (q_20, .inr (9, .int 0 :: .int 0 :: .int 0 :: .int 0 :: .int 0 :: .int 0 :: .int 0 :: .long 0 :: .int 0 :: .int 0 :: .int (-1) :: .int (-1) :: .int (nI mk_33) :: .int 0 :: .int 0 :: .int 0 :: .int 0 :: .int 0 :: .int 0 :: .int 0 :: .ref mat_21 :: .ref ma1_22 :: .ref ma2_23 :: .ref ma3_24 :: .ref ma4_25 :: .ref ma5_26 :: mtl_39)), (mat_21, .inl (mcT_27, 3000, .inl (fun _ => 0))), (ma1_22, .inl (md1_28, 6000, .inl mp1_34)), (ma2_23, .inl (md2_29, 6000, .inl mp2_35)), (ma3_24, .inl (md3_30, 6000, .inl mp3_36)), (ma4_25, .inl (md4_31, 6000, .inl mp4_37)), (ma5_26, .inl (md5_32, 6000, .inl mp5_38))] [(ct_11, .byte), (ci_12, .boolean), (ce_13, .int), (mcT_27, .byte), (md1_28, .int), (md2_29, .int), (md3_30, .int), (md4_31, .int), (md5_32, .boolean)] s H locs := hw
        obtain rfl := hu_151
        refine lv_aload_n hf.1 hf.2.1 dL_law_335 rfl (lv_at hl 1 rfl) ?_
        refine lv_aload_n hf.1 hf.2.1 dL_law_336 rfl (lv_at hl 3 rfl) ?_
        refine lv_iload_n hf.1 hf.2.1 dL_law_337 rfl (lv_at hl 0 rfl) ?_
        refine lv_iconst (v := 1) hf.1 hf.2.1 dL_law_338 (by decide) ?_
        refine lv_iadd hf.1 hf.2.1 dL_law_339 ?_
        refine lv_topi (fun x_152 ex_152 => ?_)
        obtain rfl : x_152 = 1 := by rw [ex_152]; decide
        refine va_sld hf.1 hf.2.1 hX hbl hbA hw.2.2.2.1 (by unfold vp_in; decide) dL_law_340 ?_
        refine lv_topi (fun z_153 ez_153 => ?_)
        obtain rfl : z_147 = z_153 := by rw [ez_147, ez_153]
        refine lv_aload_n hf.1 hf.2.1 dL_law_341 rfl (lv_at hl 3 rfl) ?_
        refine lv_iload_n hf.1 hf.2.1 dL_law_342 rfl (lv_at hl 0 rfl) ?_
        refine lv_iconst (v := 2) hf.1 hf.2.1 dL_law_343 (by decide) ?_
        refine lv_iadd hf.1 hf.2.1 dL_law_344 ?_
        refine lv_topi (fun x_154 ex_154 => ?_)
        obtain rfl : x_154 = 2 := by rw [ex_154]; decide
        refine va_sld hf.1 hf.2.1 hX hbl hbA hw.2.2.2.1 (by unfold vp_in; decide) dL_law_345 ?_
        refine lv_topi (fun z_155 ez_155 => ?_)
        obtain rfl : z_149 = z_155 := by rw [ez_149, ez_155]
        refine mV_i (As := [.int z_147, .int z_149]) (rest := [.int (-1)]) (wr := [(tp_2, .inl (ct_11, 3000, .inl (fun _ => 0))), (sp_3, .inr (4, .ref k_4 :: .int 0 :: .int (-1) :: .ref it_5 :: .ref en_6 :: .int 0 :: .int 0 :: tlP_15)), (k_4, .inr (3, .int (nI n_7) :: tkK_14)), (it_5, .inl (ci_12, 40, .inl (fun _ => 0))), (en_6, .inl (ce_13, 41, .inl (fun _ => 0))), (rd_8, .inr (5, .ref tk_9 :: .null :: .int 0 :: .int 0 :: .int (-1) :: .int 0 :: .int 0 :: tlR_16)), (tk_9, .inr (7, [.ref ut_10, .int 0, .int 0, .int 257, .int 0, .long 0, .int 0, .long 0])), (mat_21, .inl (mcT_27, 3000, .inl (fun _ => 0))), (ma1_22, .inl (md1_28, 6000, .inl mp1_34)), (ma2_23, .inl (md2_29, 6000, .inl mp2_35)), (ma3_24, .inl (md3_30, 6000, .inl mp3_36)), (ma4_25, .inl (md4_31, 6000, .inl mp4_37)), (ma5_26, .inl (md5_32, 6000, .inl mp5_38))]) (tr := [(ct_11, .byte), (ci_12, .boolean), (ce_13, .int), (mcT_27, .byte), (md1_28, .int), (md2_29, .int), (md3_30, .int), (md4_31, .int), (md5_32, .boolean)]) hf hw (m_part l dC dI q_20 mtl_39 (.int 0) (.int 0) (.int 0) (.int 0) (.int 0) (.int 0) (.long 0) (.int 0) (.int 0) (.int (-1)) (.int (-1)) (.int (nI mk_33)) (.int 0) (.int 0) (.int 0) (.int 0) (.int 0) (.int 0) (.int 0) (.ref mat_21) (.ref ma1_22) (.ref ma2_23) (.ref ma3_24) (.ref ma4_25) (.ref ma5_26) z_147 z_149 H.size hmtl_39) ka_X11_part_ kv_X11_part_ 7 rfl rfl k2088 [7] [] [0, 1, 2, 3, 4, 5, 6, 8, 9, 10, 11, 12, 13] [0, 1, 2, 3, 4, 5, 6, 7, 8] rfl rfl rfl rfl rfl (by decide) rfl rfl rfl hl.1 rfl rfl ⟨Nat.le_of_ble_eq_true rfl, Nat.le_of_ble_eq_true rfl⟩ (Nat.le_of_ble_eq_true rfl) (ce := 170) (sl := 571970) rfl rfl ⟨Nat.le_of_ble_eq_true rfl, Nat.le_of_ble_eq_true rfl⟩ dL_law_346 (fun r_156 u_157 hu_157 H locs hw => ?_)
        have hw : Wd dC dI (fun q : Nat => s.heap.size ≤ q) [(tp_2, .inl (ct_11, 3000, .inl (fun _ => 0))), (sp_3, .inr (4, .ref k_4 :: .int 0 :: .int (-1) :: .ref it_5 :: .ref en_6 :: .int 0 :: .int 0 :: tlP_15)), (k_4, .inr (3, .int (nI n_7) :: tkK_14)), (it_5, .inl (ci_12, 40, .inl (fun _ => 0))), (en_6, .inl (ce_13, 41, .inl (fun _ => 0))), (rd_8, .inr (5, .ref tk_9 :: .null :: .int 0 :: .int 0 :: .int (-1) :: .int 0 :: .int 0 :: tlR_16)), (tk_9, .inr (7, [.ref ut_10, .int 0, .int 0, .int 257, .int 0, .long 0, .int 0, .long 0])), (mat_21, .inl (mcT_27, 3000, .inl (fun _ => 0))), (ma1_22, .inl (md1_28, 6000, .inl mp1_34)), (ma2_23, .inl (md2_29, 6000, .inl mp2_35)), (ma3_24, .inl (md3_30, 6000, .inl mp3_36)), (ma4_25, .inl (md4_31, 6000, .inl mp4_37)), (ma5_26, .inl (md5_32, 6000, .inl mp5_38))] [(ct_11, .byte), (ci_12, .boolean), (ce_13, .int), (mcT_27, .byte), (md1_28, .int), (md2_29, .int), (md3_30, .int), (md4_31, .int), (md5_32, .boolean)] s H locs := hw
        obtain rfl := hu_157
        refine lv_icmp_eq (tgt := 502) hf.1 hf.2.1 dL_law_349 (by decide) (fun c_158 => ?_) (fun c_158 => absurd (by decide) c_158)
        exact J502 _ _ _ hw.2.2.2.1 (lv_sub hl [0, 3] rfl)
      · subst eks
        refine lv_tableIn (tgt := 354) hf.1 hf.2.1 dL_law_33 (by decide) (by decide) rfl (by decide) ?_
        refine lv_aload_n hf.1 hf.2.1 dL_law_354 rfl (lv_at hl 2 rfl) ?_
        refine lv_aload_n hf.1 hf.2.1 dL_law_355 rfl (lv_at hl 3 rfl) ?_
        refine lv_iload_n hf.1 hf.2.1 dL_law_356 rfl (lv_at hl 0 rfl) ?_
        refine lv_iconst (v := 1) hf.1 hf.2.1 dL_law_357 (by decide) ?_
        refine lv_iadd hf.1 hf.2.1 dL_law_358 ?_
        refine lv_topi (fun x_159 ex_159 => ?_)
        obtain rfl : x_159 = 1 := by rw [ex_159]; decide
        refine va_sld hf.1 hf.2.1 hX hbl hbA hw.2.2.2.1 (by unfold vp_in; decide) dL_law_359 ?_
        refine lv_topi (fun z_160 ez_160 => ?_)
        refine mV_i (As := [.int z_160]) (rest := []) (wr := [(tp_2, .inl (ct_11, 3000, .inl (fun _ => 0))), (sp_3, .inr (4, .ref k_4 :: .int 0 :: .int (-1) :: .ref it_5 :: .ref en_6 :: .int 0 :: .int 0 :: tlP_15)), (k_4, .inr (3, .int (nI n_7) :: tkK_14)), (it_5, .inl (ci_12, 40, .inl (fun _ => 0))), (en_6, .inl (ce_13, 41, .inl (fun _ => 0))), (rd_8, .inr (5, .ref tk_9 :: .null :: .int 0 :: .int 0 :: .int (-1) :: .int 0 :: .int 0 :: tlR_16)), (tk_9, .inr (7, [.ref ut_10, .int 0, .int 0, .int 257, .int 0, .long 0, .int 0, .long 0])), (q_20, .inr (9, .int 0 :: .int 0 :: .int 0 :: .int 0 :: .int 0 :: .int 0 :: .int 0 :: .long 0 :: .int 0 :: .int 0 :: .int (-1) :: .int (-1) :: .int (nI mk_33) :: .int 0 :: .int 0 :: .int 0 :: .int 0 :: .int 0 :: .int 0 :: .int 0 :: .ref mat_21 :: .ref ma1_22 :: .ref ma2_23 :: .ref ma3_24 :: .ref ma4_25 :: .ref ma5_26 :: mtl_39)), (mat_21, .inl (mcT_27, 3000, .inl (fun _ => 0))), (ma1_22, .inl (md1_28, 6000, .inl mp1_34)), (ma2_23, .inl (md2_29, 6000, .inl mp2_35)), (ma3_24, .inl (md3_30, 6000, .inl mp3_36)), (ma4_25, .inl (md4_31, 6000, .inl mp4_37)), (ma5_26, .inl (md5_32, 6000, .inl mp5_38))]) (tr := [(ct_11, .byte), (ci_12, .boolean), (ce_13, .int), (mcT_27, .byte), (md1_28, .int), (md2_29, .int), (md3_30, .int), (md4_31, .int), (md5_32, .boolean)]) hf hw (b_run l dC dI q_1 tp_2 sp_3 rd_8 tl_17 z_160 H.size htl_17) ka_X10_run kv_X10_run 0 rfl rfl k1125 [0] [] [1, 2, 3, 4, 5, 6, 7, 8, 9, 10, 11, 12, 13, 14] [0, 1, 2, 3, 4, 5, 6, 7, 8] rfl rfl rfl rfl rfl (by decide) rfl rfl rfl hl.1 rfl rfl ⟨Nat.le_of_ble_eq_true rfl, Nat.le_of_ble_eq_true rfl⟩ (Nat.le_of_ble_eq_true rfl) (ce := 170) (sl := 571970) rfl rfl ⟨Nat.le_of_ble_eq_true rfl, Nat.le_of_ble_eq_true rfl⟩ dL_law_360 (fun r_161 u_162 hu_162 H locs hw => ?_)
        have hw : Wd dC dI (fun q : Nat => s.heap.size ≤ q) [(tp_2, .inl (ct_11, 3000, .inl (fun _ => 0))), (sp_3, .inr (4, .ref k_4 :: .int 0 :: .int (-1) :: .ref it_5 :: .ref en_6 :: .int 0 :: .int 0 :: tlP_15)), (k_4, .inr (3, .int (nI n_7) :: tkK_14)), (it_5, .inl (ci_12, 40, .inl (fun _ => 0))), (en_6, .inl (ce_13, 41, .inl (fun _ => 0))), (rd_8, .inr (5, .ref tk_9 :: .null :: .int 0 :: .int 0 :: .int (-1) :: .int 0 :: .int 0 :: tlR_16)), (tk_9, .inr (7, [.ref ut_10, .int 0, .int 0, .int 257, .int 0, .long 0, .int 0, .long 0])), (q_20, .inr (9, .int 0 :: .int 0 :: .int 0 :: .int 0 :: .int 0 :: .int 0 :: .int 0 :: .long 0 :: .int 0 :: .int 0 :: .int (-1) :: .int (-1) :: .int (nI mk_33) :: .int 0 :: .int 0 :: .int 0 :: .int 0 :: .int 0 :: .int 0 :: .int 0 :: .ref mat_21 :: .ref ma1_22 :: .ref ma2_23 :: .ref ma3_24 :: .ref ma4_25 :: .ref ma5_26 :: mtl_39)), (mat_21, .inl (mcT_27, 3000, .inl (fun _ => 0))), (ma1_22, .inl (md1_28, 6000, .inl mp1_34)), (ma2_23, .inl (md2_29, 6000, .inl mp2_35)), (ma3_24, .inl (md3_30, 6000, .inl mp3_36)), (ma4_25, .inl (md4_31, 6000, .inl mp4_37)), (ma5_26, .inl (md5_32, 6000, .inl mp5_38))] [(ct_11, .byte), (ci_12, .boolean), (ce_13, .int), (mcT_27, .byte), (md1_28, .int), (md2_29, .int), (md3_30, .int), (md4_31, .int), (md5_32, .boolean)] s H locs := hw
        obtain rfl := hu_162
        refine lv_aload_n hf.1 hf.2.1 dL_law_363 rfl (lv_at hl 1 rfl) ?_
        refine lv_aload_n hf.1 hf.2.1 dL_law_364 rfl (lv_at hl 3 rfl) ?_
        refine lv_iload_n hf.1 hf.2.1 dL_law_365 rfl (lv_at hl 0 rfl) ?_
        refine lv_iconst (v := 1) hf.1 hf.2.1 dL_law_366 (by decide) ?_
        refine lv_iadd hf.1 hf.2.1 dL_law_367 ?_
        refine lv_topi (fun x_163 ex_163 => ?_)
        obtain rfl : x_163 = 1 := by rw [ex_163]; decide
        refine va_sld hf.1 hf.2.1 hX hbl hbA hw.2.2.2.1 (by unfold vp_in; decide) dL_law_368 ?_
        refine lv_topi (fun z_164 ez_164 => ?_)
        obtain rfl : z_160 = z_164 := by rw [ez_160, ez_164]
        refine mV_i (As := [.int z_160]) (rest := [.int (-1)]) (wr := [(tp_2, .inl (ct_11, 3000, .inl (fun _ => 0))), (sp_3, .inr (4, .ref k_4 :: .int 0 :: .int (-1) :: .ref it_5 :: .ref en_6 :: .int 0 :: .int 0 :: tlP_15)), (k_4, .inr (3, .int (nI n_7) :: tkK_14)), (it_5, .inl (ci_12, 40, .inl (fun _ => 0))), (en_6, .inl (ce_13, 41, .inl (fun _ => 0))), (rd_8, .inr (5, .ref tk_9 :: .null :: .int 0 :: .int 0 :: .int (-1) :: .int 0 :: .int 0 :: tlR_16)), (tk_9, .inr (7, [.ref ut_10, .int 0, .int 0, .int 257, .int 0, .long 0, .int 0, .long 0])), (mat_21, .inl (mcT_27, 3000, .inl (fun _ => 0))), (ma1_22, .inl (md1_28, 6000, .inl mp1_34)), (ma2_23, .inl (md2_29, 6000, .inl mp2_35)), (ma3_24, .inl (md3_30, 6000, .inl mp3_36)), (ma4_25, .inl (md4_31, 6000, .inl mp4_37)), (ma5_26, .inl (md5_32, 6000, .inl mp5_38))]) (tr := [(ct_11, .byte), (ci_12, .boolean), (ce_13, .int), (mcT_27, .byte), (md1_28, .int), (md2_29, .int), (md3_30, .int), (md4_31, .int), (md5_32, .boolean)]) hf hw (m_run l dC dI q_20 mtl_39 (.int 0) (.int 0) (.int 0) (.int 0) (.int 0) (.int 0) (.long 0) (.int 0) (.int 0) (.int (-1)) (.int (-1)) (.int (nI mk_33)) (.int 0) (.int 0) (.int 0) (.int 0) (.int 0) (.int 0) (.int 0) (.ref mat_21) (.ref ma1_22) (.ref ma2_23) (.ref ma3_24) (.ref ma4_25) (.ref ma5_26) z_160 H.size hmtl_39) ka_X11_run kv_X11_run 7 rfl rfl k2092 [7] [] [0, 1, 2, 3, 4, 5, 6, 8, 9, 10, 11, 12, 13] [0, 1, 2, 3, 4, 5, 6, 7, 8] rfl rfl rfl rfl rfl (by decide) rfl rfl rfl hl.1 rfl rfl ⟨Nat.le_of_ble_eq_true rfl, Nat.le_of_ble_eq_true rfl⟩ (Nat.le_of_ble_eq_true rfl) (ce := 170) (sl := 571970) rfl rfl ⟨Nat.le_of_ble_eq_true rfl, Nat.le_of_ble_eq_true rfl⟩ dL_law_369 (fun r_165 u_166 hu_166 H locs hw => ?_)
        have hw : Wd dC dI (fun q : Nat => s.heap.size ≤ q) [(tp_2, .inl (ct_11, 3000, .inl (fun _ => 0))), (sp_3, .inr (4, .ref k_4 :: .int 0 :: .int (-1) :: .ref it_5 :: .ref en_6 :: .int 0 :: .int 0 :: tlP_15)), (k_4, .inr (3, .int (nI n_7) :: tkK_14)), (it_5, .inl (ci_12, 40, .inl (fun _ => 0))), (en_6, .inl (ce_13, 41, .inl (fun _ => 0))), (rd_8, .inr (5, .ref tk_9 :: .null :: .int 0 :: .int 0 :: .int (-1) :: .int 0 :: .int 0 :: tlR_16)), (tk_9, .inr (7, [.ref ut_10, .int 0, .int 0, .int 257, .int 0, .long 0, .int 0, .long 0])), (mat_21, .inl (mcT_27, 3000, .inl (fun _ => 0))), (ma1_22, .inl (md1_28, 6000, .inl mp1_34)), (ma2_23, .inl (md2_29, 6000, .inl mp2_35)), (ma3_24, .inl (md3_30, 6000, .inl mp3_36)), (ma4_25, .inl (md4_31, 6000, .inl mp4_37)), (ma5_26, .inl (md5_32, 6000, .inl mp5_38))] [(ct_11, .byte), (ci_12, .boolean), (ce_13, .int), (mcT_27, .byte), (md1_28, .int), (md2_29, .int), (md3_30, .int), (md4_31, .int), (md5_32, .boolean)] s H locs := hw
        obtain rfl := hu_166
        refine lv_icmp_eq (tgt := 502) hf.1 hf.2.1 dL_law_372 (by decide) (fun c_167 => ?_) (fun c_167 => absurd (by decide) c_167)
        exact J502 _ _ _ hw.2.2.2.1 (lv_sub hl [0, 3] rfl)
      · subst eks
        refine lv_tableIn (tgt := 377) hf.1 hf.2.1 dL_law_33 (by decide) (by decide) rfl (by decide) ?_
        refine lv_aload_n hf.1 hf.2.1 dL_law_377 rfl (lv_at hl 2 rfl) ?_
        refine lv_aload_n hf.1 hf.2.1 dL_law_378 rfl (lv_at hl 3 rfl) ?_
        refine lv_iload_n hf.1 hf.2.1 dL_law_379 rfl (lv_at hl 0 rfl) ?_
        refine lv_iconst (v := 1) hf.1 hf.2.1 dL_law_380 (by decide) ?_
        refine lv_iadd hf.1 hf.2.1 dL_law_381 ?_
        refine lv_topi (fun x_168 ex_168 => ?_)
        obtain rfl : x_168 = 1 := by rw [ex_168]; decide
        refine va_sld hf.1 hf.2.1 hX hbl hbA hw.2.2.2.1 (by unfold vp_in; decide) dL_law_382 ?_
        refine lv_topi (fun z_169 ez_169 => ?_)
        refine mV_i (As := [.int z_169]) (rest := []) (wr := [(tp_2, .inl (ct_11, 3000, .inl (fun _ => 0))), (sp_3, .inr (4, .ref k_4 :: .int 0 :: .int (-1) :: .ref it_5 :: .ref en_6 :: .int 0 :: .int 0 :: tlP_15)), (k_4, .inr (3, .int (nI n_7) :: tkK_14)), (it_5, .inl (ci_12, 40, .inl (fun _ => 0))), (en_6, .inl (ce_13, 41, .inl (fun _ => 0))), (rd_8, .inr (5, .ref tk_9 :: .null :: .int 0 :: .int 0 :: .int (-1) :: .int 0 :: .int 0 :: tlR_16)), (tk_9, .inr (7, [.ref ut_10, .int 0, .int 0, .int 257, .int 0, .long 0, .int 0, .long 0])), (q_20, .inr (9, .int 0 :: .int 0 :: .int 0 :: .int 0 :: .int 0 :: .int 0 :: .int 0 :: .long 0 :: .int 0 :: .int 0 :: .int (-1) :: .int (-1) :: .int (nI mk_33) :: .int 0 :: .int 0 :: .int 0 :: .int 0 :: .int 0 :: .int 0 :: .int 0 :: .ref mat_21 :: .ref ma1_22 :: .ref ma2_23 :: .ref ma3_24 :: .ref ma4_25 :: .ref ma5_26 :: mtl_39)), (mat_21, .inl (mcT_27, 3000, .inl (fun _ => 0))), (ma1_22, .inl (md1_28, 6000, .inl mp1_34)), (ma2_23, .inl (md2_29, 6000, .inl mp2_35)), (ma3_24, .inl (md3_30, 6000, .inl mp3_36)), (ma4_25, .inl (md4_31, 6000, .inl mp4_37)), (ma5_26, .inl (md5_32, 6000, .inl mp5_38))]) (tr := [(ct_11, .byte), (ci_12, .boolean), (ce_13, .int), (mcT_27, .byte), (md1_28, .int), (md2_29, .int), (md3_30, .int), (md4_31, .int), (md5_32, .boolean)]) hf hw (b_runUntold l dC dI q_1 tp_2 sp_3 rd_8 tl_17 z_169 H.size htl_17) ka_X10_runUntold kv_X10_runUntold 0 rfl rfl k1319 [0] [] [1, 2, 3, 4, 5, 6, 7, 8, 9, 10, 11, 12, 13, 14] [0, 1, 2, 3, 4, 5, 6, 7, 8] rfl rfl rfl rfl rfl (by decide) rfl rfl rfl hl.1 rfl rfl ⟨Nat.le_of_ble_eq_true rfl, Nat.le_of_ble_eq_true rfl⟩ (Nat.le_of_ble_eq_true rfl) (ce := 170) (sl := 571970) rfl rfl ⟨Nat.le_of_ble_eq_true rfl, Nat.le_of_ble_eq_true rfl⟩ dL_law_383 (fun r_170 u_171 hu_171 H locs hw => ?_)
        have hw : Wd dC dI (fun q : Nat => s.heap.size ≤ q) [(tp_2, .inl (ct_11, 3000, .inl (fun _ => 0))), (sp_3, .inr (4, .ref k_4 :: .int 0 :: .int (-1) :: .ref it_5 :: .ref en_6 :: .int 0 :: .int 0 :: tlP_15)), (k_4, .inr (3, .int (nI n_7) :: tkK_14)), (it_5, .inl (ci_12, 40, .inl (fun _ => 0))), (en_6, .inl (ce_13, 41, .inl (fun _ => 0))), (rd_8, .inr (5, .ref tk_9 :: .null :: .int 0 :: .int 0 :: .int (-1) :: .int 0 :: .int 0 :: tlR_16)), (tk_9, .inr (7, [.ref ut_10, .int 0, .int 0, .int 257, .int 0, .long 0, .int 0, .long 0])), (q_20, .inr (9, .int 0 :: .int 0 :: .int 0 :: .int 0 :: .int 0 :: .int 0 :: .int 0 :: .long 0 :: .int 0 :: .int 0 :: .int (-1) :: .int (-1) :: .int (nI mk_33) :: .int 0 :: .int 0 :: .int 0 :: .int 0 :: .int 0 :: .int 0 :: .int 0 :: .ref mat_21 :: .ref ma1_22 :: .ref ma2_23 :: .ref ma3_24 :: .ref ma4_25 :: .ref ma5_26 :: mtl_39)), (mat_21, .inl (mcT_27, 3000, .inl (fun _ => 0))), (ma1_22, .inl (md1_28, 6000, .inl mp1_34)), (ma2_23, .inl (md2_29, 6000, .inl mp2_35)), (ma3_24, .inl (md3_30, 6000, .inl mp3_36)), (ma4_25, .inl (md4_31, 6000, .inl mp4_37)), (ma5_26, .inl (md5_32, 6000, .inl mp5_38))] [(ct_11, .byte), (ci_12, .boolean), (ce_13, .int), (mcT_27, .byte), (md1_28, .int), (md2_29, .int), (md3_30, .int), (md4_31, .int), (md5_32, .boolean)] s H locs := hw
        obtain rfl := hu_171
        refine lv_aload_n hf.1 hf.2.1 dL_law_386 rfl (lv_at hl 1 rfl) ?_
        refine lv_aload_n hf.1 hf.2.1 dL_law_387 rfl (lv_at hl 3 rfl) ?_
        refine lv_iload_n hf.1 hf.2.1 dL_law_388 rfl (lv_at hl 0 rfl) ?_
        refine lv_iconst (v := 1) hf.1 hf.2.1 dL_law_389 (by decide) ?_
        refine lv_iadd hf.1 hf.2.1 dL_law_390 ?_
        refine lv_topi (fun x_172 ex_172 => ?_)
        obtain rfl : x_172 = 1 := by rw [ex_172]; decide
        refine va_sld hf.1 hf.2.1 hX hbl hbA hw.2.2.2.1 (by unfold vp_in; decide) dL_law_391 ?_
        refine lv_topi (fun z_173 ez_173 => ?_)
        obtain rfl : z_169 = z_173 := by rw [ez_169, ez_173]
        refine mV_i (As := [.int z_169]) (rest := [.int (-1)]) (wr := [(tp_2, .inl (ct_11, 3000, .inl (fun _ => 0))), (sp_3, .inr (4, .ref k_4 :: .int 0 :: .int (-1) :: .ref it_5 :: .ref en_6 :: .int 0 :: .int 0 :: tlP_15)), (k_4, .inr (3, .int (nI n_7) :: tkK_14)), (it_5, .inl (ci_12, 40, .inl (fun _ => 0))), (en_6, .inl (ce_13, 41, .inl (fun _ => 0))), (rd_8, .inr (5, .ref tk_9 :: .null :: .int 0 :: .int 0 :: .int (-1) :: .int 0 :: .int 0 :: tlR_16)), (tk_9, .inr (7, [.ref ut_10, .int 0, .int 0, .int 257, .int 0, .long 0, .int 0, .long 0])), (mat_21, .inl (mcT_27, 3000, .inl (fun _ => 0))), (ma1_22, .inl (md1_28, 6000, .inl mp1_34)), (ma2_23, .inl (md2_29, 6000, .inl mp2_35)), (ma3_24, .inl (md3_30, 6000, .inl mp3_36)), (ma4_25, .inl (md4_31, 6000, .inl mp4_37)), (ma5_26, .inl (md5_32, 6000, .inl mp5_38))]) (tr := [(ct_11, .byte), (ci_12, .boolean), (ce_13, .int), (mcT_27, .byte), (md1_28, .int), (md2_29, .int), (md3_30, .int), (md4_31, .int), (md5_32, .boolean)]) hf hw (m_runUntold l dC dI q_20 mtl_39 (.int 0) (.int 0) (.int 0) (.int 0) (.int 0) (.int 0) (.long 0) (.int 0) (.int 0) (.int (-1)) (.int (-1)) (.int (nI mk_33)) (.int 0) (.int 0) (.int 0) (.int 0) (.int 0) (.int 0) (.int 0) (.ref mat_21) (.ref ma1_22) (.ref ma2_23) (.ref ma3_24) (.ref ma4_25) (.ref ma5_26) z_169 H.size hmtl_39) ka_X11_runUntold kv_X11_runUntold 7 rfl rfl k2180 [7] [] [0, 1, 2, 3, 4, 5, 6, 8, 9, 10, 11, 12, 13] [0, 1, 2, 3, 4, 5, 6, 7, 8] rfl rfl rfl rfl rfl (by decide) rfl rfl rfl hl.1 rfl rfl ⟨Nat.le_of_ble_eq_true rfl, Nat.le_of_ble_eq_true rfl⟩ (Nat.le_of_ble_eq_true rfl) (ce := 170) (sl := 571970) rfl rfl ⟨Nat.le_of_ble_eq_true rfl, Nat.le_of_ble_eq_true rfl⟩ dL_law_392 (fun r_174 u_175 hu_175 H locs hw => ?_)
        have hw : Wd dC dI (fun q : Nat => s.heap.size ≤ q) [(tp_2, .inl (ct_11, 3000, .inl (fun _ => 0))), (sp_3, .inr (4, .ref k_4 :: .int 0 :: .int (-1) :: .ref it_5 :: .ref en_6 :: .int 0 :: .int 0 :: tlP_15)), (k_4, .inr (3, .int (nI n_7) :: tkK_14)), (it_5, .inl (ci_12, 40, .inl (fun _ => 0))), (en_6, .inl (ce_13, 41, .inl (fun _ => 0))), (rd_8, .inr (5, .ref tk_9 :: .null :: .int 0 :: .int 0 :: .int (-1) :: .int 0 :: .int 0 :: tlR_16)), (tk_9, .inr (7, [.ref ut_10, .int 0, .int 0, .int 257, .int 0, .long 0, .int 0, .long 0])), (mat_21, .inl (mcT_27, 3000, .inl (fun _ => 0))), (ma1_22, .inl (md1_28, 6000, .inl mp1_34)), (ma2_23, .inl (md2_29, 6000, .inl mp2_35)), (ma3_24, .inl (md3_30, 6000, .inl mp3_36)), (ma4_25, .inl (md4_31, 6000, .inl mp4_37)), (ma5_26, .inl (md5_32, 6000, .inl mp5_38))] [(ct_11, .byte), (ci_12, .boolean), (ce_13, .int), (mcT_27, .byte), (md1_28, .int), (md2_29, .int), (md3_30, .int), (md4_31, .int), (md5_32, .boolean)] s H locs := hw
        obtain rfl := hu_175
        refine lv_icmp_eq (tgt := 502) hf.1 hf.2.1 dL_law_395 (by decide) (fun c_176 => ?_) (fun c_176 => absurd (by decide) c_176)
        exact J502 _ _ _ hw.2.2.2.1 (lv_sub hl [0, 3] rfl)
      · subst eks
        refine lv_tableIn (tgt := 400) hf.1 hf.2.1 dL_law_33 (by decide) (by decide) rfl (by decide) ?_
        refine lv_aload_n hf.1 hf.2.1 dL_law_400 rfl (lv_at hl 2 rfl) ?_
        refine lv_aload_n hf.1 hf.2.1 dL_law_401 rfl (lv_at hl 3 rfl) ?_
        refine lv_iload_n hf.1 hf.2.1 dL_law_402 rfl (lv_at hl 0 rfl) ?_
        refine lv_iconst (v := 1) hf.1 hf.2.1 dL_law_403 (by decide) ?_
        refine lv_iadd hf.1 hf.2.1 dL_law_404 ?_
        refine lv_topi (fun x_177 ex_177 => ?_)
        obtain rfl : x_177 = 1 := by rw [ex_177]; decide
        refine va_sld hf.1 hf.2.1 hX hbl hbA hw.2.2.2.1 (by unfold vp_in; decide) dL_law_405 ?_
        refine lv_topi (fun z_178 ez_178 => ?_)
        refine mV_i (As := [.int z_178]) (rest := []) (wr := [(tp_2, .inl (ct_11, 3000, .inl (fun _ => 0))), (sp_3, .inr (4, .ref k_4 :: .int 0 :: .int (-1) :: .ref it_5 :: .ref en_6 :: .int 0 :: .int 0 :: tlP_15)), (k_4, .inr (3, .int (nI n_7) :: tkK_14)), (it_5, .inl (ci_12, 40, .inl (fun _ => 0))), (en_6, .inl (ce_13, 41, .inl (fun _ => 0))), (rd_8, .inr (5, .ref tk_9 :: .null :: .int 0 :: .int 0 :: .int (-1) :: .int 0 :: .int 0 :: tlR_16)), (tk_9, .inr (7, [.ref ut_10, .int 0, .int 0, .int 257, .int 0, .long 0, .int 0, .long 0])), (q_20, .inr (9, .int 0 :: .int 0 :: .int 0 :: .int 0 :: .int 0 :: .int 0 :: .int 0 :: .long 0 :: .int 0 :: .int 0 :: .int (-1) :: .int (-1) :: .int (nI mk_33) :: .int 0 :: .int 0 :: .int 0 :: .int 0 :: .int 0 :: .int 0 :: .int 0 :: .ref mat_21 :: .ref ma1_22 :: .ref ma2_23 :: .ref ma3_24 :: .ref ma4_25 :: .ref ma5_26 :: mtl_39)), (mat_21, .inl (mcT_27, 3000, .inl (fun _ => 0))), (ma1_22, .inl (md1_28, 6000, .inl mp1_34)), (ma2_23, .inl (md2_29, 6000, .inl mp2_35)), (ma3_24, .inl (md3_30, 6000, .inl mp3_36)), (ma4_25, .inl (md4_31, 6000, .inl mp4_37)), (ma5_26, .inl (md5_32, 6000, .inl mp5_38))]) (tr := [(ct_11, .byte), (ci_12, .boolean), (ce_13, .int), (mcT_27, .byte), (md1_28, .int), (md2_29, .int), (md3_30, .int), (md4_31, .int), (md5_32, .boolean)]) hf hw (b_told l dC dI q_1 tp_2 sp_3 rd_8 tl_17 z_178 H.size htl_17) ka_X10_told kv_X10_told 0 rfl rfl k1323 [0] [] [1, 2, 3, 4, 5, 6, 7, 8, 9, 10, 11, 12, 13, 14] [0, 1, 2, 3, 4, 5, 6, 7, 8] rfl rfl rfl rfl rfl (by decide) rfl rfl rfl hl.1 rfl rfl ⟨Nat.le_of_ble_eq_true rfl, Nat.le_of_ble_eq_true rfl⟩ (Nat.le_of_ble_eq_true rfl) (ce := 170) (sl := 571970) rfl rfl ⟨Nat.le_of_ble_eq_true rfl, Nat.le_of_ble_eq_true rfl⟩ dL_law_406 (fun r_179 u_180 hu_180 H locs hw => ?_)
        have hw : Wd dC dI (fun q : Nat => s.heap.size ≤ q) [(tp_2, .inl (ct_11, 3000, .inl (fun _ => 0))), (sp_3, .inr (4, .ref k_4 :: .int 0 :: .int (-1) :: .ref it_5 :: .ref en_6 :: .int 0 :: .int 0 :: tlP_15)), (k_4, .inr (3, .int (nI n_7) :: tkK_14)), (it_5, .inl (ci_12, 40, .inl (fun _ => 0))), (en_6, .inl (ce_13, 41, .inl (fun _ => 0))), (rd_8, .inr (5, .ref tk_9 :: .null :: .int 0 :: .int 0 :: .int (-1) :: .int 0 :: .int 0 :: tlR_16)), (tk_9, .inr (7, [.ref ut_10, .int 0, .int 0, .int 257, .int 0, .long 0, .int 0, .long 0])), (q_20, .inr (9, .int 0 :: .int 0 :: .int 0 :: .int 0 :: .int 0 :: .int 0 :: .int 0 :: .long 0 :: .int 0 :: .int 0 :: .int (-1) :: .int (-1) :: .int (nI mk_33) :: .int 0 :: .int 0 :: .int 0 :: .int 0 :: .int 0 :: .int 0 :: .int 0 :: .ref mat_21 :: .ref ma1_22 :: .ref ma2_23 :: .ref ma3_24 :: .ref ma4_25 :: .ref ma5_26 :: mtl_39)), (mat_21, .inl (mcT_27, 3000, .inl (fun _ => 0))), (ma1_22, .inl (md1_28, 6000, .inl mp1_34)), (ma2_23, .inl (md2_29, 6000, .inl mp2_35)), (ma3_24, .inl (md3_30, 6000, .inl mp3_36)), (ma4_25, .inl (md4_31, 6000, .inl mp4_37)), (ma5_26, .inl (md5_32, 6000, .inl mp5_38))] [(ct_11, .byte), (ci_12, .boolean), (ce_13, .int), (mcT_27, .byte), (md1_28, .int), (md2_29, .int), (md3_30, .int), (md4_31, .int), (md5_32, .boolean)] s H locs := hw
        obtain rfl := hu_180
        refine lv_aload_n hf.1 hf.2.1 dL_law_409 rfl (lv_at hl 1 rfl) ?_
        refine lv_aload_n hf.1 hf.2.1 dL_law_410 rfl (lv_at hl 3 rfl) ?_
        refine lv_iload_n hf.1 hf.2.1 dL_law_411 rfl (lv_at hl 0 rfl) ?_
        refine lv_iconst (v := 1) hf.1 hf.2.1 dL_law_412 (by decide) ?_
        refine lv_iadd hf.1 hf.2.1 dL_law_413 ?_
        refine lv_topi (fun x_181 ex_181 => ?_)
        obtain rfl : x_181 = 1 := by rw [ex_181]; decide
        refine va_sld hf.1 hf.2.1 hX hbl hbA hw.2.2.2.1 (by unfold vp_in; decide) dL_law_414 ?_
        refine lv_topi (fun z_182 ez_182 => ?_)
        obtain rfl : z_178 = z_182 := by rw [ez_178, ez_182]
        refine mV_i (As := [.int z_178]) (rest := [.int (-1)]) (wr := [(tp_2, .inl (ct_11, 3000, .inl (fun _ => 0))), (sp_3, .inr (4, .ref k_4 :: .int 0 :: .int (-1) :: .ref it_5 :: .ref en_6 :: .int 0 :: .int 0 :: tlP_15)), (k_4, .inr (3, .int (nI n_7) :: tkK_14)), (it_5, .inl (ci_12, 40, .inl (fun _ => 0))), (en_6, .inl (ce_13, 41, .inl (fun _ => 0))), (rd_8, .inr (5, .ref tk_9 :: .null :: .int 0 :: .int 0 :: .int (-1) :: .int 0 :: .int 0 :: tlR_16)), (tk_9, .inr (7, [.ref ut_10, .int 0, .int 0, .int 257, .int 0, .long 0, .int 0, .long 0])), (mat_21, .inl (mcT_27, 3000, .inl (fun _ => 0))), (ma1_22, .inl (md1_28, 6000, .inl mp1_34)), (ma2_23, .inl (md2_29, 6000, .inl mp2_35)), (ma3_24, .inl (md3_30, 6000, .inl mp3_36)), (ma4_25, .inl (md4_31, 6000, .inl mp4_37)), (ma5_26, .inl (md5_32, 6000, .inl mp5_38))]) (tr := [(ct_11, .byte), (ci_12, .boolean), (ce_13, .int), (mcT_27, .byte), (md1_28, .int), (md2_29, .int), (md3_30, .int), (md4_31, .int), (md5_32, .boolean)]) hf hw (m_told l dC dI q_20 mtl_39 (.int 0) (.int 0) (.int 0) (.int 0) (.int 0) (.int 0) (.int 0) (.long 0) (.int 0) (.int 0) (.int (-1)) (.int (-1)) (.int (nI mk_33)) (.int 0) (.int 0) (.int 0) (.int 0) (.int 0) (.int 0) (.ref mat_21) (.ref ma1_22) (.ref ma2_23) (.ref ma3_24) (.ref ma4_25) (.ref ma5_26) z_178 H.size hmtl_39) ka_X11_told kv_X11_told 7 rfl rfl k2184 [7] [] [0, 1, 2, 3, 4, 5, 6, 8, 9, 10, 11, 12, 13] [0, 1, 2, 3, 4, 5, 6, 7, 8] rfl rfl rfl rfl rfl (by decide) rfl rfl rfl hl.1 rfl rfl ⟨Nat.le_of_ble_eq_true rfl, Nat.le_of_ble_eq_true rfl⟩ (Nat.le_of_ble_eq_true rfl) (ce := 170) (sl := 571970) rfl rfl ⟨Nat.le_of_ble_eq_true rfl, Nat.le_of_ble_eq_true rfl⟩ dL_law_415 (fun r_183 u_184 hu_184 H locs hw => ?_)
        have hw : Wd dC dI (fun q : Nat => s.heap.size ≤ q) [(tp_2, .inl (ct_11, 3000, .inl (fun _ => 0))), (sp_3, .inr (4, .ref k_4 :: .int 0 :: .int (-1) :: .ref it_5 :: .ref en_6 :: .int 0 :: .int 0 :: tlP_15)), (k_4, .inr (3, .int (nI n_7) :: tkK_14)), (it_5, .inl (ci_12, 40, .inl (fun _ => 0))), (en_6, .inl (ce_13, 41, .inl (fun _ => 0))), (rd_8, .inr (5, .ref tk_9 :: .null :: .int 0 :: .int 0 :: .int (-1) :: .int 0 :: .int 0 :: tlR_16)), (tk_9, .inr (7, [.ref ut_10, .int 0, .int 0, .int 257, .int 0, .long 0, .int 0, .long 0])), (mat_21, .inl (mcT_27, 3000, .inl (fun _ => 0))), (ma1_22, .inl (md1_28, 6000, .inl mp1_34)), (ma2_23, .inl (md2_29, 6000, .inl mp2_35)), (ma3_24, .inl (md3_30, 6000, .inl mp3_36)), (ma4_25, .inl (md4_31, 6000, .inl mp4_37)), (ma5_26, .inl (md5_32, 6000, .inl mp5_38))] [(ct_11, .byte), (ci_12, .boolean), (ce_13, .int), (mcT_27, .byte), (md1_28, .int), (md2_29, .int), (md3_30, .int), (md4_31, .int), (md5_32, .boolean)] s H locs := hw
        obtain rfl := hu_184
        refine lv_icmp_eq (tgt := 502) hf.1 hf.2.1 dL_law_418 (by decide) (fun c_185 => ?_) (fun c_185 => absurd (by decide) c_185)
        exact J502 _ _ _ hw.2.2.2.1 (lv_sub hl [0, 3] rfl)
      · subst eks
        refine lv_tableIn (tgt := 423) hf.1 hf.2.1 dL_law_33 (by decide) (by decide) rfl (by decide) ?_
        refine lv_aload_n hf.1 hf.2.1 dL_law_423 rfl (lv_at hl 2 rfl) ?_
        refine lv_aload_n hf.1 hf.2.1 dL_law_424 rfl (lv_at hl 3 rfl) ?_
        refine lv_iload_n hf.1 hf.2.1 dL_law_425 rfl (lv_at hl 0 rfl) ?_
        refine lv_iconst (v := 1) hf.1 hf.2.1 dL_law_426 (by decide) ?_
        refine lv_iadd hf.1 hf.2.1 dL_law_427 ?_
        refine lv_topi (fun x_186 ex_186 => ?_)
        obtain rfl : x_186 = 1 := by rw [ex_186]; decide
        refine va_sld hf.1 hf.2.1 hX hbl hbA hw.2.2.2.1 (by unfold vp_in; decide) dL_law_428 ?_
        refine lv_topi (fun z_187 ez_187 => ?_)
        refine mV_i (As := [.int z_187]) (rest := []) (wr := [(tp_2, .inl (ct_11, 3000, .inl (fun _ => 0))), (sp_3, .inr (4, .ref k_4 :: .int 0 :: .int (-1) :: .ref it_5 :: .ref en_6 :: .int 0 :: .int 0 :: tlP_15)), (k_4, .inr (3, .int (nI n_7) :: tkK_14)), (it_5, .inl (ci_12, 40, .inl (fun _ => 0))), (en_6, .inl (ce_13, 41, .inl (fun _ => 0))), (rd_8, .inr (5, .ref tk_9 :: .null :: .int 0 :: .int 0 :: .int (-1) :: .int 0 :: .int 0 :: tlR_16)), (tk_9, .inr (7, [.ref ut_10, .int 0, .int 0, .int 257, .int 0, .long 0, .int 0, .long 0])), (q_20, .inr (9, .int 0 :: .int 0 :: .int 0 :: .int 0 :: .int 0 :: .int 0 :: .int 0 :: .long 0 :: .int 0 :: .int 0 :: .int (-1) :: .int (-1) :: .int (nI mk_33) :: .int 0 :: .int 0 :: .int 0 :: .int 0 :: .int 0 :: .int 0 :: .int 0 :: .ref mat_21 :: .ref ma1_22 :: .ref ma2_23 :: .ref ma3_24 :: .ref ma4_25 :: .ref ma5_26 :: mtl_39)), (mat_21, .inl (mcT_27, 3000, .inl (fun _ => 0))), (ma1_22, .inl (md1_28, 6000, .inl mp1_34)), (ma2_23, .inl (md2_29, 6000, .inl mp2_35)), (ma3_24, .inl (md3_30, 6000, .inl mp3_36)), (ma4_25, .inl (md4_31, 6000, .inl mp4_37)), (ma5_26, .inl (md5_32, 6000, .inl mp5_38))]) (tr := [(ct_11, .byte), (ci_12, .boolean), (ce_13, .int), (mcT_27, .byte), (md1_28, .int), (md2_29, .int), (md3_30, .int), (md4_31, .int), (md5_32, .boolean)]) hf hw (b_out l dC dI q_1 tp_2 sp_3 rd_8 tl_17 z_187 H.size htl_17) ka_X10_out kv_X10_out 0 rfl rfl k1339 [0] [] [1, 2, 3, 4, 5, 6, 7, 8, 9, 10, 11, 12, 13, 14] [0, 1, 2, 3, 4, 5, 6, 7, 8] rfl rfl rfl rfl rfl (by decide) rfl rfl rfl hl.1 rfl rfl ⟨Nat.le_of_ble_eq_true rfl, Nat.le_of_ble_eq_true rfl⟩ (Nat.le_of_ble_eq_true rfl) (ce := 170) (sl := 571970) rfl rfl ⟨Nat.le_of_ble_eq_true rfl, Nat.le_of_ble_eq_true rfl⟩ dL_law_429 (fun r_188 u_189 hu_189 H locs hw => ?_)
        have hw : Wd dC dI (fun q : Nat => s.heap.size ≤ q) [(tp_2, .inl (ct_11, 3000, .inl (fun _ => 0))), (sp_3, .inr (4, .ref k_4 :: .int 0 :: .int (-1) :: .ref it_5 :: .ref en_6 :: .int 0 :: .int 0 :: tlP_15)), (k_4, .inr (3, .int (nI n_7) :: tkK_14)), (it_5, .inl (ci_12, 40, .inl (fun _ => 0))), (en_6, .inl (ce_13, 41, .inl (fun _ => 0))), (rd_8, .inr (5, .ref tk_9 :: .null :: .int 0 :: .int 0 :: .int (-1) :: .int 0 :: .int 0 :: tlR_16)), (tk_9, .inr (7, [.ref ut_10, .int 0, .int 0, .int 257, .int 0, .long 0, .int 0, .long 0])), (q_20, .inr (9, .int 0 :: .int 0 :: .int 0 :: .int 0 :: .int 0 :: .int 0 :: .int 0 :: .long 0 :: .int 0 :: .int 0 :: .int (-1) :: .int (-1) :: .int (nI mk_33) :: .int 0 :: .int 0 :: .int 0 :: .int 0 :: .int 0 :: .int 0 :: .int 0 :: .ref mat_21 :: .ref ma1_22 :: .ref ma2_23 :: .ref ma3_24 :: .ref ma4_25 :: .ref ma5_26 :: mtl_39)), (mat_21, .inl (mcT_27, 3000, .inl (fun _ => 0))), (ma1_22, .inl (md1_28, 6000, .inl mp1_34)), (ma2_23, .inl (md2_29, 6000, .inl mp2_35)), (ma3_24, .inl (md3_30, 6000, .inl mp3_36)), (ma4_25, .inl (md4_31, 6000, .inl mp4_37)), (ma5_26, .inl (md5_32, 6000, .inl mp5_38))] [(ct_11, .byte), (ci_12, .boolean), (ce_13, .int), (mcT_27, .byte), (md1_28, .int), (md2_29, .int), (md3_30, .int), (md4_31, .int), (md5_32, .boolean)] s H locs := hw
        obtain rfl := hu_189
        refine lv_aload_n hf.1 hf.2.1 dL_law_432 rfl (lv_at hl 1 rfl) ?_
        refine lv_aload_n hf.1 hf.2.1 dL_law_433 rfl (lv_at hl 3 rfl) ?_
        refine lv_iload_n hf.1 hf.2.1 dL_law_434 rfl (lv_at hl 0 rfl) ?_
        refine lv_iconst (v := 1) hf.1 hf.2.1 dL_law_435 (by decide) ?_
        refine lv_iadd hf.1 hf.2.1 dL_law_436 ?_
        refine lv_topi (fun x_190 ex_190 => ?_)
        obtain rfl : x_190 = 1 := by rw [ex_190]; decide
        refine va_sld hf.1 hf.2.1 hX hbl hbA hw.2.2.2.1 (by unfold vp_in; decide) dL_law_437 ?_
        refine lv_topi (fun z_191 ez_191 => ?_)
        obtain rfl : z_187 = z_191 := by rw [ez_187, ez_191]
        refine mV_i (As := [.int z_187]) (rest := [.int 0]) (wr := [(tp_2, .inl (ct_11, 3000, .inl (fun _ => 0))), (sp_3, .inr (4, .ref k_4 :: .int 0 :: .int (-1) :: .ref it_5 :: .ref en_6 :: .int 0 :: .int 0 :: tlP_15)), (k_4, .inr (3, .int (nI n_7) :: tkK_14)), (it_5, .inl (ci_12, 40, .inl (fun _ => 0))), (en_6, .inl (ce_13, 41, .inl (fun _ => 0))), (rd_8, .inr (5, .ref tk_9 :: .null :: .int 0 :: .int 0 :: .int (-1) :: .int 0 :: .int 0 :: tlR_16)), (tk_9, .inr (7, [.ref ut_10, .int 0, .int 0, .int 257, .int 0, .long 0, .int 0, .long 0])), (mat_21, .inl (mcT_27, 3000, .inl (fun _ => 0))), (ma1_22, .inl (md1_28, 6000, .inl mp1_34)), (ma2_23, .inl (md2_29, 6000, .inl mp2_35)), (ma3_24, .inl (md3_30, 6000, .inl mp3_36)), (ma4_25, .inl (md4_31, 6000, .inl mp4_37)), (ma5_26, .inl (md5_32, 6000, .inl mp5_38))]) (tr := [(ct_11, .byte), (ci_12, .boolean), (ce_13, .int), (mcT_27, .byte), (md1_28, .int), (md2_29, .int), (md3_30, .int), (md4_31, .int), (md5_32, .boolean)]) hf hw (m_out l dC dI q_20 mtl_39 (.int 0) (.int 0) (.int 0) (.int 0) (.int 0) (.int 0) (.int 0) (.long 0) (.int 0) (.int 0) (.int (-1)) (.int (-1)) (.int (nI mk_33)) (.int 0) (.int 0) (.int 0) (.int 0) (.int 0) (.int 0) (.ref mat_21) (.ref ma1_22) (.ref ma2_23) (.ref ma3_24) (.ref ma4_25) (.ref ma5_26) z_187 H.size hmtl_39) ka_X11_out kv_X11_out 7 rfl rfl k2188 [7] [] [0, 1, 2, 3, 4, 5, 6, 8, 9, 10, 11, 12, 13] [0, 1, 2, 3, 4, 5, 6, 7, 8] rfl rfl rfl rfl rfl (by decide) rfl rfl rfl hl.1 rfl rfl ⟨Nat.le_of_ble_eq_true rfl, Nat.le_of_ble_eq_true rfl⟩ (Nat.le_of_ble_eq_true rfl) (ce := 170) (sl := 571970) rfl rfl ⟨Nat.le_of_ble_eq_true rfl, Nat.le_of_ble_eq_true rfl⟩ dL_law_438 (fun r_192 u_193 hu_193 H locs hw => ?_)
        have hw : Wd dC dI (fun q : Nat => s.heap.size ≤ q) [(tp_2, .inl (ct_11, 3000, .inl (fun _ => 0))), (sp_3, .inr (4, .ref k_4 :: .int 0 :: .int (-1) :: .ref it_5 :: .ref en_6 :: .int 0 :: .int 0 :: tlP_15)), (k_4, .inr (3, .int (nI n_7) :: tkK_14)), (it_5, .inl (ci_12, 40, .inl (fun _ => 0))), (en_6, .inl (ce_13, 41, .inl (fun _ => 0))), (rd_8, .inr (5, .ref tk_9 :: .null :: .int 0 :: .int 0 :: .int (-1) :: .int 0 :: .int 0 :: tlR_16)), (tk_9, .inr (7, [.ref ut_10, .int 0, .int 0, .int 257, .int 0, .long 0, .int 0, .long 0])), (mat_21, .inl (mcT_27, 3000, .inl (fun _ => 0))), (ma1_22, .inl (md1_28, 6000, .inl mp1_34)), (ma2_23, .inl (md2_29, 6000, .inl mp2_35)), (ma3_24, .inl (md3_30, 6000, .inl mp3_36)), (ma4_25, .inl (md4_31, 6000, .inl mp4_37)), (ma5_26, .inl (md5_32, 6000, .inl mp5_38))] [(ct_11, .byte), (ci_12, .boolean), (ce_13, .int), (mcT_27, .byte), (md1_28, .int), (md2_29, .int), (md3_30, .int), (md4_31, .int), (md5_32, .boolean)] s H locs := hw
        obtain rfl := hu_193
        refine lv_icmp_eq (tgt := 502) hf.1 hf.2.1 dL_law_441 (by decide) (fun c_194 => ?_) (fun c_194 => absurd (by decide) c_194)
        exact J502 _ _ _ hw.2.2.2.1 (lv_sub hl [0, 3] rfl)
      · subst eks
        refine lv_tableIn (tgt := 446) hf.1 hf.2.1 dL_law_33 (by decide) (by decide) rfl (by decide) ?_
        refine lv_aload_n hf.1 hf.2.1 dL_law_446 rfl (lv_at hl 2 rfl) ?_
        refine lv_aload_n hf.1 hf.2.1 dL_law_447 rfl (lv_at hl 3 rfl) ?_
        refine lv_iload_n hf.1 hf.2.1 dL_law_448 rfl (lv_at hl 0 rfl) ?_
        refine lv_iconst (v := 1) hf.1 hf.2.1 dL_law_449 (by decide) ?_
        refine lv_iadd hf.1 hf.2.1 dL_law_450 ?_
        refine lv_topi (fun x_195 ex_195 => ?_)
        obtain rfl : x_195 = 1 := by rw [ex_195]; decide
        refine va_sld hf.1 hf.2.1 hX hbl hbA hw.2.2.2.1 (by unfold vp_in; decide) dL_law_451 ?_
        refine lv_topi (fun z_196 ez_196 => ?_)
        refine lv_aload_n hf.1 hf.2.1 dL_law_452 rfl (lv_at hl 3 rfl) ?_
        refine lv_iload_n hf.1 hf.2.1 dL_law_453 rfl (lv_at hl 0 rfl) ?_
        refine lv_iconst (v := 2) hf.1 hf.2.1 dL_law_454 (by decide) ?_
        refine lv_iadd hf.1 hf.2.1 dL_law_455 ?_
        refine lv_topi (fun x_197 ex_197 => ?_)
        obtain rfl : x_197 = 2 := by rw [ex_197]; decide
        refine va_sld hf.1 hf.2.1 hX hbl hbA hw.2.2.2.1 (by unfold vp_in; decide) dL_law_456 ?_
        refine lv_topi (fun z_198 ez_198 => ?_)
        refine mV_i (As := [.int z_196, .int z_198]) (rest := []) (wr := [(tp_2, .inl (ct_11, 3000, .inl (fun _ => 0))), (sp_3, .inr (4, .ref k_4 :: .int 0 :: .int (-1) :: .ref it_5 :: .ref en_6 :: .int 0 :: .int 0 :: tlP_15)), (k_4, .inr (3, .int (nI n_7) :: tkK_14)), (it_5, .inl (ci_12, 40, .inl (fun _ => 0))), (en_6, .inl (ce_13, 41, .inl (fun _ => 0))), (rd_8, .inr (5, .ref tk_9 :: .null :: .int 0 :: .int 0 :: .int (-1) :: .int 0 :: .int 0 :: tlR_16)), (tk_9, .inr (7, [.ref ut_10, .int 0, .int 0, .int 257, .int 0, .long 0, .int 0, .long 0])), (q_20, .inr (9, .int 0 :: .int 0 :: .int 0 :: .int 0 :: .int 0 :: .int 0 :: .int 0 :: .long 0 :: .int 0 :: .int 0 :: .int (-1) :: .int (-1) :: .int (nI mk_33) :: .int 0 :: .int 0 :: .int 0 :: .int 0 :: .int 0 :: .int 0 :: .int 0 :: .ref mat_21 :: .ref ma1_22 :: .ref ma2_23 :: .ref ma3_24 :: .ref ma4_25 :: .ref ma5_26 :: mtl_39)), (mat_21, .inl (mcT_27, 3000, .inl (fun _ => 0))), (ma1_22, .inl (md1_28, 6000, .inl mp1_34)), (ma2_23, .inl (md2_29, 6000, .inl mp2_35)), (ma3_24, .inl (md3_30, 6000, .inl mp3_36)), (ma4_25, .inl (md4_31, 6000, .inl mp4_37)), (ma5_26, .inl (md5_32, 6000, .inl mp5_38))]) (tr := [(ct_11, .byte), (ci_12, .boolean), (ce_13, .int), (mcT_27, .byte), (md1_28, .int), (md2_29, .int), (md3_30, .int), (md4_31, .int), (md5_32, .boolean)]) hf hw (b_asked l dC dI q_1 tp_2 sp_3 rd_8 tl_17 z_196 z_198 H.size htl_17) ka_X10_asked kv_X10_asked 0 rfl rfl k1343 [0] [] [1, 2, 3, 4, 5, 6, 7, 8, 9, 10, 11, 12, 13, 14] [0, 1, 2, 3, 4, 5, 6, 7, 8] rfl rfl rfl rfl rfl (by decide) rfl rfl rfl hl.1 rfl rfl ⟨Nat.le_of_ble_eq_true rfl, Nat.le_of_ble_eq_true rfl⟩ (Nat.le_of_ble_eq_true rfl) (ce := 170) (sl := 571970) rfl rfl ⟨Nat.le_of_ble_eq_true rfl, Nat.le_of_ble_eq_true rfl⟩ dL_law_457 (fun r_199 u_200 hu_200 H locs hw => ?_)
        have hw : Wd dC dI (fun q : Nat => s.heap.size ≤ q) [(tp_2, .inl (ct_11, 3000, .inl (fun _ => 0))), (sp_3, .inr (4, .ref k_4 :: .int 0 :: .int (-1) :: .ref it_5 :: .ref en_6 :: .int 0 :: .int 0 :: tlP_15)), (k_4, .inr (3, .int (nI n_7) :: tkK_14)), (it_5, .inl (ci_12, 40, .inl (fun _ => 0))), (en_6, .inl (ce_13, 41, .inl (fun _ => 0))), (rd_8, .inr (5, .ref tk_9 :: .null :: .int 0 :: .int 0 :: .int (-1) :: .int 0 :: .int 0 :: tlR_16)), (tk_9, .inr (7, [.ref ut_10, .int 0, .int 0, .int 257, .int 0, .long 0, .int 0, .long 0])), (q_20, .inr (9, .int 0 :: .int 0 :: .int 0 :: .int 0 :: .int 0 :: .int 0 :: .int 0 :: .long 0 :: .int 0 :: .int 0 :: .int (-1) :: .int (-1) :: .int (nI mk_33) :: .int 0 :: .int 0 :: .int 0 :: .int 0 :: .int 0 :: .int 0 :: .int 0 :: .ref mat_21 :: .ref ma1_22 :: .ref ma2_23 :: .ref ma3_24 :: .ref ma4_25 :: .ref ma5_26 :: mtl_39)), (mat_21, .inl (mcT_27, 3000, .inl (fun _ => 0))), (ma1_22, .inl (md1_28, 6000, .inl mp1_34)), (ma2_23, .inl (md2_29, 6000, .inl mp2_35)), (ma3_24, .inl (md3_30, 6000, .inl mp3_36)), (ma4_25, .inl (md4_31, 6000, .inl mp4_37)), (ma5_26, .inl (md5_32, 6000, .inl mp5_38))] [(ct_11, .byte), (ci_12, .boolean), (ce_13, .int), (mcT_27, .byte), (md1_28, .int), (md2_29, .int), (md3_30, .int), (md4_31, .int), (md5_32, .boolean)] s H locs := hw
        obtain rfl := hu_200
        refine lv_aload_n hf.1 hf.2.1 dL_law_460 rfl (lv_at hl 1 rfl) ?_
        refine lv_aload_n hf.1 hf.2.1 dL_law_461 rfl (lv_at hl 3 rfl) ?_
        refine lv_iload_n hf.1 hf.2.1 dL_law_462 rfl (lv_at hl 0 rfl) ?_
        refine lv_iconst (v := 1) hf.1 hf.2.1 dL_law_463 (by decide) ?_
        refine lv_iadd hf.1 hf.2.1 dL_law_464 ?_
        refine lv_topi (fun x_201 ex_201 => ?_)
        obtain rfl : x_201 = 1 := by rw [ex_201]; decide
        refine va_sld hf.1 hf.2.1 hX hbl hbA hw.2.2.2.1 (by unfold vp_in; decide) dL_law_465 ?_
        refine lv_topi (fun z_202 ez_202 => ?_)
        obtain rfl : z_196 = z_202 := by rw [ez_196, ez_202]
        refine lv_aload_n hf.1 hf.2.1 dL_law_466 rfl (lv_at hl 3 rfl) ?_
        refine lv_iload_n hf.1 hf.2.1 dL_law_467 rfl (lv_at hl 0 rfl) ?_
        refine lv_iconst (v := 2) hf.1 hf.2.1 dL_law_468 (by decide) ?_
        refine lv_iadd hf.1 hf.2.1 dL_law_469 ?_
        refine lv_topi (fun x_203 ex_203 => ?_)
        obtain rfl : x_203 = 2 := by rw [ex_203]; decide
        refine va_sld hf.1 hf.2.1 hX hbl hbA hw.2.2.2.1 (by unfold vp_in; decide) dL_law_470 ?_
        refine lv_topi (fun z_204 ez_204 => ?_)
        obtain rfl : z_198 = z_204 := by rw [ez_198, ez_204]
        refine mV_i (As := [.int z_196, .int z_198]) (rest := [.int (-1)]) (wr := [(tp_2, .inl (ct_11, 3000, .inl (fun _ => 0))), (sp_3, .inr (4, .ref k_4 :: .int 0 :: .int (-1) :: .ref it_5 :: .ref en_6 :: .int 0 :: .int 0 :: tlP_15)), (k_4, .inr (3, .int (nI n_7) :: tkK_14)), (it_5, .inl (ci_12, 40, .inl (fun _ => 0))), (en_6, .inl (ce_13, 41, .inl (fun _ => 0))), (rd_8, .inr (5, .ref tk_9 :: .null :: .int 0 :: .int 0 :: .int (-1) :: .int 0 :: .int 0 :: tlR_16)), (tk_9, .inr (7, [.ref ut_10, .int 0, .int 0, .int 257, .int 0, .long 0, .int 0, .long 0])), (mat_21, .inl (mcT_27, 3000, .inl (fun _ => 0))), (ma1_22, .inl (md1_28, 6000, .inl mp1_34)), (ma2_23, .inl (md2_29, 6000, .inl mp2_35)), (ma3_24, .inl (md3_30, 6000, .inl mp3_36)), (ma4_25, .inl (md4_31, 6000, .inl mp4_37)), (ma5_26, .inl (md5_32, 6000, .inl mp5_38))]) (tr := [(ct_11, .byte), (ci_12, .boolean), (ce_13, .int), (mcT_27, .byte), (md1_28, .int), (md2_29, .int), (md3_30, .int), (md4_31, .int), (md5_32, .boolean)]) hf hw (m_asked l dC dI q_20 mtl_39 (.int 0) (.int 0) (.int 0) (.int 0) (.int 0) (.int 0) (.int 0) (.long 0) (.int 0) (.int 0) (.int (-1)) (.int (-1)) (.int (nI mk_33)) (.int 0) (.int 0) (.int 0) (.int 0) (.int 0) (.int 0) (.ref mat_21) (.ref ma1_22) (.ref ma2_23) (.ref ma3_24) (.ref ma4_25) (.ref ma5_26) z_196 z_198 H.size hmtl_39) ka_X11_asked kv_X11_asked 7 rfl rfl k2192 [7] [] [0, 1, 2, 3, 4, 5, 6, 8, 9, 10, 11, 12, 13] [0, 1, 2, 3, 4, 5, 6, 7, 8] rfl rfl rfl rfl rfl (by decide) rfl rfl rfl hl.1 rfl rfl ⟨Nat.le_of_ble_eq_true rfl, Nat.le_of_ble_eq_true rfl⟩ (Nat.le_of_ble_eq_true rfl) (ce := 170) (sl := 571970) rfl rfl ⟨Nat.le_of_ble_eq_true rfl, Nat.le_of_ble_eq_true rfl⟩ dL_law_471 (fun r_205 u_206 hu_206 H locs hw => ?_)
        have hw : Wd dC dI (fun q : Nat => s.heap.size ≤ q) [(tp_2, .inl (ct_11, 3000, .inl (fun _ => 0))), (sp_3, .inr (4, .ref k_4 :: .int 0 :: .int (-1) :: .ref it_5 :: .ref en_6 :: .int 0 :: .int 0 :: tlP_15)), (k_4, .inr (3, .int (nI n_7) :: tkK_14)), (it_5, .inl (ci_12, 40, .inl (fun _ => 0))), (en_6, .inl (ce_13, 41, .inl (fun _ => 0))), (rd_8, .inr (5, .ref tk_9 :: .null :: .int 0 :: .int 0 :: .int (-1) :: .int 0 :: .int 0 :: tlR_16)), (tk_9, .inr (7, [.ref ut_10, .int 0, .int 0, .int 257, .int 0, .long 0, .int 0, .long 0])), (mat_21, .inl (mcT_27, 3000, .inl (fun _ => 0))), (ma1_22, .inl (md1_28, 6000, .inl mp1_34)), (ma2_23, .inl (md2_29, 6000, .inl mp2_35)), (ma3_24, .inl (md3_30, 6000, .inl mp3_36)), (ma4_25, .inl (md4_31, 6000, .inl mp4_37)), (ma5_26, .inl (md5_32, 6000, .inl mp5_38))] [(ct_11, .byte), (ci_12, .boolean), (ce_13, .int), (mcT_27, .byte), (md1_28, .int), (md2_29, .int), (md3_30, .int), (md4_31, .int), (md5_32, .boolean)] s H locs := hw
        obtain rfl := hu_206
        refine lv_icmp_eq (tgt := 502) hf.1 hf.2.1 dL_law_474 (by decide) (fun c_207 => ?_) (fun c_207 => absurd (by decide) c_207)
        exact J502 _ _ _ hw.2.2.2.1 (lv_sub hl [0, 3] rfl)
      · subst eks
        refine lv_tableIn (tgt := 479) hf.1 hf.2.1 dL_law_33 (by decide) (by decide) rfl (by decide) ?_
        refine lv_aload_n hf.1 hf.2.1 dL_law_479 rfl (lv_at hl 2 rfl) ?_
        refine lv_aload_n hf.1 hf.2.1 dL_law_480 rfl (lv_at hl 3 rfl) ?_
        refine lv_iload_n hf.1 hf.2.1 dL_law_481 rfl (lv_at hl 0 rfl) ?_
        refine lv_iconst (v := 1) hf.1 hf.2.1 dL_law_482 (by decide) ?_
        refine lv_iadd hf.1 hf.2.1 dL_law_483 ?_
        refine lv_topi (fun x_208 ex_208 => ?_)
        obtain rfl : x_208 = 1 := by rw [ex_208]; decide
        refine va_sld hf.1 hf.2.1 hX hbl hbA hw.2.2.2.1 (by unfold vp_in; decide) dL_law_484 ?_
        refine lv_topi (fun z_209 ez_209 => ?_)
        refine mV_i (As := [.int z_209]) (rest := []) (wr := [(tp_2, .inl (ct_11, 3000, .inl (fun _ => 0))), (sp_3, .inr (4, .ref k_4 :: .int 0 :: .int (-1) :: .ref it_5 :: .ref en_6 :: .int 0 :: .int 0 :: tlP_15)), (k_4, .inr (3, .int (nI n_7) :: tkK_14)), (it_5, .inl (ci_12, 40, .inl (fun _ => 0))), (en_6, .inl (ce_13, 41, .inl (fun _ => 0))), (rd_8, .inr (5, .ref tk_9 :: .null :: .int 0 :: .int 0 :: .int (-1) :: .int 0 :: .int 0 :: tlR_16)), (tk_9, .inr (7, [.ref ut_10, .int 0, .int 0, .int 257, .int 0, .long 0, .int 0, .long 0])), (q_20, .inr (9, .int 0 :: .int 0 :: .int 0 :: .int 0 :: .int 0 :: .int 0 :: .int 0 :: .long 0 :: .int 0 :: .int 0 :: .int (-1) :: .int (-1) :: .int (nI mk_33) :: .int 0 :: .int 0 :: .int 0 :: .int 0 :: .int 0 :: .int 0 :: .int 0 :: .ref mat_21 :: .ref ma1_22 :: .ref ma2_23 :: .ref ma3_24 :: .ref ma4_25 :: .ref ma5_26 :: mtl_39)), (mat_21, .inl (mcT_27, 3000, .inl (fun _ => 0))), (ma1_22, .inl (md1_28, 6000, .inl mp1_34)), (ma2_23, .inl (md2_29, 6000, .inl mp2_35)), (ma3_24, .inl (md3_30, 6000, .inl mp3_36)), (ma4_25, .inl (md4_31, 6000, .inl mp4_37)), (ma5_26, .inl (md5_32, 6000, .inl mp5_38))]) (tr := [(ct_11, .byte), (ci_12, .boolean), (ce_13, .int), (mcT_27, .byte), (md1_28, .int), (md2_29, .int), (md3_30, .int), (md4_31, .int), (md5_32, .boolean)]) hf hw (b_about l dC dI q_1 tp_2 sp_3 rd_8 tl_17 z_209 H.size htl_17) ka_X10_about kv_X10_about 0 rfl rfl k1347 [0] [] [1, 2, 3, 4, 5, 6, 7, 8, 9, 10, 11, 12, 13, 14] [0, 1, 2, 3, 4, 5, 6, 7, 8] rfl rfl rfl rfl rfl (by decide) rfl rfl rfl hl.1 rfl rfl ⟨Nat.le_of_ble_eq_true rfl, Nat.le_of_ble_eq_true rfl⟩ (Nat.le_of_ble_eq_true rfl) (ce := 170) (sl := 571970) rfl rfl ⟨Nat.le_of_ble_eq_true rfl, Nat.le_of_ble_eq_true rfl⟩ dL_law_485 (fun r_210 u_211 hu_211 H locs hw => ?_)
        have hw : Wd dC dI (fun q : Nat => s.heap.size ≤ q) [(tp_2, .inl (ct_11, 3000, .inl (fun _ => 0))), (sp_3, .inr (4, .ref k_4 :: .int 0 :: .int (-1) :: .ref it_5 :: .ref en_6 :: .int 0 :: .int 0 :: tlP_15)), (k_4, .inr (3, .int (nI n_7) :: tkK_14)), (it_5, .inl (ci_12, 40, .inl (fun _ => 0))), (en_6, .inl (ce_13, 41, .inl (fun _ => 0))), (rd_8, .inr (5, .ref tk_9 :: .null :: .int 0 :: .int 0 :: .int (-1) :: .int 0 :: .int 0 :: tlR_16)), (tk_9, .inr (7, [.ref ut_10, .int 0, .int 0, .int 257, .int 0, .long 0, .int 0, .long 0])), (q_20, .inr (9, .int 0 :: .int 0 :: .int 0 :: .int 0 :: .int 0 :: .int 0 :: .int 0 :: .long 0 :: .int 0 :: .int 0 :: .int (-1) :: .int (-1) :: .int (nI mk_33) :: .int 0 :: .int 0 :: .int 0 :: .int 0 :: .int 0 :: .int 0 :: .int 0 :: .ref mat_21 :: .ref ma1_22 :: .ref ma2_23 :: .ref ma3_24 :: .ref ma4_25 :: .ref ma5_26 :: mtl_39)), (mat_21, .inl (mcT_27, 3000, .inl (fun _ => 0))), (ma1_22, .inl (md1_28, 6000, .inl mp1_34)), (ma2_23, .inl (md2_29, 6000, .inl mp2_35)), (ma3_24, .inl (md3_30, 6000, .inl mp3_36)), (ma4_25, .inl (md4_31, 6000, .inl mp4_37)), (ma5_26, .inl (md5_32, 6000, .inl mp5_38))] [(ct_11, .byte), (ci_12, .boolean), (ce_13, .int), (mcT_27, .byte), (md1_28, .int), (md2_29, .int), (md3_30, .int), (md4_31, .int), (md5_32, .boolean)] s H locs := hw
        obtain rfl := hu_211
        refine lv_aload_n hf.1 hf.2.1 dL_law_488 rfl (lv_at hl 1 rfl) ?_
        refine lv_aload_n hf.1 hf.2.1 dL_law_489 rfl (lv_at hl 3 rfl) ?_
        refine lv_iload_n hf.1 hf.2.1 dL_law_490 rfl (lv_at hl 0 rfl) ?_
        refine lv_iconst (v := 1) hf.1 hf.2.1 dL_law_491 (by decide) ?_
        refine lv_iadd hf.1 hf.2.1 dL_law_492 ?_
        refine lv_topi (fun x_212 ex_212 => ?_)
        obtain rfl : x_212 = 1 := by rw [ex_212]; decide
        refine va_sld hf.1 hf.2.1 hX hbl hbA hw.2.2.2.1 (by unfold vp_in; decide) dL_law_493 ?_
        refine lv_topi (fun z_213 ez_213 => ?_)
        obtain rfl : z_209 = z_213 := by rw [ez_209, ez_213]
        refine mV_i (As := [.int z_209]) (rest := [.int (aboutV z_209)]) (wr := [(tp_2, .inl (ct_11, 3000, .inl (fun _ => 0))), (sp_3, .inr (4, .ref k_4 :: .int 0 :: .int (-1) :: .ref it_5 :: .ref en_6 :: .int 0 :: .int 0 :: tlP_15)), (k_4, .inr (3, .int (nI n_7) :: tkK_14)), (it_5, .inl (ci_12, 40, .inl (fun _ => 0))), (en_6, .inl (ce_13, 41, .inl (fun _ => 0))), (rd_8, .inr (5, .ref tk_9 :: .null :: .int 0 :: .int 0 :: .int (-1) :: .int 0 :: .int 0 :: tlR_16)), (tk_9, .inr (7, [.ref ut_10, .int 0, .int 0, .int 257, .int 0, .long 0, .int 0, .long 0])), (mat_21, .inl (mcT_27, 3000, .inl (fun _ => 0))), (ma1_22, .inl (md1_28, 6000, .inl mp1_34)), (ma2_23, .inl (md2_29, 6000, .inl mp2_35)), (ma3_24, .inl (md3_30, 6000, .inl mp3_36)), (ma4_25, .inl (md4_31, 6000, .inl mp4_37)), (ma5_26, .inl (md5_32, 6000, .inl mp5_38))]) (tr := [(ct_11, .byte), (ci_12, .boolean), (ce_13, .int), (mcT_27, .byte), (md1_28, .int), (md2_29, .int), (md3_30, .int), (md4_31, .int), (md5_32, .boolean)]) hf hw (m_about l dC dI q_20 mtl_39 (.int 0) (.int 0) (.int 0) (.int 0) (.int 0) (.long 0) (.int 0) (.int 0) (.int (-1)) (.int (-1)) (.int (nI mk_33)) (.int 0) (.int 0) (.int 0) (.int 0) (.int 0) (.int 0) (.ref mat_21) (.ref ma1_22) (.ref ma2_23) (.ref ma3_24) (.ref ma4_25) (.ref ma5_26) z_209 H.size hmtl_39) ka_X11_about kv_X11_about 7 rfl rfl k2196 [7] [] [0, 1, 2, 3, 4, 5, 6, 8, 9, 10, 11, 12, 13] [0, 1, 2, 3, 4, 5, 6, 7, 8] rfl rfl rfl rfl rfl (by decide) rfl rfl rfl hl.1 rfl rfl ⟨Nat.le_of_ble_eq_true rfl, Nat.le_of_ble_eq_true rfl⟩ (Nat.le_of_ble_eq_true rfl) (ce := 170) (sl := 571970) rfl rfl ⟨Nat.le_of_ble_eq_true rfl, Nat.le_of_ble_eq_true rfl⟩ dL_law_494 (fun r_214 u_215 hu_215 H locs hw => ?_)
        have hw : Wd dC dI (fun q : Nat => s.heap.size ≤ q) [(tp_2, .inl (ct_11, 3000, .inl (fun _ => 0))), (sp_3, .inr (4, .ref k_4 :: .int 0 :: .int (-1) :: .ref it_5 :: .ref en_6 :: .int 0 :: .int 0 :: tlP_15)), (k_4, .inr (3, .int (nI n_7) :: tkK_14)), (it_5, .inl (ci_12, 40, .inl (fun _ => 0))), (en_6, .inl (ce_13, 41, .inl (fun _ => 0))), (rd_8, .inr (5, .ref tk_9 :: .null :: .int 0 :: .int 0 :: .int (-1) :: .int 0 :: .int 0 :: tlR_16)), (tk_9, .inr (7, [.ref ut_10, .int 0, .int 0, .int 257, .int 0, .long 0, .int 0, .long 0])), (mat_21, .inl (mcT_27, 3000, .inl (fun _ => 0))), (ma1_22, .inl (md1_28, 6000, .inl mp1_34)), (ma2_23, .inl (md2_29, 6000, .inl mp2_35)), (ma3_24, .inl (md3_30, 6000, .inl mp3_36)), (ma4_25, .inl (md4_31, 6000, .inl mp4_37)), (ma5_26, .inl (md5_32, 6000, .inl mp5_38))] [(ct_11, .byte), (ci_12, .boolean), (ce_13, .int), (mcT_27, .byte), (md1_28, .int), (md2_29, .int), (md3_30, .int), (md4_31, .int), (md5_32, .boolean)] s H locs := hw
        obtain rfl := hu_215
        refine lv_icmp_eq (tgt := 502) hf.1 hf.2.1 dL_law_497 (by decide) (fun c_216 => ?_) (fun c_216 => absurd rfl c_216)
        exact J502 _ _ _ hw.2.2.2.1 (lv_sub hl [0, 3] rfl)
    · refine lv_tableOut (tgt := 502) hf.1 hf.2.1 dL_law_33 hsw (by decide) ?_
      exact J502 _ _ _ hw.2.2.2.1 (lv_sub hl [0, 3] rfl)

set_option maxHeartbeats 4000000 in
set_option maxRecDepth 100000 in
/-- THE LAW, from its entry -/
theorem whole_start {p : Program} {e : Env} {s : State} {m : MethodId} {below : List Frame} {meth : Method} {c : Code} (l : Launch) (hflags : l.flags = flags0) {b L : Nat} {xs : Nat → Int32} (hL : L ≤ 6) (C0 : lw_At p s m meth c b L xs) : W p l e room_1 s m #[Value.ref b] below meth c s.heap [] 0 0 (lw_Z below #[Value.ref b] s) (entryFrame m ([Value.ref b] : List Value).toArray 4) := by
  obtain ⟨hx, hb, hr, hml, hown, hts0, hX, hbl, hlocks, hgv⟩ := id C0
  have hts : ∀ w ∈ gtb, w.before #[Value.ref b] s = true := fun w h => hts0 w (List.mem_filter.mp h).1
  obtain ⟨dC, dI, hKc⟩ := classes_known hts
  have hf : Fx p c code 4 s #[Value.ref b] m R_law := ⟨hx, hb, hml, hown, hts, nk_of hts0⟩
  have hw : Wd dC dI (fun q : Nat => s.heap.size ≤ q) [] [] s s.heap [] := ⟨⟨hKc, fun k q h => by simp at h⟩, fun k q h => by simp at h, ⟨fun i j p q h => by simp at h, fun k q h => by simp at h⟩, va_S.rf, fun _ h => h⟩
  have hl := lv_entry ([.ref b]) (n := 4) (Nat.le_of_ble_eq_true rfl)
  rw [lg_entry_eq]
  exact law_body l hL hf hr hlocks hX hbl s.heap hw _ hl

set_option maxHeartbeats 4000000 in
theorem lw_walk (l : Launch) (hflags : l.flags = flags0) (b : Addr) (xs : List Int32) : MetFree l x (headSpec (Jvm.Cond.code x code maxLocals ret :: tables_1) room_1) (lw_P b xs) (fun _ _ _ _ _ => True) lw_Q := by
  refine MetFree.of_bodyS (code := code) (maxLocals := maxLocals) (ret := ret) (by decide) ?_ ?_
  · intro args s m h hn
    obtain ⟨meth, c, h1, h2, h3, h4, h5, h6, -, -⟩ := Cond.code_spec hn (atoms_spec (ws := Jvm.Cond.code x code maxLocals ret :: tables_1) h _ List.mem_cons_self)
    exact ⟨meth, c, h1, h2, h3, h4, h5, h6⟩
  · intro p e s m args below meth c s₁ B hml0 hP _
    obtain ⟨rfl, hx, hbd, hgv⟩ := hP
    obtain ⟨scr, harrAt, hlist, hof, hsmall⟩ := hx
    obtain ⟨hcb, hkn, -, -⟩ := State.arrayAt?_spec harrAt
    have hown : s.vm.findClass R_law = some m.cls := findClass_of_methodNamed B.named
    have hts0 : ∀ c ∈ (Jvm.Cond.code x code maxLocals ret :: tables_1), c.before #[Value.ref b] s = true := atoms_spec (ws := Jvm.Cond.code x code maxLocals ret :: tables_1) B.pre
    have hts : ∀ w ∈ lw_tbl, w.before #[Value.ref b] s = true := k2_hts_sels lw_privs (fun w hw => hts0 w (List.mem_cons_of_mem _ hw)) lw_privs_ok
    have hml : c.maxLocals = 4 := B.maxLocals_eq (hts0 _ List.mem_cons_self)
    have X₀ : Stand p l e room_1 s m #[Value.ref b] below meth c s₁ [] 0 0 := Stand.of_body B
    have hh0 : s₁.heap = s.heap := by rw [B.state]; rfl
    have hsz : scr.slots.size = xs.length := by rw [← Array.length_toList, hlist, List.length_map]
    have hval : ∀ j : Nat, j < xs.length → scr.slots[j]? = some (.int (xs.getD j 0)) := fun j hj => by
      rw [← Array.getElem?_toList, hlist]
      simp [hj]
    have hbl : b < s.heap.size := (Array.getElem?_eq_some_iff.mp hcb).1
    have hX : va_X b xs.length (fun j => xs.getD j 0) s s.heap := ⟨scr, hcb, hof, hkn, hsz, hval⟩
    have K : W p l e room_1 s m #[Value.ref b] below meth c s₁.heap [] 0 0 (lw_Z below #[Value.ref b] s) (entryFrame m ([Value.ref b] : List Value).toArray 4) := by
      rw [hh0]
      exact whole_start l hflags hbd ⟨B.exec, B.bytes, B.returns, hml, hown, hts, hX, hbl, B.notSynchronized, hgv⟩
    obtain ⟨t, a1, o, b1, b2, b3⟩ := K s₁ rfl X₀
    exact ⟨t, o, a1, b1, b2, b3⟩
theorem lw_pre_spec {args : Array Value} {s : State} (h : (Jvm.Cond.and given_1 narrow_1).before args s = true) (hr : rest_1_c.before args s = true) : ∃ (b : Addr) (xs : List Int32), lw_P b xs args s := by
  have hs := flat_of_before _ h
  have hq := flat_of_before _ hr
  have hc : (Cond.count 1).before args s = true := hs _ (by decide +kernel)
  have harr : (Cond.arrayOf (.arg 0) .int).before args s = true := hs _ (by decide +kernel)
  have hle : (Cond.le (.length (.arg 0)) (.int 6)).before args s = true := hs _ (by decide +kernel)
  have hlen : (Cond.isInt (.length (.arg 0))).before args s = true := hq _ (by decide +kernel)
  have hall : (Cond.all (.arg 0) (.isInt (.elem (.arg 0) (.index 0)))).before args s = true := hq _ (by decide +kernel)
  obtain ⟨b, xs, hb, hx⟩ := State.ints_of_pre rfl harr hlen hall
  have hsm : xs.length < 2 ^ 31 := hx.choose_spec.2.2.2
  have hev : (Term.length (.arg 0)).eval args s none [] s = some (.int xs.length.toInt32) := hx.length_eval hb
  have hv := Cond.le_ints hev (show (Term.int 6).eval args s none [] s = some (.int 6) from rfl)
  have hd : xs.length.toInt32 ≤ 6 := by
    simpa [Cond.before, Cond.holds, hv] using hle
  have hN : xs.length ≤ 6 := (Int32.ofNat_le_ofNat hsm (by decide)).mp (show Int32.ofNat xs.length ≤ Int32.ofNat 6 from hd)
  exact ⟨b, xs, Cond.one_arg hc (show args[0]? = some (.ref b) from hb), hx, hN, h⟩
theorem lw_comes (l : Launch) (hflags : l.flags = flags0) : Comes l x (Jvm.Cond.code x code maxLocals ret :: tables_1) room_1 (fun tb e args s => Calls_1 tb e args s ∧ rest_1 tb e args s ∧ Pre_1 tb e args s)
    (fun _ _ args s o t => lw_Q args s o t) := by
  intro p e ha hc hk s m args below hf hfit hheap happ hpre
  obtain ⟨b, xs, hP⟩ := lw_pre_spec hpre.2.2 hpre.2.1
  obtain ⟨k, o, h1, h2, h3, hQ⟩ := lw_walk l hflags b xs p e ha hc hk s m args below hf ((Spec.applies_iff_loose hf).mp happ).1 hP trivial
  exact ⟨k, o, h1, h2, h3, hQ⟩
theorem lw_frame {s t : State} {o : Outcome} {args : Array Value} (h : Framed s o t [] 600000 7302250) :
    Framed s o t (fieldLocs frame_1_writes args s ++ arrayLocs frame_1_arrays args s ++ staticLocs frame_1_statics s) 600000 7302250 := h
theorem lw_limb (L : Cond) (hL : ∀ (args : Array Value) (s t : State), L.after args s (.returned (some (.int 1))) t = true) :
    ArmFor flags0 classFile x code maxLocals ret World_1 tables_1 room_1 Calls_1 rest_1 Pre_1
      (fun tb e a s o t => postC L tb e a s o t ∧ Framed s o t (fieldLocs frame_1_writes a s ++ arrayLocs frame_1_arrays a s ++ staticLocs frame_1_statics s) 600000 7302250) := by
  intro l hflags _ _ p e ha hc hk s m args below hf hfit hheap happ hpre
  obtain ⟨k, o, h1, h2, h3, rfl, hF⟩ := lw_comes l hflags p e ha hc hk s m args below hf hfit hheap happ hpre
  exact ⟨k, _, h1, h2, h3, hL args s _, lw_frame hF⟩
theorem i_vc : Claimed_1_1 ∧ Claimed_1_2 := ⟨lw_limb limb_1_1 (fun args s t => by simp [limb_1_1, Cond.after, Cond.holds, Cond.value]), lw_limb limb_1_2 (fun args s t => Cond.after_iff.mpr (by
  first | (rw [show limb_1_2 = Cond.eq .result (.int 1) from rfl, Cond.eq_ints (x := 1) (y := 1) rfl rfl]; simp; done) | (simp [limb_1_2, Cond.value, Term.eval]; done)))⟩
