theorem dL_law_0 : decode code 0 = .ok (.new 7, 3) := by decide +kernel
theorem dL_law_3 : decode code 3 = .ok (.dup, 1) := by decide +kernel
theorem dL_law_4 : decode code 4 = .ok (.invokespecial 9, 3) := by decide +kernel
theorem dL_law_7 : decode code 7 = .ok (.astore_n 1, 1) := by decide +kernel
theorem dL_law_8 : decode code 8 = .ok (.new 10, 3) := by decide +kernel
theorem dL_law_11 : decode code 11 = .ok (.dup, 1) := by decide +kernel
theorem dL_law_12 : decode code 12 = .ok (.invokespecial 12, 3) := by decide +kernel
theorem dL_law_15 : decode code 15 = .ok (.astore_n 2, 1) := by decide +kernel
theorem dL_law_16 : decode code 16 = .ok (.iconst 0, 1) := by decide +kernel
theorem dL_law_17 : decode code 17 = .ok (.istore_n 3, 1) := by decide +kernel
theorem dL_law_18 : decode code 18 = .ok (.iload_n 3, 1) := by decide +kernel
theorem dL_law_19 : decode code 19 = .ok (.aload_n 0, 1) := by decide +kernel
theorem dL_law_20 : decode code 20 = .ok (.arraylength, 1) := by decide +kernel
theorem dL_law_21 : decode code 21 = .ok (.bipush 6, 2) := by decide +kernel
theorem dL_law_23 : decode code 23 = .ok (.isub, 1) := by decide +kernel
theorem dL_law_24 : decode code 24 = .ok (.if_icmp .gt 484, 3) := by decide +kernel
theorem dL_law_27 : decode code 27 = .ok (.aload_n 0, 1) := by decide +kernel
theorem dL_law_28 : decode code 28 = .ok (.iload_n 3, 1) := by decide +kernel
theorem dL_law_29 : decode code 29 = .ok (.iaload, 1) := by decide +kernel
theorem dL_law_30 : decode code 30 = .ok (.bipush 15, 2) := by decide +kernel
theorem dL_law_32 : decode code 32 = .ok (.iand, 1) := by decide +kernel
theorem dL_law_33 : decode code 33 = .ok (.tableswitch 469 0 13 #[71, 134, 157, 170, 193, 242, 255, 288, 321, 344, 367, 390, 413, 446], 71) := by decide +kernel
theorem dL_law_104 : decode code 104 = .ok (.aload_n 1, 1) := by decide +kernel
theorem dL_law_105 : decode code 105 = .ok (.aload_n 0, 1) := by decide +kernel
theorem dL_law_106 : decode code 106 = .ok (.iload_n 3, 1) := by decide +kernel
theorem dL_law_107 : decode code 107 = .ok (.iconst 1, 1) := by decide +kernel
theorem dL_law_108 : decode code 108 = .ok (.iadd, 1) := by decide +kernel
theorem dL_law_109 : decode code 109 = .ok (.iaload, 1) := by decide +kernel
theorem dL_law_110 : decode code 110 = .ok (.aload_n 0, 1) := by decide +kernel
theorem dL_law_111 : decode code 111 = .ok (.iload_n 3, 1) := by decide +kernel
theorem dL_law_112 : decode code 112 = .ok (.iconst 2, 1) := by decide +kernel
theorem dL_law_113 : decode code 113 = .ok (.iadd, 1) := by decide +kernel
theorem dL_law_114 : decode code 114 = .ok (.iaload, 1) := by decide +kernel
theorem dL_law_115 : decode code 115 = .ok (.aload_n 0, 1) := by decide +kernel
theorem dL_law_116 : decode code 116 = .ok (.iload_n 3, 1) := by decide +kernel
theorem dL_law_117 : decode code 117 = .ok (.iconst 3, 1) := by decide +kernel
theorem dL_law_118 : decode code 118 = .ok (.iadd, 1) := by decide +kernel
theorem dL_law_119 : decode code 119 = .ok (.iaload, 1) := by decide +kernel
theorem dL_law_120 : decode code 120 = .ok (.aload_n 0, 1) := by decide +kernel
theorem dL_law_121 : decode code 121 = .ok (.iload_n 3, 1) := by decide +kernel
theorem dL_law_122 : decode code 122 = .ok (.iconst 4, 1) := by decide +kernel
theorem dL_law_123 : decode code 123 = .ok (.iadd, 1) := by decide +kernel
theorem dL_law_124 : decode code 124 = .ok (.iaload, 1) := by decide +kernel
theorem dL_law_125 : decode code 125 = .ok (.aload_n 0, 1) := by decide +kernel
theorem dL_law_126 : decode code 126 = .ok (.iload_n 3, 1) := by decide +kernel
theorem dL_law_127 : decode code 127 = .ok (.iconst 5, 1) := by decide +kernel
theorem dL_law_128 : decode code 128 = .ok (.iadd, 1) := by decide +kernel
theorem dL_law_129 : decode code 129 = .ok (.iaload, 1) := by decide +kernel
theorem dL_law_130 : decode code 130 = .ok (.invokevirtual 13, 3) := by decide +kernel
theorem dL_law_133 : decode code 133 = .ok (.pop, 1) := by decide +kernel
theorem dL_law_134 : decode code 134 = .ok (.aload_n 2, 1) := by decide +kernel
theorem dL_law_135 : decode code 135 = .ok (.aload_n 0, 1) := by decide +kernel
theorem dL_law_136 : decode code 136 = .ok (.iload_n 3, 1) := by decide +kernel
theorem dL_law_137 : decode code 137 = .ok (.iconst 1, 1) := by decide +kernel
theorem dL_law_138 : decode code 138 = .ok (.iadd, 1) := by decide +kernel
theorem dL_law_139 : decode code 139 = .ok (.iaload, 1) := by decide +kernel
theorem dL_law_140 : decode code 140 = .ok (.aload_n 0, 1) := by decide +kernel
theorem dL_law_141 : decode code 141 = .ok (.iload_n 3, 1) := by decide +kernel
theorem dL_law_142 : decode code 142 = .ok (.iconst 2, 1) := by decide +kernel
theorem dL_law_143 : decode code 143 = .ok (.iadd, 1) := by decide +kernel
theorem dL_law_144 : decode code 144 = .ok (.iaload, 1) := by decide +kernel
theorem dL_law_145 : decode code 145 = .ok (.aload_n 0, 1) := by decide +kernel
theorem dL_law_146 : decode code 146 = .ok (.iload_n 3, 1) := by decide +kernel
theorem dL_law_147 : decode code 147 = .ok (.iconst 3, 1) := by decide +kernel
theorem dL_law_148 : decode code 148 = .ok (.iadd, 1) := by decide +kernel
theorem dL_law_149 : decode code 149 = .ok (.iaload, 1) := by decide +kernel
theorem dL_law_150 : decode code 150 = .ok (.aload_n 0, 1) := by decide +kernel
theorem dL_law_151 : decode code 151 = .ok (.iload_n 3, 1) := by decide +kernel
theorem dL_law_152 : decode code 152 = .ok (.iconst 4, 1) := by decide +kernel
theorem dL_law_153 : decode code 153 = .ok (.iadd, 1) := by decide +kernel
theorem dL_law_154 : decode code 154 = .ok (.iaload, 1) := by decide +kernel
theorem dL_law_155 : decode code 155 = .ok (.aload_n 0, 1) := by decide +kernel
theorem dL_law_156 : decode code 156 = .ok (.iload_n 3, 1) := by decide +kernel
theorem dL_law_157 : decode code 157 = .ok (.iconst 5, 1) := by decide +kernel
theorem dL_law_158 : decode code 158 = .ok (.iadd, 1) := by decide +kernel
theorem dL_law_159 : decode code 159 = .ok (.iaload, 1) := by decide +kernel
theorem dL_law_160 : decode code 160 = .ok (.invokevirtual 17, 3) := by decide +kernel
theorem dL_law_163 : decode code 163 = .ok (.pop, 1) := by decide +kernel
theorem dL_law_164 : decode code 164 = .ok (.goto 338, 3) := by decide +kernel
theorem dL_law_167 : decode code 167 = .ok (.aload_n 1, 1) := by decide +kernel
theorem dL_law_168 : decode code 168 = .ok (.aload_n 0, 1) := by decide +kernel
theorem dL_law_169 : decode code 169 = .ok (.iload_n 3, 1) := by decide +kernel
theorem dL_law_170 : decode code 170 = .ok (.iconst 1, 1) := by decide +kernel
theorem dL_law_171 : decode code 171 = .ok (.iadd, 1) := by decide +kernel
theorem dL_law_172 : decode code 172 = .ok (.iaload, 1) := by decide +kernel
theorem dL_law_173 : decode code 173 = .ok (.invokevirtual 18, 3) := by decide +kernel
theorem dL_law_176 : decode code 176 = .ok (.pop, 1) := by decide +kernel
theorem dL_law_177 : decode code 177 = .ok (.aload_n 2, 1) := by decide +kernel
theorem dL_law_178 : decode code 178 = .ok (.aload_n 0, 1) := by decide +kernel
theorem dL_law_179 : decode code 179 = .ok (.iload_n 3, 1) := by decide +kernel
theorem dL_law_180 : decode code 180 = .ok (.iconst 1, 1) := by decide +kernel
theorem dL_law_181 : decode code 181 = .ok (.iadd, 1) := by decide +kernel
theorem dL_law_182 : decode code 182 = .ok (.iaload, 1) := by decide +kernel
theorem dL_law_183 : decode code 183 = .ok (.invokevirtual 22, 3) := by decide +kernel
theorem dL_law_186 : decode code 186 = .ok (.pop, 1) := by decide +kernel
theorem dL_law_187 : decode code 187 = .ok (.goto 315, 3) := by decide +kernel
theorem dL_law_190 : decode code 190 = .ok (.aload_n 1, 1) := by decide +kernel
theorem dL_law_191 : decode code 191 = .ok (.invokevirtual 23, 3) := by decide +kernel
theorem dL_law_194 : decode code 194 = .ok (.pop, 1) := by decide +kernel
theorem dL_law_195 : decode code 195 = .ok (.aload_n 2, 1) := by decide +kernel
theorem dL_law_196 : decode code 196 = .ok (.invokevirtual 27, 3) := by decide +kernel
theorem dL_law_199 : decode code 199 = .ok (.pop, 1) := by decide +kernel
theorem dL_law_200 : decode code 200 = .ok (.goto 302, 3) := by decide +kernel
theorem dL_law_203 : decode code 203 = .ok (.aload_n 1, 1) := by decide +kernel
theorem dL_law_204 : decode code 204 = .ok (.aload_n 0, 1) := by decide +kernel
theorem dL_law_205 : decode code 205 = .ok (.iload_n 3, 1) := by decide +kernel
theorem dL_law_206 : decode code 206 = .ok (.iconst 1, 1) := by decide +kernel
theorem dL_law_207 : decode code 207 = .ok (.iadd, 1) := by decide +kernel
theorem dL_law_208 : decode code 208 = .ok (.iaload, 1) := by decide +kernel
theorem dL_law_209 : decode code 209 = .ok (.invokevirtual 28, 3) := by decide +kernel
theorem dL_law_212 : decode code 212 = .ok (.pop, 1) := by decide +kernel
theorem dL_law_213 : decode code 213 = .ok (.aload_n 2, 1) := by decide +kernel
theorem dL_law_214 : decode code 214 = .ok (.aload_n 0, 1) := by decide +kernel
theorem dL_law_215 : decode code 215 = .ok (.iload_n 3, 1) := by decide +kernel
theorem dL_law_216 : decode code 216 = .ok (.iconst 1, 1) := by decide +kernel
theorem dL_law_217 : decode code 217 = .ok (.iadd, 1) := by decide +kernel
theorem dL_law_218 : decode code 218 = .ok (.iaload, 1) := by decide +kernel
theorem dL_law_219 : decode code 219 = .ok (.invokevirtual 31, 3) := by decide +kernel
theorem dL_law_222 : decode code 222 = .ok (.pop, 1) := by decide +kernel
theorem dL_law_223 : decode code 223 = .ok (.goto 279, 3) := by decide +kernel
theorem dL_law_226 : decode code 226 = .ok (.aload_n 1, 1) := by decide +kernel
theorem dL_law_227 : decode code 227 = .ok (.aload_n 0, 1) := by decide +kernel
theorem dL_law_228 : decode code 228 = .ok (.iload_n 3, 1) := by decide +kernel
theorem dL_law_229 : decode code 229 = .ok (.iconst 1, 1) := by decide +kernel
theorem dL_law_230 : decode code 230 = .ok (.iadd, 1) := by decide +kernel
theorem dL_law_231 : decode code 231 = .ok (.iaload, 1) := by decide +kernel
theorem dL_law_232 : decode code 232 = .ok (.aload_n 0, 1) := by decide +kernel
theorem dL_law_233 : decode code 233 = .ok (.iload_n 3, 1) := by decide +kernel
theorem dL_law_234 : decode code 234 = .ok (.iconst 2, 1) := by decide +kernel
theorem dL_law_235 : decode code 235 = .ok (.iadd, 1) := by decide +kernel
theorem dL_law_236 : decode code 236 = .ok (.iaload, 1) := by decide +kernel
theorem dL_law_237 : decode code 237 = .ok (.ifCond .eq 7, 3) := by decide +kernel
theorem dL_law_240 : decode code 240 = .ok (.iconst 1, 1) := by decide +kernel
theorem dL_law_241 : decode code 241 = .ok (.goto 4, 3) := by decide +kernel
theorem dL_law_244 : decode code 244 = .ok (.iconst 0, 1) := by decide +kernel
theorem dL_law_245 : decode code 245 = .ok (.invokevirtual 32, 3) := by decide +kernel
theorem dL_law_248 : decode code 248 = .ok (.pop, 1) := by decide +kernel
theorem dL_law_249 : decode code 249 = .ok (.aload_n 2, 1) := by decide +kernel
theorem dL_law_250 : decode code 250 = .ok (.aload_n 0, 1) := by decide +kernel
theorem dL_law_251 : decode code 251 = .ok (.iload_n 3, 1) := by decide +kernel
theorem dL_law_252 : decode code 252 = .ok (.iconst 1, 1) := by decide +kernel
theorem dL_law_253 : decode code 253 = .ok (.iadd, 1) := by decide +kernel
theorem dL_law_254 : decode code 254 = .ok (.iaload, 1) := by decide +kernel
theorem dL_law_255 : decode code 255 = .ok (.aload_n 0, 1) := by decide +kernel
theorem dL_law_256 : decode code 256 = .ok (.iload_n 3, 1) := by decide +kernel
theorem dL_law_257 : decode code 257 = .ok (.iconst 2, 1) := by decide +kernel
theorem dL_law_258 : decode code 258 = .ok (.iadd, 1) := by decide +kernel
theorem dL_law_259 : decode code 259 = .ok (.iaload, 1) := by decide +kernel
theorem dL_law_260 : decode code 260 = .ok (.ifCond .eq 7, 3) := by decide +kernel
theorem dL_law_263 : decode code 263 = .ok (.iconst 1, 1) := by decide +kernel
theorem dL_law_264 : decode code 264 = .ok (.goto 4, 3) := by decide +kernel
theorem dL_law_267 : decode code 267 = .ok (.iconst 0, 1) := by decide +kernel
theorem dL_law_268 : decode code 268 = .ok (.invokevirtual 36, 3) := by decide +kernel
theorem dL_law_271 : decode code 271 = .ok (.pop, 1) := by decide +kernel
theorem dL_law_272 : decode code 272 = .ok (.goto 230, 3) := by decide +kernel
theorem dL_law_275 : decode code 275 = .ok (.aload_n 1, 1) := by decide +kernel
theorem dL_law_276 : decode code 276 = .ok (.invokevirtual 37, 3) := by decide +kernel
theorem dL_law_279 : decode code 279 = .ok (.pop, 1) := by decide +kernel
theorem dL_law_280 : decode code 280 = .ok (.aload_n 2, 1) := by decide +kernel
theorem dL_law_281 : decode code 281 = .ok (.invokevirtual 40, 3) := by decide +kernel
theorem dL_law_284 : decode code 284 = .ok (.pop, 1) := by decide +kernel
theorem dL_law_285 : decode code 285 = .ok (.goto 217, 3) := by decide +kernel
theorem dL_law_288 : decode code 288 = .ok (.aload_n 1, 1) := by decide +kernel
theorem dL_law_289 : decode code 289 = .ok (.aload_n 0, 1) := by decide +kernel
theorem dL_law_290 : decode code 290 = .ok (.iload_n 3, 1) := by decide +kernel
theorem dL_law_291 : decode code 291 = .ok (.iconst 1, 1) := by decide +kernel
theorem dL_law_292 : decode code 292 = .ok (.iadd, 1) := by decide +kernel
theorem dL_law_293 : decode code 293 = .ok (.iaload, 1) := by decide +kernel
theorem dL_law_294 : decode code 294 = .ok (.aload_n 0, 1) := by decide +kernel
theorem dL_law_295 : decode code 295 = .ok (.iload_n 3, 1) := by decide +kernel
theorem dL_law_296 : decode code 296 = .ok (.iconst 2, 1) := by decide +kernel
theorem dL_law_297 : decode code 297 = .ok (.iadd, 1) := by decide +kernel
theorem dL_law_298 : decode code 298 = .ok (.iaload, 1) := by decide +kernel
theorem dL_law_299 : decode code 299 = .ok (.invokevirtual 41, 3) := by decide +kernel
theorem dL_law_302 : decode code 302 = .ok (.pop, 1) := by decide +kernel
theorem dL_law_303 : decode code 303 = .ok (.aload_n 2, 1) := by decide +kernel
theorem dL_law_304 : decode code 304 = .ok (.aload_n 0, 1) := by decide +kernel
theorem dL_law_305 : decode code 305 = .ok (.iload_n 3, 1) := by decide +kernel
theorem dL_law_306 : decode code 306 = .ok (.iconst 1, 1) := by decide +kernel
theorem dL_law_307 : decode code 307 = .ok (.iadd, 1) := by decide +kernel
theorem dL_law_308 : decode code 308 = .ok (.iaload, 1) := by decide +kernel
theorem dL_law_309 : decode code 309 = .ok (.aload_n 0, 1) := by decide +kernel
theorem dL_law_310 : decode code 310 = .ok (.iload_n 3, 1) := by decide +kernel
theorem dL_law_311 : decode code 311 = .ok (.iconst 2, 1) := by decide +kernel
theorem dL_law_312 : decode code 312 = .ok (.iadd, 1) := by decide +kernel
theorem dL_law_313 : decode code 313 = .ok (.iaload, 1) := by decide +kernel
theorem dL_law_314 : decode code 314 = .ok (.invokevirtual 45, 3) := by decide +kernel
theorem dL_law_317 : decode code 317 = .ok (.pop, 1) := by decide +kernel
theorem dL_law_318 : decode code 318 = .ok (.goto 184, 3) := by decide +kernel
theorem dL_law_321 : decode code 321 = .ok (.aload_n 1, 1) := by decide +kernel
theorem dL_law_322 : decode code 322 = .ok (.aload_n 0, 1) := by decide +kernel
theorem dL_law_323 : decode code 323 = .ok (.iload_n 3, 1) := by decide +kernel
theorem dL_law_324 : decode code 324 = .ok (.iconst 1, 1) := by decide +kernel
theorem dL_law_325 : decode code 325 = .ok (.iadd, 1) := by decide +kernel
theorem dL_law_326 : decode code 326 = .ok (.iaload, 1) := by decide +kernel
theorem dL_law_327 : decode code 327 = .ok (.aload_n 0, 1) := by decide +kernel
theorem dL_law_328 : decode code 328 = .ok (.iload_n 3, 1) := by decide +kernel
theorem dL_law_329 : decode code 329 = .ok (.iconst 2, 1) := by decide +kernel
theorem dL_law_330 : decode code 330 = .ok (.iadd, 1) := by decide +kernel
theorem dL_law_331 : decode code 331 = .ok (.iaload, 1) := by decide +kernel
theorem dL_law_332 : decode code 332 = .ok (.invokevirtual 46, 3) := by decide +kernel
theorem dL_law_335 : decode code 335 = .ok (.pop, 1) := by decide +kernel
theorem dL_law_336 : decode code 336 = .ok (.aload_n 2, 1) := by decide +kernel
theorem dL_law_337 : decode code 337 = .ok (.aload_n 0, 1) := by decide +kernel
theorem dL_law_338 : decode code 338 = .ok (.iload_n 3, 1) := by decide +kernel
theorem dL_law_339 : decode code 339 = .ok (.iconst 1, 1) := by decide +kernel
theorem dL_law_340 : decode code 340 = .ok (.iadd, 1) := by decide +kernel
theorem dL_law_341 : decode code 341 = .ok (.iaload, 1) := by decide +kernel
theorem dL_law_342 : decode code 342 = .ok (.aload_n 0, 1) := by decide +kernel
theorem dL_law_343 : decode code 343 = .ok (.iload_n 3, 1) := by decide +kernel
theorem dL_law_344 : decode code 344 = .ok (.iconst 2, 1) := by decide +kernel
theorem dL_law_345 : decode code 345 = .ok (.iadd, 1) := by decide +kernel
theorem dL_law_346 : decode code 346 = .ok (.iaload, 1) := by decide +kernel
theorem dL_law_347 : decode code 347 = .ok (.invokevirtual 49, 3) := by decide +kernel
theorem dL_law_350 : decode code 350 = .ok (.pop, 1) := by decide +kernel
theorem dL_law_351 : decode code 351 = .ok (.goto 151, 3) := by decide +kernel
theorem dL_law_354 : decode code 354 = .ok (.aload_n 1, 1) := by decide +kernel
theorem dL_law_355 : decode code 355 = .ok (.aload_n 0, 1) := by decide +kernel
theorem dL_law_356 : decode code 356 = .ok (.iload_n 3, 1) := by decide +kernel
theorem dL_law_357 : decode code 357 = .ok (.iconst 1, 1) := by decide +kernel
theorem dL_law_358 : decode code 358 = .ok (.iadd, 1) := by decide +kernel
theorem dL_law_359 : decode code 359 = .ok (.iaload, 1) := by decide +kernel
theorem dL_law_360 : decode code 360 = .ok (.invokevirtual 50, 3) := by decide +kernel
theorem dL_law_363 : decode code 363 = .ok (.pop, 1) := by decide +kernel
theorem dL_law_364 : decode code 364 = .ok (.aload_n 2, 1) := by decide +kernel
theorem dL_law_365 : decode code 365 = .ok (.aload_n 0, 1) := by decide +kernel
theorem dL_law_366 : decode code 366 = .ok (.iload_n 3, 1) := by decide +kernel
theorem dL_law_367 : decode code 367 = .ok (.iconst 1, 1) := by decide +kernel
theorem dL_law_368 : decode code 368 = .ok (.iadd, 1) := by decide +kernel
theorem dL_law_369 : decode code 369 = .ok (.iaload, 1) := by decide +kernel
theorem dL_law_370 : decode code 370 = .ok (.invokevirtual 53, 3) := by decide +kernel
theorem dL_law_373 : decode code 373 = .ok (.pop, 1) := by decide +kernel
theorem dL_law_374 : decode code 374 = .ok (.goto 128, 3) := by decide +kernel
theorem dL_law_377 : decode code 377 = .ok (.aload_n 1, 1) := by decide +kernel
theorem dL_law_378 : decode code 378 = .ok (.aload_n 0, 1) := by decide +kernel
theorem dL_law_379 : decode code 379 = .ok (.iload_n 3, 1) := by decide +kernel
theorem dL_law_380 : decode code 380 = .ok (.iconst 1, 1) := by decide +kernel
theorem dL_law_381 : decode code 381 = .ok (.iadd, 1) := by decide +kernel
theorem dL_law_382 : decode code 382 = .ok (.iaload, 1) := by decide +kernel
theorem dL_law_383 : decode code 383 = .ok (.invokevirtual 54, 3) := by decide +kernel
theorem dL_law_386 : decode code 386 = .ok (.pop, 1) := by decide +kernel
theorem dL_law_387 : decode code 387 = .ok (.aload_n 2, 1) := by decide +kernel
theorem dL_law_388 : decode code 388 = .ok (.aload_n 0, 1) := by decide +kernel
theorem dL_law_389 : decode code 389 = .ok (.iload_n 3, 1) := by decide +kernel
theorem dL_law_390 : decode code 390 = .ok (.iconst 1, 1) := by decide +kernel
theorem dL_law_391 : decode code 391 = .ok (.iadd, 1) := by decide +kernel
theorem dL_law_392 : decode code 392 = .ok (.iaload, 1) := by decide +kernel
theorem dL_law_393 : decode code 393 = .ok (.invokevirtual 57, 3) := by decide +kernel
theorem dL_law_396 : decode code 396 = .ok (.pop, 1) := by decide +kernel
theorem dL_law_397 : decode code 397 = .ok (.goto 105, 3) := by decide +kernel
theorem dL_law_400 : decode code 400 = .ok (.aload_n 1, 1) := by decide +kernel
theorem dL_law_401 : decode code 401 = .ok (.aload_n 0, 1) := by decide +kernel
theorem dL_law_402 : decode code 402 = .ok (.iload_n 3, 1) := by decide +kernel
theorem dL_law_403 : decode code 403 = .ok (.iconst 1, 1) := by decide +kernel
theorem dL_law_404 : decode code 404 = .ok (.iadd, 1) := by decide +kernel
theorem dL_law_405 : decode code 405 = .ok (.iaload, 1) := by decide +kernel
theorem dL_law_406 : decode code 406 = .ok (.invokevirtual 58, 3) := by decide +kernel
theorem dL_law_409 : decode code 409 = .ok (.pop, 1) := by decide +kernel
theorem dL_law_410 : decode code 410 = .ok (.aload_n 2, 1) := by decide +kernel
theorem dL_law_411 : decode code 411 = .ok (.aload_n 0, 1) := by decide +kernel
theorem dL_law_412 : decode code 412 = .ok (.iload_n 3, 1) := by decide +kernel
theorem dL_law_413 : decode code 413 = .ok (.iconst 1, 1) := by decide +kernel
theorem dL_law_414 : decode code 414 = .ok (.iadd, 1) := by decide +kernel
theorem dL_law_415 : decode code 415 = .ok (.iaload, 1) := by decide +kernel
theorem dL_law_416 : decode code 416 = .ok (.invokevirtual 61, 3) := by decide +kernel
theorem dL_law_419 : decode code 419 = .ok (.pop, 1) := by decide +kernel
theorem dL_law_420 : decode code 420 = .ok (.goto 82, 3) := by decide +kernel
theorem dL_law_423 : decode code 423 = .ok (.aload_n 1, 1) := by decide +kernel
theorem dL_law_424 : decode code 424 = .ok (.aload_n 0, 1) := by decide +kernel
theorem dL_law_425 : decode code 425 = .ok (.iload_n 3, 1) := by decide +kernel
theorem dL_law_426 : decode code 426 = .ok (.iconst 1, 1) := by decide +kernel
theorem dL_law_427 : decode code 427 = .ok (.iadd, 1) := by decide +kernel
theorem dL_law_428 : decode code 428 = .ok (.iaload, 1) := by decide +kernel
theorem dL_law_429 : decode code 429 = .ok (.invokevirtual 62, 3) := by decide +kernel
theorem dL_law_432 : decode code 432 = .ok (.aload_n 2, 1) := by decide +kernel
theorem dL_law_433 : decode code 433 = .ok (.aload_n 0, 1) := by decide +kernel
theorem dL_law_434 : decode code 434 = .ok (.iload_n 3, 1) := by decide +kernel
theorem dL_law_435 : decode code 435 = .ok (.iconst 1, 1) := by decide +kernel
theorem dL_law_436 : decode code 436 = .ok (.iadd, 1) := by decide +kernel
theorem dL_law_437 : decode code 437 = .ok (.iaload, 1) := by decide +kernel
theorem dL_law_438 : decode code 438 = .ok (.invokevirtual 65, 3) := by decide +kernel
theorem dL_law_441 : decode code 441 = .ok (.if_icmp .eq 61, 3) := by decide +kernel
theorem dL_law_446 : decode code 446 = .ok (.aload_n 1, 1) := by decide +kernel
theorem dL_law_447 : decode code 447 = .ok (.aload_n 0, 1) := by decide +kernel
theorem dL_law_448 : decode code 448 = .ok (.iload_n 3, 1) := by decide +kernel
theorem dL_law_449 : decode code 449 = .ok (.iconst 1, 1) := by decide +kernel
theorem dL_law_450 : decode code 450 = .ok (.iadd, 1) := by decide +kernel
theorem dL_law_451 : decode code 451 = .ok (.iaload, 1) := by decide +kernel
theorem dL_law_452 : decode code 452 = .ok (.aload_n 0, 1) := by decide +kernel
theorem dL_law_453 : decode code 453 = .ok (.iload_n 3, 1) := by decide +kernel
theorem dL_law_454 : decode code 454 = .ok (.iconst 2, 1) := by decide +kernel
theorem dL_law_455 : decode code 455 = .ok (.iadd, 1) := by decide +kernel
theorem dL_law_456 : decode code 456 = .ok (.iaload, 1) := by decide +kernel
theorem dL_law_457 : decode code 457 = .ok (.invokevirtual 66, 3) := by decide +kernel
theorem dL_law_460 : decode code 460 = .ok (.pop, 1) := by decide +kernel
theorem dL_law_461 : decode code 461 = .ok (.aload_n 2, 1) := by decide +kernel
theorem dL_law_462 : decode code 462 = .ok (.aload_n 0, 1) := by decide +kernel
theorem dL_law_463 : decode code 463 = .ok (.iload_n 3, 1) := by decide +kernel
theorem dL_law_464 : decode code 464 = .ok (.iconst 1, 1) := by decide +kernel
theorem dL_law_465 : decode code 465 = .ok (.iadd, 1) := by decide +kernel
theorem dL_law_466 : decode code 466 = .ok (.iaload, 1) := by decide +kernel
theorem dL_law_467 : decode code 467 = .ok (.aload_n 0, 1) := by decide +kernel
theorem dL_law_468 : decode code 468 = .ok (.iload_n 3, 1) := by decide +kernel
theorem dL_law_469 : decode code 469 = .ok (.iconst 2, 1) := by decide +kernel
theorem dL_law_470 : decode code 470 = .ok (.iadd, 1) := by decide +kernel
theorem dL_law_471 : decode code 471 = .ok (.iaload, 1) := by decide +kernel
theorem dL_law_472 : decode code 472 = .ok (.invokevirtual 69, 3) := by decide +kernel
theorem dL_law_475 : decode code 475 = .ok (.pop, 1) := by decide +kernel
theorem dL_law_476 : decode code 476 = .ok (.goto 26, 3) := by decide +kernel
theorem dL_law_479 : decode code 479 = .ok (.aload_n 1, 1) := by decide +kernel
theorem dL_law_480 : decode code 480 = .ok (.aload_n 0, 1) := by decide +kernel
theorem dL_law_481 : decode code 481 = .ok (.iload_n 3, 1) := by decide +kernel
theorem dL_law_482 : decode code 482 = .ok (.iconst 1, 1) := by decide +kernel
theorem dL_law_483 : decode code 483 = .ok (.iadd, 1) := by decide +kernel
theorem dL_law_484 : decode code 484 = .ok (.iaload, 1) := by decide +kernel
theorem dL_law_485 : decode code 485 = .ok (.invokevirtual 70, 3) := by decide +kernel
theorem dL_law_488 : decode code 488 = .ok (.pop, 1) := by decide +kernel
theorem dL_law_489 : decode code 489 = .ok (.aload_n 2, 1) := by decide +kernel
theorem dL_law_490 : decode code 490 = .ok (.aload_n 0, 1) := by decide +kernel
theorem dL_law_491 : decode code 491 = .ok (.iload_n 3, 1) := by decide +kernel
theorem dL_law_492 : decode code 492 = .ok (.iconst 1, 1) := by decide +kernel
theorem dL_law_493 : decode code 493 = .ok (.iadd, 1) := by decide +kernel
theorem dL_law_494 : decode code 494 = .ok (.iaload, 1) := by decide +kernel
theorem dL_law_495 : decode code 495 = .ok (.invokevirtual 73, 3) := by decide +kernel
theorem dL_law_498 : decode code 498 = .ok (.pop, 1) := by decide +kernel
theorem dL_law_499 : decode code 499 = .ok (.goto 3, 3) := by decide +kernel
theorem dL_law_502 : decode code 502 = .ok (.iinc 3 6, 3) := by decide +kernel
theorem dL_law_505 : decode code 505 = .ok (.goto (-487), 3) := by decide +kernel
theorem dL_law_508 : decode code 508 = .ok (.iconst 1, 1) := by decide +kernel
theorem dL_law_509 : decode code 509 = .ok (.ireturn, 1) := by decide +kernel
theorem k200 : Cond.classLink "BlameCourtLaw" 7 "BlameCourt" ∈ gtb := gtm (in_tables_1_1 (List.mem_of_getElem? (i := 14) rfl)) rfl
theorem k201 : Cond.instantiable "BlameCourt" 13 ∈ gtb := gtm (in_tables_1_1 (List.mem_of_getElem? (i := 15) rfl)) rfl
theorem k202 : Cond.methodLink "BlameCourtLaw" 9 yX10_init ∈ gtb := gtm (in_tables_1_1 (List.mem_of_getElem? (i := 16) rfl)) rfl
theorem k203 : Cond.instanceMethod yX10_init ∈ gtb := gtm (in_tables_1_1 (List.mem_of_getElem? (i := 17) rfl)) rfl
theorem k719 : Cond.methodLink "BlameCourtLaw" 13 yX10_feed ∈ gtb := gtm (in_tables_1_3 (List.mem_of_getElem? (i := 53) rfl)) rfl
theorem k727 : Cond.methodLink "BlameCourtLaw" 18 yX10_end ∈ gtb := gtm (in_tables_1_3 (List.mem_of_getElem? (i := 61) rfl)) rfl
theorem k731 : Cond.methodLink "BlameCourtLaw" 23 yX10_read ∈ gtb := gtm (in_tables_1_3 (List.mem_of_getElem? (i := 65) rfl)) rfl
theorem k980 : Cond.methodLink "BlameCourtLaw" 28 yX10_fault ∈ gtb := gtm (in_tables_1_4 (List.mem_of_getElem? (i := 74) rfl)) rfl
theorem k984 : Cond.methodLink "BlameCourtLaw" 32 yX10_tell ∈ gtb := gtm (in_tables_1_4 (List.mem_of_getElem? (i := 78) rfl)) rfl
theorem k992 : Cond.methodLink "BlameCourtLaw" 37 yX10_judge ∈ gtb := gtm (in_tables_1_4 (List.mem_of_getElem? (i := 86) rfl)) rfl
theorem k1112 : Cond.methodLink "BlameCourtLaw" 41 yX10_guard ∈ gtb := gtm (in_tables_1_4 (List.mem_of_getElem? (i := 206) rfl)) rfl
theorem k1117 : Cond.methodLink "BlameCourtLaw" 46 yX10_part ∈ gtb := gtm (in_tables_1_4 (List.mem_of_getElem? (i := 211) rfl)) rfl
theorem k1125 : Cond.methodLink "BlameCourtLaw" 50 yX10_run ∈ gtb := gtm (in_tables_1_4 (List.mem_of_getElem? (i := 219) rfl)) rfl
theorem k1319 : Cond.methodLink "BlameCourtLaw" 54 yX10_runUntold ∈ gtb := gtm (in_tables_1_5 (List.mem_of_getElem? (i := 173) rfl)) rfl
theorem k1323 : Cond.methodLink "BlameCourtLaw" 58 yX10_told ∈ gtb := gtm (in_tables_1_5 (List.mem_of_getElem? (i := 177) rfl)) rfl
theorem k1339 : Cond.methodLink "BlameCourtLaw" 62 yX10_out ∈ gtb := gtm (in_tables_1_5 (List.mem_of_getElem? (i := 193) rfl)) rfl
theorem k1343 : Cond.methodLink "BlameCourtLaw" 66 yX10_asked ∈ gtb := gtm (in_tables_1_5 (List.mem_of_getElem? (i := 197) rfl)) rfl
theorem k1347 : Cond.methodLink "BlameCourtLaw" 70 yX10_about ∈ gtb := gtm (in_tables_1_5 (List.mem_of_getElem? (i := 201) rfl)) rfl
theorem k1351 : Cond.classLink "BlameCourtLaw" 10 "BlameCourtModel" ∈ gtb := gtm (in_tables_1_5 (List.mem_of_getElem? (i := 205) rfl)) rfl
theorem k1352 : Cond.instantiable "BlameCourtModel" 129 ∈ gtb := gtm (in_tables_1_5 (List.mem_of_getElem? (i := 206) rfl)) rfl
theorem k1353 : Cond.methodLink "BlameCourtLaw" 12 yX11_init ∈ gtb := gtm (in_tables_1_5 (List.mem_of_getElem? (i := 207) rfl)) rfl
theorem k1354 : Cond.instanceMethod yX11_init ∈ gtb := gtm (in_tables_1_5 (List.mem_of_getElem? (i := 208) rfl)) rfl
theorem k1753 : Cond.methodLink "BlameCourtLaw" 17 yX11_feed ∈ gtb := gtm (in_tables_1_7 (List.mem_of_getElem? (i := 127) rfl)) rfl
theorem k1761 : Cond.methodLink "BlameCourtLaw" 22 yX11_end ∈ gtb := gtm (in_tables_1_7 (List.mem_of_getElem? (i := 135) rfl)) rfl
theorem k1768 : Cond.methodLink "BlameCourtLaw" 27 yX11_read ∈ gtb := gtm (in_tables_1_7 (List.mem_of_getElem? (i := 142) rfl)) rfl
theorem k2072 : Cond.methodLink "BlameCourtLaw" 31 yX11_fault ∈ gtb := gtm (in_tables_1_8 (List.mem_of_getElem? (i := 206) rfl)) rfl
theorem k2076 : Cond.methodLink "BlameCourtLaw" 36 yX11_tell ∈ gtb := gtm (in_tables_1_8 (List.mem_of_getElem? (i := 210) rfl)) rfl
theorem k2080 : Cond.methodLink "BlameCourtLaw" 40 yX11_judge ∈ gtb := gtm (in_tables_1_8 (List.mem_of_getElem? (i := 214) rfl)) rfl
theorem k2084 : Cond.methodLink "BlameCourtLaw" 45 yX11_guard ∈ gtb := gtm (in_tables_1_8 (List.mem_of_getElem? (i := 218) rfl)) rfl
theorem k2088 : Cond.methodLink "BlameCourtLaw" 49 yX11_part_ ∈ gtb := gtm (in_tables_1_8 (List.mem_of_getElem? (i := 222) rfl)) rfl
theorem k2092 : Cond.methodLink "BlameCourtLaw" 53 yX11_run ∈ gtb := gtm (in_tables_1_8 (List.mem_of_getElem? (i := 226) rfl)) rfl
theorem k2180 : Cond.methodLink "BlameCourtLaw" 57 yX11_runUntold ∈ gtb := gtm (in_tables_1_9 (List.mem_of_getElem? (i := 74) rfl)) rfl
theorem k2184 : Cond.methodLink "BlameCourtLaw" 61 yX11_told ∈ gtb := gtm (in_tables_1_9 (List.mem_of_getElem? (i := 78) rfl)) rfl
theorem k2188 : Cond.methodLink "BlameCourtLaw" 65 yX11_out ∈ gtb := gtm (in_tables_1_9 (List.mem_of_getElem? (i := 82) rfl)) rfl
theorem k2192 : Cond.methodLink "BlameCourtLaw" 69 yX11_asked ∈ gtb := gtm (in_tables_1_9 (List.mem_of_getElem? (i := 86) rfl)) rfl
theorem k2196 : Cond.methodLink "BlameCourtLaw" 73 yX11_about ∈ gtb := gtm (in_tables_1_9 (List.mem_of_getElem? (i := 90) rfl)) rfl
theorem lw_sub6 {L : Nat} (hL : L ≤ 3072) : (Int32.ofNat L - 6).toInt = (L : Int) - 6 := by
  rw [ti_sub (by rw [Int32.toInt_ofNat_of_lt (by omega)]; show _ ≤ (L : Int) - 6; omega) (by rw [Int32.toInt_ofNat_of_lt (by omega)]; show (L : Int) - 6 ≤ _; omega), Int32.toInt_ofNat_of_lt (by omega)]
  rfl
theorem lw_k {k : Nat} (h : k < 4000) : (Int32.ofNat k).toInt = (k : Int) := Int32.toInt_ofNat_of_lt (by omega)
theorem lw_add {k j : Nat} (h : k < 4000) (hj : j < 10) : (Int32.ofNat k + Int32.ofNat j) = Int32.ofNat (k + j) := by
  apply Int32.toInt_inj.mp
  rw [ti_add (by rw [lw_k h, lw_k (by omega)]; omega) (by rw [lw_k h, lw_k (by omega)]; omega), lw_k h, lw_k (by omega), Int32.toInt_ofNat_of_lt (by omega)]
  omega
theorem lw_in {k j L : Nat} (h : k + 6 ≤ L) (hL : L ≤ 3072) (hj : j < 6) : vp_in (Int32.ofNat (k + j)) L := ti_in (by rw [lw_k (by omega)]; omega) (by rw [lw_k (by omega)]; omega)
section LWT
variable {p : Program} {l : Launch} {e : Env} {R : Room} {s : State} {m : MethodId} {args : Array Value} {below : List Frame} {meth : Method} {c : Code} {H : Heap} {locs : List Loc} {cells slots : Nat} {Q : State → Prop}
variable {cc : ByteArray} {pc tgt : Nat} {ls : Array Slot} {rest : List Value}
theorem lwq_tbl (hexec : p.tables.exec = Jvm.exec) (hb : c.code = cc) {d lo hi : Int} {offs : Array Int} {len : Nat} {x : Int32} {off : Int} (hdg : decode cc pc = .ok (.tableswitch d lo hi offs, len)) (hl : (hi - lo).toNat + 1 = offs.size) (ho : tblOff d lo hi offs x.toInt = off) (ht : (pc : Int) + off = (tgt : Int)) (k : W p l e R s m args below meth c H locs cells slots Q (F0 m tgt ls rest)) : W p l e R s m args below meth c H locs cells slots Q (F0 m pc ls (.int x :: rest)) := by
  by_cases h : x.toInt < lo ∨ hi < x.toInt
  · unfold tblOff at ho
    rw [if_pos h] at ho
    exact lv_tableOut hexec hb hdg h (by rw [ho]; exact ht) k
  · unfold tblOff at ho
    rw [if_neg h] at ho
    have hbb : (x.toInt - lo).toNat < offs.size := by omega
    rw [Array.getElem?_eq_getElem hbb] at ho
    have ho2 : offs[(x.toInt - lo).toNat] = off := ho
    exact lv_tableIn hexec hb hdg (fun g => h (Or.inl g)) (fun g => h (Or.inr g)) (by rw [Array.getElem?_eq_getElem hbb, ho2]) ht k
end LWT

theorem classes_known {s : State} {args : Array Value} (hts : ∀ w ∈ gtb, w.before args s = true) : ∃ (dC : Nat → ClassId) (dI : Nat → Nat → Nat), ∀ (k : Nat) (q : vw_C), classes[k]? = some q → u_Kn s q.1 q.2.1 q.2.2 (dC k) (dI k) := by
  obtain ⟨c0, iS0, hKn0⟩ := u_known (C := RX0) (T := TX0) (N := 6) (n := 6) hts iX0 (hts _ k462)
  obtain ⟨c1, iS1, hKn1⟩ := u_known (C := RX1) (T := TX1) (N := 13) (n := 13) hts iX1 (hts _ k561)
  obtain ⟨c2, iS2, hKn2⟩ := u_known (C := RX2) (T := TX2) (N := 15) (n := 15) hts iX2 (hts _ k500)
  obtain ⟨c3, iS3, hKn3⟩ := u_known (C := RX3) (T := TX3) (N := 8) (n := 8) hts iX3 (hts _ k215)
  obtain ⟨c4, iS4, hKn4⟩ := u_known (C := RX5) (T := TX5) (N := 17) (n := 17) hts iX5 (hts _ k209)
  obtain ⟨c5, iS5, hKn5⟩ := u_known (C := RX6) (T := TX6) (N := 14) (n := 14) hts iX6 (hts _ k375)
  obtain ⟨c6, iS6, hKn6⟩ := u_known (C := RX7) (T := TX7) (N := 20) (n := 20) hts iX7 (hts _ k555)
  obtain ⟨c7, iS7, hKn7⟩ := u_known (C := RX9) (T := TX9) (N := 8) (n := 8) hts iX9 (hts _ k381)
  obtain ⟨c8, iS8, hKn8⟩ := u_known (C := RX10) (T := TX10) (N := 13) (n := 13) hts iX10 (hts _ k201)
  obtain ⟨c9, iS9, hKn9⟩ := u_known (C := RX11) (T := TX11) (N := 129) (n := 129) hts iX11 (hts _ k1352)
  refine ⟨fun k => if k = 0 then c0 else if k = 1 then c1 else if k = 2 then c2 else if k = 3 then c3 else if k = 4 then c4 else if k = 5 then c5 else if k = 6 then c6 else if k = 7 then c7 else if k = 8 then c8 else c9, fun k => if k = 0 then iS0 else if k = 1 then iS1 else if k = 2 then iS2 else if k = 3 then iS3 else if k = 4 then iS4 else if k = 5 then iS5 else if k = 6 then iS6 else if k = 7 then iS7 else if k = 8 then iS8 else iS9, ?_⟩
  intro k q hq
  match k, hq with
  | 0, hq => cases hq; exact hKn0
  | 1, hq => cases hq; exact hKn1
  | 2, hq => cases hq; exact hKn2
  | 3, hq => cases hq; exact hKn3
  | 4, hq => cases hq; exact hKn4
  | 5, hq => cases hq; exact hKn5
  | 6, hq => cases hq; exact hKn6
  | 7, hq => cases hq; exact hKn7
  | 8, hq => cases hq; exact hKn8
  | 9, hq => cases hq; exact hKn9
  | k + 10, hq => simp [classes] at hq

/-! THE CLAIM OUT OF ONE WALK OF THE LAW'S BODY. Your part is whole_start (and what it stands on); all else here is the same for every law, but numbers. -/
def R_law : String := "BlameCourtLaw"
def lw_P (b : Addr) (xs : List Int32) (args : Array Value) (s : State) : Prop := args = #[.ref b] ∧ s.IntsAt b xs ∧ xs.length ≤ 3072 ∧ (Jvm.Cond.and given_1 narrow_1).before args s = true
def lw_Q (_ : Array Value) (s : State) (o : Outcome) (t : State) : Prop := o = .returned (some (.int 1)) ∧ Framed s o t [] 600000 7302250
def lw_Z (below : List Frame) (a : Array Value) (s : State) : State → Prop := fun t => ∃ o, t.status = .running ∧ Ended t below o ∧ lw_Q a s o t
/-- the law's own end, with 1 on the stack, nothing written that was there before, its room as the claim has it -/
theorem lw_ret {p : Program} {l : Launch} {e : Env} {s : State} {m : MethodId} {below : List Frame} {meth : Method} {c : Code} {b : Nat} (hx : p.tables.exec = Jvm.exec) (hb : c.code = code) (hr : meth.sig.returnType = ret) (hlocks : meth.locks = false) {pc : Nat} {H : Heap} {ls : Array Slot} (hdg : decode code pc = .ok (.ireturn, 1)) : W p l e room_1 s m #[Value.ref b] below meth c H [] 600000 7302250 (lw_Z below #[Value.ref b] s) (F0 m pc ls [.int 1]) := by
  intro T hT X
  obtain ⟨fs, hret, hrun, hended, hW, hframe⟩ := X.leave (v := some (.int 1)) (hlocks := hlocks) (fun h => by rw [hr] at h; cases h)
  have hmeth' : T.vm.method? m = some meth := X.method'
  refine ⟨T.setFrames fs, ?_, .returned (some (.int 1)), hrun, hended, rfl, ⟨_, rfl⟩, hW, hframe⟩
  jvm_step X.here [X.here.top, hx, hb, hdg, hmeth', hr, ret, narrow_b1]
  (try refine ⟨rfl, ?_⟩); (try refine ⟨rfl, ?_⟩)
  first | (intro acts; rw [hret _ acts rfl rfl rfl]) | rw [hret _ _ rfl rfl rfl]
  exact Steps.refl _
/-- what holds at the law's entry: the machine, the code, the tables' words (any of lw_tbl by 'hts w (by decide +kernel)'), the script of L ints xs at the cell b, what the Statement gives of the start (any of its parts by flat_of_before) -/
def lw_At (p : Program) (s : State) (m : MethodId) (meth : Method) (c : Code) (b L : Nat) (xs : Nat → Int32) : Prop :=
  p.tables.exec = Jvm.exec ∧ c.code = code ∧ meth.sig.returnType = ret ∧ c.maxLocals = 4 ∧ s.vm.findClass R_law = some m.cls ∧ (∀ w ∈ lw_tbl, w.before #[Value.ref b] s = true) ∧ va_X b L xs s s.heap ∧ b < s.heap.size ∧ meth.locks = false ∧ (Jvm.Cond.and given_1 narrow_1).before #[Value.ref b] s = true

/-- what is wanted of the two sides, as functions: a relation that every call keeps, and under which the compared answers are the same -/
def SidesOK (J : St → St → Prop) : Prop := (∃ XC XR, ctor_C Z0 = some XC ∧ ctor_R Z0 = some XR ∧ J XC XR) ∧
  (∀ (v0 v1 v2 v3 v4 : Int32) (XC XR : St), J XC XR → ∃ r XC1 r1 XR1, g_Court_feed v0 v1 v2 v3 v4 XC = some (r, XC1) ∧ f_feed v0 v1 v2 v3 v4 XR = some (r1, XR1) ∧ J XC1 XR1) ∧
  (∀ (v0 : Int32) (XC XR : St), J XC XR → ∃ r XC1 r1 XR1, g_Court_end v0 XC = some (r, XC1) ∧ f_end v0 XR = some (r1, XR1) ∧ J XC1 XR1) ∧
  (∀ (XC XR : St), J XC XR → ∃ r XC1 r1 XR1, g_Court_read XC = some (r, XC1) ∧ f_read XR = some (r1, XR1) ∧ J XC1 XR1) ∧
  (∀ (v0 : Int32) (XC XR : St), J XC XR → ∃ r XC1 r1 XR1, g_Court_fault v0 XC = some (r, XC1) ∧ f_fault v0 XR = some (r1, XR1) ∧ J XC1 XR1) ∧
  (∀ (v0 v1 : Int32) (XC XR : St), (v1 = 0 ∨ v1 = 1) → J XC XR → ∃ r XC1 r1 XR1, g_Court_tell v0 v1 XC = some (r, XC1) ∧ f_tell v0 v1 XR = some (r1, XR1) ∧ J XC1 XR1) ∧
  (∀ (XC XR : St), J XC XR → ∃ r XC1 r1 XR1, g_Court_judge XC = some (r, XC1) ∧ f_judge XR = some (r1, XR1) ∧ J XC1 XR1) ∧
  (∀ (v0 v1 : Int32) (XC XR : St), J XC XR → ∃ r XC1 r1 XR1, g_Court_guard v0 v1 XC = some (r, XC1) ∧ f_guard v0 v1 XR = some (r1, XR1) ∧ J XC1 XR1) ∧
  (∀ (v0 v1 : Int32) (XC XR : St), J XC XR → ∃ r XC1 r1 XR1, g_Court_part v0 v1 XC = some (r, XC1) ∧ f_part_II_I v0 v1 XR = some (r1, XR1) ∧ J XC1 XR1) ∧
  (∀ (v0 : Int32) (XC XR : St), J XC XR → ∃ r XC1 r1 XR1, g_Court_run v0 XC = some (r, XC1) ∧ f_run v0 XR = some (r1, XR1) ∧ J XC1 XR1) ∧
  (∀ (v0 : Int32) (XC XR : St), J XC XR → ∃ r XC1 r1 XR1, g_Court_runUntold v0 XC = some (r, XC1) ∧ f_runUntold v0 XR = some (r1, XR1) ∧ J XC1 XR1) ∧
  (∀ (v0 : Int32) (XC XR : St), J XC XR → ∃ r XC1 r1 XR1, g_Court_told v0 XC = some (r, XC1) ∧ f_told v0 XR = some (r1, XR1) ∧ J XC1 XR1) ∧
  (∀ (v0 : Int32) (XC XR : St), J XC XR → ∃ r XC1 r1 XR1, g_Court_out v0 XC = some (r, XC1) ∧ f_out v0 XR = some (r1, XR1) ∧ J XC1 XR1 ∧ r = r1) ∧
  (∀ (v0 v1 : Int32) (XC XR : St), J XC XR → ∃ r XC1 r1 XR1, g_Court_asked v0 v1 XC = some (r, XC1) ∧ f_asked v0 v1 XR = some (r1, XR1) ∧ J XC1 XR1) ∧
  (∀ (v0 : Int32) (XC XR : St), J XC XR → ∃ r XC1 r1 XR1, g_Court_about v0 XC = some (r, XC1) ∧ f_about v0 XR = some (r1, XR1) ∧ J XC1 XR1)
set_option maxHeartbeats 8000000 in
set_option maxRecDepth 100000 in
/-- the law's body, its world told -/
theorem law_body {p : Program} {e : Env} {s : State} {m : MethodId} {below : List Frame} {meth : Method} {c : Code} (l : Launch) {b L : Nat} {xs : Nat → Int32} {dC : Nat → ClassId} {dI : Nat → Nat → Nat} {tW : Nat} {J : St → St → Prop} (hS : SidesOK J) (hL : L ≤ 3072) (hf : Fx p c code 4 s #[Value.ref b] m R_law) (hr : meth.sig.returnType = ret) (hlocks : meth.locks = false) (hX : va_X b L xs s s.heap) (hbl : b < s.heap.size) (hZ : ZC tW (fun q : Nat => s.heap.size ≤ q) s) (H : Heap) (hw : Wd dC dI (fun q : Nat => s.heap.size ≤ q) [] [] s H []) (ls : Array Slot) (hl : lv_has ls 4 [(0, .ref b)]) : W p l e room_1 s m #[Value.ref b] below meth c H [] 0 0 (lw_Z below #[Value.ref b] s) (F0 m 0 ls []) := by
  have hbA : ¬ (fun q : Nat => s.heap.size ≤ q) b := Nat.not_le.mpr hbl
  obtain ⟨XC, XR, hXC, hXR, hJ0⟩ := hS.1
  refine mnew (ci := 8) (fs := .null :: .int 0 :: .null :: .int 0 :: .int 0 :: .int 0 :: .null :: .int 0 :: .int 0 :: dtX10) hf hw iX10 tyX10 tyX10_ok k200 k201 k187 rfl (hfs_of dfX10_ok) (ce := 1) (sl := 13) rfl rfl (Nat.le_of_ble_eq_true rfl) (Nat.le_of_ble_eq_true rfl) dL_law_0 (fun qC H hw => ?_)
  have hw : Wd dC dI (fun q : Nat => s.heap.size ≤ q) (GW YC_0 (fun _ => qC) (fun _ => dC 0) Z0) (GT YC_0 (fun _ => dC 0)) s H [] := hw
  refine lv_dup hf.1 hf.2.1 dL_law_3 rfl ?_
  refine mI_v (As := []) (rest := [.ref qC]) (φ := EX (YC_0, (fun _ => qC), (fun _ => dC 0), Z0)) (w1 := fun u => GW YC u.1 u.2 XC) (t1 := fun u => GT YC u.2) (wr := []) (tr := []) hf hw (kctor_C (l, dC, dI) (fun _ => qC) (fun _ => dC 0) Z0 qC rfl XC hXC H.size) ka_X10_init k203 rfl k202 (List.range (GW YC_0 (fun _ => qC) (fun _ => dC 0) Z0).length) (List.range (GT YC_0 (fun _ => dC 0)).length) [] [] (MW_all rfl) (va_nd_range _) (MT_all rfl) rfl rfl (fun _ h => absurd h List.not_mem_nil) rfl rfl rfl hl.1 rfl rfl ⟨(Nat.le_of_ble_eq_true rfl), (Nat.le_of_ble_eq_true rfl)⟩ (Nat.le_of_ble_eq_true rfl) (ce := 88) (sl := 172945) rfl rfl ⟨(Nat.le_of_ble_eq_true rfl), (Nat.le_of_ble_eq_true rfl)⟩ dL_law_4 (fun C hC H1 locs1 hw1 => ?_)
  have hqC : C.1 0 = qC := (hC 0 (show 0 < YC_0.length from by decide)).1
  clear hw
  subst hqC
  have hw : Wd dC dI (fun q : Nat => s.heap.size ≤ q) (GW YC C.1 C.2 XC) (GT YC C.2) s _ _ := hw1
  clear hw1
  refine lv_astore_n (lv' := [(1, .ref (C.1 0)), (0, .ref b)]) hf.1 hf.2.1 dL_law_7 rfl hl (by decide) rfl (fun ls hl => ?_)
  refine mnew (ci := 9) (fs := [.int 0, .int 0, .int 0, .int 0, .int 0, .int 0, .int 0, .int 0, .int 0, .int 0, .int 0, .int 0, .int 0, .int 0, .int 0, .int 0, .int 0, .int 0, .int 0, .int 0, .int 0, .int 0, .int 0, .int 0, .int 0, .int 0, .int 0, .int 0, .int 0, .int 0, .int 0, .int 0, .int 0, .int 0, .int 0, .int 0, .int 0, .int 0, .int 0, .int 0, .int 0, .int 0, .int 0, .int 0, .int 0, .int 0, .int 0, .long 0, .null, .null, .null, .null, .null, .null, .null, .null, .null, .null, .null, .null, .null, .null, .null, .null, .null, .null, .null, .null, .null, .null, .null, .null, .null, .null, .null, .null, .null, .null, .null, .null, .null, .null, .null, .null, .null, .null, .null, .null, .null, .null, .null, .null, .null, .null, .null, .null, .null, .null, .null, .null, .null, .null, .null, .null, .null, .null, .null, .null, .null, .null, .null, .null, .null, .null, .null, .null, .null, .null, .null, .null, .null, .null, .null, .null, .null, .null, .null, .null, .null]) hf hw iX11 tyX11 tyX11_ok k1351 k1352 k197 rfl (hfs_of dfX11_ok) (ce := 89) (sl := 173074) rfl rfl (Nat.le_of_ble_eq_true rfl) (Nat.le_of_ble_eq_true rfl) dL_law_8 (fun qR H hw => ?_)
  have hw : Wd dC dI (fun q : Nat => s.heap.size ≤ q) (GW YC C.1 C.2 XC ++ GW YR_0 (fun _ => qR) (fun _ => dC 0) Z0) (GT YC C.2 ++ GT YR_0 (fun _ => dC 0)) s H locs1 := by
    have e : GT YC C.2 = GT YC C.2 ++ GT YR_0 (fun _ => dC 0) := (List.append_nil _).symm
    rw [← e]
    exact hw
  refine lv_dup hf.1 hf.2.1 dL_law_11 rfl ?_
  refine mI_v (As := []) (rest := [.ref qR]) (φ := EX (YR_0, (fun _ => qR), (fun _ => dC 0), Z0)) (w1 := fun u => GW YR u.1 u.2 XR) (t1 := fun u => GT YR u.2) (wr := GW YC C.1 C.2 XC) (tr := GT YC C.2) hf hw (kctor_R (l, dC, dI) (fun _ => qR) (fun _ => dC 0) Z0 qR rfl XR hXR H.size) ka_X11_init k1354 rfl k1353 _ _ _ _ (ap_r (A := GW YC C.1 C.2 XC) (B := GW YR_0 (fun _ => qR) (fun _ => dC 0) Z0) rfl rfl) (nd_r _ _) (at_r (A := GT YC C.2) (B := GT YR_0 (fun _ => dC 0)) rfl rfl) (ap_l (A := GW YC C.1 C.2 XC) (B := GW YR_0 (fun _ => qR) (fun _ => dC 0) Z0) rfl) (va_nd_range _) dj_l (at_l (A := GT YC C.2) (B := GT YR_0 (fun _ => dC 0)) rfl) rfl rfl hl.1 rfl rfl ⟨(Nat.le_of_ble_eq_true rfl), (Nat.le_of_ble_eq_true rfl)⟩ (Nat.le_of_ble_eq_true rfl) (ce := 170) (sl := 571970) rfl rfl ⟨(Nat.le_of_ble_eq_true rfl), (Nat.le_of_ble_eq_true rfl)⟩ dL_law_12 (fun R hR H1 locs1 hw1 => ?_)
  have hqR : R.1 0 = qR := (hR 0 (show 0 < YR_0.length from by decide)).1
  clear hw
  subst hqR
  have hw : Wd dC dI (fun q : Nat => s.heap.size ≤ q) (W2 C R XC XR) (T2 C R) s _ _ := hw1
  refine lv_astore_n (lv' := [(2, .ref (R.1 0)), (1, .ref (C.1 0)), (0, .ref b)]) hf.1 hf.2.1 dL_law_15 rfl hl (by decide) rfl (fun ls hl => ?_)
  refine lv_iconst (v := 0) hf.1 hf.2.1 dL_law_16 (by decide) ?_
  refine lv_istore_n (lv' := [(3, .int 0), (2, .ref (R.1 0)), (1, .ref (C.1 0)), (0, .ref b)]) hf.1 hf.2.1 dL_law_17 rfl hl (by decide) rfl (fun ls hl => ?_)
  have J508 : ∀ (H : Heap) (locs : List Loc) (ls : Array Slot), va_S (fun q : Nat => s.heap.size ≤ q) s.heap H locs → W p l e room_1 s m #[Value.ref b] below meth c H locs 170 571970 (lw_Z below #[Value.ref b] s) (F0 m 508 ls []) := by
    intro H locs ls hS
    refine lv_iconst (v := 1) hf.1 hf.2.1 dL_law_508 (by decide) ?_
    refine va_forget hS.2.2 ?_
    refine W.widen (k := 600000) (n := 7302250) (Nat.le_of_ble_eq_true rfl) (Nat.le_of_ble_eq_true rfl) ?_
    exact lw_ret hf.1 hf.2.1 hr hlocks dL_law_509
  have loop : ∀ (N k : Nat) (XC XR : St) (H : Heap) (locs : List Loc) (ls : Array Slot), 4000 - k < N → k ≤ L + 5 → J XC XR → Wd dC dI (fun q : Nat => s.heap.size ≤ q) (W2 C R XC XR) (T2 C R) s H locs → lv_has ls 4 [(3, .int (Int32.ofNat k)), (2, .ref (R.1 0)), (1, .ref (C.1 0)), (0, .ref b)] → W p l e room_1 s m #[Value.ref b] below meth c H locs 170 571970 (lw_Z below #[Value.ref b] s) (F0 m 18 ls []) := by
    intro N
    induction N with
    | zero => intro k XC XR H locs ls hm; exact absurd hm (Nat.not_lt_zero _)
    | succ N ih =>
      intro k XC XR H locs ls hm hk hJ hw hl
      refine lv_iload_n hf.1 hf.2.1 dL_law_18 rfl (lv_at hl 0 rfl) ?_
      refine lv_aload_n hf.1 hf.2.1 dL_law_19 rfl (lv_at hl 3 rfl) ?_
      refine va_slen hf.1 hf.2.1 hX hbl hbA hw.2.2.2.1 dL_law_20 ?_
      refine lv_bipush (v := 6) hf.1 hf.2.1 dL_law_21 (by decide) ?_
      refine lv_isub hf.1 hf.2.1 dL_law_23 ?_
      refine lv_topi (fun x_1 ex_1 => ?_)
      refine lv_icmp_gt (tgt := 508) hf.1 hf.2.1 dL_law_24 (by decide) (fun c_2 => ?_) (fun c_2 => ?_)
      · exact J508 _ _ _ hw.2.2.2.1
      · have hk6 : k + 6 ≤ L := by
          have h := ti_nlt c_2
          rw [ex_1, lw_sub6 hL, lw_k (by omega)] at h
          omega
        have J502 : ∀ (XC XR : St) (H : Heap) (locs : List Loc) (ls : Array Slot), J XC XR → Wd dC dI (fun q : Nat => s.heap.size ≤ q) (W2 C R XC XR) (T2 C R) s H locs → lv_has ls 4 [(3, .int (Int32.ofNat k)), (2, .ref (R.1 0)), (1, .ref (C.1 0)), (0, .ref b)] → W p l e room_1 s m #[Value.ref b] below meth c H locs 170 571970 (lw_Z below #[Value.ref b] s) (F0 m 502 ls []) := by
          intro XC XR H locs ls hJ hw hl
          refine lv_iinc (v := Int32.ofNat (k + 6)) (lv' := [(3, .int (Int32.ofNat (k + 6))), (2, .ref (R.1 0)), (1, .ref (C.1 0)), (0, .ref b)]) hf.1 hf.2.1 dL_law_502 hl (k := 0) rfl (lw_add (j := 6) (by omega) (by decide)) (by decide) rfl (fun ls hl => ?_)
          refine lv_goto (tgt := 18) hf.1 hf.2.1 dL_law_505 (by decide) ?_
          exact ih (k + 6) XC XR _ _ _ (by omega) (by omega) hJ hw hl
        refine lv_aload_n hf.1 hf.2.1 dL_law_27 rfl (lv_at hl 3 rfl) ?_
        refine lv_iload_n hf.1 hf.2.1 dL_law_28 rfl (lv_at hl 0 rfl) ?_
        refine va_sld hf.1 hf.2.1 hX hbl hbA hw.2.2.2.1 (lw_in (j := 0) hk6 hL (by decide)) dL_law_29 ?_
        refine lv_topi (fun z_3 ez_3 => ?_)
        refine lv_bipush (v := 15) hf.1 hf.2.1 dL_law_30 (by decide) ?_
        refine lv_iand hf.1 hf.2.1 dL_law_32 ?_
        refine lv_topi (fun x_4 ex_4 => ?_)
        by_cases sw_5 : x_4.toInt = 0
        · refine lwq_tbl (tgt := 104) hf.1 hf.2.1 dL_law_33 (by decide) (off := 71) (by rw [sw_5]; rfl) (by decide) ?_
          refine lv_aload_n hf.1 hf.2.1 dL_law_104 rfl (lv_at hl 2 rfl) ?_
          refine lv_aload_n hf.1 hf.2.1 dL_law_105 rfl (lv_at hl 3 rfl) ?_
          refine lv_iload_n hf.1 hf.2.1 dL_law_106 rfl (lv_at hl 0 rfl) ?_
          refine lv_iconst (v := 1) hf.1 hf.2.1 dL_law_107 (by decide) ?_
          refine lv_iadd hf.1 hf.2.1 dL_law_108 ?_
          refine lv_topi (fun x_6 ex_6 => ?_)
          obtain rfl : x_6 = Int32.ofNat (k + 1) := by rw [ex_6]; exact lw_add (by omega) (by decide)
          refine va_sld hf.1 hf.2.1 hX hbl hbA hw.2.2.2.1 (lw_in (j := 1) hk6 hL (by decide)) dL_law_109 ?_
          refine lv_topi (fun z_7 ez_7 => ?_)
          refine lv_aload_n hf.1 hf.2.1 dL_law_110 rfl (lv_at hl 3 rfl) ?_
          refine lv_iload_n hf.1 hf.2.1 dL_law_111 rfl (lv_at hl 0 rfl) ?_
          refine lv_iconst (v := 2) hf.1 hf.2.1 dL_law_112 (by decide) ?_
          refine lv_iadd hf.1 hf.2.1 dL_law_113 ?_
          refine lv_topi (fun x_8 ex_8 => ?_)
          obtain rfl : x_8 = Int32.ofNat (k + 2) := by rw [ex_8]; exact lw_add (by omega) (by decide)
          refine va_sld hf.1 hf.2.1 hX hbl hbA hw.2.2.2.1 (lw_in (j := 2) hk6 hL (by decide)) dL_law_114 ?_
          refine lv_topi (fun z_9 ez_9 => ?_)
          refine lv_aload_n hf.1 hf.2.1 dL_law_115 rfl (lv_at hl 3 rfl) ?_
          refine lv_iload_n hf.1 hf.2.1 dL_law_116 rfl (lv_at hl 0 rfl) ?_
          refine lv_iconst (v := 3) hf.1 hf.2.1 dL_law_117 (by decide) ?_
          refine lv_iadd hf.1 hf.2.1 dL_law_118 ?_
          refine lv_topi (fun x_10 ex_10 => ?_)
          obtain rfl : x_10 = Int32.ofNat (k + 3) := by rw [ex_10]; exact lw_add (by omega) (by decide)
          refine va_sld hf.1 hf.2.1 hX hbl hbA hw.2.2.2.1 (lw_in (j := 3) hk6 hL (by decide)) dL_law_119 ?_
          refine lv_topi (fun z_11 ez_11 => ?_)
          refine lv_aload_n hf.1 hf.2.1 dL_law_120 rfl (lv_at hl 3 rfl) ?_
          refine lv_iload_n hf.1 hf.2.1 dL_law_121 rfl (lv_at hl 0 rfl) ?_
          refine lv_iconst (v := 4) hf.1 hf.2.1 dL_law_122 (by decide) ?_
          refine lv_iadd hf.1 hf.2.1 dL_law_123 ?_
          refine lv_topi (fun x_12 ex_12 => ?_)
          obtain rfl : x_12 = Int32.ofNat (k + 4) := by rw [ex_12]; exact lw_add (by omega) (by decide)
          refine va_sld hf.1 hf.2.1 hX hbl hbA hw.2.2.2.1 (lw_in (j := 4) hk6 hL (by decide)) dL_law_124 ?_
          refine lv_topi (fun z_13 ez_13 => ?_)
          refine lv_aload_n hf.1 hf.2.1 dL_law_125 rfl (lv_at hl 3 rfl) ?_
          refine lv_iload_n hf.1 hf.2.1 dL_law_126 rfl (lv_at hl 0 rfl) ?_
          refine lv_iconst (v := 5) hf.1 hf.2.1 dL_law_127 (by decide) ?_
          refine lv_iadd hf.1 hf.2.1 dL_law_128 ?_
          refine lv_topi (fun x_14 ex_14 => ?_)
          obtain rfl : x_14 = Int32.ofNat (k + 5) := by rw [ex_14]; exact lw_add (by omega) (by decide)
          refine va_sld hf.1 hf.2.1 hX hbl hbA hw.2.2.2.1 (lw_in (j := 5) hk6 hL (by decide)) dL_law_129 ?_
          refine lv_topi (fun z_15 ez_15 => ?_)
          obtain ⟨r, XC1, r1, XR1, hc, hr1, hJ1⟩ := hS.2.1 z_7 z_9 z_11 z_13 z_15 XC XR hJ
          refine lawC false (own1 := "BlameCourt") (As1 := [.int z_7, .int z_9, .int z_11, .int z_13, .int z_15]) (rest := []) hf hw hZ (k_Court_feed (l, dC, dI, C.1, C.2, tW) z_7 z_9 z_11 z_13 z_15 XC) hc ka_X10_feed kv_X10_feed ⟨rfl, rfl, rfl⟩ rfl k719 rfl rfl hl.1 rfl rfl ⟨(Nat.le_of_ble_eq_true rfl), (Nat.le_of_ble_eq_true rfl)⟩ (Nat.le_of_ble_eq_true rfl) ⟨(Nat.le_of_ble_eq_true rfl), (Nat.le_of_ble_eq_true rfl)⟩ dL_law_130 (fun H locs hw => ?_)
          refine lv_pop hf.1 hf.2.1 dL_law_133 rfl ?_
          refine lv_aload_n hf.1 hf.2.1 dL_law_134 rfl (lv_at hl 1 rfl) ?_
          refine lv_aload_n hf.1 hf.2.1 dL_law_135 rfl (lv_at hl 3 rfl) ?_
          refine lv_iload_n hf.1 hf.2.1 dL_law_136 rfl (lv_at hl 0 rfl) ?_
          refine lv_iconst (v := 1) hf.1 hf.2.1 dL_law_137 (by decide) ?_
          refine lv_iadd hf.1 hf.2.1 dL_law_138 ?_
          refine lv_topi (fun x_16 ex_16 => ?_)
          obtain rfl : x_16 = Int32.ofNat (k + 1) := by rw [ex_16]; exact lw_add (by omega) (by decide)
          refine va_sld hf.1 hf.2.1 hX hbl hbA hw.2.2.2.1 (lw_in (j := 1) hk6 hL (by decide)) dL_law_139 ?_
          refine lv_topi (fun z_17 ez_17 => ?_)
          obtain rfl : z_7 = z_17 := by rw [ez_7, ez_17]
          refine lv_aload_n hf.1 hf.2.1 dL_law_140 rfl (lv_at hl 3 rfl) ?_
          refine lv_iload_n hf.1 hf.2.1 dL_law_141 rfl (lv_at hl 0 rfl) ?_
          refine lv_iconst (v := 2) hf.1 hf.2.1 dL_law_142 (by decide) ?_
          refine lv_iadd hf.1 hf.2.1 dL_law_143 ?_
          refine lv_topi (fun x_18 ex_18 => ?_)
          obtain rfl : x_18 = Int32.ofNat (k + 2) := by rw [ex_18]; exact lw_add (by omega) (by decide)
          refine va_sld hf.1 hf.2.1 hX hbl hbA hw.2.2.2.1 (lw_in (j := 2) hk6 hL (by decide)) dL_law_144 ?_
          refine lv_topi (fun z_19 ez_19 => ?_)
          obtain rfl : z_9 = z_19 := by rw [ez_9, ez_19]
          refine lv_aload_n hf.1 hf.2.1 dL_law_145 rfl (lv_at hl 3 rfl) ?_
          refine lv_iload_n hf.1 hf.2.1 dL_law_146 rfl (lv_at hl 0 rfl) ?_
          refine lv_iconst (v := 3) hf.1 hf.2.1 dL_law_147 (by decide) ?_
          refine lv_iadd hf.1 hf.2.1 dL_law_148 ?_
          refine lv_topi (fun x_20 ex_20 => ?_)
          obtain rfl : x_20 = Int32.ofNat (k + 3) := by rw [ex_20]; exact lw_add (by omega) (by decide)
          refine va_sld hf.1 hf.2.1 hX hbl hbA hw.2.2.2.1 (lw_in (j := 3) hk6 hL (by decide)) dL_law_149 ?_
          refine lv_topi (fun z_21 ez_21 => ?_)
          obtain rfl : z_11 = z_21 := by rw [ez_11, ez_21]
          refine lv_aload_n hf.1 hf.2.1 dL_law_150 rfl (lv_at hl 3 rfl) ?_
          refine lv_iload_n hf.1 hf.2.1 dL_law_151 rfl (lv_at hl 0 rfl) ?_
          refine lv_iconst (v := 4) hf.1 hf.2.1 dL_law_152 (by decide) ?_
          refine lv_iadd hf.1 hf.2.1 dL_law_153 ?_
          refine lv_topi (fun x_22 ex_22 => ?_)
          obtain rfl : x_22 = Int32.ofNat (k + 4) := by rw [ex_22]; exact lw_add (by omega) (by decide)
          refine va_sld hf.1 hf.2.1 hX hbl hbA hw.2.2.2.1 (lw_in (j := 4) hk6 hL (by decide)) dL_law_154 ?_
          refine lv_topi (fun z_23 ez_23 => ?_)
          obtain rfl : z_13 = z_23 := by rw [ez_13, ez_23]
          refine lv_aload_n hf.1 hf.2.1 dL_law_155 rfl (lv_at hl 3 rfl) ?_
          refine lv_iload_n hf.1 hf.2.1 dL_law_156 rfl (lv_at hl 0 rfl) ?_
          refine lv_iconst (v := 5) hf.1 hf.2.1 dL_law_157 (by decide) ?_
          refine lv_iadd hf.1 hf.2.1 dL_law_158 ?_
          refine lv_topi (fun x_24 ex_24 => ?_)
          obtain rfl : x_24 = Int32.ofNat (k + 5) := by rw [ex_24]; exact lw_add (by omega) (by decide)
          refine va_sld hf.1 hf.2.1 hX hbl hbA hw.2.2.2.1 (lw_in (j := 5) hk6 hL (by decide)) dL_law_159 ?_
          refine lv_topi (fun z_25 ez_25 => ?_)
          obtain rfl : z_15 = z_25 := by rw [ez_15, ez_25]
          refine lawR false (own1 := "BlameCourtModel") (As1 := [.int z_7, .int z_9, .int z_11, .int z_13, .int z_15]) (rest := []) hf hw (c_feed (l, dC, dI, R.1, R.2) z_7 z_9 z_11 z_13 z_15 XR) hr1 ka_X11_feed kv_X11_feed ⟨rfl, rfl, rfl⟩ rfl k1753 rfl rfl hl.1 rfl rfl ⟨(Nat.le_of_ble_eq_true rfl), (Nat.le_of_ble_eq_true rfl)⟩ (Nat.le_of_ble_eq_true rfl) ⟨(Nat.le_of_ble_eq_true rfl), (Nat.le_of_ble_eq_true rfl)⟩ dL_law_160 (fun H locs hw => ?_)
          refine lv_pop hf.1 hf.2.1 dL_law_163 rfl ?_
          refine lv_goto (tgt := 502) hf.1 hf.2.1 dL_law_164 (by decide) ?_
          exact J502 XC1 XR1 _ _ _ hJ1 hw (lv_sub hl [0, 1, 2, 3] rfl)
        · by_cases sw_26 : x_4.toInt = 1
          · refine lwq_tbl (tgt := 167) hf.1 hf.2.1 dL_law_33 (by decide) (off := 134) (by rw [sw_26]; rfl) (by decide) ?_
            refine lv_aload_n hf.1 hf.2.1 dL_law_167 rfl (lv_at hl 2 rfl) ?_
            refine lv_aload_n hf.1 hf.2.1 dL_law_168 rfl (lv_at hl 3 rfl) ?_
            refine lv_iload_n hf.1 hf.2.1 dL_law_169 rfl (lv_at hl 0 rfl) ?_
            refine lv_iconst (v := 1) hf.1 hf.2.1 dL_law_170 (by decide) ?_
            refine lv_iadd hf.1 hf.2.1 dL_law_171 ?_
            refine lv_topi (fun x_27 ex_27 => ?_)
            obtain rfl : x_27 = Int32.ofNat (k + 1) := by rw [ex_27]; exact lw_add (by omega) (by decide)
            refine va_sld hf.1 hf.2.1 hX hbl hbA hw.2.2.2.1 (lw_in (j := 1) hk6 hL (by decide)) dL_law_172 ?_
            refine lv_topi (fun z_28 ez_28 => ?_)
            obtain ⟨r, XC1, r1, XR1, hc, hr1, hJ1⟩ := hS.2.2.1 z_28 XC XR hJ
            refine lawC false (own1 := "BlameCourt") (As1 := [.int z_28]) (rest := []) hf hw hZ (k_Court_end (l, dC, dI, C.1, C.2, tW) z_28 XC) hc ka_X10_end kv_X10_end ⟨rfl, rfl, rfl⟩ rfl k727 rfl rfl hl.1 rfl rfl ⟨(Nat.le_of_ble_eq_true rfl), (Nat.le_of_ble_eq_true rfl)⟩ (Nat.le_of_ble_eq_true rfl) ⟨(Nat.le_of_ble_eq_true rfl), (Nat.le_of_ble_eq_true rfl)⟩ dL_law_173 (fun H locs hw => ?_)
            refine lv_pop hf.1 hf.2.1 dL_law_176 rfl ?_
            refine lv_aload_n hf.1 hf.2.1 dL_law_177 rfl (lv_at hl 1 rfl) ?_
            refine lv_aload_n hf.1 hf.2.1 dL_law_178 rfl (lv_at hl 3 rfl) ?_
            refine lv_iload_n hf.1 hf.2.1 dL_law_179 rfl (lv_at hl 0 rfl) ?_
            refine lv_iconst (v := 1) hf.1 hf.2.1 dL_law_180 (by decide) ?_
            refine lv_iadd hf.1 hf.2.1 dL_law_181 ?_
            refine lv_topi (fun x_29 ex_29 => ?_)
            obtain rfl : x_29 = Int32.ofNat (k + 1) := by rw [ex_29]; exact lw_add (by omega) (by decide)
            refine va_sld hf.1 hf.2.1 hX hbl hbA hw.2.2.2.1 (lw_in (j := 1) hk6 hL (by decide)) dL_law_182 ?_
            refine lv_topi (fun z_30 ez_30 => ?_)
            obtain rfl : z_28 = z_30 := by rw [ez_28, ez_30]
            refine lawR false (own1 := "BlameCourtModel") (As1 := [.int z_28]) (rest := []) hf hw (c_end (l, dC, dI, R.1, R.2) z_28 XR) hr1 ka_X11_end kv_X11_end ⟨rfl, rfl, rfl⟩ rfl k1761 rfl rfl hl.1 rfl rfl ⟨(Nat.le_of_ble_eq_true rfl), (Nat.le_of_ble_eq_true rfl)⟩ (Nat.le_of_ble_eq_true rfl) ⟨(Nat.le_of_ble_eq_true rfl), (Nat.le_of_ble_eq_true rfl)⟩ dL_law_183 (fun H locs hw => ?_)
            refine lv_pop hf.1 hf.2.1 dL_law_186 rfl ?_
            refine lv_goto (tgt := 502) hf.1 hf.2.1 dL_law_187 (by decide) ?_
            exact J502 XC1 XR1 _ _ _ hJ1 hw (lv_sub hl [0, 1, 2, 3] rfl)
          · by_cases sw_31 : x_4.toInt = 2
            · refine lwq_tbl (tgt := 190) hf.1 hf.2.1 dL_law_33 (by decide) (off := 157) (by rw [sw_31]; rfl) (by decide) ?_
              refine lv_aload_n hf.1 hf.2.1 dL_law_190 rfl (lv_at hl 2 rfl) ?_
              obtain ⟨r, XC1, r1, XR1, hc, hr1, hJ1⟩ := hS.2.2.2.1 XC XR hJ
              refine lawC false (own1 := "BlameCourt") (As1 := []) (rest := []) hf hw hZ (k_Court_read (l, dC, dI, C.1, C.2, tW) XC) hc ka_X10_read kv_X10_read ⟨rfl, rfl, rfl⟩ rfl k731 rfl rfl hl.1 rfl rfl ⟨(Nat.le_of_ble_eq_true rfl), (Nat.le_of_ble_eq_true rfl)⟩ (Nat.le_of_ble_eq_true rfl) ⟨(Nat.le_of_ble_eq_true rfl), (Nat.le_of_ble_eq_true rfl)⟩ dL_law_191 (fun H locs hw => ?_)
              refine lv_pop hf.1 hf.2.1 dL_law_194 rfl ?_
              refine lv_aload_n hf.1 hf.2.1 dL_law_195 rfl (lv_at hl 1 rfl) ?_
              refine lawR false (own1 := "BlameCourtModel") (As1 := []) (rest := []) hf hw (c_read (l, dC, dI, R.1, R.2) XR) hr1 ka_X11_read kv_X11_read ⟨rfl, rfl, rfl⟩ rfl k1768 rfl rfl hl.1 rfl rfl ⟨(Nat.le_of_ble_eq_true rfl), (Nat.le_of_ble_eq_true rfl)⟩ (Nat.le_of_ble_eq_true rfl) ⟨(Nat.le_of_ble_eq_true rfl), (Nat.le_of_ble_eq_true rfl)⟩ dL_law_196 (fun H locs hw => ?_)
              refine lv_pop hf.1 hf.2.1 dL_law_199 rfl ?_
              refine lv_goto (tgt := 502) hf.1 hf.2.1 dL_law_200 (by decide) ?_
              exact J502 XC1 XR1 _ _ _ hJ1 hw (lv_sub hl [0, 1, 2, 3] rfl)
            · by_cases sw_32 : x_4.toInt = 3
              · refine lwq_tbl (tgt := 203) hf.1 hf.2.1 dL_law_33 (by decide) (off := 170) (by rw [sw_32]; rfl) (by decide) ?_
                refine lv_aload_n hf.1 hf.2.1 dL_law_203 rfl (lv_at hl 2 rfl) ?_
                refine lv_aload_n hf.1 hf.2.1 dL_law_204 rfl (lv_at hl 3 rfl) ?_
                refine lv_iload_n hf.1 hf.2.1 dL_law_205 rfl (lv_at hl 0 rfl) ?_
                refine lv_iconst (v := 1) hf.1 hf.2.1 dL_law_206 (by decide) ?_
                refine lv_iadd hf.1 hf.2.1 dL_law_207 ?_
                refine lv_topi (fun x_33 ex_33 => ?_)
                obtain rfl : x_33 = Int32.ofNat (k + 1) := by rw [ex_33]; exact lw_add (by omega) (by decide)
                refine va_sld hf.1 hf.2.1 hX hbl hbA hw.2.2.2.1 (lw_in (j := 1) hk6 hL (by decide)) dL_law_208 ?_
                refine lv_topi (fun z_34 ez_34 => ?_)
                obtain ⟨r, XC1, r1, XR1, hc, hr1, hJ1⟩ := hS.2.2.2.2.1 z_34 XC XR hJ
                refine lawC false (own1 := "BlameCourt") (As1 := [.int z_34]) (rest := []) hf hw hZ (k_Court_fault (l, dC, dI, C.1, C.2, tW) z_34 XC) hc ka_X10_fault kv_X10_fault ⟨rfl, rfl, rfl⟩ rfl k980 rfl rfl hl.1 rfl rfl ⟨(Nat.le_of_ble_eq_true rfl), (Nat.le_of_ble_eq_true rfl)⟩ (Nat.le_of_ble_eq_true rfl) ⟨(Nat.le_of_ble_eq_true rfl), (Nat.le_of_ble_eq_true rfl)⟩ dL_law_209 (fun H locs hw => ?_)
                refine lv_pop hf.1 hf.2.1 dL_law_212 rfl ?_
                refine lv_aload_n hf.1 hf.2.1 dL_law_213 rfl (lv_at hl 1 rfl) ?_
                refine lv_aload_n hf.1 hf.2.1 dL_law_214 rfl (lv_at hl 3 rfl) ?_
                refine lv_iload_n hf.1 hf.2.1 dL_law_215 rfl (lv_at hl 0 rfl) ?_
                refine lv_iconst (v := 1) hf.1 hf.2.1 dL_law_216 (by decide) ?_
                refine lv_iadd hf.1 hf.2.1 dL_law_217 ?_
                refine lv_topi (fun x_35 ex_35 => ?_)
                obtain rfl : x_35 = Int32.ofNat (k + 1) := by rw [ex_35]; exact lw_add (by omega) (by decide)
                refine va_sld hf.1 hf.2.1 hX hbl hbA hw.2.2.2.1 (lw_in (j := 1) hk6 hL (by decide)) dL_law_218 ?_
                refine lv_topi (fun z_36 ez_36 => ?_)
                obtain rfl : z_34 = z_36 := by rw [ez_34, ez_36]
                refine lawR false (own1 := "BlameCourtModel") (As1 := [.int z_34]) (rest := []) hf hw (c_fault (l, dC, dI, R.1, R.2) z_34 XR) hr1 ka_X11_fault kv_X11_fault ⟨rfl, rfl, rfl⟩ rfl k2072 rfl rfl hl.1 rfl rfl ⟨(Nat.le_of_ble_eq_true rfl), (Nat.le_of_ble_eq_true rfl)⟩ (Nat.le_of_ble_eq_true rfl) ⟨(Nat.le_of_ble_eq_true rfl), (Nat.le_of_ble_eq_true rfl)⟩ dL_law_219 (fun H locs hw => ?_)
                refine lv_pop hf.1 hf.2.1 dL_law_222 rfl ?_
                refine lv_goto (tgt := 502) hf.1 hf.2.1 dL_law_223 (by decide) ?_
                exact J502 XC1 XR1 _ _ _ hJ1 hw (lv_sub hl [0, 1, 2, 3] rfl)
              · by_cases sw_37 : x_4.toInt = 4
                · refine lwq_tbl (tgt := 226) hf.1 hf.2.1 dL_law_33 (by decide) (off := 193) (by rw [sw_37]; rfl) (by decide) ?_
                  refine lv_aload_n hf.1 hf.2.1 dL_law_226 rfl (lv_at hl 2 rfl) ?_
                  refine lv_aload_n hf.1 hf.2.1 dL_law_227 rfl (lv_at hl 3 rfl) ?_
                  refine lv_iload_n hf.1 hf.2.1 dL_law_228 rfl (lv_at hl 0 rfl) ?_
                  refine lv_iconst (v := 1) hf.1 hf.2.1 dL_law_229 (by decide) ?_
                  refine lv_iadd hf.1 hf.2.1 dL_law_230 ?_
                  refine lv_topi (fun x_38 ex_38 => ?_)
                  obtain rfl : x_38 = Int32.ofNat (k + 1) := by rw [ex_38]; exact lw_add (by omega) (by decide)
                  refine va_sld hf.1 hf.2.1 hX hbl hbA hw.2.2.2.1 (lw_in (j := 1) hk6 hL (by decide)) dL_law_231 ?_
                  refine lv_topi (fun z_39 ez_39 => ?_)
                  refine lv_aload_n hf.1 hf.2.1 dL_law_232 rfl (lv_at hl 3 rfl) ?_
                  refine lv_iload_n hf.1 hf.2.1 dL_law_233 rfl (lv_at hl 0 rfl) ?_
                  refine lv_iconst (v := 2) hf.1 hf.2.1 dL_law_234 (by decide) ?_
                  refine lv_iadd hf.1 hf.2.1 dL_law_235 ?_
                  refine lv_topi (fun x_40 ex_40 => ?_)
                  obtain rfl : x_40 = Int32.ofNat (k + 2) := by rw [ex_40]; exact lw_add (by omega) (by decide)
                  refine va_sld hf.1 hf.2.1 hX hbl hbA hw.2.2.2.1 (lw_in (j := 2) hk6 hL (by decide)) dL_law_236 ?_
                  refine lv_topi (fun z_41 ez_41 => ?_)
                  refine lv_if_eq (tgt := 244) hf.1 hf.2.1 dL_law_237 (by decide) (fun c_42 => ?_) (fun c_42 => ?_)
                  · refine lv_iconst (v := 0) hf.1 hf.2.1 dL_law_244 (by decide) ?_
                    obtain ⟨r, XC1, r1, XR1, hc, hr1, hJ1⟩ := hS.2.2.2.2.2.1 z_39 (0 : Int32) XC XR (by decide) hJ
                    refine lawC false (own1 := "BlameCourt") (As1 := [.int z_39, .int 0]) (rest := []) hf hw hZ (k_Court_tell (l, dC, dI, C.1, C.2, tW) z_39 (0 : Int32) XC) hc ka_X10_tell kv_X10_tell ⟨rfl, rfl, rfl⟩ rfl k984 rfl rfl hl.1 rfl rfl ⟨(Nat.le_of_ble_eq_true rfl), (Nat.le_of_ble_eq_true rfl)⟩ (Nat.le_of_ble_eq_true rfl) ⟨(Nat.le_of_ble_eq_true rfl), (Nat.le_of_ble_eq_true rfl)⟩ dL_law_245 (fun H locs hw => ?_)
                    refine lv_pop hf.1 hf.2.1 dL_law_248 rfl ?_
                    refine lv_aload_n hf.1 hf.2.1 dL_law_249 rfl (lv_at hl 1 rfl) ?_
                    refine lv_aload_n hf.1 hf.2.1 dL_law_250 rfl (lv_at hl 3 rfl) ?_
                    refine lv_iload_n hf.1 hf.2.1 dL_law_251 rfl (lv_at hl 0 rfl) ?_
                    refine lv_iconst (v := 1) hf.1 hf.2.1 dL_law_252 (by decide) ?_
                    refine lv_iadd hf.1 hf.2.1 dL_law_253 ?_
                    refine lv_topi (fun x_43 ex_43 => ?_)
                    obtain rfl : x_43 = Int32.ofNat (k + 1) := by rw [ex_43]; exact lw_add (by omega) (by decide)
                    refine va_sld hf.1 hf.2.1 hX hbl hbA hw.2.2.2.1 (lw_in (j := 1) hk6 hL (by decide)) dL_law_254 ?_
                    refine lv_topi (fun z_44 ez_44 => ?_)
                    obtain rfl : z_39 = z_44 := by rw [ez_39, ez_44]
                    refine lv_aload_n hf.1 hf.2.1 dL_law_255 rfl (lv_at hl 3 rfl) ?_
                    refine lv_iload_n hf.1 hf.2.1 dL_law_256 rfl (lv_at hl 0 rfl) ?_
                    refine lv_iconst (v := 2) hf.1 hf.2.1 dL_law_257 (by decide) ?_
                    refine lv_iadd hf.1 hf.2.1 dL_law_258 ?_
                    refine lv_topi (fun x_45 ex_45 => ?_)
                    obtain rfl : x_45 = Int32.ofNat (k + 2) := by rw [ex_45]; exact lw_add (by omega) (by decide)
                    refine va_sld hf.1 hf.2.1 hX hbl hbA hw.2.2.2.1 (lw_in (j := 2) hk6 hL (by decide)) dL_law_259 ?_
                    refine lv_topi (fun z_46 ez_46 => ?_)
                    obtain rfl : z_41 = z_46 := by rw [ez_41, ez_46]
                    refine lv_if_eq (tgt := 267) hf.1 hf.2.1 dL_law_260 (by decide) (fun c_47 => ?_) (fun c_47 => absurd c_42 c_47)
                    refine lv_iconst (v := 0) hf.1 hf.2.1 dL_law_267 (by decide) ?_
                    refine lawR false (own1 := "BlameCourtModel") (As1 := [.int z_39, .int 0]) (rest := []) hf hw (c_tell (l, dC, dI, R.1, R.2) z_39 (0 : Int32) XR) hr1 ka_X11_tell kv_X11_tell ⟨rfl, rfl, rfl⟩ rfl k2076 rfl rfl hl.1 rfl rfl ⟨(Nat.le_of_ble_eq_true rfl), (Nat.le_of_ble_eq_true rfl)⟩ (Nat.le_of_ble_eq_true rfl) ⟨(Nat.le_of_ble_eq_true rfl), (Nat.le_of_ble_eq_true rfl)⟩ dL_law_268 (fun H locs hw => ?_)
                    refine lv_pop hf.1 hf.2.1 dL_law_271 rfl ?_
                    refine lv_goto (tgt := 502) hf.1 hf.2.1 dL_law_272 (by decide) ?_
                    exact J502 XC1 XR1 _ _ _ hJ1 hw (lv_sub hl [0, 1, 2, 3] rfl)
                  · refine lv_iconst (v := 1) hf.1 hf.2.1 dL_law_240 (by decide) ?_
                    refine lv_goto (tgt := 245) hf.1 hf.2.1 dL_law_241 (by decide) ?_
                    obtain ⟨r, XC1, r1, XR1, hc, hr1, hJ1⟩ := hS.2.2.2.2.2.1 z_39 (1 : Int32) XC XR (by decide) hJ
                    refine lawC false (own1 := "BlameCourt") (As1 := [.int z_39, .int 1]) (rest := []) hf hw hZ (k_Court_tell (l, dC, dI, C.1, C.2, tW) z_39 (1 : Int32) XC) hc ka_X10_tell kv_X10_tell ⟨rfl, rfl, rfl⟩ rfl k984 rfl rfl hl.1 rfl rfl ⟨(Nat.le_of_ble_eq_true rfl), (Nat.le_of_ble_eq_true rfl)⟩ (Nat.le_of_ble_eq_true rfl) ⟨(Nat.le_of_ble_eq_true rfl), (Nat.le_of_ble_eq_true rfl)⟩ dL_law_245 (fun H locs hw => ?_)
                    refine lv_pop hf.1 hf.2.1 dL_law_248 rfl ?_
                    refine lv_aload_n hf.1 hf.2.1 dL_law_249 rfl (lv_at hl 1 rfl) ?_
                    refine lv_aload_n hf.1 hf.2.1 dL_law_250 rfl (lv_at hl 3 rfl) ?_
                    refine lv_iload_n hf.1 hf.2.1 dL_law_251 rfl (lv_at hl 0 rfl) ?_
                    refine lv_iconst (v := 1) hf.1 hf.2.1 dL_law_252 (by decide) ?_
                    refine lv_iadd hf.1 hf.2.1 dL_law_253 ?_
                    refine lv_topi (fun x_48 ex_48 => ?_)
                    obtain rfl : x_48 = Int32.ofNat (k + 1) := by rw [ex_48]; exact lw_add (by omega) (by decide)
                    refine va_sld hf.1 hf.2.1 hX hbl hbA hw.2.2.2.1 (lw_in (j := 1) hk6 hL (by decide)) dL_law_254 ?_
                    refine lv_topi (fun z_49 ez_49 => ?_)
                    obtain rfl : z_39 = z_49 := by rw [ez_39, ez_49]
                    refine lv_aload_n hf.1 hf.2.1 dL_law_255 rfl (lv_at hl 3 rfl) ?_
                    refine lv_iload_n hf.1 hf.2.1 dL_law_256 rfl (lv_at hl 0 rfl) ?_
                    refine lv_iconst (v := 2) hf.1 hf.2.1 dL_law_257 (by decide) ?_
                    refine lv_iadd hf.1 hf.2.1 dL_law_258 ?_
                    refine lv_topi (fun x_50 ex_50 => ?_)
                    obtain rfl : x_50 = Int32.ofNat (k + 2) := by rw [ex_50]; exact lw_add (by omega) (by decide)
                    refine va_sld hf.1 hf.2.1 hX hbl hbA hw.2.2.2.1 (lw_in (j := 2) hk6 hL (by decide)) dL_law_259 ?_
                    refine lv_topi (fun z_51 ez_51 => ?_)
                    obtain rfl : z_41 = z_51 := by rw [ez_41, ez_51]
                    refine lv_if_eq (tgt := 267) hf.1 hf.2.1 dL_law_260 (by decide) (fun c_52 => absurd c_52 c_42) (fun c_52 => ?_)
                    refine lv_iconst (v := 1) hf.1 hf.2.1 dL_law_263 (by decide) ?_
                    refine lv_goto (tgt := 268) hf.1 hf.2.1 dL_law_264 (by decide) ?_
                    refine lawR false (own1 := "BlameCourtModel") (As1 := [.int z_39, .int 1]) (rest := []) hf hw (c_tell (l, dC, dI, R.1, R.2) z_39 (1 : Int32) XR) hr1 ka_X11_tell kv_X11_tell ⟨rfl, rfl, rfl⟩ rfl k2076 rfl rfl hl.1 rfl rfl ⟨(Nat.le_of_ble_eq_true rfl), (Nat.le_of_ble_eq_true rfl)⟩ (Nat.le_of_ble_eq_true rfl) ⟨(Nat.le_of_ble_eq_true rfl), (Nat.le_of_ble_eq_true rfl)⟩ dL_law_268 (fun H locs hw => ?_)
                    refine lv_pop hf.1 hf.2.1 dL_law_271 rfl ?_
                    refine lv_goto (tgt := 502) hf.1 hf.2.1 dL_law_272 (by decide) ?_
                    exact J502 XC1 XR1 _ _ _ hJ1 hw (lv_sub hl [0, 1, 2, 3] rfl)
                · by_cases sw_53 : x_4.toInt = 5
                  · refine lwq_tbl (tgt := 275) hf.1 hf.2.1 dL_law_33 (by decide) (off := 242) (by rw [sw_53]; rfl) (by decide) ?_
                    refine lv_aload_n hf.1 hf.2.1 dL_law_275 rfl (lv_at hl 2 rfl) ?_
                    obtain ⟨r, XC1, r1, XR1, hc, hr1, hJ1⟩ := hS.2.2.2.2.2.2.1 XC XR hJ
                    refine lawC false (own1 := "BlameCourt") (As1 := []) (rest := []) hf hw hZ (k_Court_judge (l, dC, dI, C.1, C.2, tW) XC) hc ka_X10_judge kv_X10_judge ⟨rfl, rfl, rfl⟩ rfl k992 rfl rfl hl.1 rfl rfl ⟨(Nat.le_of_ble_eq_true rfl), (Nat.le_of_ble_eq_true rfl)⟩ (Nat.le_of_ble_eq_true rfl) ⟨(Nat.le_of_ble_eq_true rfl), (Nat.le_of_ble_eq_true rfl)⟩ dL_law_276 (fun H locs hw => ?_)
                    refine lv_pop hf.1 hf.2.1 dL_law_279 rfl ?_
                    refine lv_aload_n hf.1 hf.2.1 dL_law_280 rfl (lv_at hl 1 rfl) ?_
                    refine lawR false (own1 := "BlameCourtModel") (As1 := []) (rest := []) hf hw (c_judge (l, dC, dI, R.1, R.2) XR) hr1 ka_X11_judge kv_X11_judge ⟨rfl, rfl, rfl⟩ rfl k2080 rfl rfl hl.1 rfl rfl ⟨(Nat.le_of_ble_eq_true rfl), (Nat.le_of_ble_eq_true rfl)⟩ (Nat.le_of_ble_eq_true rfl) ⟨(Nat.le_of_ble_eq_true rfl), (Nat.le_of_ble_eq_true rfl)⟩ dL_law_281 (fun H locs hw => ?_)
                    refine lv_pop hf.1 hf.2.1 dL_law_284 rfl ?_
                    refine lv_goto (tgt := 502) hf.1 hf.2.1 dL_law_285 (by decide) ?_
                    exact J502 XC1 XR1 _ _ _ hJ1 hw (lv_sub hl [0, 1, 2, 3] rfl)
                  · by_cases sw_54 : x_4.toInt = 6
                    · refine lwq_tbl (tgt := 288) hf.1 hf.2.1 dL_law_33 (by decide) (off := 255) (by rw [sw_54]; rfl) (by decide) ?_
                      refine lv_aload_n hf.1 hf.2.1 dL_law_288 rfl (lv_at hl 2 rfl) ?_
                      refine lv_aload_n hf.1 hf.2.1 dL_law_289 rfl (lv_at hl 3 rfl) ?_
                      refine lv_iload_n hf.1 hf.2.1 dL_law_290 rfl (lv_at hl 0 rfl) ?_
                      refine lv_iconst (v := 1) hf.1 hf.2.1 dL_law_291 (by decide) ?_
                      refine lv_iadd hf.1 hf.2.1 dL_law_292 ?_
                      refine lv_topi (fun x_55 ex_55 => ?_)
                      obtain rfl : x_55 = Int32.ofNat (k + 1) := by rw [ex_55]; exact lw_add (by omega) (by decide)
                      refine va_sld hf.1 hf.2.1 hX hbl hbA hw.2.2.2.1 (lw_in (j := 1) hk6 hL (by decide)) dL_law_293 ?_
                      refine lv_topi (fun z_56 ez_56 => ?_)
                      refine lv_aload_n hf.1 hf.2.1 dL_law_294 rfl (lv_at hl 3 rfl) ?_
                      refine lv_iload_n hf.1 hf.2.1 dL_law_295 rfl (lv_at hl 0 rfl) ?_
                      refine lv_iconst (v := 2) hf.1 hf.2.1 dL_law_296 (by decide) ?_
                      refine lv_iadd hf.1 hf.2.1 dL_law_297 ?_
                      refine lv_topi (fun x_57 ex_57 => ?_)
                      obtain rfl : x_57 = Int32.ofNat (k + 2) := by rw [ex_57]; exact lw_add (by omega) (by decide)
                      refine va_sld hf.1 hf.2.1 hX hbl hbA hw.2.2.2.1 (lw_in (j := 2) hk6 hL (by decide)) dL_law_298 ?_
                      refine lv_topi (fun z_58 ez_58 => ?_)
                      obtain ⟨r, XC1, r1, XR1, hc, hr1, hJ1⟩ := hS.2.2.2.2.2.2.2.1 z_56 z_58 XC XR hJ
                      refine lawC false (own1 := "BlameCourt") (As1 := [.int z_56, .int z_58]) (rest := []) hf hw hZ (k_Court_guard (l, dC, dI, C.1, C.2, tW) z_56 z_58 XC) hc ka_X10_guard kv_X10_guard ⟨rfl, rfl, rfl⟩ rfl k1112 rfl rfl hl.1 rfl rfl ⟨(Nat.le_of_ble_eq_true rfl), (Nat.le_of_ble_eq_true rfl)⟩ (Nat.le_of_ble_eq_true rfl) ⟨(Nat.le_of_ble_eq_true rfl), (Nat.le_of_ble_eq_true rfl)⟩ dL_law_299 (fun H locs hw => ?_)
                      refine lv_pop hf.1 hf.2.1 dL_law_302 rfl ?_
                      refine lv_aload_n hf.1 hf.2.1 dL_law_303 rfl (lv_at hl 1 rfl) ?_
                      refine lv_aload_n hf.1 hf.2.1 dL_law_304 rfl (lv_at hl 3 rfl) ?_
                      refine lv_iload_n hf.1 hf.2.1 dL_law_305 rfl (lv_at hl 0 rfl) ?_
                      refine lv_iconst (v := 1) hf.1 hf.2.1 dL_law_306 (by decide) ?_
                      refine lv_iadd hf.1 hf.2.1 dL_law_307 ?_
                      refine lv_topi (fun x_59 ex_59 => ?_)
                      obtain rfl : x_59 = Int32.ofNat (k + 1) := by rw [ex_59]; exact lw_add (by omega) (by decide)
                      refine va_sld hf.1 hf.2.1 hX hbl hbA hw.2.2.2.1 (lw_in (j := 1) hk6 hL (by decide)) dL_law_308 ?_
                      refine lv_topi (fun z_60 ez_60 => ?_)
                      obtain rfl : z_56 = z_60 := by rw [ez_56, ez_60]
                      refine lv_aload_n hf.1 hf.2.1 dL_law_309 rfl (lv_at hl 3 rfl) ?_
                      refine lv_iload_n hf.1 hf.2.1 dL_law_310 rfl (lv_at hl 0 rfl) ?_
                      refine lv_iconst (v := 2) hf.1 hf.2.1 dL_law_311 (by decide) ?_
                      refine lv_iadd hf.1 hf.2.1 dL_law_312 ?_
                      refine lv_topi (fun x_61 ex_61 => ?_)
                      obtain rfl : x_61 = Int32.ofNat (k + 2) := by rw [ex_61]; exact lw_add (by omega) (by decide)
                      refine va_sld hf.1 hf.2.1 hX hbl hbA hw.2.2.2.1 (lw_in (j := 2) hk6 hL (by decide)) dL_law_313 ?_
                      refine lv_topi (fun z_62 ez_62 => ?_)
                      obtain rfl : z_58 = z_62 := by rw [ez_58, ez_62]
                      refine lawR false (own1 := "BlameCourtModel") (As1 := [.int z_56, .int z_58]) (rest := []) hf hw (c_guard (l, dC, dI, R.1, R.2) z_56 z_58 XR) hr1 ka_X11_guard kv_X11_guard ⟨rfl, rfl, rfl⟩ rfl k2084 rfl rfl hl.1 rfl rfl ⟨(Nat.le_of_ble_eq_true rfl), (Nat.le_of_ble_eq_true rfl)⟩ (Nat.le_of_ble_eq_true rfl) ⟨(Nat.le_of_ble_eq_true rfl), (Nat.le_of_ble_eq_true rfl)⟩ dL_law_314 (fun H locs hw => ?_)
                      refine lv_pop hf.1 hf.2.1 dL_law_317 rfl ?_
                      refine lv_goto (tgt := 502) hf.1 hf.2.1 dL_law_318 (by decide) ?_
                      exact J502 XC1 XR1 _ _ _ hJ1 hw (lv_sub hl [0, 1, 2, 3] rfl)
                    · by_cases sw_63 : x_4.toInt = 7
                      · refine lwq_tbl (tgt := 321) hf.1 hf.2.1 dL_law_33 (by decide) (off := 288) (by rw [sw_63]; rfl) (by decide) ?_
                        refine lv_aload_n hf.1 hf.2.1 dL_law_321 rfl (lv_at hl 2 rfl) ?_
                        refine lv_aload_n hf.1 hf.2.1 dL_law_322 rfl (lv_at hl 3 rfl) ?_
                        refine lv_iload_n hf.1 hf.2.1 dL_law_323 rfl (lv_at hl 0 rfl) ?_
                        refine lv_iconst (v := 1) hf.1 hf.2.1 dL_law_324 (by decide) ?_
                        refine lv_iadd hf.1 hf.2.1 dL_law_325 ?_
                        refine lv_topi (fun x_64 ex_64 => ?_)
                        obtain rfl : x_64 = Int32.ofNat (k + 1) := by rw [ex_64]; exact lw_add (by omega) (by decide)
                        refine va_sld hf.1 hf.2.1 hX hbl hbA hw.2.2.2.1 (lw_in (j := 1) hk6 hL (by decide)) dL_law_326 ?_
                        refine lv_topi (fun z_65 ez_65 => ?_)
                        refine lv_aload_n hf.1 hf.2.1 dL_law_327 rfl (lv_at hl 3 rfl) ?_
                        refine lv_iload_n hf.1 hf.2.1 dL_law_328 rfl (lv_at hl 0 rfl) ?_
                        refine lv_iconst (v := 2) hf.1 hf.2.1 dL_law_329 (by decide) ?_
                        refine lv_iadd hf.1 hf.2.1 dL_law_330 ?_
                        refine lv_topi (fun x_66 ex_66 => ?_)
                        obtain rfl : x_66 = Int32.ofNat (k + 2) := by rw [ex_66]; exact lw_add (by omega) (by decide)
                        refine va_sld hf.1 hf.2.1 hX hbl hbA hw.2.2.2.1 (lw_in (j := 2) hk6 hL (by decide)) dL_law_331 ?_
                        refine lv_topi (fun z_67 ez_67 => ?_)
                        obtain ⟨r, XC1, r1, XR1, hc, hr1, hJ1⟩ := hS.2.2.2.2.2.2.2.2.1 z_65 z_67 XC XR hJ
                        refine lawC false (own1 := "BlameCourt") (As1 := [.int z_65, .int z_67]) (rest := []) hf hw hZ (k_Court_part (l, dC, dI, C.1, C.2, tW) z_65 z_67 XC) hc ka_X10_part kv_X10_part ⟨rfl, rfl, rfl⟩ rfl k1117 rfl rfl hl.1 rfl rfl ⟨(Nat.le_of_ble_eq_true rfl), (Nat.le_of_ble_eq_true rfl)⟩ (Nat.le_of_ble_eq_true rfl) ⟨(Nat.le_of_ble_eq_true rfl), (Nat.le_of_ble_eq_true rfl)⟩ dL_law_332 (fun H locs hw => ?_)
                        refine lv_pop hf.1 hf.2.1 dL_law_335 rfl ?_
                        refine lv_aload_n hf.1 hf.2.1 dL_law_336 rfl (lv_at hl 1 rfl) ?_
                        refine lv_aload_n hf.1 hf.2.1 dL_law_337 rfl (lv_at hl 3 rfl) ?_
                        refine lv_iload_n hf.1 hf.2.1 dL_law_338 rfl (lv_at hl 0 rfl) ?_
                        refine lv_iconst (v := 1) hf.1 hf.2.1 dL_law_339 (by decide) ?_
                        refine lv_iadd hf.1 hf.2.1 dL_law_340 ?_
                        refine lv_topi (fun x_68 ex_68 => ?_)
                        obtain rfl : x_68 = Int32.ofNat (k + 1) := by rw [ex_68]; exact lw_add (by omega) (by decide)
                        refine va_sld hf.1 hf.2.1 hX hbl hbA hw.2.2.2.1 (lw_in (j := 1) hk6 hL (by decide)) dL_law_341 ?_
                        refine lv_topi (fun z_69 ez_69 => ?_)
                        obtain rfl : z_65 = z_69 := by rw [ez_65, ez_69]
                        refine lv_aload_n hf.1 hf.2.1 dL_law_342 rfl (lv_at hl 3 rfl) ?_
                        refine lv_iload_n hf.1 hf.2.1 dL_law_343 rfl (lv_at hl 0 rfl) ?_
                        refine lv_iconst (v := 2) hf.1 hf.2.1 dL_law_344 (by decide) ?_
                        refine lv_iadd hf.1 hf.2.1 dL_law_345 ?_
                        refine lv_topi (fun x_70 ex_70 => ?_)
                        obtain rfl : x_70 = Int32.ofNat (k + 2) := by rw [ex_70]; exact lw_add (by omega) (by decide)
                        refine va_sld hf.1 hf.2.1 hX hbl hbA hw.2.2.2.1 (lw_in (j := 2) hk6 hL (by decide)) dL_law_346 ?_
                        refine lv_topi (fun z_71 ez_71 => ?_)
                        obtain rfl : z_67 = z_71 := by rw [ez_67, ez_71]
                        refine lawR false (own1 := "BlameCourtModel") (As1 := [.int z_65, .int z_67]) (rest := []) hf hw (c_part_II_I (l, dC, dI, R.1, R.2) z_65 z_67 XR) hr1 ka_X11_part_ kv_X11_part_ ⟨rfl, rfl, rfl⟩ rfl k2088 rfl rfl hl.1 rfl rfl ⟨(Nat.le_of_ble_eq_true rfl), (Nat.le_of_ble_eq_true rfl)⟩ (Nat.le_of_ble_eq_true rfl) ⟨(Nat.le_of_ble_eq_true rfl), (Nat.le_of_ble_eq_true rfl)⟩ dL_law_347 (fun H locs hw => ?_)
                        refine lv_pop hf.1 hf.2.1 dL_law_350 rfl ?_
                        refine lv_goto (tgt := 502) hf.1 hf.2.1 dL_law_351 (by decide) ?_
                        exact J502 XC1 XR1 _ _ _ hJ1 hw (lv_sub hl [0, 1, 2, 3] rfl)
                      · by_cases sw_72 : x_4.toInt = 8
                        · refine lwq_tbl (tgt := 354) hf.1 hf.2.1 dL_law_33 (by decide) (off := 321) (by rw [sw_72]; rfl) (by decide) ?_
                          refine lv_aload_n hf.1 hf.2.1 dL_law_354 rfl (lv_at hl 2 rfl) ?_
                          refine lv_aload_n hf.1 hf.2.1 dL_law_355 rfl (lv_at hl 3 rfl) ?_
                          refine lv_iload_n hf.1 hf.2.1 dL_law_356 rfl (lv_at hl 0 rfl) ?_
                          refine lv_iconst (v := 1) hf.1 hf.2.1 dL_law_357 (by decide) ?_
                          refine lv_iadd hf.1 hf.2.1 dL_law_358 ?_
                          refine lv_topi (fun x_73 ex_73 => ?_)
                          obtain rfl : x_73 = Int32.ofNat (k + 1) := by rw [ex_73]; exact lw_add (by omega) (by decide)
                          refine va_sld hf.1 hf.2.1 hX hbl hbA hw.2.2.2.1 (lw_in (j := 1) hk6 hL (by decide)) dL_law_359 ?_
                          refine lv_topi (fun z_74 ez_74 => ?_)
                          obtain ⟨r, XC1, r1, XR1, hc, hr1, hJ1⟩ := hS.2.2.2.2.2.2.2.2.2.1 z_74 XC XR hJ
                          refine lawC false (own1 := "BlameCourt") (As1 := [.int z_74]) (rest := []) hf hw hZ (k_Court_run (l, dC, dI, C.1, C.2, tW) z_74 XC) hc ka_X10_run kv_X10_run ⟨rfl, rfl, rfl⟩ rfl k1125 rfl rfl hl.1 rfl rfl ⟨(Nat.le_of_ble_eq_true rfl), (Nat.le_of_ble_eq_true rfl)⟩ (Nat.le_of_ble_eq_true rfl) ⟨(Nat.le_of_ble_eq_true rfl), (Nat.le_of_ble_eq_true rfl)⟩ dL_law_360 (fun H locs hw => ?_)
                          refine lv_pop hf.1 hf.2.1 dL_law_363 rfl ?_
                          refine lv_aload_n hf.1 hf.2.1 dL_law_364 rfl (lv_at hl 1 rfl) ?_
                          refine lv_aload_n hf.1 hf.2.1 dL_law_365 rfl (lv_at hl 3 rfl) ?_
                          refine lv_iload_n hf.1 hf.2.1 dL_law_366 rfl (lv_at hl 0 rfl) ?_
                          refine lv_iconst (v := 1) hf.1 hf.2.1 dL_law_367 (by decide) ?_
                          refine lv_iadd hf.1 hf.2.1 dL_law_368 ?_
                          refine lv_topi (fun x_75 ex_75 => ?_)
                          obtain rfl : x_75 = Int32.ofNat (k + 1) := by rw [ex_75]; exact lw_add (by omega) (by decide)
                          refine va_sld hf.1 hf.2.1 hX hbl hbA hw.2.2.2.1 (lw_in (j := 1) hk6 hL (by decide)) dL_law_369 ?_
                          refine lv_topi (fun z_76 ez_76 => ?_)
                          obtain rfl : z_74 = z_76 := by rw [ez_74, ez_76]
                          refine lawR false (own1 := "BlameCourtModel") (As1 := [.int z_74]) (rest := []) hf hw (c_run (l, dC, dI, R.1, R.2) z_74 XR) hr1 ka_X11_run kv_X11_run ⟨rfl, rfl, rfl⟩ rfl k2092 rfl rfl hl.1 rfl rfl ⟨(Nat.le_of_ble_eq_true rfl), (Nat.le_of_ble_eq_true rfl)⟩ (Nat.le_of_ble_eq_true rfl) ⟨(Nat.le_of_ble_eq_true rfl), (Nat.le_of_ble_eq_true rfl)⟩ dL_law_370 (fun H locs hw => ?_)
                          refine lv_pop hf.1 hf.2.1 dL_law_373 rfl ?_
                          refine lv_goto (tgt := 502) hf.1 hf.2.1 dL_law_374 (by decide) ?_
                          exact J502 XC1 XR1 _ _ _ hJ1 hw (lv_sub hl [0, 1, 2, 3] rfl)
                        · by_cases sw_77 : x_4.toInt = 9
                          · refine lwq_tbl (tgt := 377) hf.1 hf.2.1 dL_law_33 (by decide) (off := 344) (by rw [sw_77]; rfl) (by decide) ?_
                            refine lv_aload_n hf.1 hf.2.1 dL_law_377 rfl (lv_at hl 2 rfl) ?_
                            refine lv_aload_n hf.1 hf.2.1 dL_law_378 rfl (lv_at hl 3 rfl) ?_
                            refine lv_iload_n hf.1 hf.2.1 dL_law_379 rfl (lv_at hl 0 rfl) ?_
                            refine lv_iconst (v := 1) hf.1 hf.2.1 dL_law_380 (by decide) ?_
                            refine lv_iadd hf.1 hf.2.1 dL_law_381 ?_
                            refine lv_topi (fun x_78 ex_78 => ?_)
                            obtain rfl : x_78 = Int32.ofNat (k + 1) := by rw [ex_78]; exact lw_add (by omega) (by decide)
                            refine va_sld hf.1 hf.2.1 hX hbl hbA hw.2.2.2.1 (lw_in (j := 1) hk6 hL (by decide)) dL_law_382 ?_
                            refine lv_topi (fun z_79 ez_79 => ?_)
                            obtain ⟨r, XC1, r1, XR1, hc, hr1, hJ1⟩ := hS.2.2.2.2.2.2.2.2.2.2.1 z_79 XC XR hJ
                            refine lawC false (own1 := "BlameCourt") (As1 := [.int z_79]) (rest := []) hf hw hZ (k_Court_runUntold (l, dC, dI, C.1, C.2, tW) z_79 XC) hc ka_X10_runUntold kv_X10_runUntold ⟨rfl, rfl, rfl⟩ rfl k1319 rfl rfl hl.1 rfl rfl ⟨(Nat.le_of_ble_eq_true rfl), (Nat.le_of_ble_eq_true rfl)⟩ (Nat.le_of_ble_eq_true rfl) ⟨(Nat.le_of_ble_eq_true rfl), (Nat.le_of_ble_eq_true rfl)⟩ dL_law_383 (fun H locs hw => ?_)
                            refine lv_pop hf.1 hf.2.1 dL_law_386 rfl ?_
                            refine lv_aload_n hf.1 hf.2.1 dL_law_387 rfl (lv_at hl 1 rfl) ?_
                            refine lv_aload_n hf.1 hf.2.1 dL_law_388 rfl (lv_at hl 3 rfl) ?_
                            refine lv_iload_n hf.1 hf.2.1 dL_law_389 rfl (lv_at hl 0 rfl) ?_
                            refine lv_iconst (v := 1) hf.1 hf.2.1 dL_law_390 (by decide) ?_
                            refine lv_iadd hf.1 hf.2.1 dL_law_391 ?_
                            refine lv_topi (fun x_80 ex_80 => ?_)
                            obtain rfl : x_80 = Int32.ofNat (k + 1) := by rw [ex_80]; exact lw_add (by omega) (by decide)
                            refine va_sld hf.1 hf.2.1 hX hbl hbA hw.2.2.2.1 (lw_in (j := 1) hk6 hL (by decide)) dL_law_392 ?_
                            refine lv_topi (fun z_81 ez_81 => ?_)
                            obtain rfl : z_79 = z_81 := by rw [ez_79, ez_81]
                            refine lawR false (own1 := "BlameCourtModel") (As1 := [.int z_79]) (rest := []) hf hw (c_runUntold (l, dC, dI, R.1, R.2) z_79 XR) hr1 ka_X11_runUntold kv_X11_runUntold ⟨rfl, rfl, rfl⟩ rfl k2180 rfl rfl hl.1 rfl rfl ⟨(Nat.le_of_ble_eq_true rfl), (Nat.le_of_ble_eq_true rfl)⟩ (Nat.le_of_ble_eq_true rfl) ⟨(Nat.le_of_ble_eq_true rfl), (Nat.le_of_ble_eq_true rfl)⟩ dL_law_393 (fun H locs hw => ?_)
                            refine lv_pop hf.1 hf.2.1 dL_law_396 rfl ?_
                            refine lv_goto (tgt := 502) hf.1 hf.2.1 dL_law_397 (by decide) ?_
                            exact J502 XC1 XR1 _ _ _ hJ1 hw (lv_sub hl [0, 1, 2, 3] rfl)
                          · by_cases sw_82 : x_4.toInt = 10
                            · refine lwq_tbl (tgt := 400) hf.1 hf.2.1 dL_law_33 (by decide) (off := 367) (by rw [sw_82]; rfl) (by decide) ?_
                              refine lv_aload_n hf.1 hf.2.1 dL_law_400 rfl (lv_at hl 2 rfl) ?_
                              refine lv_aload_n hf.1 hf.2.1 dL_law_401 rfl (lv_at hl 3 rfl) ?_
                              refine lv_iload_n hf.1 hf.2.1 dL_law_402 rfl (lv_at hl 0 rfl) ?_
                              refine lv_iconst (v := 1) hf.1 hf.2.1 dL_law_403 (by decide) ?_
                              refine lv_iadd hf.1 hf.2.1 dL_law_404 ?_
                              refine lv_topi (fun x_83 ex_83 => ?_)
                              obtain rfl : x_83 = Int32.ofNat (k + 1) := by rw [ex_83]; exact lw_add (by omega) (by decide)
                              refine va_sld hf.1 hf.2.1 hX hbl hbA hw.2.2.2.1 (lw_in (j := 1) hk6 hL (by decide)) dL_law_405 ?_
                              refine lv_topi (fun z_84 ez_84 => ?_)
                              obtain ⟨r, XC1, r1, XR1, hc, hr1, hJ1⟩ := hS.2.2.2.2.2.2.2.2.2.2.2.1 z_84 XC XR hJ
                              refine lawC false (own1 := "BlameCourt") (As1 := [.int z_84]) (rest := []) hf hw hZ (k_Court_told (l, dC, dI, C.1, C.2, tW) z_84 XC) hc ka_X10_told kv_X10_told ⟨rfl, rfl, rfl⟩ rfl k1323 rfl rfl hl.1 rfl rfl ⟨(Nat.le_of_ble_eq_true rfl), (Nat.le_of_ble_eq_true rfl)⟩ (Nat.le_of_ble_eq_true rfl) ⟨(Nat.le_of_ble_eq_true rfl), (Nat.le_of_ble_eq_true rfl)⟩ dL_law_406 (fun H locs hw => ?_)
                              refine lv_pop hf.1 hf.2.1 dL_law_409 rfl ?_
                              refine lv_aload_n hf.1 hf.2.1 dL_law_410 rfl (lv_at hl 1 rfl) ?_
                              refine lv_aload_n hf.1 hf.2.1 dL_law_411 rfl (lv_at hl 3 rfl) ?_
                              refine lv_iload_n hf.1 hf.2.1 dL_law_412 rfl (lv_at hl 0 rfl) ?_
                              refine lv_iconst (v := 1) hf.1 hf.2.1 dL_law_413 (by decide) ?_
                              refine lv_iadd hf.1 hf.2.1 dL_law_414 ?_
                              refine lv_topi (fun x_85 ex_85 => ?_)
                              obtain rfl : x_85 = Int32.ofNat (k + 1) := by rw [ex_85]; exact lw_add (by omega) (by decide)
                              refine va_sld hf.1 hf.2.1 hX hbl hbA hw.2.2.2.1 (lw_in (j := 1) hk6 hL (by decide)) dL_law_415 ?_
                              refine lv_topi (fun z_86 ez_86 => ?_)
                              obtain rfl : z_84 = z_86 := by rw [ez_84, ez_86]
                              refine lawR false (own1 := "BlameCourtModel") (As1 := [.int z_84]) (rest := []) hf hw (c_told (l, dC, dI, R.1, R.2) z_84 XR) hr1 ka_X11_told kv_X11_told ⟨rfl, rfl, rfl⟩ rfl k2184 rfl rfl hl.1 rfl rfl ⟨(Nat.le_of_ble_eq_true rfl), (Nat.le_of_ble_eq_true rfl)⟩ (Nat.le_of_ble_eq_true rfl) ⟨(Nat.le_of_ble_eq_true rfl), (Nat.le_of_ble_eq_true rfl)⟩ dL_law_416 (fun H locs hw => ?_)
                              refine lv_pop hf.1 hf.2.1 dL_law_419 rfl ?_
                              refine lv_goto (tgt := 502) hf.1 hf.2.1 dL_law_420 (by decide) ?_
                              exact J502 XC1 XR1 _ _ _ hJ1 hw (lv_sub hl [0, 1, 2, 3] rfl)
                            · by_cases sw_87 : x_4.toInt = 11
                              · refine lwq_tbl (tgt := 423) hf.1 hf.2.1 dL_law_33 (by decide) (off := 390) (by rw [sw_87]; rfl) (by decide) ?_
                                refine lv_aload_n hf.1 hf.2.1 dL_law_423 rfl (lv_at hl 2 rfl) ?_
                                refine lv_aload_n hf.1 hf.2.1 dL_law_424 rfl (lv_at hl 3 rfl) ?_
                                refine lv_iload_n hf.1 hf.2.1 dL_law_425 rfl (lv_at hl 0 rfl) ?_
                                refine lv_iconst (v := 1) hf.1 hf.2.1 dL_law_426 (by decide) ?_
                                refine lv_iadd hf.1 hf.2.1 dL_law_427 ?_
                                refine lv_topi (fun x_88 ex_88 => ?_)
                                obtain rfl : x_88 = Int32.ofNat (k + 1) := by rw [ex_88]; exact lw_add (by omega) (by decide)
                                refine va_sld hf.1 hf.2.1 hX hbl hbA hw.2.2.2.1 (lw_in (j := 1) hk6 hL (by decide)) dL_law_428 ?_
                                refine lv_topi (fun z_89 ez_89 => ?_)
                                obtain ⟨r, XC1, r1, XR1, hc, hr1, hJ1, hrr⟩ := hS.2.2.2.2.2.2.2.2.2.2.2.2.1 z_89 XC XR hJ
                                refine lawC false (own1 := "BlameCourt") (As1 := [.int z_89]) (rest := []) hf hw hZ (k_Court_out (l, dC, dI, C.1, C.2, tW) z_89 XC) hc ka_X10_out kv_X10_out ⟨rfl, rfl, rfl⟩ rfl k1339 rfl rfl hl.1 rfl rfl ⟨(Nat.le_of_ble_eq_true rfl), (Nat.le_of_ble_eq_true rfl)⟩ (Nat.le_of_ble_eq_true rfl) ⟨(Nat.le_of_ble_eq_true rfl), (Nat.le_of_ble_eq_true rfl)⟩ dL_law_429 (fun H locs hw => ?_)
                                refine lv_aload_n hf.1 hf.2.1 dL_law_432 rfl (lv_at hl 1 rfl) ?_
                                refine lv_aload_n hf.1 hf.2.1 dL_law_433 rfl (lv_at hl 3 rfl) ?_
                                refine lv_iload_n hf.1 hf.2.1 dL_law_434 rfl (lv_at hl 0 rfl) ?_
                                refine lv_iconst (v := 1) hf.1 hf.2.1 dL_law_435 (by decide) ?_
                                refine lv_iadd hf.1 hf.2.1 dL_law_436 ?_
                                refine lv_topi (fun x_90 ex_90 => ?_)
                                obtain rfl : x_90 = Int32.ofNat (k + 1) := by rw [ex_90]; exact lw_add (by omega) (by decide)
                                refine va_sld hf.1 hf.2.1 hX hbl hbA hw.2.2.2.1 (lw_in (j := 1) hk6 hL (by decide)) dL_law_437 ?_
                                refine lv_topi (fun z_91 ez_91 => ?_)
                                obtain rfl : z_89 = z_91 := by rw [ez_89, ez_91]
                                refine lawR false (own1 := "BlameCourtModel") (As1 := [.int z_89]) (rest := [.int r]) hf hw (c_out (l, dC, dI, R.1, R.2) z_89 XR) hr1 ka_X11_out kv_X11_out ⟨rfl, rfl, rfl⟩ rfl k2188 rfl rfl hl.1 rfl rfl ⟨(Nat.le_of_ble_eq_true rfl), (Nat.le_of_ble_eq_true rfl)⟩ (Nat.le_of_ble_eq_true rfl) ⟨(Nat.le_of_ble_eq_true rfl), (Nat.le_of_ble_eq_true rfl)⟩ dL_law_438 (fun H locs hw => ?_)
                                refine lv_icmp_eq (tgt := 502) hf.1 hf.2.1 dL_law_441 (by decide) (fun c_92 => ?_) (fun c_92 => absurd hrr c_92)
                                exact J502 XC1 XR1 _ _ _ hJ1 hw (lv_sub hl [0, 1, 2, 3] rfl)
                              · by_cases sw_93 : x_4.toInt = 12
                                · refine lwq_tbl (tgt := 446) hf.1 hf.2.1 dL_law_33 (by decide) (off := 413) (by rw [sw_93]; rfl) (by decide) ?_
                                  refine lv_aload_n hf.1 hf.2.1 dL_law_446 rfl (lv_at hl 2 rfl) ?_
                                  refine lv_aload_n hf.1 hf.2.1 dL_law_447 rfl (lv_at hl 3 rfl) ?_
                                  refine lv_iload_n hf.1 hf.2.1 dL_law_448 rfl (lv_at hl 0 rfl) ?_
                                  refine lv_iconst (v := 1) hf.1 hf.2.1 dL_law_449 (by decide) ?_
                                  refine lv_iadd hf.1 hf.2.1 dL_law_450 ?_
                                  refine lv_topi (fun x_94 ex_94 => ?_)
                                  obtain rfl : x_94 = Int32.ofNat (k + 1) := by rw [ex_94]; exact lw_add (by omega) (by decide)
                                  refine va_sld hf.1 hf.2.1 hX hbl hbA hw.2.2.2.1 (lw_in (j := 1) hk6 hL (by decide)) dL_law_451 ?_
                                  refine lv_topi (fun z_95 ez_95 => ?_)
                                  refine lv_aload_n hf.1 hf.2.1 dL_law_452 rfl (lv_at hl 3 rfl) ?_
                                  refine lv_iload_n hf.1 hf.2.1 dL_law_453 rfl (lv_at hl 0 rfl) ?_
                                  refine lv_iconst (v := 2) hf.1 hf.2.1 dL_law_454 (by decide) ?_
                                  refine lv_iadd hf.1 hf.2.1 dL_law_455 ?_
                                  refine lv_topi (fun x_96 ex_96 => ?_)
                                  obtain rfl : x_96 = Int32.ofNat (k + 2) := by rw [ex_96]; exact lw_add (by omega) (by decide)
                                  refine va_sld hf.1 hf.2.1 hX hbl hbA hw.2.2.2.1 (lw_in (j := 2) hk6 hL (by decide)) dL_law_456 ?_
                                  refine lv_topi (fun z_97 ez_97 => ?_)
                                  obtain ⟨r, XC1, r1, XR1, hc, hr1, hJ1⟩ := hS.2.2.2.2.2.2.2.2.2.2.2.2.2.1 z_95 z_97 XC XR hJ
                                  refine lawC false (own1 := "BlameCourt") (As1 := [.int z_95, .int z_97]) (rest := []) hf hw hZ (k_Court_asked (l, dC, dI, C.1, C.2, tW) z_95 z_97 XC) hc ka_X10_asked kv_X10_asked ⟨rfl, rfl, rfl⟩ rfl k1343 rfl rfl hl.1 rfl rfl ⟨(Nat.le_of_ble_eq_true rfl), (Nat.le_of_ble_eq_true rfl)⟩ (Nat.le_of_ble_eq_true rfl) ⟨(Nat.le_of_ble_eq_true rfl), (Nat.le_of_ble_eq_true rfl)⟩ dL_law_457 (fun H locs hw => ?_)
                                  refine lv_pop hf.1 hf.2.1 dL_law_460 rfl ?_
                                  refine lv_aload_n hf.1 hf.2.1 dL_law_461 rfl (lv_at hl 1 rfl) ?_
                                  refine lv_aload_n hf.1 hf.2.1 dL_law_462 rfl (lv_at hl 3 rfl) ?_
                                  refine lv_iload_n hf.1 hf.2.1 dL_law_463 rfl (lv_at hl 0 rfl) ?_
                                  refine lv_iconst (v := 1) hf.1 hf.2.1 dL_law_464 (by decide) ?_
                                  refine lv_iadd hf.1 hf.2.1 dL_law_465 ?_
                                  refine lv_topi (fun x_98 ex_98 => ?_)
                                  obtain rfl : x_98 = Int32.ofNat (k + 1) := by rw [ex_98]; exact lw_add (by omega) (by decide)
                                  refine va_sld hf.1 hf.2.1 hX hbl hbA hw.2.2.2.1 (lw_in (j := 1) hk6 hL (by decide)) dL_law_466 ?_
                                  refine lv_topi (fun z_99 ez_99 => ?_)
                                  obtain rfl : z_95 = z_99 := by rw [ez_95, ez_99]
                                  refine lv_aload_n hf.1 hf.2.1 dL_law_467 rfl (lv_at hl 3 rfl) ?_
                                  refine lv_iload_n hf.1 hf.2.1 dL_law_468 rfl (lv_at hl 0 rfl) ?_
                                  refine lv_iconst (v := 2) hf.1 hf.2.1 dL_law_469 (by decide) ?_
                                  refine lv_iadd hf.1 hf.2.1 dL_law_470 ?_
                                  refine lv_topi (fun x_100 ex_100 => ?_)
                                  obtain rfl : x_100 = Int32.ofNat (k + 2) := by rw [ex_100]; exact lw_add (by omega) (by decide)
                                  refine va_sld hf.1 hf.2.1 hX hbl hbA hw.2.2.2.1 (lw_in (j := 2) hk6 hL (by decide)) dL_law_471 ?_
                                  refine lv_topi (fun z_101 ez_101 => ?_)
                                  obtain rfl : z_97 = z_101 := by rw [ez_97, ez_101]
                                  refine lawR false (own1 := "BlameCourtModel") (As1 := [.int z_95, .int z_97]) (rest := []) hf hw (c_asked (l, dC, dI, R.1, R.2) z_95 z_97 XR) hr1 ka_X11_asked kv_X11_asked ⟨rfl, rfl, rfl⟩ rfl k2192 rfl rfl hl.1 rfl rfl ⟨(Nat.le_of_ble_eq_true rfl), (Nat.le_of_ble_eq_true rfl)⟩ (Nat.le_of_ble_eq_true rfl) ⟨(Nat.le_of_ble_eq_true rfl), (Nat.le_of_ble_eq_true rfl)⟩ dL_law_472 (fun H locs hw => ?_)
                                  refine lv_pop hf.1 hf.2.1 dL_law_475 rfl ?_
                                  refine lv_goto (tgt := 502) hf.1 hf.2.1 dL_law_476 (by decide) ?_
                                  exact J502 XC1 XR1 _ _ _ hJ1 hw (lv_sub hl [0, 1, 2, 3] rfl)
                                · by_cases sw_102 : x_4.toInt = 13
                                  · refine lwq_tbl (tgt := 479) hf.1 hf.2.1 dL_law_33 (by decide) (off := 446) (by rw [sw_102]; rfl) (by decide) ?_
                                    refine lv_aload_n hf.1 hf.2.1 dL_law_479 rfl (lv_at hl 2 rfl) ?_
                                    refine lv_aload_n hf.1 hf.2.1 dL_law_480 rfl (lv_at hl 3 rfl) ?_
                                    refine lv_iload_n hf.1 hf.2.1 dL_law_481 rfl (lv_at hl 0 rfl) ?_
                                    refine lv_iconst (v := 1) hf.1 hf.2.1 dL_law_482 (by decide) ?_
                                    refine lv_iadd hf.1 hf.2.1 dL_law_483 ?_
                                    refine lv_topi (fun x_103 ex_103 => ?_)
                                    obtain rfl : x_103 = Int32.ofNat (k + 1) := by rw [ex_103]; exact lw_add (by omega) (by decide)
                                    refine va_sld hf.1 hf.2.1 hX hbl hbA hw.2.2.2.1 (lw_in (j := 1) hk6 hL (by decide)) dL_law_484 ?_
                                    refine lv_topi (fun z_104 ez_104 => ?_)
                                    obtain ⟨r, XC1, r1, XR1, hc, hr1, hJ1⟩ := hS.2.2.2.2.2.2.2.2.2.2.2.2.2.2 z_104 XC XR hJ
                                    refine lawC false (own1 := "BlameCourt") (As1 := [.int z_104]) (rest := []) hf hw hZ (k_Court_about (l, dC, dI, C.1, C.2, tW) z_104 XC) hc ka_X10_about kv_X10_about ⟨rfl, rfl, rfl⟩ rfl k1347 rfl rfl hl.1 rfl rfl ⟨(Nat.le_of_ble_eq_true rfl), (Nat.le_of_ble_eq_true rfl)⟩ (Nat.le_of_ble_eq_true rfl) ⟨(Nat.le_of_ble_eq_true rfl), (Nat.le_of_ble_eq_true rfl)⟩ dL_law_485 (fun H locs hw => ?_)
                                    refine lv_pop hf.1 hf.2.1 dL_law_488 rfl ?_
                                    refine lv_aload_n hf.1 hf.2.1 dL_law_489 rfl (lv_at hl 1 rfl) ?_
                                    refine lv_aload_n hf.1 hf.2.1 dL_law_490 rfl (lv_at hl 3 rfl) ?_
                                    refine lv_iload_n hf.1 hf.2.1 dL_law_491 rfl (lv_at hl 0 rfl) ?_
                                    refine lv_iconst (v := 1) hf.1 hf.2.1 dL_law_492 (by decide) ?_
                                    refine lv_iadd hf.1 hf.2.1 dL_law_493 ?_
                                    refine lv_topi (fun x_105 ex_105 => ?_)
                                    obtain rfl : x_105 = Int32.ofNat (k + 1) := by rw [ex_105]; exact lw_add (by omega) (by decide)
                                    refine va_sld hf.1 hf.2.1 hX hbl hbA hw.2.2.2.1 (lw_in (j := 1) hk6 hL (by decide)) dL_law_494 ?_
                                    refine lv_topi (fun z_106 ez_106 => ?_)
                                    obtain rfl : z_104 = z_106 := by rw [ez_104, ez_106]
                                    refine lawR false (own1 := "BlameCourtModel") (As1 := [.int z_104]) (rest := []) hf hw (c_about (l, dC, dI, R.1, R.2) z_104 XR) hr1 ka_X11_about kv_X11_about ⟨rfl, rfl, rfl⟩ rfl k2196 rfl rfl hl.1 rfl rfl ⟨(Nat.le_of_ble_eq_true rfl), (Nat.le_of_ble_eq_true rfl)⟩ (Nat.le_of_ble_eq_true rfl) ⟨(Nat.le_of_ble_eq_true rfl), (Nat.le_of_ble_eq_true rfl)⟩ dL_law_495 (fun H locs hw => ?_)
                                    refine lv_pop hf.1 hf.2.1 dL_law_498 rfl ?_
                                    refine lv_goto (tgt := 502) hf.1 hf.2.1 dL_law_499 (by decide) ?_
                                    exact J502 XC1 XR1 _ _ _ hJ1 hw (lv_sub hl [0, 1, 2, 3] rfl)
                                  · refine lwq_tbl (tgt := 502) hf.1 hf.2.1 dL_law_33 (by decide) (off := 469) (tbl_d [0, 1, 2, 3, 4, 5, 6, 7, 8, 9, 10, 11, 12, 13] (by intro q; simp only [List.mem_cons, List.not_mem_nil, or_false] at q; omega) (by decide)) (by decide) ?_
                                    exact J502 XC XR _ _ _ hJ hw (lv_sub hl [0, 1, 2, 3] rfl)
  exact loop 4001 0 XC XR _ _ _ (by omega) (by omega) hJ0 hw (lv_sub hl [0, 1, 2, 3] rfl)

theorem bfA {a b : Cond} {args : Array Value} {s : State} (h : (Cond.and a b).before args s = true) : a.before args s = true ∧ b.before args s = true := by
  rw [Cond.before_and, Bool.and_eq_true] at h
  exact h
theorem static_ok {args : Array Value} {s : State} (hts : ∀ w ∈ lw_tbl, w.before args s = true) (h : (Cond.and given_1 narrow_1).before args s = true) : ∃ tW : Nat, ZC tW (fun q : Nat => s.heap.size ≤ q) s := by
  have h := (bfA h).2
  unfold narrow_1 at h
  have hA : ∀ a : Nat, a < s.heap.size → ¬ (fun q : Nat => s.heap.size ≤ q) a := fun a h => Nat.not_le.mpr h
  obtain ⟨t, ht, hT⟩ := va_Tof (tm := .static "BlameCourt$Token" "WORDS" "[J") (ty := .long) (N := 15) (f := fun j => .long (WRD j)) (A := fun q : Nat => s.heap.size ≤ q) (by decide) ((bfA (bfA (bfA (bfA (bfA h).1).1).2).2).1) (va_eqt ((bfA (bfA (bfA (bfA (bfA h).1).1).2).2).2)) (by
    intro j hj
    have hc : j = 0 ∨ j = 1 ∨ j = 2 ∨ j = 3 ∨ j = 4 ∨ j = 5 ∨ j = 6 ∨ j = 7 ∨ j = 8 ∨ j = 9 ∨ j = 10 ∨ j = 11 ∨ j = 12 ∨ j = 13 ∨ j = 14 := by omega
    rcases hc with rfl | rfl | rfl | rfl | rfl | rfl | rfl | rfl | rfl | rfl | rfl | rfl | rfl | rfl | rfl
    · exact va_eqtl ((bfA (bfA (bfA (bfA h).1).2).1).1)
    · exact va_eqtl ((bfA (bfA (bfA (bfA h).1).2).1).2)
    · exact va_eqtl ((bfA (bfA (bfA (bfA h).1).2).2).1)
    · exact va_eqtl ((bfA (bfA (bfA (bfA (bfA h).1).2).2).2).1)
    · exact va_eqtl ((bfA (bfA (bfA (bfA (bfA h).1).2).2).2).2)
    · exact va_eqtl ((bfA (bfA (bfA (bfA h).2).1).1).1)
    · exact va_eqtl ((bfA (bfA (bfA (bfA h).2).1).1).2)
    · exact va_eqtl ((bfA (bfA (bfA (bfA h).2).1).2).1)
    · exact va_eqtl ((bfA (bfA (bfA (bfA (bfA h).2).1).2).2).1)
    · exact va_eqtl ((bfA (bfA (bfA (bfA (bfA h).2).1).2).2).2)
    · exact va_eqtl ((bfA (bfA (bfA (bfA h).2).2).1).1)
    · exact va_eqtl ((bfA (bfA (bfA (bfA h).2).2).1).2)
    · exact va_eqtl ((bfA (bfA (bfA (bfA h).2).2).2).1)
    · exact va_eqtl ((bfA (bfA (bfA (bfA (bfA h).2).2).2).2).1)
    · exact va_eqtl ((bfA (bfA (bfA (bfA (bfA h).2).2).2).2).2)) hA
  exact ⟨t, va_Zref (hts _ (in_tables_1_3 (w := Cond.laysStatic "BlameCourt$Token" "WORDS" "[J") (List.mem_of_getElem? (i := 116) rfl))) (hts _ (in_tables_1_1 (w := Cond.initialized "BlameCourt$Token") (List.mem_of_getElem? (i := 13) rfl))) ht hA, hT⟩
set_option maxHeartbeats 4000000 in
set_option maxRecDepth 100000 in
/-- the law from its entry, if the two sides are right -/
theorem whole_of {p : Program} {e : Env} {s : State} {m : MethodId} {below : List Frame} {meth : Method} {c : Code} {J : St → St → Prop} (hS : SidesOK J) (l : Launch) (hflags : l.flags = flags0) {b L : Nat} {xs : Nat → Int32} (hL : L ≤ 3072) (C0 : lw_At p s m meth c b L xs) : W p l e room_1 s m #[Value.ref b] below meth c s.heap [] 0 0 (lw_Z below #[Value.ref b] s) (entryFrame m ([Value.ref b] : List Value).toArray 4) := by
  obtain ⟨hx, hb, hr, hml, hown, hts0, hX, hbl, hlocks, hgv⟩ := id C0
  have hts : ∀ w ∈ gtb, w.before #[Value.ref b] s = true := fun w h => hts0 w (List.mem_filter.mp h).1
  obtain ⟨dC, dI, hKc⟩ := classes_known hts
  obtain ⟨tW, hZ⟩ := static_ok hts0 hgv
  have hf : Fx p c code 4 s #[Value.ref b] m R_law := ⟨hx, hb, hml, hown, hts, nk_of hts0⟩
  have hw : Wd dC dI (fun q : Nat => s.heap.size ≤ q) [] [] s s.heap [] := ⟨⟨hKc, fun k q h => by simp at h⟩, fun k q h => by simp at h, ⟨fun i j p q h => by simp at h, fun k q h => by simp at h⟩, va_S.rf, fun _ h => h⟩
  have hl := lv_entry ([.ref b]) (n := 4) (Nat.le_of_ble_eq_true rfl)
  rw [lg_entry_eq]
  exact law_body l hS hL hf hr hlocks hX hbl hZ s.heap hw _ hl
