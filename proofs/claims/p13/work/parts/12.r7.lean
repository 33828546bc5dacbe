theorem dX11_aroundOf_0 : decode cX11_aroundOf 0 = .ok (.iconst 0, 1) := by decide +kernel
theorem dX11_aroundOf_1 : decode cX11_aroundOf 1 = .ok (.istore_n 2, 1) := by decide +kernel
theorem dX11_aroundOf_2 : decode cX11_aroundOf 2 = .ok (.iload_n 1, 1) := by decide +kernel
theorem dX11_aroundOf_3 : decode cX11_aroundOf 3 = .ok (.istore_n 3, 1) := by decide +kernel
theorem dX11_aroundOf_4 : decode cX11_aroundOf 4 = .ok (.aload_n 0, 1) := by decide +kernel
theorem dX11_aroundOf_5 : decode cX11_aroundOf 5 = .ok (.getfield 209, 3) := by decide +kernel
theorem dX11_aroundOf_8 : decode cX11_aroundOf 8 = .ok (.iload_n 3, 1) := by decide +kernel
theorem dX11_aroundOf_9 : decode cX11_aroundOf 9 = .ok (.baload, 1) := by decide +kernel
theorem dX11_aroundOf_10 : decode cX11_aroundOf 10 = .ok (.ifCond .eq 23, 3) := by decide +kernel
theorem dX11_aroundOf_13 : decode cX11_aroundOf 13 = .ok (.aload_n 0, 1) := by decide +kernel
theorem dX11_aroundOf_14 : decode cX11_aroundOf 14 = .ok (.getfield 260, 3) := by decide +kernel
theorem dX11_aroundOf_17 : decode cX11_aroundOf 17 = .ok (.iload_n 2, 1) := by decide +kernel
theorem dX11_aroundOf_18 : decode cX11_aroundOf 18 = .ok (.iload_n 3, 1) := by decide +kernel
theorem dX11_aroundOf_19 : decode cX11_aroundOf 19 = .ok (.iastore, 1) := by decide +kernel
theorem dX11_aroundOf_20 : decode cX11_aroundOf 20 = .ok (.iinc 2 1, 3) := by decide +kernel
theorem dX11_aroundOf_23 : decode cX11_aroundOf 23 = .ok (.aload_n 0, 1) := by decide +kernel
theorem dX11_aroundOf_24 : decode cX11_aroundOf 24 = .ok (.getfield 218, 3) := by decide +kernel
theorem dX11_aroundOf_27 : decode cX11_aroundOf 27 = .ok (.iload_n 3, 1) := by decide +kernel
theorem dX11_aroundOf_28 : decode cX11_aroundOf 28 = .ok (.iaload, 1) := by decide +kernel
theorem dX11_aroundOf_29 : decode cX11_aroundOf 29 = .ok (.istore_n 3, 1) := by decide +kernel
theorem dX11_aroundOf_30 : decode cX11_aroundOf 30 = .ok (.goto (-26), 3) := by decide +kernel
theorem dX11_aroundOf_33 : decode cX11_aroundOf 33 = .ok (.iload_n 2, 1) := by decide +kernel
theorem dX11_aroundOf_34 : decode cX11_aroundOf 34 = .ok (.ireturn, 1) := by decide +kernel
theorem dX11_does_0 : decode cX11_does 0 = .ok (.aload_n 0, 1) := by decide +kernel
theorem dX11_does_1 : decode cX11_does 1 = .ok (.getfield 137, 3) := by decide +kernel
theorem dX11_does_4 : decode cX11_does 4 = .ok (.iload_n 1, 1) := by decide +kernel
theorem dX11_does_5 : decode cX11_does 5 = .ok (.iaload, 1) := by decide +kernel
theorem dX11_does_6 : decode cX11_does 6 = .ok (.tableswitch 528 0 31 #[142, 181, 195, 209, 248, 262, 277, 292, 357, 372, 387, 387, 387, 397, 387, 460, 496, 528, 528, 528, 528, 528, 528, 528, 528, 528, 528, 528, 516, 503, 387, 523], 142) := by decide +kernel
theorem dX11_does_148 : decode cX11_does 148 = .ok (.aload_n 0, 1) := by decide +kernel
theorem dX11_does_149 : decode cX11_does 149 = .ok (.getfield 687, 3) := by decide +kernel
theorem dX11_does_152 : decode cX11_does 152 = .ok (.aload_n 0, 1) := by decide +kernel
theorem dX11_does_153 : decode cX11_does 153 = .ok (.getfield 703, 3) := by decide +kernel
theorem dX11_does_156 : decode cX11_does 156 = .ok (.if_icmp .ne 18, 3) := by decide +kernel
theorem dX11_does_159 : decode cX11_does 159 = .ok (.aload_n 0, 1) := by decide +kernel
theorem dX11_does_160 : decode cX11_does 160 = .ok (.bipush 7, 2) := by decide +kernel
theorem dX11_does_162 : decode cX11_does 162 = .ok (.aload_n 0, 1) := by decide +kernel
theorem dX11_does_163 : decode cX11_does 163 = .ok (.getfield 80, 3) := by decide +kernel
theorem dX11_does_166 : decode cX11_does 166 = .ok (.iload_n 2, 1) := by decide +kernel
theorem dX11_does_167 : decode cX11_does 167 = .ok (.iaload, 1) := by decide +kernel
theorem dX11_does_168 : decode cX11_does 168 = .ok (.invokevirtual 651, 3) := by decide +kernel
theorem dX11_does_171 : decode cX11_does 171 = .ok (.goto 374, 3) := by decide +kernel
theorem dX11_does_174 : decode cX11_does 174 = .ok (.aload_n 0, 1) := by decide +kernel
theorem dX11_does_175 : decode cX11_does 175 = .ok (.dup, 1) := by decide +kernel
theorem dX11_does_176 : decode cX11_does 176 = .ok (.getfield 687, 3) := by decide +kernel
theorem dX11_does_179 : decode cX11_does 179 = .ok (.iconst 1, 1) := by decide +kernel
theorem dX11_does_180 : decode cX11_does 180 = .ok (.iadd, 1) := by decide +kernel
theorem dX11_does_181 : decode cX11_does 181 = .ok (.putfield 687, 3) := by decide +kernel
theorem dX11_does_184 : decode cX11_does 184 = .ok (.goto 361, 3) := by decide +kernel
theorem dX11_does_187 : decode cX11_does 187 = .ok (.aload_n 0, 1) := by decide +kernel
theorem dX11_does_188 : decode cX11_does 188 = .ok (.iconst 0, 1) := by decide +kernel
theorem dX11_does_189 : decode cX11_does 189 = .ok (.aload_n 0, 1) := by decide +kernel
theorem dX11_does_190 : decode cX11_does 190 = .ok (.getfield 95, 3) := by decide +kernel
theorem dX11_does_193 : decode cX11_does 193 = .ok (.iload_n 2, 1) := by decide +kernel
theorem dX11_does_194 : decode cX11_does 194 = .ok (.iaload, 1) := by decide +kernel
theorem dX11_does_195 : decode cX11_does 195 = .ok (.invokevirtual 706, 3) := by decide +kernel
theorem dX11_does_198 : decode cX11_does 198 = .ok (.goto 347, 3) := by decide +kernel
theorem dX11_does_201 : decode cX11_does 201 = .ok (.aload_n 0, 1) := by decide +kernel
theorem dX11_does_202 : decode cX11_does 202 = .ok (.iconst 1, 1) := by decide +kernel
theorem dX11_does_203 : decode cX11_does 203 = .ok (.aload_n 0, 1) := by decide +kernel
theorem dX11_does_204 : decode cX11_does 204 = .ok (.getfield 95, 3) := by decide +kernel
theorem dX11_does_207 : decode cX11_does 207 = .ok (.iload_n 2, 1) := by decide +kernel
theorem dX11_does_208 : decode cX11_does 208 = .ok (.iaload, 1) := by decide +kernel
theorem dX11_does_209 : decode cX11_does 209 = .ok (.invokevirtual 706, 3) := by decide +kernel
theorem dX11_does_212 : decode cX11_does 212 = .ok (.goto 333, 3) := by decide +kernel
theorem dX11_does_215 : decode cX11_does 215 = .ok (.aload_n 0, 1) := by decide +kernel
theorem dX11_does_216 : decode cX11_does 216 = .ok (.aload_n 0, 1) := by decide +kernel
theorem dX11_does_217 : decode cX11_does 217 = .ok (.getfield 203, 3) := by decide +kernel
theorem dX11_does_220 : decode cX11_does 220 = .ok (.aload_n 0, 1) := by decide +kernel
theorem dX11_does_221 : decode cX11_does 221 = .ok (.getfield 678, 3) := by decide +kernel
theorem dX11_does_224 : decode cX11_does 224 = .ok (.aload_n 0, 1) := by decide +kernel
theorem dX11_does_225 : decode cX11_does 225 = .ok (.getfield 95, 3) := by decide +kernel
theorem dX11_does_228 : decode cX11_does 228 = .ok (.iload_n 2, 1) := by decide +kernel
theorem dX11_does_229 : decode cX11_does 229 = .ok (.iaload, 1) := by decide +kernel
theorem dX11_does_230 : decode cX11_does 230 = .ok (.iadd, 1) := by decide +kernel
theorem dX11_does_231 : decode cX11_does 231 = .ok (.iaload, 1) := by decide +kernel
theorem dX11_does_232 : decode cX11_does 232 = .ok (.aload_n 0, 1) := by decide +kernel
theorem dX11_does_233 : decode cX11_does 233 = .ok (.getfield 206, 3) := by decide +kernel
theorem dX11_does_236 : decode cX11_does 236 = .ok (.aload_n 0, 1) := by decide +kernel
theorem dX11_does_237 : decode cX11_does 237 = .ok (.getfield 678, 3) := by decide +kernel
theorem dX11_does_240 : decode cX11_does 240 = .ok (.aload_n 0, 1) := by decide +kernel
theorem dX11_does_241 : decode cX11_does 241 = .ok (.getfield 95, 3) := by decide +kernel
theorem dX11_does_244 : decode cX11_does 244 = .ok (.iload_n 2, 1) := by decide +kernel
theorem dX11_does_245 : decode cX11_does 245 = .ok (.iaload, 1) := by decide +kernel
theorem dX11_does_246 : decode cX11_does 246 = .ok (.iadd, 1) := by decide +kernel
theorem dX11_does_247 : decode cX11_does 247 = .ok (.iaload, 1) := by decide +kernel
theorem dX11_does_248 : decode cX11_does 248 = .ok (.invokevirtual 706, 3) := by decide +kernel
theorem dX11_does_251 : decode cX11_does 251 = .ok (.goto 294, 3) := by decide +kernel
theorem dX11_does_254 : decode cX11_does 254 = .ok (.aload_n 0, 1) := by decide +kernel
theorem dX11_does_255 : decode cX11_does 255 = .ok (.iconst 4, 1) := by decide +kernel
theorem dX11_does_256 : decode cX11_does 256 = .ok (.aload_n 0, 1) := by decide +kernel
theorem dX11_does_257 : decode cX11_does 257 = .ok (.getfield 95, 3) := by decide +kernel
theorem dX11_does_260 : decode cX11_does 260 = .ok (.iload_n 2, 1) := by decide +kernel
theorem dX11_does_261 : decode cX11_does 261 = .ok (.iaload, 1) := by decide +kernel
theorem dX11_does_262 : decode cX11_does 262 = .ok (.invokevirtual 706, 3) := by decide +kernel
theorem dX11_does_265 : decode cX11_does 265 = .ok (.goto 280, 3) := by decide +kernel
theorem dX11_does_268 : decode cX11_does 268 = .ok (.aload_n 0, 1) := by decide +kernel
theorem dX11_does_269 : decode cX11_does 269 = .ok (.iload_n 1, 1) := by decide +kernel
theorem dX11_does_270 : decode cX11_does 270 = .ok (.iconst 0, 1) := by decide +kernel
theorem dX11_does_271 : decode cX11_does 271 = .ok (.aload_n 0, 1) := by decide +kernel
theorem dX11_does_272 : decode cX11_does 272 = .ok (.getfield 80, 3) := by decide +kernel
theorem dX11_does_275 : decode cX11_does 275 = .ok (.iload_n 2, 1) := by decide +kernel
theorem dX11_does_276 : decode cX11_does 276 = .ok (.iaload, 1) := by decide +kernel
theorem dX11_does_277 : decode cX11_does 277 = .ok (.invokevirtual 709, 3) := by decide +kernel
theorem dX11_does_280 : decode cX11_does 280 = .ok (.goto 265, 3) := by decide +kernel
theorem dX11_does_283 : decode cX11_does 283 = .ok (.aload_n 0, 1) := by decide +kernel
theorem dX11_does_284 : decode cX11_does 284 = .ok (.iload_n 1, 1) := by decide +kernel
theorem dX11_does_285 : decode cX11_does 285 = .ok (.iconst 1, 1) := by decide +kernel
theorem dX11_does_286 : decode cX11_does 286 = .ok (.aload_n 0, 1) := by decide +kernel
theorem dX11_does_287 : decode cX11_does 287 = .ok (.getfield 80, 3) := by decide +kernel
theorem dX11_does_290 : decode cX11_does 290 = .ok (.iload_n 2, 1) := by decide +kernel
theorem dX11_does_291 : decode cX11_does 291 = .ok (.iaload, 1) := by decide +kernel
theorem dX11_does_292 : decode cX11_does 292 = .ok (.invokevirtual 709, 3) := by decide +kernel
theorem dX11_does_295 : decode cX11_does 295 = .ok (.goto 250, 3) := by decide +kernel
theorem dX11_does_298 : decode cX11_does 298 = .ok (.aload_n 0, 1) := by decide +kernel
theorem dX11_does_299 : decode cX11_does 299 = .ok (.iload_n 1, 1) := by decide +kernel
theorem dX11_does_300 : decode cX11_does 300 = .ok (.iconst 4, 1) := by decide +kernel
theorem dX11_does_301 : decode cX11_does 301 = .ok (.aload_n 0, 1) := by decide +kernel
theorem dX11_does_302 : decode cX11_does 302 = .ok (.getfield 83, 3) := by decide +kernel
theorem dX11_does_305 : decode cX11_does 305 = .ok (.iload_n 2, 1) := by decide +kernel
theorem dX11_does_306 : decode cX11_does 306 = .ok (.iaload, 1) := by decide +kernel
theorem dX11_does_307 : decode cX11_does 307 = .ok (.invokevirtual 709, 3) := by decide +kernel
theorem dX11_does_310 : decode cX11_does 310 = .ok (.aload_n 0, 1) := by decide +kernel
theorem dX11_does_311 : decode cX11_does 311 = .ok (.invokevirtual 654, 3) := by decide +kernel
theorem dX11_does_314 : decode cX11_does 314 = .ok (.ifCond .eq 231, 3) := by decide +kernel
theorem dX11_does_317 : decode cX11_does 317 = .ok (.aload_n 0, 1) := by decide +kernel
theorem dX11_does_318 : decode cX11_does 318 = .ok (.getfield 698, 3) := by decide +kernel
theorem dX11_does_321 : decode cX11_does 321 = .ok (.ifCond .ne 224, 3) := by decide +kernel
theorem dX11_does_324 : decode cX11_does 324 = .ok (.aload_n 0, 1) := by decide +kernel
theorem dX11_does_325 : decode cX11_does 325 = .ok (.getfield 62, 3) := by decide +kernel
theorem dX11_does_328 : decode cX11_does 328 = .ok (.aload_n 0, 1) := by decide +kernel
theorem dX11_does_329 : decode cX11_does 329 = .ok (.getfield 200, 3) := by decide +kernel
theorem dX11_does_332 : decode cX11_does 332 = .ok (.aload_n 0, 1) := by decide +kernel
theorem dX11_does_333 : decode cX11_does 333 = .ok (.getfield 642, 3) := by decide +kernel
theorem dX11_does_336 : decode cX11_does 336 = .ok (.iconst 1, 1) := by decide +kernel
theorem dX11_does_337 : decode cX11_does 337 = .ok (.isub, 1) := by decide +kernel
theorem dX11_does_338 : decode cX11_does 338 = .ok (.iaload, 1) := by decide +kernel
theorem dX11_does_339 : decode cX11_does 339 = .ok (.iaload, 1) := by decide +kernel
theorem dX11_does_340 : decode cX11_does 340 = .ok (.aload_n 0, 1) := by decide +kernel
theorem dX11_does_341 : decode cX11_does 341 = .ok (.getfield 98, 3) := by decide +kernel
theorem dX11_does_344 : decode cX11_does 344 = .ok (.iload_n 2, 1) := by decide +kernel
theorem dX11_does_345 : decode cX11_does 345 = .ok (.iaload, 1) := by decide +kernel
theorem dX11_does_346 : decode cX11_does 346 = .ok (.if_icmp .eq 199, 3) := by decide +kernel
theorem dX11_does_349 : decode cX11_does 349 = .ok (.aload_n 0, 1) := by decide +kernel
theorem dX11_does_350 : decode cX11_does 350 = .ok (.iconst 4, 1) := by decide +kernel
theorem dX11_does_351 : decode cX11_does 351 = .ok (.aload_n 0, 1) := by decide +kernel
theorem dX11_does_352 : decode cX11_does 352 = .ok (.getfield 83, 3) := by decide +kernel
theorem dX11_does_355 : decode cX11_does 355 = .ok (.iload_n 2, 1) := by decide +kernel
theorem dX11_does_356 : decode cX11_does 356 = .ok (.iaload, 1) := by decide +kernel
theorem dX11_does_357 : decode cX11_does 357 = .ok (.invokevirtual 651, 3) := by decide +kernel
theorem dX11_does_360 : decode cX11_does 360 = .ok (.goto 185, 3) := by decide +kernel
theorem dX11_does_363 : decode cX11_does 363 = .ok (.aload_n 0, 1) := by decide +kernel
theorem dX11_does_364 : decode cX11_does 364 = .ok (.iload_n 1, 1) := by decide +kernel
theorem dX11_does_365 : decode cX11_does 365 = .ok (.iconst 3, 1) := by decide +kernel
theorem dX11_does_366 : decode cX11_does 366 = .ok (.aload_n 0, 1) := by decide +kernel
theorem dX11_does_367 : decode cX11_does 367 = .ok (.getfield 83, 3) := by decide +kernel
theorem dX11_does_370 : decode cX11_does 370 = .ok (.iload_n 2, 1) := by decide +kernel
theorem dX11_does_371 : decode cX11_does 371 = .ok (.iaload, 1) := by decide +kernel
theorem dX11_does_372 : decode cX11_does 372 = .ok (.invokevirtual 709, 3) := by decide +kernel
theorem dX11_does_375 : decode cX11_does 375 = .ok (.goto 170, 3) := by decide +kernel
theorem dX11_does_378 : decode cX11_does 378 = .ok (.aload_n 0, 1) := by decide +kernel
theorem dX11_does_379 : decode cX11_does 379 = .ok (.iload_n 1, 1) := by decide +kernel
theorem dX11_does_380 : decode cX11_does 380 = .ok (.iconst 3, 1) := by decide +kernel
theorem dX11_does_381 : decode cX11_does 381 = .ok (.aload_n 0, 1) := by decide +kernel
theorem dX11_does_382 : decode cX11_does 382 = .ok (.getfield 80, 3) := by decide +kernel
theorem dX11_does_385 : decode cX11_does 385 = .ok (.iload_n 2, 1) := by decide +kernel
theorem dX11_does_386 : decode cX11_does 386 = .ok (.iaload, 1) := by decide +kernel
theorem dX11_does_387 : decode cX11_does 387 = .ok (.invokevirtual 709, 3) := by decide +kernel
theorem dX11_does_390 : decode cX11_does 390 = .ok (.goto 155, 3) := by decide +kernel
theorem dX11_does_393 : decode cX11_does 393 = .ok (.aload_n 0, 1) := by decide +kernel
theorem dX11_does_394 : decode cX11_does 394 = .ok (.iload_n 1, 1) := by decide +kernel
theorem dX11_does_395 : decode cX11_does 395 = .ok (.iconst (-1), 1) := by decide +kernel
theorem dX11_does_396 : decode cX11_does 396 = .ok (.iconst (-1), 1) := by decide +kernel
theorem dX11_does_397 : decode cX11_does 397 = .ok (.invokevirtual 709, 3) := by decide +kernel
theorem dX11_does_400 : decode cX11_does 400 = .ok (.goto 145, 3) := by decide +kernel
theorem dX11_does_403 : decode cX11_does 403 = .ok (.aload_n 0, 1) := by decide +kernel
theorem dX11_does_404 : decode cX11_does 404 = .ok (.dup, 1) := by decide +kernel
theorem dX11_does_405 : decode cX11_does 405 = .ok (.getfield 642, 3) := by decide +kernel
theorem dX11_does_408 : decode cX11_does 408 = .ok (.iconst 1, 1) := by decide +kernel
theorem dX11_does_409 : decode cX11_does 409 = .ok (.isub, 1) := by decide +kernel
theorem dX11_does_410 : decode cX11_does 410 = .ok (.putfield 642, 3) := by decide +kernel
theorem dX11_does_413 : decode cX11_does 413 = .ok (.aload_n 0, 1) := by decide +kernel
theorem dX11_does_414 : decode cX11_does 414 = .ok (.getfield 203, 3) := by decide +kernel
theorem dX11_does_417 : decode cX11_does 417 = .ok (.aload_n 0, 1) := by decide +kernel
theorem dX11_does_418 : decode cX11_does 418 = .ok (.getfield 678, 3) := by decide +kernel
theorem dX11_does_421 : decode cX11_does 421 = .ok (.aload_n 0, 1) := by decide +kernel
theorem dX11_does_422 : decode cX11_does 422 = .ok (.getfield 95, 3) := by decide +kernel
theorem dX11_does_425 : decode cX11_does 425 = .ok (.iload_n 2, 1) := by decide +kernel
theorem dX11_does_426 : decode cX11_does 426 = .ok (.iaload, 1) := by decide +kernel
theorem dX11_does_427 : decode cX11_does 427 = .ok (.iadd, 1) := by decide +kernel
theorem dX11_does_428 : decode cX11_does 428 = .ok (.aload_n 0, 1) := by decide +kernel
theorem dX11_does_429 : decode cX11_does 429 = .ok (.getfield 197, 3) := by decide +kernel
theorem dX11_does_432 : decode cX11_does 432 = .ok (.aload_n 0, 1) := by decide +kernel
theorem dX11_does_433 : decode cX11_does 433 = .ok (.getfield 642, 3) := by decide +kernel
theorem dX11_does_436 : decode cX11_does 436 = .ok (.iaload, 1) := by decide +kernel
theorem dX11_does_437 : decode cX11_does 437 = .ok (.iastore, 1) := by decide +kernel
theorem dX11_does_438 : decode cX11_does 438 = .ok (.aload_n 0, 1) := by decide +kernel
theorem dX11_does_439 : decode cX11_does 439 = .ok (.getfield 206, 3) := by decide +kernel
theorem dX11_does_442 : decode cX11_does 442 = .ok (.aload_n 0, 1) := by decide +kernel
theorem dX11_does_443 : decode cX11_does 443 = .ok (.getfield 678, 3) := by decide +kernel
theorem dX11_does_446 : decode cX11_does 446 = .ok (.aload_n 0, 1) := by decide +kernel
theorem dX11_does_447 : decode cX11_does 447 = .ok (.getfield 95, 3) := by decide +kernel
theorem dX11_does_450 : decode cX11_does 450 = .ok (.iload_n 2, 1) := by decide +kernel
theorem dX11_does_451 : decode cX11_does 451 = .ok (.iaload, 1) := by decide +kernel
theorem dX11_does_452 : decode cX11_does 452 = .ok (.iadd, 1) := by decide +kernel
theorem dX11_does_453 : decode cX11_does 453 = .ok (.aload_n 0, 1) := by decide +kernel
theorem dX11_does_454 : decode cX11_does 454 = .ok (.getfield 200, 3) := by decide +kernel
theorem dX11_does_457 : decode cX11_does 457 = .ok (.aload_n 0, 1) := by decide +kernel
theorem dX11_does_458 : decode cX11_does 458 = .ok (.getfield 642, 3) := by decide +kernel
theorem dX11_does_461 : decode cX11_does 461 = .ok (.iaload, 1) := by decide +kernel
theorem dX11_does_462 : decode cX11_does 462 = .ok (.iastore, 1) := by decide +kernel
theorem dX11_does_463 : decode cX11_does 463 = .ok (.goto 82, 3) := by decide +kernel
theorem dX11_does_466 : decode cX11_does 466 = .ok (.aload_n 0, 1) := by decide +kernel
theorem dX11_does_467 : decode cX11_does 467 = .ok (.dup, 1) := by decide +kernel
theorem dX11_does_468 : decode cX11_does 468 = .ok (.getfield 642, 3) := by decide +kernel
theorem dX11_does_471 : decode cX11_does 471 = .ok (.iconst 1, 1) := by decide +kernel
theorem dX11_does_472 : decode cX11_does 472 = .ok (.isub, 1) := by decide +kernel
theorem dX11_does_473 : decode cX11_does 473 = .ok (.putfield 642, 3) := by decide +kernel
theorem dX11_does_476 : decode cX11_does 476 = .ok (.aload_n 0, 1) := by decide +kernel
theorem dX11_does_477 : decode cX11_does 477 = .ok (.getfield 200, 3) := by decide +kernel
theorem dX11_does_480 : decode cX11_does 480 = .ok (.aload_n 0, 1) := by decide +kernel
theorem dX11_does_481 : decode cX11_does 481 = .ok (.getfield 642, 3) := by decide +kernel
theorem dX11_does_484 : decode cX11_does 484 = .ok (.iaload, 1) := by decide +kernel
theorem dX11_does_485 : decode cX11_does 485 = .ok (.iconst 1, 1) := by decide +kernel
theorem dX11_does_486 : decode cX11_does 486 = .ok (.if_icmp .ne 9, 3) := by decide +kernel
theorem dX11_does_489 : decode cX11_does 489 = .ok (.iload_n 1, 1) := by decide +kernel
theorem dX11_does_490 : decode cX11_does 490 = .ok (.iconst 1, 1) := by decide +kernel
theorem dX11_does_491 : decode cX11_does 491 = .ok (.iadd, 1) := by decide +kernel
theorem dX11_does_492 : decode cX11_does 492 = .ok (.goto 9, 3) := by decide +kernel
theorem dX11_does_495 : decode cX11_does 495 = .ok (.aload_n 0, 1) := by decide +kernel
theorem dX11_does_496 : decode cX11_does 496 = .ok (.getfield 155, 3) := by decide +kernel
theorem dX11_does_499 : decode cX11_does 499 = .ok (.iload_n 2, 1) := by decide +kernel
theorem dX11_does_500 : decode cX11_does 500 = .ok (.iaload, 1) := by decide +kernel
theorem dX11_does_501 : decode cX11_does 501 = .ok (.ireturn, 1) := by decide +kernel
theorem dX11_does_502 : decode cX11_does 502 = .ok (.aload_n 0, 1) := by decide +kernel
theorem dX11_does_503 : decode cX11_does 503 = .ok (.getfield 158, 3) := by decide +kernel
theorem dX11_does_506 : decode cX11_does 506 = .ok (.iload_n 2, 1) := by decide +kernel
theorem dX11_does_507 : decode cX11_does 507 = .ok (.iaload, 1) := by decide +kernel
theorem dX11_does_508 : decode cX11_does 508 = .ok (.ireturn, 1) := by decide +kernel
theorem dX11_does_509 : decode cX11_does 509 = .ok (.aload_n 0, 1) := by decide +kernel
theorem dX11_does_510 : decode cX11_does 510 = .ok (.dup, 1) := by decide +kernel
theorem dX11_does_511 : decode cX11_does 511 = .ok (.getfield 642, 3) := by decide +kernel
theorem dX11_does_514 : decode cX11_does 514 = .ok (.iconst 1, 1) := by decide +kernel
theorem dX11_does_515 : decode cX11_does 515 = .ok (.isub, 1) := by decide +kernel
theorem dX11_does_516 : decode cX11_does 516 = .ok (.putfield 642, 3) := by decide +kernel
theorem dX11_does_519 : decode cX11_does 519 = .ok (.goto 26, 3) := by decide +kernel
theorem dX11_does_522 : decode cX11_does 522 = .ok (.aload_n 0, 1) := by decide +kernel
theorem dX11_does_523 : decode cX11_does 523 = .ok (.iload_n 1, 1) := by decide +kernel
theorem dX11_does_524 : decode cX11_does 524 = .ok (.iload_n 2, 1) := by decide +kernel
theorem dX11_does_525 : decode cX11_does 525 = .ok (.invokevirtual 712, 3) := by decide +kernel
theorem dX11_does_528 : decode cX11_does 528 = .ok (.ireturn, 1) := by decide +kernel
theorem dX11_does_529 : decode cX11_does 529 = .ok (.aload_n 0, 1) := by decide +kernel
theorem dX11_does_530 : decode cX11_does 530 = .ok (.invokevirtual 715, 3) := by decide +kernel
theorem dX11_does_533 : decode cX11_does 533 = .ok (.ireturn, 1) := by decide +kernel
theorem dX11_does_534 : decode cX11_does 534 = .ok (.aload_n 0, 1) := by decide +kernel
theorem dX11_does_535 : decode cX11_does 535 = .ok (.aload_n 0, 1) := by decide +kernel
theorem dX11_does_536 : decode cX11_does 536 = .ok (.getfield 137, 3) := by decide +kernel
theorem dX11_does_539 : decode cX11_does 539 = .ok (.iload_n 1, 1) := by decide +kernel
theorem dX11_does_540 : decode cX11_does 540 = .ok (.iaload, 1) := by decide +kernel
theorem dX11_does_541 : decode cX11_does 541 = .ok (.iload_n 2, 1) := by decide +kernel
theorem dX11_does_542 : decode cX11_does 542 = .ok (.invokevirtual 718, 3) := by decide +kernel
theorem dX11_does_545 : decode cX11_does 545 = .ok (.iload_n 1, 1) := by decide +kernel
theorem dX11_does_546 : decode cX11_does 546 = .ok (.iconst 1, 1) := by decide +kernel
theorem dX11_does_547 : decode cX11_does 547 = .ok (.iadd, 1) := by decide +kernel
theorem dX11_does_548 : decode cX11_does 548 = .ok (.ireturn, 1) := by decide +kernel
theorem dX11_goesBack_0 : decode cX11_goesBack 0 = .ok (.aload_n 0, 1) := by decide +kernel
theorem dX11_goesBack_1 : decode cX11_goesBack 1 = .ok (.dup, 1) := by decide +kernel
theorem dX11_goesBack_2 : decode cX11_goesBack 2 = .ok (.getfield 681, 3) := by decide +kernel
theorem dX11_goesBack_5 : decode cX11_goesBack 5 = .ok (.iconst 1, 1) := by decide +kernel
theorem dX11_goesBack_6 : decode cX11_goesBack 6 = .ok (.isub, 1) := by decide +kernel
theorem dX11_goesBack_7 : decode cX11_goesBack 7 = .ok (.putfield 681, 3) := by decide +kernel
theorem dX11_goesBack_10 : decode cX11_goesBack 10 = .ok (.aload_n 0, 1) := by decide +kernel
theorem dX11_goesBack_11 : decode cX11_goesBack 11 = .ok (.getfield 248, 3) := by decide +kernel
theorem dX11_goesBack_14 : decode cX11_goesBack 14 = .ok (.aload_n 0, 1) := by decide +kernel
theorem dX11_goesBack_15 : decode cX11_goesBack 15 = .ok (.getfield 681, 3) := by decide +kernel
theorem dX11_goesBack_18 : decode cX11_goesBack 18 = .ok (.iaload, 1) := by decide +kernel
theorem dX11_goesBack_19 : decode cX11_goesBack 19 = .ok (.istore_n 1, 1) := by decide +kernel
theorem dX11_goesBack_20 : decode cX11_goesBack 20 = .ok (.aload_n 0, 1) := by decide +kernel
theorem dX11_goesBack_21 : decode cX11_goesBack 21 = .ok (.aload_n 0, 1) := by decide +kernel
theorem dX11_goesBack_22 : decode cX11_goesBack 22 = .ok (.getfield 251, 3) := by decide +kernel
theorem dX11_goesBack_25 : decode cX11_goesBack 25 = .ok (.aload_n 0, 1) := by decide +kernel
theorem dX11_goesBack_26 : decode cX11_goesBack 26 = .ok (.getfield 681, 3) := by decide +kernel
theorem dX11_goesBack_29 : decode cX11_goesBack 29 = .ok (.iaload, 1) := by decide +kernel
theorem dX11_goesBack_30 : decode cX11_goesBack 30 = .ok (.putfield 678, 3) := by decide +kernel
theorem dX11_goesBack_33 : decode cX11_goesBack 33 = .ok (.aload_n 0, 1) := by decide +kernel
theorem dX11_goesBack_34 : decode cX11_goesBack 34 = .ok (.dup, 1) := by decide +kernel
theorem dX11_goesBack_35 : decode cX11_goesBack 35 = .ok (.getfield 684, 3) := by decide +kernel
theorem dX11_goesBack_38 : decode cX11_goesBack 38 = .ok (.iconst 1, 1) := by decide +kernel
theorem dX11_goesBack_39 : decode cX11_goesBack 39 = .ok (.isub, 1) := by decide +kernel
theorem dX11_goesBack_40 : decode cX11_goesBack 40 = .ok (.putfield 684, 3) := by decide +kernel
theorem dX11_goesBack_43 : decode cX11_goesBack 43 = .ok (.aload_n 0, 1) := by decide +kernel
theorem dX11_goesBack_44 : decode cX11_goesBack 44 = .ok (.invokevirtual 654, 3) := by decide +kernel
theorem dX11_goesBack_47 : decode cX11_goesBack 47 = .ok (.ifCond .eq 95, 3) := by decide +kernel
theorem dX11_goesBack_50 : decode cX11_goesBack 50 = .ok (.aload_n 0, 1) := by decide +kernel
theorem dX11_goesBack_51 : decode cX11_goesBack 51 = .ok (.getfield 681, 3) := by decide +kernel
theorem dX11_goesBack_54 : decode cX11_goesBack 54 = .ok (.ifCond .le 88, 3) := by decide +kernel
theorem dX11_goesBack_57 : decode cX11_goesBack 57 = .ok (.aload_n 0, 1) := by decide +kernel
theorem dX11_goesBack_58 : decode cX11_goesBack 58 = .ok (.getfield 245, 3) := by decide +kernel
theorem dX11_goesBack_61 : decode cX11_goesBack 61 = .ok (.aload_n 0, 1) := by decide +kernel
theorem dX11_goesBack_62 : decode cX11_goesBack 62 = .ok (.getfield 681, 3) := by decide +kernel
theorem dX11_goesBack_65 : decode cX11_goesBack 65 = .ok (.iconst 1, 1) := by decide +kernel
theorem dX11_goesBack_66 : decode cX11_goesBack 66 = .ok (.isub, 1) := by decide +kernel
theorem dX11_goesBack_67 : decode cX11_goesBack 67 = .ok (.iaload, 1) := by decide +kernel
theorem dX11_goesBack_68 : decode cX11_goesBack 68 = .ok (.ifCond .lt 74, 3) := by decide +kernel
theorem dX11_goesBack_71 : decode cX11_goesBack 71 = .ok (.aload_n 0, 1) := by decide +kernel
theorem dX11_goesBack_72 : decode cX11_goesBack 72 = .ok (.dup, 1) := by decide +kernel
theorem dX11_goesBack_73 : decode cX11_goesBack 73 = .ok (.getfield 681, 3) := by decide +kernel
theorem dX11_goesBack_76 : decode cX11_goesBack 76 = .ok (.iconst 1, 1) := by decide +kernel
theorem dX11_goesBack_77 : decode cX11_goesBack 77 = .ok (.isub, 1) := by decide +kernel
theorem dX11_goesBack_78 : decode cX11_goesBack 78 = .ok (.putfield 681, 3) := by decide +kernel
theorem dX11_goesBack_81 : decode cX11_goesBack 81 = .ok (.aload_n 0, 1) := by decide +kernel
theorem dX11_goesBack_82 : decode cX11_goesBack 82 = .ok (.getfield 245, 3) := by decide +kernel
theorem dX11_goesBack_85 : decode cX11_goesBack 85 = .ok (.aload_n 0, 1) := by decide +kernel
theorem dX11_goesBack_86 : decode cX11_goesBack 86 = .ok (.getfield 681, 3) := by decide +kernel
theorem dX11_goesBack_89 : decode cX11_goesBack 89 = .ok (.iaload, 1) := by decide +kernel
theorem dX11_goesBack_90 : decode cX11_goesBack 90 = .ok (.istore_n 2, 1) := by decide +kernel
theorem dX11_goesBack_91 : decode cX11_goesBack 91 = .ok (.aload_n 0, 1) := by decide +kernel
theorem dX11_goesBack_92 : decode cX11_goesBack 92 = .ok (.aload_n 0, 1) := by decide +kernel
theorem dX11_goesBack_93 : decode cX11_goesBack 93 = .ok (.getfield 642, 3) := by decide +kernel
theorem dX11_goesBack_96 : decode cX11_goesBack 96 = .ok (.iconst 1, 1) := by decide +kernel
theorem dX11_goesBack_97 : decode cX11_goesBack 97 = .ok (.isub, 1) := by decide +kernel
theorem dX11_goesBack_98 : decode cX11_goesBack 98 = .ok (.aload_n 0, 1) := by decide +kernel
theorem dX11_goesBack_99 : decode cX11_goesBack 99 = .ok (.aload_n 0, 1) := by decide +kernel
theorem dX11_goesBack_100 : decode cX11_goesBack 100 = .ok (.getfield 221, 3) := by decide +kernel
theorem dX11_goesBack_103 : decode cX11_goesBack 103 = .ok (.iload_n 2, 1) := by decide +kernel
theorem dX11_goesBack_104 : decode cX11_goesBack 104 = .ok (.iaload, 1) := by decide +kernel
theorem dX11_goesBack_105 : decode cX11_goesBack 105 = .ok (.invokevirtual 633, 3) := by decide +kernel
theorem dX11_goesBack_108 : decode cX11_goesBack 108 = .ok (.aload_n 0, 1) := by decide +kernel
theorem dX11_goesBack_109 : decode cX11_goesBack 109 = .ok (.aload_n 0, 1) := by decide +kernel
theorem dX11_goesBack_110 : decode cX11_goesBack 110 = .ok (.getfield 224, 3) := by decide +kernel
theorem dX11_goesBack_113 : decode cX11_goesBack 113 = .ok (.iload_n 2, 1) := by decide +kernel
theorem dX11_goesBack_114 : decode cX11_goesBack 114 = .ok (.iaload, 1) := by decide +kernel
theorem dX11_goesBack_115 : decode cX11_goesBack 115 = .ok (.invokevirtual 633, 3) := by decide +kernel
theorem dX11_goesBack_118 : decode cX11_goesBack 118 = .ok (.aload_n 0, 1) := by decide +kernel
theorem dX11_goesBack_119 : decode cX11_goesBack 119 = .ok (.getfield 227, 3) := by decide +kernel
theorem dX11_goesBack_122 : decode cX11_goesBack 122 = .ok (.iload_n 2, 1) := by decide +kernel
theorem dX11_goesBack_123 : decode cX11_goesBack 123 = .ok (.iaload, 1) := by decide +kernel
theorem dX11_goesBack_124 : decode cX11_goesBack 124 = .ok (.aload_n 0, 1) := by decide +kernel
theorem dX11_goesBack_125 : decode cX11_goesBack 125 = .ok (.getfield 230, 3) := by decide +kernel
theorem dX11_goesBack_128 : decode cX11_goesBack 128 = .ok (.iload_n 2, 1) := by decide +kernel
theorem dX11_goesBack_129 : decode cX11_goesBack 129 = .ok (.iaload, 1) := by decide +kernel
theorem dX11_goesBack_130 : decode cX11_goesBack 130 = .ok (.aload_n 0, 1) := by decide +kernel
theorem dX11_goesBack_131 : decode cX11_goesBack 131 = .ok (.getfield 233, 3) := by decide +kernel
theorem dX11_goesBack_134 : decode cX11_goesBack 134 = .ok (.iload_n 2, 1) := by decide +kernel
theorem dX11_goesBack_135 : decode cX11_goesBack 135 = .ok (.iaload, 1) := by decide +kernel
theorem dX11_goesBack_136 : decode cX11_goesBack 136 = .ok (.invokevirtual 701, 3) := by decide +kernel
theorem dX11_goesBack_139 : decode cX11_goesBack 139 = .ok (.goto (-96), 3) := by decide +kernel
theorem dX11_goesBack_142 : decode cX11_goesBack 142 = .ok (.iload_n 1, 1) := by decide +kernel
theorem dX11_goesBack_143 : decode cX11_goesBack 143 = .ok (.ireturn, 1) := by decide +kernel
theorem dX11_makes_0 : decode cX11_makes 0 = .ok (.aload_n 0, 1) := by decide +kernel
theorem dX11_makes_1 : decode cX11_makes 1 = .ok (.getfield 200, 3) := by decide +kernel
theorem dX11_makes_4 : decode cX11_makes 4 = .ok (.aload_n 0, 1) := by decide +kernel
theorem dX11_makes_5 : decode cX11_makes 5 = .ok (.getfield 642, 3) := by decide +kernel
theorem dX11_makes_8 : decode cX11_makes 8 = .ok (.iconst 2, 1) := by decide +kernel
theorem dX11_makes_9 : decode cX11_makes 9 = .ok (.isub, 1) := by decide +kernel
theorem dX11_makes_10 : decode cX11_makes 10 = .ok (.iaload, 1) := by decide +kernel
theorem dX11_makes_11 : decode cX11_makes 11 = .ok (.istore_n 2, 1) := by decide +kernel
theorem dX11_makes_12 : decode cX11_makes 12 = .ok (.iload_n 2, 1) := by decide +kernel
theorem dX11_makes_13 : decode cX11_makes 13 = .ok (.iconst 0, 1) := by decide +kernel
theorem dX11_makes_14 : decode cX11_makes 14 = .ok (.sipush 1000, 3) := by decide +kernel
theorem dX11_makes_17 : decode cX11_makes 17 = .ok (.invokestatic 282, 3) := by decide +kernel
theorem dX11_makes_20 : decode cX11_makes 20 = .ok (.ifCond .ne 15, 3) := by decide +kernel
theorem dX11_makes_23 : decode cX11_makes 23 = .ok (.aload_n 0, 1) := by decide +kernel
theorem dX11_makes_24 : decode cX11_makes 24 = .ok (.iconst 1, 1) := by decide +kernel
theorem dX11_makes_25 : decode cX11_makes 25 = .ok (.aload_n 0, 1) := by decide +kernel
theorem dX11_makes_26 : decode cX11_makes 26 = .ok (.getfield 80, 3) := by decide +kernel
theorem dX11_makes_29 : decode cX11_makes 29 = .ok (.iload_n 1, 1) := by decide +kernel
theorem dX11_makes_30 : decode cX11_makes 30 = .ok (.iaload, 1) := by decide +kernel
theorem dX11_makes_31 : decode cX11_makes 31 = .ok (.invokevirtual 651, 3) := by decide +kernel
theorem dX11_makes_34 : decode cX11_makes 34 = .ok (.return_, 1) := by decide +kernel
theorem dX11_makes_35 : decode cX11_makes 35 = .ok (.aload_n 0, 1) := by decide +kernel
theorem dX11_makes_36 : decode cX11_makes 36 = .ok (.iload_n 2, 1) := by decide +kernel
theorem dX11_makes_37 : decode cX11_makes 37 = .ok (.aload_n 0, 1) := by decide +kernel
theorem dX11_makes_38 : decode cX11_makes 38 = .ok (.getfield 80, 3) := by decide +kernel
theorem dX11_makes_41 : decode cX11_makes 41 = .ok (.iload_n 1, 1) := by decide +kernel
theorem dX11_makes_42 : decode cX11_makes 42 = .ok (.iaload, 1) := by decide +kernel
theorem dX11_makes_43 : decode cX11_makes 43 = .ok (.invokevirtual 721, 3) := by decide +kernel
theorem dX11_makes_46 : decode cX11_makes 46 = .ok (.istore_n 3, 1) := by decide +kernel
theorem dX11_makes_47 : decode cX11_makes 47 = .ok (.aload_n 0, 1) := by decide +kernel
theorem dX11_makes_48 : decode cX11_makes 48 = .ok (.invokevirtual 654, 3) := by decide +kernel
theorem dX11_makes_51 : decode cX11_makes 51 = .ok (.ifCond .ne 4, 3) := by decide +kernel
theorem dX11_makes_54 : decode cX11_makes 54 = .ok (.return_, 1) := by decide +kernel
theorem dX11_makes_55 : decode cX11_makes 55 = .ok (.iconst 0, 1) := by decide +kernel
theorem dX11_makes_56 : decode cX11_makes 56 = .ok (.istore 4, 2) := by decide +kernel
theorem dX11_makes_58 : decode cX11_makes 58 = .ok (.iload 4, 2) := by decide +kernel
theorem dX11_makes_60 : decode cX11_makes 60 = .ok (.iload_n 2, 1) := by decide +kernel
theorem dX11_makes_61 : decode cX11_makes 61 = .ok (.if_icmp .ge 59, 3) := by decide +kernel
theorem dX11_makes_64 : decode cX11_makes 64 = .ok (.aload_n 0, 1) := by decide +kernel
theorem dX11_makes_65 : decode cX11_makes 65 = .ok (.getfield 239, 3) := by decide +kernel
theorem dX11_makes_68 : decode cX11_makes 68 = .ok (.aload_n 0, 1) := by decide +kernel
theorem dX11_makes_69 : decode cX11_makes 69 = .ok (.getfield 212, 3) := by decide +kernel
theorem dX11_makes_72 : decode cX11_makes 72 = .ok (.iload_n 3, 1) := by decide +kernel
theorem dX11_makes_73 : decode cX11_makes 73 = .ok (.iaload, 1) := by decide +kernel
theorem dX11_makes_74 : decode cX11_makes 74 = .ok (.iload 4, 2) := by decide +kernel
theorem dX11_makes_76 : decode cX11_makes 76 = .ok (.iadd, 1) := by decide +kernel
theorem dX11_makes_77 : decode cX11_makes 77 = .ok (.aload_n 0, 1) := by decide +kernel
theorem dX11_makes_78 : decode cX11_makes 78 = .ok (.getfield 197, 3) := by decide +kernel
theorem dX11_makes_81 : decode cX11_makes 81 = .ok (.aload_n 0, 1) := by decide +kernel
theorem dX11_makes_82 : decode cX11_makes 82 = .ok (.getfield 642, 3) := by decide +kernel
theorem dX11_makes_85 : decode cX11_makes 85 = .ok (.iconst 1, 1) := by decide +kernel
theorem dX11_makes_86 : decode cX11_makes 86 = .ok (.isub, 1) := by decide +kernel
theorem dX11_makes_87 : decode cX11_makes 87 = .ok (.iaload, 1) := by decide +kernel
theorem dX11_makes_88 : decode cX11_makes 88 = .ok (.iastore, 1) := by decide +kernel
theorem dX11_makes_89 : decode cX11_makes 89 = .ok (.aload_n 0, 1) := by decide +kernel
theorem dX11_makes_90 : decode cX11_makes 90 = .ok (.getfield 242, 3) := by decide +kernel
theorem dX11_makes_93 : decode cX11_makes 93 = .ok (.aload_n 0, 1) := by decide +kernel
theorem dX11_makes_94 : decode cX11_makes 94 = .ok (.getfield 212, 3) := by decide +kernel
theorem dX11_makes_97 : decode cX11_makes 97 = .ok (.iload_n 3, 1) := by decide +kernel
theorem dX11_makes_98 : decode cX11_makes 98 = .ok (.iaload, 1) := by decide +kernel
theorem dX11_makes_99 : decode cX11_makes 99 = .ok (.iload 4, 2) := by decide +kernel
theorem dX11_makes_101 : decode cX11_makes 101 = .ok (.iadd, 1) := by decide +kernel
theorem dX11_makes_102 : decode cX11_makes 102 = .ok (.aload_n 0, 1) := by decide +kernel
theorem dX11_makes_103 : decode cX11_makes 103 = .ok (.getfield 200, 3) := by decide +kernel
theorem dX11_makes_106 : decode cX11_makes 106 = .ok (.aload_n 0, 1) := by decide +kernel
theorem dX11_makes_107 : decode cX11_makes 107 = .ok (.getfield 642, 3) := by decide +kernel
theorem dX11_makes_110 : decode cX11_makes 110 = .ok (.iconst 1, 1) := by decide +kernel
theorem dX11_makes_111 : decode cX11_makes 111 = .ok (.isub, 1) := by decide +kernel
theorem dX11_makes_112 : decode cX11_makes 112 = .ok (.iaload, 1) := by decide +kernel
theorem dX11_makes_113 : decode cX11_makes 113 = .ok (.iastore, 1) := by decide +kernel
theorem dX11_makes_114 : decode cX11_makes 114 = .ok (.iinc 4 1, 3) := by decide +kernel
theorem dX11_makes_117 : decode cX11_makes 117 = .ok (.goto (-59), 3) := by decide +kernel
theorem dX11_makes_120 : decode cX11_makes 120 = .ok (.aload_n 0, 1) := by decide +kernel
theorem dX11_makes_121 : decode cX11_makes 121 = .ok (.dup, 1) := by decide +kernel
theorem dX11_makes_122 : decode cX11_makes 122 = .ok (.getfield 642, 3) := by decide +kernel
theorem dX11_makes_125 : decode cX11_makes 125 = .ok (.iconst 2, 1) := by decide +kernel
theorem dX11_makes_126 : decode cX11_makes 126 = .ok (.isub, 1) := by decide +kernel
theorem dX11_makes_127 : decode cX11_makes 127 = .ok (.putfield 642, 3) := by decide +kernel
theorem dX11_makes_130 : decode cX11_makes 130 = .ok (.aload_n 0, 1) := by decide +kernel
theorem dX11_makes_131 : decode cX11_makes 131 = .ok (.iconst 3, 1) := by decide +kernel
theorem dX11_makes_132 : decode cX11_makes 132 = .ok (.iload_n 3, 1) := by decide +kernel
theorem dX11_makes_133 : decode cX11_makes 133 = .ok (.invokevirtual 706, 3) := by decide +kernel
theorem dX11_makes_136 : decode cX11_makes 136 = .ok (.return_, 1) := by decide +kernel
theorem dX11_readsPlace_0 : decode cX11_readsPlace 0 = .ok (.aload_n 0, 1) := by decide +kernel
theorem dX11_readsPlace_1 : decode cX11_readsPlace 1 = .ok (.getfield 642, 3) := by decide +kernel
theorem dX11_readsPlace_4 : decode cX11_readsPlace 4 = .ok (.iconst 2, 1) := by decide +kernel
theorem dX11_readsPlace_5 : decode cX11_readsPlace 5 = .ok (.isub, 1) := by decide +kernel
theorem dX11_readsPlace_6 : decode cX11_readsPlace 6 = .ok (.istore_n 2, 1) := by decide +kernel
theorem dX11_readsPlace_7 : decode cX11_readsPlace 7 = .ok (.aload_n 0, 1) := by decide +kernel
theorem dX11_readsPlace_8 : decode cX11_readsPlace 8 = .ok (.getfield 200, 3) := by decide +kernel
theorem dX11_readsPlace_11 : decode cX11_readsPlace 11 = .ok (.iload_n 2, 1) := by decide +kernel
theorem dX11_readsPlace_12 : decode cX11_readsPlace 12 = .ok (.iaload, 1) := by decide +kernel
theorem dX11_readsPlace_13 : decode cX11_readsPlace 13 = .ok (.istore_n 3, 1) := by decide +kernel
theorem dX11_readsPlace_14 : decode cX11_readsPlace 14 = .ok (.aload_n 0, 1) := by decide +kernel
theorem dX11_readsPlace_15 : decode cX11_readsPlace 15 = .ok (.iconst 3, 1) := by decide +kernel
theorem dX11_readsPlace_16 : decode cX11_readsPlace 16 = .ok (.iload_n 3, 1) := by decide +kernel
theorem dX11_readsPlace_17 : decode cX11_readsPlace 17 = .ok (.invokevirtual 661, 3) := by decide +kernel
theorem dX11_readsPlace_20 : decode cX11_readsPlace 20 = .ok (.istore 4, 2) := by decide +kernel
theorem dX11_readsPlace_22 : decode cX11_readsPlace 22 = .ok (.aload_n 0, 1) := by decide +kernel
theorem dX11_readsPlace_23 : decode cX11_readsPlace 23 = .ok (.getfield 200, 3) := by decide +kernel
theorem dX11_readsPlace_26 : decode cX11_readsPlace 26 = .ok (.aload_n 0, 1) := by decide +kernel
theorem dX11_readsPlace_27 : decode cX11_readsPlace 27 = .ok (.getfield 642, 3) := by decide +kernel
theorem dX11_readsPlace_30 : decode cX11_readsPlace 30 = .ok (.iconst 1, 1) := by decide +kernel
theorem dX11_readsPlace_31 : decode cX11_readsPlace 31 = .ok (.isub, 1) := by decide +kernel
theorem dX11_readsPlace_32 : decode cX11_readsPlace 32 = .ok (.iaload, 1) := by decide +kernel
theorem dX11_readsPlace_33 : decode cX11_readsPlace 33 = .ok (.istore 5, 2) := by decide +kernel
theorem dX11_readsPlace_35 : decode cX11_readsPlace 35 = .ok (.iload 5, 2) := by decide +kernel
theorem dX11_readsPlace_37 : decode cX11_readsPlace 37 = .ok (.iconst 0, 1) := by decide +kernel
theorem dX11_readsPlace_38 : decode cX11_readsPlace 38 = .ok (.aload_n 0, 1) := by decide +kernel
theorem dX11_readsPlace_39 : decode cX11_readsPlace 39 = .ok (.getfield 215, 3) := by decide +kernel
theorem dX11_readsPlace_42 : decode cX11_readsPlace 42 = .ok (.iload 4, 2) := by decide +kernel
theorem dX11_readsPlace_44 : decode cX11_readsPlace 44 = .ok (.iaload, 1) := by decide +kernel
theorem dX11_readsPlace_45 : decode cX11_readsPlace 45 = .ok (.iconst 1, 1) := by decide +kernel
theorem dX11_readsPlace_46 : decode cX11_readsPlace 46 = .ok (.isub, 1) := by decide +kernel
theorem dX11_readsPlace_47 : decode cX11_readsPlace 47 = .ok (.invokestatic 282, 3) := by decide +kernel
theorem dX11_readsPlace_50 : decode cX11_readsPlace 50 = .ok (.ifCond .ne 15, 3) := by decide +kernel
theorem dX11_readsPlace_53 : decode cX11_readsPlace 53 = .ok (.aload_n 0, 1) := by decide +kernel
theorem dX11_readsPlace_54 : decode cX11_readsPlace 54 = .ok (.iconst 1, 1) := by decide +kernel
theorem dX11_readsPlace_55 : decode cX11_readsPlace 55 = .ok (.aload_n 0, 1) := by decide +kernel
theorem dX11_readsPlace_56 : decode cX11_readsPlace 56 = .ok (.getfield 83, 3) := by decide +kernel
theorem dX11_readsPlace_59 : decode cX11_readsPlace 59 = .ok (.iload_n 1, 1) := by decide +kernel
theorem dX11_readsPlace_60 : decode cX11_readsPlace 60 = .ok (.iaload, 1) := by decide +kernel
theorem dX11_readsPlace_61 : decode cX11_readsPlace 61 = .ok (.invokevirtual 651, 3) := by decide +kernel
theorem dX11_readsPlace_64 : decode cX11_readsPlace 64 = .ok (.return_, 1) := by decide +kernel
theorem dX11_readsPlace_65 : decode cX11_readsPlace 65 = .ok (.aload_n 0, 1) := by decide +kernel
theorem dX11_readsPlace_66 : decode cX11_readsPlace 66 = .ok (.dup, 1) := by decide +kernel
theorem dX11_readsPlace_67 : decode cX11_readsPlace 67 = .ok (.getfield 642, 3) := by decide +kernel
theorem dX11_readsPlace_70 : decode cX11_readsPlace 70 = .ok (.iconst 1, 1) := by decide +kernel
theorem dX11_readsPlace_71 : decode cX11_readsPlace 71 = .ok (.isub, 1) := by decide +kernel
theorem dX11_readsPlace_72 : decode cX11_readsPlace 72 = .ok (.putfield 642, 3) := by decide +kernel
theorem dX11_readsPlace_75 : decode cX11_readsPlace 75 = .ok (.aload_n 0, 1) := by decide +kernel
theorem dX11_readsPlace_76 : decode cX11_readsPlace 76 = .ok (.getfield 197, 3) := by decide +kernel
theorem dX11_readsPlace_79 : decode cX11_readsPlace 79 = .ok (.iload_n 2, 1) := by decide +kernel
theorem dX11_readsPlace_80 : decode cX11_readsPlace 80 = .ok (.aload_n 0, 1) := by decide +kernel
theorem dX11_readsPlace_81 : decode cX11_readsPlace 81 = .ok (.getfield 239, 3) := by decide +kernel
theorem dX11_readsPlace_84 : decode cX11_readsPlace 84 = .ok (.aload_n 0, 1) := by decide +kernel
theorem dX11_readsPlace_85 : decode cX11_readsPlace 85 = .ok (.getfield 212, 3) := by decide +kernel
theorem dX11_readsPlace_88 : decode cX11_readsPlace 88 = .ok (.iload 4, 2) := by decide +kernel
theorem dX11_readsPlace_90 : decode cX11_readsPlace 90 = .ok (.iaload, 1) := by decide +kernel
theorem dX11_readsPlace_91 : decode cX11_readsPlace 91 = .ok (.iload 5, 2) := by decide +kernel
theorem dX11_readsPlace_93 : decode cX11_readsPlace 93 = .ok (.iadd, 1) := by decide +kernel
theorem dX11_readsPlace_94 : decode cX11_readsPlace 94 = .ok (.iaload, 1) := by decide +kernel
theorem dX11_readsPlace_95 : decode cX11_readsPlace 95 = .ok (.iastore, 1) := by decide +kernel
theorem dX11_readsPlace_96 : decode cX11_readsPlace 96 = .ok (.aload_n 0, 1) := by decide +kernel
theorem dX11_readsPlace_97 : decode cX11_readsPlace 97 = .ok (.getfield 200, 3) := by decide +kernel
theorem dX11_readsPlace_100 : decode cX11_readsPlace 100 = .ok (.iload_n 2, 1) := by decide +kernel
theorem dX11_readsPlace_101 : decode cX11_readsPlace 101 = .ok (.aload_n 0, 1) := by decide +kernel
theorem dX11_readsPlace_102 : decode cX11_readsPlace 102 = .ok (.getfield 242, 3) := by decide +kernel
theorem dX11_readsPlace_105 : decode cX11_readsPlace 105 = .ok (.aload_n 0, 1) := by decide +kernel
theorem dX11_readsPlace_106 : decode cX11_readsPlace 106 = .ok (.getfield 212, 3) := by decide +kernel
theorem dX11_readsPlace_109 : decode cX11_readsPlace 109 = .ok (.iload 4, 2) := by decide +kernel
theorem dX11_readsPlace_111 : decode cX11_readsPlace 111 = .ok (.iaload, 1) := by decide +kernel
theorem dX11_readsPlace_112 : decode cX11_readsPlace 112 = .ok (.iload 5, 2) := by decide +kernel
theorem dX11_readsPlace_114 : decode cX11_readsPlace 114 = .ok (.iadd, 1) := by decide +kernel
theorem dX11_readsPlace_115 : decode cX11_readsPlace 115 = .ok (.iaload, 1) := by decide +kernel
theorem dX11_readsPlace_116 : decode cX11_readsPlace 116 = .ok (.iastore, 1) := by decide +kernel
theorem dX11_readsPlace_117 : decode cX11_readsPlace 117 = .ok (.aload_n 0, 1) := by decide +kernel
theorem dX11_readsPlace_118 : decode cX11_readsPlace 118 = .ok (.iload_n 3, 1) := by decide +kernel
theorem dX11_readsPlace_119 : decode cX11_readsPlace 119 = .ok (.invokevirtual 736, 3) := by decide +kernel
theorem dX11_readsPlace_122 : decode cX11_readsPlace 122 = .ok (.iconst 1, 1) := by decide +kernel
theorem dX11_readsPlace_123 : decode cX11_readsPlace 123 = .ok (.isub, 1) := by decide +kernel
theorem dX11_readsPlace_124 : decode cX11_readsPlace 124 = .ok (.istore 6, 2) := by decide +kernel
theorem dX11_readsPlace_126 : decode cX11_readsPlace 126 = .ok (.iload 6, 2) := by decide +kernel
theorem dX11_readsPlace_128 : decode cX11_readsPlace 128 = .ok (.ifCond .lt 73, 3) := by decide +kernel
theorem dX11_readsPlace_131 : decode cX11_readsPlace 131 = .ok (.aload_n 0, 1) := by decide +kernel
theorem dX11_readsPlace_132 : decode cX11_readsPlace 132 = .ok (.invokevirtual 654, 3) := by decide +kernel
theorem dX11_readsPlace_135 : decode cX11_readsPlace 135 = .ok (.ifCond .eq 66, 3) := by decide +kernel
theorem dX11_readsPlace_138 : decode cX11_readsPlace 138 = .ok (.aload_n 0, 1) := by decide +kernel
theorem dX11_readsPlace_139 : decode cX11_readsPlace 139 = .ok (.getfield 260, 3) := by decide +kernel
theorem dX11_readsPlace_142 : decode cX11_readsPlace 142 = .ok (.iload 6, 2) := by decide +kernel
theorem dX11_readsPlace_144 : decode cX11_readsPlace 144 = .ok (.iaload, 1) := by decide +kernel
theorem dX11_readsPlace_145 : decode cX11_readsPlace 145 = .ok (.istore 7, 2) := by decide +kernel
theorem dX11_readsPlace_147 : decode cX11_readsPlace 147 = .ok (.aload_n 0, 1) := by decide +kernel
theorem dX11_readsPlace_148 : decode cX11_readsPlace 148 = .ok (.iload_n 2, 1) := by decide +kernel
theorem dX11_readsPlace_149 : decode cX11_readsPlace 149 = .ok (.aload_n 0, 1) := by decide +kernel
theorem dX11_readsPlace_150 : decode cX11_readsPlace 150 = .ok (.aload_n 0, 1) := by decide +kernel
theorem dX11_readsPlace_151 : decode cX11_readsPlace 151 = .ok (.getfield 221, 3) := by decide +kernel
theorem dX11_readsPlace_154 : decode cX11_readsPlace 154 = .ok (.iload 7, 2) := by decide +kernel
theorem dX11_readsPlace_156 : decode cX11_readsPlace 156 = .ok (.iaload, 1) := by decide +kernel
theorem dX11_readsPlace_157 : decode cX11_readsPlace 157 = .ok (.invokevirtual 615, 3) := by decide +kernel
theorem dX11_readsPlace_160 : decode cX11_readsPlace 160 = .ok (.aload_n 0, 1) := by decide +kernel
theorem dX11_readsPlace_161 : decode cX11_readsPlace 161 = .ok (.aload_n 0, 1) := by decide +kernel
theorem dX11_readsPlace_162 : decode cX11_readsPlace 162 = .ok (.getfield 224, 3) := by decide +kernel
theorem dX11_readsPlace_165 : decode cX11_readsPlace 165 = .ok (.iload 7, 2) := by decide +kernel
theorem dX11_readsPlace_167 : decode cX11_readsPlace 167 = .ok (.iaload, 1) := by decide +kernel
theorem dX11_readsPlace_168 : decode cX11_readsPlace 168 = .ok (.invokevirtual 615, 3) := by decide +kernel
theorem dX11_readsPlace_171 : decode cX11_readsPlace 171 = .ok (.aload_n 0, 1) := by decide +kernel
theorem dX11_readsPlace_172 : decode cX11_readsPlace 172 = .ok (.getfield 227, 3) := by decide +kernel
theorem dX11_readsPlace_175 : decode cX11_readsPlace 175 = .ok (.iload 7, 2) := by decide +kernel
theorem dX11_readsPlace_177 : decode cX11_readsPlace 177 = .ok (.iaload, 1) := by decide +kernel
theorem dX11_readsPlace_178 : decode cX11_readsPlace 178 = .ok (.aload_n 0, 1) := by decide +kernel
theorem dX11_readsPlace_179 : decode cX11_readsPlace 179 = .ok (.getfield 230, 3) := by decide +kernel
theorem dX11_readsPlace_182 : decode cX11_readsPlace 182 = .ok (.iload 7, 2) := by decide +kernel
theorem dX11_readsPlace_184 : decode cX11_readsPlace 184 = .ok (.iaload, 1) := by decide +kernel
theorem dX11_readsPlace_185 : decode cX11_readsPlace 185 = .ok (.aload_n 0, 1) := by decide +kernel
theorem dX11_readsPlace_186 : decode cX11_readsPlace 186 = .ok (.getfield 233, 3) := by decide +kernel
theorem dX11_readsPlace_189 : decode cX11_readsPlace 189 = .ok (.iload 7, 2) := by decide +kernel
theorem dX11_readsPlace_191 : decode cX11_readsPlace 191 = .ok (.iaload, 1) := by decide +kernel
theorem dX11_readsPlace_192 : decode cX11_readsPlace 192 = .ok (.invokevirtual 701, 3) := by decide +kernel
theorem dX11_readsPlace_195 : decode cX11_readsPlace 195 = .ok (.iinc 6 (-1), 3) := by decide +kernel
theorem dX11_readsPlace_198 : decode cX11_readsPlace 198 = .ok (.goto (-72), 3) := by decide +kernel
theorem dX11_readsPlace_201 : decode cX11_readsPlace 201 = .ok (.return_, 1) := by decide +kernel
theorem dX11_sums_0 : decode cX11_sums 0 = .ok (.aload_n 0, 1) := by decide +kernel
theorem dX11_sums_1 : decode cX11_sums 1 = .ok (.dup, 1) := by decide +kernel
theorem dX11_sums_2 : decode cX11_sums 2 = .ok (.getfield 642, 3) := by decide +kernel
theorem dX11_sums_5 : decode cX11_sums 5 = .ok (.iconst 2, 1) := by decide +kernel
theorem dX11_sums_6 : decode cX11_sums 6 = .ok (.isub, 1) := by decide +kernel
theorem dX11_sums_7 : decode cX11_sums 7 = .ok (.putfield 642, 3) := by decide +kernel
theorem dX11_sums_10 : decode cX11_sums 10 = .ok (.aload_n 0, 1) := by decide +kernel
theorem dX11_sums_11 : decode cX11_sums 11 = .ok (.getfield 200, 3) := by decide +kernel
theorem dX11_sums_14 : decode cX11_sums 14 = .ok (.aload_n 0, 1) := by decide +kernel
theorem dX11_sums_15 : decode cX11_sums 15 = .ok (.getfield 642, 3) := by decide +kernel
theorem dX11_sums_18 : decode cX11_sums 18 = .ok (.iaload, 1) := by decide +kernel
theorem dX11_sums_19 : decode cX11_sums 19 = .ok (.istore_n 2, 1) := by decide +kernel
theorem dX11_sums_20 : decode cX11_sums 20 = .ok (.aload_n 0, 1) := by decide +kernel
theorem dX11_sums_21 : decode cX11_sums 21 = .ok (.getfield 200, 3) := by decide +kernel
theorem dX11_sums_24 : decode cX11_sums 24 = .ok (.aload_n 0, 1) := by decide +kernel
theorem dX11_sums_25 : decode cX11_sums 25 = .ok (.getfield 642, 3) := by decide +kernel
theorem dX11_sums_28 : decode cX11_sums 28 = .ok (.iconst 1, 1) := by decide +kernel
theorem dX11_sums_29 : decode cX11_sums 29 = .ok (.iadd, 1) := by decide +kernel
theorem dX11_sums_30 : decode cX11_sums 30 = .ok (.iaload, 1) := by decide +kernel
theorem dX11_sums_31 : decode cX11_sums 31 = .ok (.istore_n 3, 1) := by decide +kernel
theorem dX11_sums_32 : decode cX11_sums 32 = .ok (.aload_n 0, 1) := by decide +kernel
theorem dX11_sums_33 : decode cX11_sums 33 = .ok (.getfield 95, 3) := by decide +kernel
theorem dX11_sums_36 : decode cX11_sums 36 = .ok (.iload_n 1, 1) := by decide +kernel
theorem dX11_sums_37 : decode cX11_sums 37 = .ok (.iaload, 1) := by decide +kernel
theorem dX11_sums_38 : decode cX11_sums 38 = .ok (.bipush 47, 2) := by decide +kernel
theorem dX11_sums_40 : decode cX11_sums 40 = .ok (.if_icmp .eq 14, 3) := by decide +kernel
theorem dX11_sums_43 : decode cX11_sums 43 = .ok (.aload_n 0, 1) := by decide +kernel
theorem dX11_sums_44 : decode cX11_sums 44 = .ok (.getfield 95, 3) := by decide +kernel
theorem dX11_sums_47 : decode cX11_sums 47 = .ok (.iload_n 1, 1) := by decide +kernel
theorem dX11_sums_48 : decode cX11_sums 48 = .ok (.iaload, 1) := by decide +kernel
theorem dX11_sums_49 : decode cX11_sums 49 = .ok (.bipush 37, 2) := by decide +kernel
theorem dX11_sums_51 : decode cX11_sums 51 = .ok (.if_icmp .ne 19, 3) := by decide +kernel
theorem dX11_sums_54 : decode cX11_sums 54 = .ok (.iload_n 3, 1) := by decide +kernel
theorem dX11_sums_55 : decode cX11_sums 55 = .ok (.ifCond .ne 15, 3) := by decide +kernel
theorem dX11_sums_58 : decode cX11_sums 58 = .ok (.aload_n 0, 1) := by decide +kernel
theorem dX11_sums_59 : decode cX11_sums 59 = .ok (.iconst 2, 1) := by decide +kernel
theorem dX11_sums_60 : decode cX11_sums 60 = .ok (.aload_n 0, 1) := by decide +kernel
theorem dX11_sums_61 : decode cX11_sums 61 = .ok (.getfield 83, 3) := by decide +kernel
theorem dX11_sums_64 : decode cX11_sums 64 = .ok (.iload_n 1, 1) := by decide +kernel
theorem dX11_sums_65 : decode cX11_sums 65 = .ok (.iaload, 1) := by decide +kernel
theorem dX11_sums_66 : decode cX11_sums 66 = .ok (.invokevirtual 651, 3) := by decide +kernel
theorem dX11_sums_69 : decode cX11_sums 69 = .ok (.return_, 1) := by decide +kernel
theorem dX11_sums_70 : decode cX11_sums 70 = .ok (.aload_n 0, 1) := by decide +kernel
theorem dX11_sums_71 : decode cX11_sums 71 = .ok (.getfield 95, 3) := by decide +kernel
theorem dX11_sums_74 : decode cX11_sums 74 = .ok (.iload_n 1, 1) := by decide +kernel
theorem dX11_sums_75 : decode cX11_sums 75 = .ok (.iaload, 1) := by decide +kernel
theorem dX11_sums_76 : decode cX11_sums 76 = .ok (.tableswitch 84 42 47 #[62, 40, 84, 51, 84, 73], 40) := by decide +kernel
theorem dX11_sums_116 : decode cX11_sums 116 = .ok (.aload_n 0, 1) := by decide +kernel
theorem dX11_sums_117 : decode cX11_sums 117 = .ok (.iconst 0, 1) := by decide +kernel
theorem dX11_sums_118 : decode cX11_sums 118 = .ok (.iload_n 2, 1) := by decide +kernel
theorem dX11_sums_119 : decode cX11_sums 119 = .ok (.iload_n 3, 1) := by decide +kernel
theorem dX11_sums_120 : decode cX11_sums 120 = .ok (.iadd, 1) := by decide +kernel
theorem dX11_sums_121 : decode cX11_sums 121 = .ok (.invokevirtual 706, 3) := by decide +kernel
theorem dX11_sums_124 : decode cX11_sums 124 = .ok (.goto 44, 3) := by decide +kernel
theorem dX11_sums_127 : decode cX11_sums 127 = .ok (.aload_n 0, 1) := by decide +kernel
theorem dX11_sums_128 : decode cX11_sums 128 = .ok (.iconst 0, 1) := by decide +kernel
theorem dX11_sums_129 : decode cX11_sums 129 = .ok (.iload_n 2, 1) := by decide +kernel
theorem dX11_sums_130 : decode cX11_sums 130 = .ok (.iload_n 3, 1) := by decide +kernel
theorem dX11_sums_131 : decode cX11_sums 131 = .ok (.isub, 1) := by decide +kernel
theorem dX11_sums_132 : decode cX11_sums 132 = .ok (.invokevirtual 706, 3) := by decide +kernel
theorem dX11_sums_135 : decode cX11_sums 135 = .ok (.goto 33, 3) := by decide +kernel
theorem dX11_sums_138 : decode cX11_sums 138 = .ok (.aload_n 0, 1) := by decide +kernel
theorem dX11_sums_139 : decode cX11_sums 139 = .ok (.iconst 0, 1) := by decide +kernel
theorem dX11_sums_140 : decode cX11_sums 140 = .ok (.iload_n 2, 1) := by decide +kernel
theorem dX11_sums_141 : decode cX11_sums 141 = .ok (.iload_n 3, 1) := by decide +kernel
theorem dX11_sums_142 : decode cX11_sums 142 = .ok (.imul, 1) := by decide +kernel
theorem dX11_sums_143 : decode cX11_sums 143 = .ok (.invokevirtual 706, 3) := by decide +kernel
theorem dX11_sums_146 : decode cX11_sums 146 = .ok (.goto 22, 3) := by decide +kernel
theorem dX11_sums_149 : decode cX11_sums 149 = .ok (.aload_n 0, 1) := by decide +kernel
theorem dX11_sums_150 : decode cX11_sums 150 = .ok (.iconst 0, 1) := by decide +kernel
theorem dX11_sums_151 : decode cX11_sums 151 = .ok (.iload_n 2, 1) := by decide +kernel
theorem dX11_sums_152 : decode cX11_sums 152 = .ok (.iload_n 3, 1) := by decide +kernel
theorem dX11_sums_153 : decode cX11_sums 153 = .ok (.idiv, 1) := by decide +kernel
theorem dX11_sums_154 : decode cX11_sums 154 = .ok (.invokevirtual 706, 3) := by decide +kernel
theorem dX11_sums_157 : decode cX11_sums 157 = .ok (.goto 11, 3) := by decide +kernel
theorem dX11_sums_160 : decode cX11_sums 160 = .ok (.aload_n 0, 1) := by decide +kernel
theorem dX11_sums_161 : decode cX11_sums 161 = .ok (.iconst 0, 1) := by decide +kernel
theorem dX11_sums_162 : decode cX11_sums 162 = .ok (.iload_n 2, 1) := by decide +kernel
theorem dX11_sums_163 : decode cX11_sums 163 = .ok (.iload_n 3, 1) := by decide +kernel
theorem dX11_sums_164 : decode cX11_sums 164 = .ok (.irem, 1) := by decide +kernel
theorem dX11_sums_165 : decode cX11_sums 165 = .ok (.invokevirtual 706, 3) := by decide +kernel
theorem dX11_sums_168 : decode cX11_sums 168 = .ok (.return_, 1) := by decide +kernel
theorem dX11_works_0 : decode cX11_works 0 = .ok (.iload_n 1, 1) := by decide +kernel
theorem dX11_works_1 : decode cX11_works 1 = .ok (.tableswitch 453 18 27 #[55, 175, 183, 220, 278, 304, 331, 339, 437, 445], 55) := by decide +kernel
theorem dX11_works_56 : decode cX11_works 56 = .ok (.aload_n 0, 1) := by decide +kernel
theorem dX11_works_57 : decode cX11_works 57 = .ok (.aload_n 0, 1) := by decide +kernel
theorem dX11_works_58 : decode cX11_works 58 = .ok (.getfield 98, 3) := by decide +kernel
theorem dX11_works_61 : decode cX11_works 61 = .ok (.iload_n 2, 1) := by decide +kernel
theorem dX11_works_62 : decode cX11_works 62 = .ok (.iaload, 1) := by decide +kernel
theorem dX11_works_63 : decode cX11_works 63 = .ok (.aload_n 0, 1) := by decide +kernel
theorem dX11_works_64 : decode cX11_works 64 = .ok (.getfield 80, 3) := by decide +kernel
theorem dX11_works_67 : decode cX11_works 67 = .ok (.iload_n 2, 1) := by decide +kernel
theorem dX11_works_68 : decode cX11_works 68 = .ok (.iaload, 1) := by decide +kernel
theorem dX11_works_69 : decode cX11_works 69 = .ok (.invokevirtual 721, 3) := by decide +kernel
theorem dX11_works_72 : decode cX11_works 72 = .ok (.istore_n 3, 1) := by decide +kernel
theorem dX11_works_73 : decode cX11_works 73 = .ok (.aload_n 0, 1) := by decide +kernel
theorem dX11_works_74 : decode cX11_works 74 = .ok (.invokevirtual 654, 3) := by decide +kernel
theorem dX11_works_77 : decode cX11_works 77 = .ok (.ifCond .eq 377, 3) := by decide +kernel
theorem dX11_works_80 : decode cX11_works 80 = .ok (.aload_n 0, 1) := by decide +kernel
theorem dX11_works_81 : decode cX11_works 81 = .ok (.dup, 1) := by decide +kernel
theorem dX11_works_82 : decode cX11_works 82 = .ok (.getfield 642, 3) := by decide +kernel
theorem dX11_works_85 : decode cX11_works 85 = .ok (.aload_n 0, 1) := by decide +kernel
theorem dX11_works_86 : decode cX11_works 86 = .ok (.getfield 98, 3) := by decide +kernel
theorem dX11_works_89 : decode cX11_works 89 = .ok (.iload_n 2, 1) := by decide +kernel
theorem dX11_works_90 : decode cX11_works 90 = .ok (.iaload, 1) := by decide +kernel
theorem dX11_works_91 : decode cX11_works 91 = .ok (.isub, 1) := by decide +kernel
theorem dX11_works_92 : decode cX11_works 92 = .ok (.putfield 642, 3) := by decide +kernel
theorem dX11_works_95 : decode cX11_works 95 = .ok (.iconst 0, 1) := by decide +kernel
theorem dX11_works_96 : decode cX11_works 96 = .ok (.istore 4, 2) := by decide +kernel
theorem dX11_works_98 : decode cX11_works 98 = .ok (.iload 4, 2) := by decide +kernel
theorem dX11_works_100 : decode cX11_works 100 = .ok (.aload_n 0, 1) := by decide +kernel
theorem dX11_works_101 : decode cX11_works 101 = .ok (.getfield 98, 3) := by decide +kernel
theorem dX11_works_104 : decode cX11_works 104 = .ok (.iload_n 2, 1) := by decide +kernel
theorem dX11_works_105 : decode cX11_works 105 = .ok (.iaload, 1) := by decide +kernel
theorem dX11_works_106 : decode cX11_works 106 = .ok (.if_icmp .ge 61, 3) := by decide +kernel
theorem dX11_works_109 : decode cX11_works 109 = .ok (.aload_n 0, 1) := by decide +kernel
theorem dX11_works_110 : decode cX11_works 110 = .ok (.getfield 239, 3) := by decide +kernel
theorem dX11_works_113 : decode cX11_works 113 = .ok (.aload_n 0, 1) := by decide +kernel
theorem dX11_works_114 : decode cX11_works 114 = .ok (.getfield 212, 3) := by decide +kernel
theorem dX11_works_117 : decode cX11_works 117 = .ok (.iload_n 3, 1) := by decide +kernel
theorem dX11_works_118 : decode cX11_works 118 = .ok (.iaload, 1) := by decide +kernel
theorem dX11_works_119 : decode cX11_works 119 = .ok (.iload 4, 2) := by decide +kernel
theorem dX11_works_121 : decode cX11_works 121 = .ok (.iadd, 1) := by decide +kernel
theorem dX11_works_122 : decode cX11_works 122 = .ok (.aload_n 0, 1) := by decide +kernel
theorem dX11_works_123 : decode cX11_works 123 = .ok (.getfield 197, 3) := by decide +kernel
theorem dX11_works_126 : decode cX11_works 126 = .ok (.aload_n 0, 1) := by decide +kernel
theorem dX11_works_127 : decode cX11_works 127 = .ok (.getfield 642, 3) := by decide +kernel
theorem dX11_works_130 : decode cX11_works 130 = .ok (.iload 4, 2) := by decide +kernel
theorem dX11_works_132 : decode cX11_works 132 = .ok (.iadd, 1) := by decide +kernel
theorem dX11_works_133 : decode cX11_works 133 = .ok (.iaload, 1) := by decide +kernel
theorem dX11_works_134 : decode cX11_works 134 = .ok (.iastore, 1) := by decide +kernel
theorem dX11_works_135 : decode cX11_works 135 = .ok (.aload_n 0, 1) := by decide +kernel
theorem dX11_works_136 : decode cX11_works 136 = .ok (.getfield 242, 3) := by decide +kernel
theorem dX11_works_139 : decode cX11_works 139 = .ok (.aload_n 0, 1) := by decide +kernel
theorem dX11_works_140 : decode cX11_works 140 = .ok (.getfield 212, 3) := by decide +kernel
theorem dX11_works_143 : decode cX11_works 143 = .ok (.iload_n 3, 1) := by decide +kernel
theorem dX11_works_144 : decode cX11_works 144 = .ok (.iaload, 1) := by decide +kernel
theorem dX11_works_145 : decode cX11_works 145 = .ok (.iload 4, 2) := by decide +kernel
theorem dX11_works_147 : decode cX11_works 147 = .ok (.iadd, 1) := by decide +kernel
theorem dX11_works_148 : decode cX11_works 148 = .ok (.aload_n 0, 1) := by decide +kernel
theorem dX11_works_149 : decode cX11_works 149 = .ok (.getfield 200, 3) := by decide +kernel
theorem dX11_works_152 : decode cX11_works 152 = .ok (.aload_n 0, 1) := by decide +kernel
theorem dX11_works_153 : decode cX11_works 153 = .ok (.getfield 642, 3) := by decide +kernel
theorem dX11_works_156 : decode cX11_works 156 = .ok (.iload 4, 2) := by decide +kernel
theorem dX11_works_158 : decode cX11_works 158 = .ok (.iadd, 1) := by decide +kernel
theorem dX11_works_159 : decode cX11_works 159 = .ok (.iaload, 1) := by decide +kernel
theorem dX11_works_160 : decode cX11_works 160 = .ok (.iastore, 1) := by decide +kernel
theorem dX11_works_161 : decode cX11_works 161 = .ok (.iinc 4 1, 3) := by decide +kernel
theorem dX11_works_164 : decode cX11_works 164 = .ok (.goto (-66), 3) := by decide +kernel
theorem dX11_works_167 : decode cX11_works 167 = .ok (.aload_n 0, 1) := by decide +kernel
theorem dX11_works_168 : decode cX11_works 168 = .ok (.iconst 3, 1) := by decide +kernel
theorem dX11_works_169 : decode cX11_works 169 = .ok (.iload_n 3, 1) := by decide +kernel
theorem dX11_works_170 : decode cX11_works 170 = .ok (.invokevirtual 706, 3) := by decide +kernel
theorem dX11_works_173 : decode cX11_works 173 = .ok (.goto 281, 3) := by decide +kernel
theorem dX11_works_176 : decode cX11_works 176 = .ok (.aload_n 0, 1) := by decide +kernel
theorem dX11_works_177 : decode cX11_works 177 = .ok (.iload_n 2, 1) := by decide +kernel
theorem dX11_works_178 : decode cX11_works 178 = .ok (.invokevirtual 724, 3) := by decide +kernel
theorem dX11_works_181 : decode cX11_works 181 = .ok (.goto 273, 3) := by decide +kernel
theorem dX11_works_184 : decode cX11_works 184 = .ok (.aload_n 0, 1) := by decide +kernel
theorem dX11_works_185 : decode cX11_works 185 = .ok (.dup, 1) := by decide +kernel
theorem dX11_works_186 : decode cX11_works 186 = .ok (.getfield 642, 3) := by decide +kernel
theorem dX11_works_189 : decode cX11_works 189 = .ok (.iconst 1, 1) := by decide +kernel
theorem dX11_works_190 : decode cX11_works 190 = .ok (.isub, 1) := by decide +kernel
theorem dX11_works_191 : decode cX11_works 191 = .ok (.putfield 642, 3) := by decide +kernel
theorem dX11_works_194 : decode cX11_works 194 = .ok (.aload_n 0, 1) := by decide +kernel
theorem dX11_works_195 : decode cX11_works 195 = .ok (.iconst 0, 1) := by decide +kernel
theorem dX11_works_196 : decode cX11_works 196 = .ok (.aload_n 0, 1) := by decide +kernel
theorem dX11_works_197 : decode cX11_works 197 = .ok (.getfield 215, 3) := by decide +kernel
theorem dX11_works_200 : decode cX11_works 200 = .ok (.aload_n 0, 1) := by decide +kernel
theorem dX11_works_201 : decode cX11_works 201 = .ok (.iconst 3, 1) := by decide +kernel
theorem dX11_works_202 : decode cX11_works 202 = .ok (.aload_n 0, 1) := by decide +kernel
theorem dX11_works_203 : decode cX11_works 203 = .ok (.getfield 200, 3) := by decide +kernel
theorem dX11_works_206 : decode cX11_works 206 = .ok (.aload_n 0, 1) := by decide +kernel
theorem dX11_works_207 : decode cX11_works 207 = .ok (.getfield 642, 3) := by decide +kernel
theorem dX11_works_210 : decode cX11_works 210 = .ok (.iaload, 1) := by decide +kernel
theorem dX11_works_211 : decode cX11_works 211 = .ok (.invokevirtual 661, 3) := by decide +kernel
theorem dX11_works_214 : decode cX11_works 214 = .ok (.iaload, 1) := by decide +kernel
theorem dX11_works_215 : decode cX11_works 215 = .ok (.invokevirtual 706, 3) := by decide +kernel
theorem dX11_works_218 : decode cX11_works 218 = .ok (.goto 236, 3) := by decide +kernel
theorem dX11_works_221 : decode cX11_works 221 = .ok (.aload_n 0, 1) := by decide +kernel
theorem dX11_works_222 : decode cX11_works 222 = .ok (.getfield 690, 3) := by decide +kernel
theorem dX11_works_225 : decode cX11_works 225 = .ok (.sipush 200, 3) := by decide +kernel
theorem dX11_works_228 : decode cX11_works 228 = .ok (.if_icmp .ne 18, 3) := by decide +kernel
theorem dX11_works_231 : decode cX11_works 231 = .ok (.aload_n 0, 1) := by decide +kernel
theorem dX11_works_232 : decode cX11_works 232 = .ok (.bipush 6, 2) := by decide +kernel
theorem dX11_works_234 : decode cX11_works 234 = .ok (.aload_n 0, 1) := by decide +kernel
theorem dX11_works_235 : decode cX11_works 235 = .ok (.getfield 80, 3) := by decide +kernel
theorem dX11_works_238 : decode cX11_works 238 = .ok (.iload_n 2, 1) := by decide +kernel
theorem dX11_works_239 : decode cX11_works 239 = .ok (.iaload, 1) := by decide +kernel
theorem dX11_works_240 : decode cX11_works 240 = .ok (.invokevirtual 651, 3) := by decide +kernel
theorem dX11_works_243 : decode cX11_works 243 = .ok (.goto 211, 3) := by decide +kernel
theorem dX11_works_246 : decode cX11_works 246 = .ok (.aload_n 0, 1) := by decide +kernel
theorem dX11_works_247 : decode cX11_works 247 = .ok (.getfield 254, 3) := by decide +kernel
theorem dX11_works_250 : decode cX11_works 250 = .ok (.aload_n 0, 1) := by decide +kernel
theorem dX11_works_251 : decode cX11_works 251 = .ok (.getfield 690, 3) := by decide +kernel
theorem dX11_works_254 : decode cX11_works 254 = .ok (.aload_n 0, 1) := by decide +kernel
theorem dX11_works_255 : decode cX11_works 255 = .ok (.getfield 200, 3) := by decide +kernel
theorem dX11_works_258 : decode cX11_works 258 = .ok (.aload_n 0, 1) := by decide +kernel
theorem dX11_works_259 : decode cX11_works 259 = .ok (.getfield 642, 3) := by decide +kernel
theorem dX11_works_262 : decode cX11_works 262 = .ok (.iconst 1, 1) := by decide +kernel
theorem dX11_works_263 : decode cX11_works 263 = .ok (.isub, 1) := by decide +kernel
theorem dX11_works_264 : decode cX11_works 264 = .ok (.iaload, 1) := by decide +kernel
theorem dX11_works_265 : decode cX11_works 265 = .ok (.iastore, 1) := by decide +kernel
theorem dX11_works_266 : decode cX11_works 266 = .ok (.aload_n 0, 1) := by decide +kernel
theorem dX11_works_267 : decode cX11_works 267 = .ok (.dup, 1) := by decide +kernel
theorem dX11_works_268 : decode cX11_works 268 = .ok (.getfield 690, 3) := by decide +kernel
theorem dX11_works_271 : decode cX11_works 271 = .ok (.iconst 1, 1) := by decide +kernel
theorem dX11_works_272 : decode cX11_works 272 = .ok (.iadd, 1) := by decide +kernel
theorem dX11_works_273 : decode cX11_works 273 = .ok (.putfield 690, 3) := by decide +kernel
theorem dX11_works_276 : decode cX11_works 276 = .ok (.goto 178, 3) := by decide +kernel
theorem dX11_works_279 : decode cX11_works 279 = .ok (.aload_n 0, 1) := by decide +kernel
theorem dX11_works_280 : decode cX11_works 280 = .ok (.getfield 200, 3) := by decide +kernel
theorem dX11_works_283 : decode cX11_works 283 = .ok (.aload_n 0, 1) := by decide +kernel
theorem dX11_works_284 : decode cX11_works 284 = .ok (.getfield 642, 3) := by decide +kernel
theorem dX11_works_287 : decode cX11_works 287 = .ok (.iconst 1, 1) := by decide +kernel
theorem dX11_works_288 : decode cX11_works 288 = .ok (.isub, 1) := by decide +kernel
theorem dX11_works_289 : decode cX11_works 289 = .ok (.aload_n 0, 1) := by decide +kernel
theorem dX11_works_290 : decode cX11_works 290 = .ok (.getfield 200, 3) := by decide +kernel
theorem dX11_works_293 : decode cX11_works 293 = .ok (.aload_n 0, 1) := by decide +kernel
theorem dX11_works_294 : decode cX11_works 294 = .ok (.getfield 642, 3) := by decide +kernel
theorem dX11_works_297 : decode cX11_works 297 = .ok (.iconst 1, 1) := by decide +kernel
theorem dX11_works_298 : decode cX11_works 298 = .ok (.isub, 1) := by decide +kernel
theorem dX11_works_299 : decode cX11_works 299 = .ok (.iaload, 1) := by decide +kernel
theorem dX11_works_300 : decode cX11_works 300 = .ok (.ineg, 1) := by decide +kernel
theorem dX11_works_301 : decode cX11_works 301 = .ok (.iastore, 1) := by decide +kernel
theorem dX11_works_302 : decode cX11_works 302 = .ok (.goto 152, 3) := by decide +kernel
theorem dX11_works_305 : decode cX11_works 305 = .ok (.aload_n 0, 1) := by decide +kernel
theorem dX11_works_306 : decode cX11_works 306 = .ok (.getfield 200, 3) := by decide +kernel
theorem dX11_works_309 : decode cX11_works 309 = .ok (.aload_n 0, 1) := by decide +kernel
theorem dX11_works_310 : decode cX11_works 310 = .ok (.getfield 642, 3) := by decide +kernel
theorem dX11_works_313 : decode cX11_works 313 = .ok (.iconst 1, 1) := by decide +kernel
theorem dX11_works_314 : decode cX11_works 314 = .ok (.isub, 1) := by decide +kernel
theorem dX11_works_315 : decode cX11_works 315 = .ok (.iconst 1, 1) := by decide +kernel
theorem dX11_works_316 : decode cX11_works 316 = .ok (.aload_n 0, 1) := by decide +kernel
theorem dX11_works_317 : decode cX11_works 317 = .ok (.getfield 200, 3) := by decide +kernel
theorem dX11_works_320 : decode cX11_works 320 = .ok (.aload_n 0, 1) := by decide +kernel
theorem dX11_works_321 : decode cX11_works 321 = .ok (.getfield 642, 3) := by decide +kernel
theorem dX11_works_324 : decode cX11_works 324 = .ok (.iconst 1, 1) := by decide +kernel
theorem dX11_works_325 : decode cX11_works 325 = .ok (.isub, 1) := by decide +kernel
theorem dX11_works_326 : decode cX11_works 326 = .ok (.iaload, 1) := by decide +kernel
theorem dX11_works_327 : decode cX11_works 327 = .ok (.isub, 1) := by decide +kernel
theorem dX11_works_328 : decode cX11_works 328 = .ok (.iastore, 1) := by decide +kernel
theorem dX11_works_329 : decode cX11_works 329 = .ok (.goto 125, 3) := by decide +kernel
theorem dX11_works_332 : decode cX11_works 332 = .ok (.aload_n 0, 1) := by decide +kernel
theorem dX11_works_333 : decode cX11_works 333 = .ok (.iload_n 2, 1) := by decide +kernel
theorem dX11_works_334 : decode cX11_works 334 = .ok (.invokevirtual 727, 3) := by decide +kernel
theorem dX11_works_337 : decode cX11_works 337 = .ok (.goto 117, 3) := by decide +kernel
theorem dX11_works_340 : decode cX11_works 340 = .ok (.aload_n 0, 1) := by decide +kernel
theorem dX11_works_341 : decode cX11_works 341 = .ok (.dup, 1) := by decide +kernel
theorem dX11_works_342 : decode cX11_works 342 = .ok (.getfield 642, 3) := by decide +kernel
theorem dX11_works_345 : decode cX11_works 345 = .ok (.iconst 2, 1) := by decide +kernel
theorem dX11_works_346 : decode cX11_works 346 = .ok (.isub, 1) := by decide +kernel
theorem dX11_works_347 : decode cX11_works 347 = .ok (.putfield 642, 3) := by decide +kernel
theorem dX11_works_350 : decode cX11_works 350 = .ok (.aload_n 0, 1) := by decide +kernel
theorem dX11_works_351 : decode cX11_works 351 = .ok (.getfield 95, 3) := by decide +kernel
theorem dX11_works_354 : decode cX11_works 354 = .ok (.iload_n 2, 1) := by decide +kernel
theorem dX11_works_355 : decode cX11_works 355 = .ok (.iaload, 1) := by decide +kernel
theorem dX11_works_356 : decode cX11_works 356 = .ok (.bipush 60, 2) := by decide +kernel
theorem dX11_works_358 : decode cX11_works 358 = .ok (.if_icmp .ne 34, 3) := by decide +kernel
theorem dX11_works_361 : decode cX11_works 361 = .ok (.aload_n 0, 1) := by decide +kernel
theorem dX11_works_362 : decode cX11_works 362 = .ok (.getfield 200, 3) := by decide +kernel
theorem dX11_works_365 : decode cX11_works 365 = .ok (.aload_n 0, 1) := by decide +kernel
theorem dX11_works_366 : decode cX11_works 366 = .ok (.getfield 642, 3) := by decide +kernel
theorem dX11_works_369 : decode cX11_works 369 = .ok (.iaload, 1) := by decide +kernel
theorem dX11_works_370 : decode cX11_works 370 = .ok (.aload_n 0, 1) := by decide +kernel
theorem dX11_works_371 : decode cX11_works 371 = .ok (.getfield 200, 3) := by decide +kernel
theorem dX11_works_374 : decode cX11_works 374 = .ok (.aload_n 0, 1) := by decide +kernel
theorem dX11_works_375 : decode cX11_works 375 = .ok (.getfield 642, 3) := by decide +kernel
theorem dX11_works_378 : decode cX11_works 378 = .ok (.iconst 1, 1) := by decide +kernel
theorem dX11_works_379 : decode cX11_works 379 = .ok (.iadd, 1) := by decide +kernel
theorem dX11_works_380 : decode cX11_works 380 = .ok (.iaload, 1) := by decide +kernel
theorem dX11_works_381 : decode cX11_works 381 = .ok (.if_icmp .ge 7, 3) := by decide +kernel
theorem dX11_works_384 : decode cX11_works 384 = .ok (.iconst 1, 1) := by decide +kernel
theorem dX11_works_385 : decode cX11_works 385 = .ok (.goto 35, 3) := by decide +kernel
theorem dX11_works_388 : decode cX11_works 388 = .ok (.iconst 0, 1) := by decide +kernel
theorem dX11_works_389 : decode cX11_works 389 = .ok (.goto 31, 3) := by decide +kernel
theorem dX11_works_392 : decode cX11_works 392 = .ok (.aload_n 0, 1) := by decide +kernel
theorem dX11_works_393 : decode cX11_works 393 = .ok (.getfield 200, 3) := by decide +kernel
theorem dX11_works_396 : decode cX11_works 396 = .ok (.aload_n 0, 1) := by decide +kernel
theorem dX11_works_397 : decode cX11_works 397 = .ok (.getfield 642, 3) := by decide +kernel
theorem dX11_works_400 : decode cX11_works 400 = .ok (.iaload, 1) := by decide +kernel
theorem dX11_works_401 : decode cX11_works 401 = .ok (.aload_n 0, 1) := by decide +kernel
theorem dX11_works_402 : decode cX11_works 402 = .ok (.getfield 200, 3) := by decide +kernel
theorem dX11_works_405 : decode cX11_works 405 = .ok (.aload_n 0, 1) := by decide +kernel
theorem dX11_works_406 : decode cX11_works 406 = .ok (.getfield 642, 3) := by decide +kernel
theorem dX11_works_409 : decode cX11_works 409 = .ok (.iconst 1, 1) := by decide +kernel
theorem dX11_works_410 : decode cX11_works 410 = .ok (.iadd, 1) := by decide +kernel
theorem dX11_works_411 : decode cX11_works 411 = .ok (.iaload, 1) := by decide +kernel
theorem dX11_works_412 : decode cX11_works 412 = .ok (.if_icmp .ne 7, 3) := by decide +kernel
theorem dX11_works_415 : decode cX11_works 415 = .ok (.iconst 1, 1) := by decide +kernel
theorem dX11_works_416 : decode cX11_works 416 = .ok (.goto 4, 3) := by decide +kernel
theorem dX11_works_419 : decode cX11_works 419 = .ok (.iconst 0, 1) := by decide +kernel
theorem dX11_works_420 : decode cX11_works 420 = .ok (.istore_n 3, 1) := by decide +kernel
theorem dX11_works_421 : decode cX11_works 421 = .ok (.aload_n 0, 1) := by decide +kernel
theorem dX11_works_422 : decode cX11_works 422 = .ok (.iconst 1, 1) := by decide +kernel
theorem dX11_works_423 : decode cX11_works 423 = .ok (.iload_n 3, 1) := by decide +kernel
theorem dX11_works_424 : decode cX11_works 424 = .ok (.ifCond .eq 7, 3) := by decide +kernel
theorem dX11_works_427 : decode cX11_works 427 = .ok (.iconst 1, 1) := by decide +kernel
theorem dX11_works_428 : decode cX11_works 428 = .ok (.goto 4, 3) := by decide +kernel
theorem dX11_works_431 : decode cX11_works 431 = .ok (.iconst 0, 1) := by decide +kernel
theorem dX11_works_432 : decode cX11_works 432 = .ok (.invokevirtual 706, 3) := by decide +kernel
theorem dX11_works_435 : decode cX11_works 435 = .ok (.goto 19, 3) := by decide +kernel
theorem dX11_works_438 : decode cX11_works 438 = .ok (.aload_n 0, 1) := by decide +kernel
theorem dX11_works_439 : decode cX11_works 439 = .ok (.iload_n 2, 1) := by decide +kernel
theorem dX11_works_440 : decode cX11_works 440 = .ok (.invokevirtual 730, 3) := by decide +kernel
theorem dX11_works_443 : decode cX11_works 443 = .ok (.goto 11, 3) := by decide +kernel
theorem dX11_works_446 : decode cX11_works 446 = .ok (.aload_n 0, 1) := by decide +kernel
theorem dX11_works_447 : decode cX11_works 447 = .ok (.iload_n 2, 1) := by decide +kernel
theorem dX11_works_448 : decode cX11_works 448 = .ok (.invokevirtual 733, 3) := by decide +kernel
theorem dX11_works_451 : decode cX11_works 451 = .ok (.goto 3, 3) := by decide +kernel
theorem dX11_works_454 : decode cX11_works 454 = .ok (.return_, 1) := by decide +kernel
theorem dX11_writes_0 : decode cX11_writes 0 = .ok (.aload_n 0, 1) := by decide +kernel
theorem dX11_writes_1 : decode cX11_writes 1 = .ok (.getfield 642, 3) := by decide +kernel
theorem dX11_writes_4 : decode cX11_writes 4 = .ok (.iconst 3, 1) := by decide +kernel
theorem dX11_writes_5 : decode cX11_writes 5 = .ok (.isub, 1) := by decide +kernel
theorem dX11_writes_6 : decode cX11_writes 6 = .ok (.istore_n 2, 1) := by decide +kernel
theorem dX11_writes_7 : decode cX11_writes 7 = .ok (.aload_n 0, 1) := by decide +kernel
theorem dX11_writes_8 : decode cX11_writes 8 = .ok (.getfield 200, 3) := by decide +kernel
theorem dX11_writes_11 : decode cX11_writes 11 = .ok (.iload_n 2, 1) := by decide +kernel
theorem dX11_writes_12 : decode cX11_writes 12 = .ok (.iaload, 1) := by decide +kernel
theorem dX11_writes_13 : decode cX11_writes 13 = .ok (.istore_n 3, 1) := by decide +kernel
theorem dX11_writes_14 : decode cX11_writes 14 = .ok (.aload_n 0, 1) := by decide +kernel
theorem dX11_writes_15 : decode cX11_writes 15 = .ok (.iconst 3, 1) := by decide +kernel
theorem dX11_writes_16 : decode cX11_writes 16 = .ok (.iload_n 3, 1) := by decide +kernel
theorem dX11_writes_17 : decode cX11_writes 17 = .ok (.invokevirtual 661, 3) := by decide +kernel
theorem dX11_writes_20 : decode cX11_writes 20 = .ok (.istore 4, 2) := by decide +kernel
theorem dX11_writes_22 : decode cX11_writes 22 = .ok (.aload_n 0, 1) := by decide +kernel
theorem dX11_writes_23 : decode cX11_writes 23 = .ok (.getfield 200, 3) := by decide +kernel
theorem dX11_writes_26 : decode cX11_writes 26 = .ok (.aload_n 0, 1) := by decide +kernel
theorem dX11_writes_27 : decode cX11_writes 27 = .ok (.getfield 642, 3) := by decide +kernel
theorem dX11_writes_30 : decode cX11_writes 30 = .ok (.iconst 2, 1) := by decide +kernel
theorem dX11_writes_31 : decode cX11_writes 31 = .ok (.isub, 1) := by decide +kernel
theorem dX11_writes_32 : decode cX11_writes 32 = .ok (.iaload, 1) := by decide +kernel
theorem dX11_writes_33 : decode cX11_writes 33 = .ok (.istore 5, 2) := by decide +kernel
theorem dX11_writes_35 : decode cX11_writes 35 = .ok (.iload 5, 2) := by decide +kernel
theorem dX11_writes_37 : decode cX11_writes 37 = .ok (.iconst 0, 1) := by decide +kernel
theorem dX11_writes_38 : decode cX11_writes 38 = .ok (.aload_n 0, 1) := by decide +kernel
theorem dX11_writes_39 : decode cX11_writes 39 = .ok (.getfield 215, 3) := by decide +kernel
theorem dX11_writes_42 : decode cX11_writes 42 = .ok (.iload 4, 2) := by decide +kernel
theorem dX11_writes_44 : decode cX11_writes 44 = .ok (.iaload, 1) := by decide +kernel
theorem dX11_writes_45 : decode cX11_writes 45 = .ok (.iconst 1, 1) := by decide +kernel
theorem dX11_writes_46 : decode cX11_writes 46 = .ok (.isub, 1) := by decide +kernel
theorem dX11_writes_47 : decode cX11_writes 47 = .ok (.invokestatic 282, 3) := by decide +kernel
theorem dX11_writes_50 : decode cX11_writes 50 = .ok (.ifCond .ne 15, 3) := by decide +kernel
theorem dX11_writes_53 : decode cX11_writes 53 = .ok (.aload_n 0, 1) := by decide +kernel
theorem dX11_writes_54 : decode cX11_writes 54 = .ok (.iconst 1, 1) := by decide +kernel
theorem dX11_writes_55 : decode cX11_writes 55 = .ok (.aload_n 0, 1) := by decide +kernel
theorem dX11_writes_56 : decode cX11_writes 56 = .ok (.getfield 83, 3) := by decide +kernel
theorem dX11_writes_59 : decode cX11_writes 59 = .ok (.iload_n 1, 1) := by decide +kernel
theorem dX11_writes_60 : decode cX11_writes 60 = .ok (.iaload, 1) := by decide +kernel
theorem dX11_writes_61 : decode cX11_writes 61 = .ok (.invokevirtual 651, 3) := by decide +kernel
theorem dX11_writes_64 : decode cX11_writes 64 = .ok (.return_, 1) := by decide +kernel
theorem dX11_writes_65 : decode cX11_writes 65 = .ok (.aload_n 0, 1) := by decide +kernel
theorem dX11_writes_66 : decode cX11_writes 66 = .ok (.getfield 197, 3) := by decide +kernel
theorem dX11_writes_69 : decode cX11_writes 69 = .ok (.aload_n 0, 1) := by decide +kernel
theorem dX11_writes_70 : decode cX11_writes 70 = .ok (.getfield 642, 3) := by decide +kernel
theorem dX11_writes_73 : decode cX11_writes 73 = .ok (.iconst 1, 1) := by decide +kernel
theorem dX11_writes_74 : decode cX11_writes 74 = .ok (.isub, 1) := by decide +kernel
theorem dX11_writes_75 : decode cX11_writes 75 = .ok (.iaload, 1) := by decide +kernel
theorem dX11_writes_76 : decode cX11_writes 76 = .ok (.istore 6, 2) := by decide +kernel
theorem dX11_writes_78 : decode cX11_writes 78 = .ok (.aload_n 0, 1) := by decide +kernel
theorem dX11_writes_79 : decode cX11_writes 79 = .ok (.getfield 200, 3) := by decide +kernel
theorem dX11_writes_82 : decode cX11_writes 82 = .ok (.aload_n 0, 1) := by decide +kernel
theorem dX11_writes_83 : decode cX11_writes 83 = .ok (.getfield 642, 3) := by decide +kernel
theorem dX11_writes_86 : decode cX11_writes 86 = .ok (.iconst 1, 1) := by decide +kernel
theorem dX11_writes_87 : decode cX11_writes 87 = .ok (.isub, 1) := by decide +kernel
theorem dX11_writes_88 : decode cX11_writes 88 = .ok (.iaload, 1) := by decide +kernel
theorem dX11_writes_89 : decode cX11_writes 89 = .ok (.istore 7, 2) := by decide +kernel
theorem dX11_writes_91 : decode cX11_writes 91 = .ok (.aload_n 0, 1) := by decide +kernel
theorem dX11_writes_92 : decode cX11_writes 92 = .ok (.iload_n 3, 1) := by decide +kernel
theorem dX11_writes_93 : decode cX11_writes 93 = .ok (.invokevirtual 736, 3) := by decide +kernel
theorem dX11_writes_96 : decode cX11_writes 96 = .ok (.istore 8, 2) := by decide +kernel
theorem dX11_writes_98 : decode cX11_writes 98 = .ok (.iconst 0, 1) := by decide +kernel
theorem dX11_writes_99 : decode cX11_writes 99 = .ok (.istore 9, 2) := by decide +kernel
theorem dX11_writes_101 : decode cX11_writes 101 = .ok (.iload 9, 2) := by decide +kernel
theorem dX11_writes_103 : decode cX11_writes 103 = .ok (.iload 8, 2) := by decide +kernel
theorem dX11_writes_105 : decode cX11_writes 105 = .ok (.if_icmp .ge 78, 3) := by decide +kernel
theorem dX11_writes_108 : decode cX11_writes 108 = .ok (.aload_n 0, 1) := by decide +kernel
theorem dX11_writes_109 : decode cX11_writes 109 = .ok (.invokevirtual 654, 3) := by decide +kernel
theorem dX11_writes_112 : decode cX11_writes 112 = .ok (.ifCond .eq 71, 3) := by decide +kernel
theorem dX11_writes_115 : decode cX11_writes 115 = .ok (.aload_n 0, 1) := by decide +kernel
theorem dX11_writes_116 : decode cX11_writes 116 = .ok (.getfield 260, 3) := by decide +kernel
theorem dX11_writes_119 : decode cX11_writes 119 = .ok (.iload 9, 2) := by decide +kernel
theorem dX11_writes_121 : decode cX11_writes 121 = .ok (.iaload, 1) := by decide +kernel
theorem dX11_writes_122 : decode cX11_writes 122 = .ok (.istore 10, 2) := by decide +kernel
theorem dX11_writes_124 : decode cX11_writes 124 = .ok (.aload_n 0, 1) := by decide +kernel
theorem dX11_writes_125 : decode cX11_writes 125 = .ok (.aload_n 0, 1) := by decide +kernel
theorem dX11_writes_126 : decode cX11_writes 126 = .ok (.getfield 642, 3) := by decide +kernel
theorem dX11_writes_129 : decode cX11_writes 129 = .ok (.iconst 1, 1) := by decide +kernel
theorem dX11_writes_130 : decode cX11_writes 130 = .ok (.isub, 1) := by decide +kernel
theorem dX11_writes_131 : decode cX11_writes 131 = .ok (.aload_n 0, 1) := by decide +kernel
theorem dX11_writes_132 : decode cX11_writes 132 = .ok (.aload_n 0, 1) := by decide +kernel
theorem dX11_writes_133 : decode cX11_writes 133 = .ok (.getfield 224, 3) := by decide +kernel
theorem dX11_writes_136 : decode cX11_writes 136 = .ok (.iload 10, 2) := by decide +kernel
theorem dX11_writes_138 : decode cX11_writes 138 = .ok (.iaload, 1) := by decide +kernel
theorem dX11_writes_139 : decode cX11_writes 139 = .ok (.invokevirtual 615, 3) := by decide +kernel
theorem dX11_writes_142 : decode cX11_writes 142 = .ok (.aload_n 0, 1) := by decide +kernel
theorem dX11_writes_143 : decode cX11_writes 143 = .ok (.aload_n 0, 1) := by decide +kernel
theorem dX11_writes_144 : decode cX11_writes 144 = .ok (.getfield 221, 3) := by decide +kernel
theorem dX11_writes_147 : decode cX11_writes 147 = .ok (.iload 10, 2) := by decide +kernel
theorem dX11_writes_149 : decode cX11_writes 149 = .ok (.iaload, 1) := by decide +kernel
theorem dX11_writes_150 : decode cX11_writes 150 = .ok (.invokevirtual 615, 3) := by decide +kernel
theorem dX11_writes_153 : decode cX11_writes 153 = .ok (.aload_n 0, 1) := by decide +kernel
theorem dX11_writes_154 : decode cX11_writes 154 = .ok (.getfield 230, 3) := by decide +kernel
theorem dX11_writes_157 : decode cX11_writes 157 = .ok (.iload 10, 2) := by decide +kernel
theorem dX11_writes_159 : decode cX11_writes 159 = .ok (.iaload, 1) := by decide +kernel
theorem dX11_writes_160 : decode cX11_writes 160 = .ok (.aload_n 0, 1) := by decide +kernel
theorem dX11_writes_161 : decode cX11_writes 161 = .ok (.getfield 227, 3) := by decide +kernel
theorem dX11_writes_164 : decode cX11_writes 164 = .ok (.iload 10, 2) := by decide +kernel
theorem dX11_writes_166 : decode cX11_writes 166 = .ok (.iaload, 1) := by decide +kernel
theorem dX11_writes_167 : decode cX11_writes 167 = .ok (.aload_n 0, 1) := by decide +kernel
theorem dX11_writes_168 : decode cX11_writes 168 = .ok (.getfield 233, 3) := by decide +kernel
theorem dX11_writes_171 : decode cX11_writes 171 = .ok (.iload 10, 2) := by decide +kernel
theorem dX11_writes_173 : decode cX11_writes 173 = .ok (.iaload, 1) := by decide +kernel
theorem dX11_writes_174 : decode cX11_writes 174 = .ok (.invokevirtual 701, 3) := by decide +kernel
theorem dX11_writes_177 : decode cX11_writes 177 = .ok (.iinc 9 1, 3) := by decide +kernel
theorem dX11_writes_180 : decode cX11_writes 180 = .ok (.goto (-79), 3) := by decide +kernel
theorem dX11_writes_183 : decode cX11_writes 183 = .ok (.aload_n 0, 1) := by decide +kernel
theorem dX11_writes_184 : decode cX11_writes 184 = .ok (.invokevirtual 654, 3) := by decide +kernel
theorem dX11_writes_187 : decode cX11_writes 187 = .ok (.ifCond .eq 55, 3) := by decide +kernel
theorem dX11_writes_190 : decode cX11_writes 190 = .ok (.aload_n 0, 1) := by decide +kernel
theorem dX11_writes_191 : decode cX11_writes 191 = .ok (.getfield 239, 3) := by decide +kernel
theorem dX11_writes_194 : decode cX11_writes 194 = .ok (.aload_n 0, 1) := by decide +kernel
theorem dX11_writes_195 : decode cX11_writes 195 = .ok (.getfield 212, 3) := by decide +kernel
theorem dX11_writes_198 : decode cX11_writes 198 = .ok (.iload 4, 2) := by decide +kernel
theorem dX11_writes_200 : decode cX11_writes 200 = .ok (.iaload, 1) := by decide +kernel
theorem dX11_writes_201 : decode cX11_writes 201 = .ok (.iload 5, 2) := by decide +kernel
theorem dX11_writes_203 : decode cX11_writes 203 = .ok (.iadd, 1) := by decide +kernel
theorem dX11_writes_204 : decode cX11_writes 204 = .ok (.aload_n 0, 1) := by decide +kernel
theorem dX11_writes_205 : decode cX11_writes 205 = .ok (.getfield 197, 3) := by decide +kernel
theorem dX11_writes_208 : decode cX11_writes 208 = .ok (.aload_n 0, 1) := by decide +kernel
theorem dX11_writes_209 : decode cX11_writes 209 = .ok (.getfield 642, 3) := by decide +kernel
theorem dX11_writes_212 : decode cX11_writes 212 = .ok (.iconst 1, 1) := by decide +kernel
theorem dX11_writes_213 : decode cX11_writes 213 = .ok (.isub, 1) := by decide +kernel
theorem dX11_writes_214 : decode cX11_writes 214 = .ok (.iaload, 1) := by decide +kernel
theorem dX11_writes_215 : decode cX11_writes 215 = .ok (.iastore, 1) := by decide +kernel
theorem dX11_writes_216 : decode cX11_writes 216 = .ok (.aload_n 0, 1) := by decide +kernel
theorem dX11_writes_217 : decode cX11_writes 217 = .ok (.getfield 242, 3) := by decide +kernel
theorem dX11_writes_220 : decode cX11_writes 220 = .ok (.aload_n 0, 1) := by decide +kernel
theorem dX11_writes_221 : decode cX11_writes 221 = .ok (.getfield 212, 3) := by decide +kernel
theorem dX11_writes_224 : decode cX11_writes 224 = .ok (.iload 4, 2) := by decide +kernel
theorem dX11_writes_226 : decode cX11_writes 226 = .ok (.iaload, 1) := by decide +kernel
theorem dX11_writes_227 : decode cX11_writes 227 = .ok (.iload 5, 2) := by decide +kernel
theorem dX11_writes_229 : decode cX11_writes 229 = .ok (.iadd, 1) := by decide +kernel
theorem dX11_writes_230 : decode cX11_writes 230 = .ok (.aload_n 0, 1) := by decide +kernel
theorem dX11_writes_231 : decode cX11_writes 231 = .ok (.getfield 200, 3) := by decide +kernel
theorem dX11_writes_234 : decode cX11_writes 234 = .ok (.aload_n 0, 1) := by decide +kernel
theorem dX11_writes_235 : decode cX11_writes 235 = .ok (.getfield 642, 3) := by decide +kernel
theorem dX11_writes_238 : decode cX11_writes 238 = .ok (.iconst 1, 1) := by decide +kernel
theorem dX11_writes_239 : decode cX11_writes 239 = .ok (.isub, 1) := by decide +kernel
theorem dX11_writes_240 : decode cX11_writes 240 = .ok (.iaload, 1) := by decide +kernel
theorem dX11_writes_241 : decode cX11_writes 241 = .ok (.iastore, 1) := by decide +kernel
theorem dX11_writes_242 : decode cX11_writes 242 = .ok (.aload_n 0, 1) := by decide +kernel
theorem dX11_writes_243 : decode cX11_writes 243 = .ok (.iload_n 2, 1) := by decide +kernel
theorem dX11_writes_244 : decode cX11_writes 244 = .ok (.putfield 642, 3) := by decide +kernel
theorem dX11_writes_247 : decode cX11_writes 247 = .ok (.aload_n 0, 1) := by decide +kernel
theorem dX11_writes_248 : decode cX11_writes 248 = .ok (.iload 6, 2) := by decide +kernel
theorem dX11_writes_250 : decode cX11_writes 250 = .ok (.iload 7, 2) := by decide +kernel
theorem dX11_writes_252 : decode cX11_writes 252 = .ok (.invokevirtual 706, 3) := by decide +kernel
theorem dX11_writes_255 : decode cX11_writes 255 = .ok (.return_, 1) := by decide +kernel
theorem k1474 : Cond.fieldLink "BlameCourtModel" 239 "BlameCourtModel" "pSort" "[I" ∈ gtb := gtm (in_tables_1_6 (List.mem_of_getElem? (i := 88) rfl)) rfl
theorem k1475 : Cond.fieldLink "BlameCourtModel" 242 "BlameCourtModel" "pWhat" "[I" ∈ gtb := gtm (in_tables_1_6 (List.mem_of_getElem? (i := 89) rfl)) rfl
theorem k1483 : Cond.fieldLink "BlameCourtModel" 703 "BlameCourtModel" "fuel" "I" ∈ gtb := gtm (in_tables_1_6 (List.mem_of_getElem? (i := 97) rfl)) rfl
theorem k1484 : Cond.fieldLink "BlameCourtModel" 687 "BlameCourtModel" "steps" "I" ∈ gtb := gtm (in_tables_1_6 (List.mem_of_getElem? (i := 98) rfl)) rfl
theorem k1490 : Cond.fieldLink "BlameCourtModel" 690 "BlameCourtModel" "outs" "I" ∈ gtb := gtm (in_tables_1_6 (List.mem_of_getElem? (i := 104) rfl)) rfl
theorem k1491 : Cond.fieldLink "BlameCourtModel" 254 "BlameCourtModel" "out" "[I" ∈ gtb := gtm (in_tables_1_6 (List.mem_of_getElem? (i := 105) rfl)) rfl
theorem k1493 : Cond.fieldLink "BlameCourtModel" 260 "BlameCourtModel" "around" "[I" ∈ gtb := gtm (in_tables_1_6 (List.mem_of_getElem? (i := 107) rfl)) rfl
theorem k2116 : Cond.methodLink "BlameCourtModel" 706 yX11_value ∈ gtb := gtm (in_tables_1_9 (List.mem_of_getElem? (i := 10) rfl)) rfl
theorem k2120 : Cond.methodLink "BlameCourtModel" 709 yX11_guarded ∈ gtb := gtm (in_tables_1_9 (List.mem_of_getElem? (i := 14) rfl)) rfl
theorem k2144 : Cond.methodLink "BlameCourtModel" 712 yX11_call ∈ gtb := gtm (in_tables_1_9 (List.mem_of_getElem? (i := 38) rfl)) rfl
theorem k2148 : Cond.methodLink "BlameCourtModel" 715 yX11_goesBack ∈ gtb := gtm (in_tables_1_9 (List.mem_of_getElem? (i := 42) rfl)) rfl
theorem k2152 : Cond.methodLink "BlameCourtModel" 718 yX11_works ∈ gtb := gtm (in_tables_1_9 (List.mem_of_getElem? (i := 46) rfl)) rfl
theorem k2156 : Cond.methodLink "BlameCourtModel" 721 yX11_row ∈ gtb := gtm (in_tables_1_9 (List.mem_of_getElem? (i := 50) rfl)) rfl
theorem k2160 : Cond.methodLink "BlameCourtModel" 724 yX11_makes ∈ gtb := gtm (in_tables_1_9 (List.mem_of_getElem? (i := 54) rfl)) rfl
theorem k2164 : Cond.methodLink "BlameCourtModel" 727 yX11_sums ∈ gtb := gtm (in_tables_1_9 (List.mem_of_getElem? (i := 58) rfl)) rfl
theorem k2168 : Cond.methodLink "BlameCourtModel" 730 yX11_readsPlace ∈ gtb := gtm (in_tables_1_9 (List.mem_of_getElem? (i := 62) rfl)) rfl
theorem k2172 : Cond.methodLink "BlameCourtModel" 736 yX11_aroundOf ∈ gtb := gtm (in_tables_1_9 (List.mem_of_getElem? (i := 66) rfl)) rfl
theorem k2176 : Cond.methodLink "BlameCourtModel" 733 yX11_writes ∈ gtb := gtm (in_tables_1_9 (List.mem_of_getElem? (i := 70) rfl)) rfl
theorem k2175 : Cond.code yX11_aroundOf cX11_aroundOf 4 (some .int) ∈ gtb := gtm (in_tables_1_9 (List.mem_of_getElem? (i := 69) rfl)) rfl
theorem ka_X11_aroundOf : KA yX11_aroundOf cX11_aroundOf 4 (some .int) 1 := ⟨k2175, k197, by decide, by decide, by decide +kernel⟩
theorem k2174 : Cond.instanceMethod yX11_aroundOf ∈ gtb := gtm (in_tables_1_9 (List.mem_of_getElem? (i := 68) rfl)) rfl
theorem k184 : Cond.selects "BlameCourtModel" yX11_aroundOf yX11_aroundOf ∈ gtb := gtm (in_lw_privs_12 (q := (yX11_aroundOf, 129)) (List.mem_of_getElem? (i := 8) rfl)) rfl
theorem kv_X11_aroundOf : KV yX11_aroundOf := ⟨k2174, k184⟩
theorem k2115 : Cond.code yX11_does cX11_does 3 (some .int) ∈ gtb := gtm (in_tables_1_9 (List.mem_of_getElem? (i := 9) rfl)) rfl
theorem ka_X11_does : KA yX11_does cX11_does 3 (some .int) 2 := ⟨k2115, k197, by decide, by decide, by decide +kernel⟩
theorem k2114 : Cond.instanceMethod yX11_does ∈ gtb := gtm (in_tables_1_9 (List.mem_of_getElem? (i := 8) rfl)) rfl
theorem k169 : Cond.selects "BlameCourtModel" yX11_does yX11_does ∈ gtb := gtm (in_lw_privs_11 (q := (yX11_does, 129)) (List.mem_of_getElem? (i := 9) rfl)) rfl
theorem kv_X11_does : KV yX11_does := ⟨k2114, k169⟩
theorem k2151 : Cond.code yX11_goesBack cX11_goesBack 3 (some .int) ∈ gtb := gtm (in_tables_1_9 (List.mem_of_getElem? (i := 45) rfl)) rfl
theorem ka_X11_goesBack : KA yX11_goesBack cX11_goesBack 3 (some .int) 0 := ⟨k2151, k197, by decide, by decide, by decide +kernel⟩
theorem k2150 : Cond.instanceMethod yX11_goesBack ∈ gtb := gtm (in_tables_1_9 (List.mem_of_getElem? (i := 44) rfl)) rfl
theorem k178 : Cond.selects "BlameCourtModel" yX11_goesBack yX11_goesBack ∈ gtb := gtm (in_lw_privs_12 (q := (yX11_goesBack, 129)) (List.mem_of_getElem? (i := 2) rfl)) rfl
theorem kv_X11_goesBack : KV yX11_goesBack := ⟨k2150, k178⟩
theorem k2163 : Cond.code yX11_makes cX11_makes 5 none ∈ gtb := gtm (in_tables_1_9 (List.mem_of_getElem? (i := 57) rfl)) rfl
theorem ka_X11_makes : KA yX11_makes cX11_makes 5 none 1 := ⟨k2163, k197, by decide, by decide, by decide +kernel⟩
theorem k2162 : Cond.instanceMethod yX11_makes ∈ gtb := gtm (in_tables_1_9 (List.mem_of_getElem? (i := 56) rfl)) rfl
theorem k181 : Cond.selects "BlameCourtModel" yX11_makes yX11_makes ∈ gtb := gtm (in_lw_privs_12 (q := (yX11_makes, 129)) (List.mem_of_getElem? (i := 5) rfl)) rfl
theorem kv_X11_makes : KV yX11_makes := ⟨k2162, k181⟩
theorem k2171 : Cond.code yX11_readsPlace cX11_readsPlace 8 none ∈ gtb := gtm (in_tables_1_9 (List.mem_of_getElem? (i := 65) rfl)) rfl
theorem ka_X11_readsPlace : KA yX11_readsPlace cX11_readsPlace 8 none 1 := ⟨k2171, k197, by decide, by decide, by decide +kernel⟩
theorem k2170 : Cond.instanceMethod yX11_readsPlace ∈ gtb := gtm (in_tables_1_9 (List.mem_of_getElem? (i := 64) rfl)) rfl
theorem k183 : Cond.selects "BlameCourtModel" yX11_readsPlace yX11_readsPlace ∈ gtb := gtm (in_lw_privs_12 (q := (yX11_readsPlace, 129)) (List.mem_of_getElem? (i := 7) rfl)) rfl
theorem kv_X11_readsPlace : KV yX11_readsPlace := ⟨k2170, k183⟩
theorem k2167 : Cond.code yX11_sums cX11_sums 4 none ∈ gtb := gtm (in_tables_1_9 (List.mem_of_getElem? (i := 61) rfl)) rfl
theorem ka_X11_sums : KA yX11_sums cX11_sums 4 none 1 := ⟨k2167, k197, by decide, by decide, by decide +kernel⟩
theorem k2166 : Cond.instanceMethod yX11_sums ∈ gtb := gtm (in_tables_1_9 (List.mem_of_getElem? (i := 60) rfl)) rfl
theorem k182 : Cond.selects "BlameCourtModel" yX11_sums yX11_sums ∈ gtb := gtm (in_lw_privs_12 (q := (yX11_sums, 129)) (List.mem_of_getElem? (i := 6) rfl)) rfl
theorem kv_X11_sums : KV yX11_sums := ⟨k2166, k182⟩
theorem k2155 : Cond.code yX11_works cX11_works 5 none ∈ gtb := gtm (in_tables_1_9 (List.mem_of_getElem? (i := 49) rfl)) rfl
theorem ka_X11_works : KA yX11_works cX11_works 5 none 2 := ⟨k2155, k197, by decide, by decide, by decide +kernel⟩
theorem k2154 : Cond.instanceMethod yX11_works ∈ gtb := gtm (in_tables_1_9 (List.mem_of_getElem? (i := 48) rfl)) rfl
theorem k179 : Cond.selects "BlameCourtModel" yX11_works yX11_works ∈ gtb := gtm (in_lw_privs_12 (q := (yX11_works, 129)) (List.mem_of_getElem? (i := 3) rfl)) rfl
theorem kv_X11_works : KV yX11_works := ⟨k2154, k179⟩
theorem k2179 : Cond.code yX11_writes cX11_writes 11 none ∈ gtb := gtm (in_tables_1_9 (List.mem_of_getElem? (i := 73) rfl)) rfl
theorem ka_X11_writes : KA yX11_writes cX11_writes 11 none 1 := ⟨k2179, k197, by decide, by decide, by decide +kernel⟩
theorem k2178 : Cond.instanceMethod yX11_writes ∈ gtb := gtm (in_tables_1_9 (List.mem_of_getElem? (i := 72) rfl)) rfl
theorem k185 : Cond.selects "BlameCourtModel" yX11_writes yX11_writes ∈ gtb := gtm (in_lw_privs_12 (q := (yX11_writes, 129)) (List.mem_of_getElem? (i := 9) rfl)) rfl
theorem kv_X11_writes : KV yX11_writes := ⟨k2178, k185⟩
abbrev R_goesBack : Room := { frames := 18, cells := 0, slots := 0, locals := 270 }
noncomputable def f_goesBack_43_s (r43 : Int32 → St → Option (Int32 × St)) (a1 : Int32) (X : St) : Option (Int32 × St) :=
  bnd (f_isOn X) fun x12 X13 =>
  if x12.toInt = 0 then
    some (a1, X13)
  else
    letV (X13.1 0 37) fun x14 =>
    if x14.toInt ≤ 0 then
      some (a1, X13)
    else
      letV (X13.1 0 37) fun x15 =>
      letV (x15 - (1 : Int32)) fun x16 =>
      chk (inR x16 2300) (letV (X13.1 76 (ix x16)) fun x17 =>
      if x17.toInt < 0 then
        some (a1, X13)
      else
        letV (X13.1 0 37) fun x18 =>
        letV (x18 - (1 : Int32)) fun x19 =>
        letV (wI X13 0 37 x19) fun X20 =>
        letV (X20.1 0 37) fun x21 =>
        chk (inR x21 2300) (letV (X20.1 76 (ix x21)) fun x22 =>
        letV (X20.1 0 31) fun x23 =>
        letV (x23 - (1 : Int32)) fun x24 =>
        chk (inR x22 1000) (letV (X20.1 68 (ix x22)) fun x25 =>
        bnd (f_resultOf x25 X20) fun x26 X27 =>
        chk (inR x22 1000) (letV (X27.1 69 (ix x22)) fun x28 =>
        bnd (f_resultOf x28 X27) fun x29 X30 =>
        chk (inR x22 1000) (letV (X30.1 70 (ix x22)) fun x31 =>
        chk (inR x22 1000) (letV (X30.1 71 (ix x22)) fun x32 =>
        chk (inR x22 1000) (letV (X30.1 72 (ix x22)) fun x33 =>
        bnd (f_asks x24 x26 x29 x31 x32 x33 X30) fun _ X34 =>
        r43 a1 X34)))))))
noncomputable def f_goesBack_43 (n : Nat) : Int32 → St → Option (Int32 × St) := lp (fun _ _ => none) (f_goesBack_43_s) n
set_option maxHeartbeats 4000000 in
set_option maxRecDepth 100000 in
theorem c_goesBack_43 (Γ : Gx) (As : List Value) (n : Nat) : ∀ (a1 : Int32) (X : St), T YR Γ cX11_goesBack 3 "BlameCourtModel" (some .int) R_goesBack As qI 43 [(0, .ref (Γ.2.2.2.1 0)), (1, .int a1)] [] X (f_goesBack_43 n a1 X) := by
  unfold f_goesBack_43
  refine lp_ind (P := fun (r43 : Int32 → St → Option (Int32 × St)) => ∀ (a1 : Int32) (X : St), T YR Γ cX11_goesBack 3 "BlameCourtModel" (some .int) R_goesBack As qI 43 [(0, .ref (Γ.2.2.2.1 0)), (1, .int a1)] [] X (r43 a1 X)) (fun _ _ => T.no) ?_ n
  intro r43 hr43 a1 X
  unfold f_goesBack_43_s
  refine T.aload_n dX11_goesBack_43 rfl 0 rfl ?_
  refine T.callV_i 0 (As1 := []) (rest := []) (c_isOn Γ X) ka_X11_isOn kv_X11_isOn oR rfl k2108 rfl rfl rfl rfl ⟨Nat.le_of_ble_eq_true rfl, Nat.le_of_ble_eq_true rfl⟩ (Nat.le_of_ble_eq_true rfl) dX11_goesBack_44 (fun x12 X13 => ?_)
  refine T.if_eq (pc1 := 142) dX11_goesBack_47 (by decide) ?_ ?_
  · refine T.iload_n dX11_goesBack_142 rfl 1 rfl ?_
    exact T.ret_i rfl dX11_goesBack_143
  · refine T.aload_n dX11_goesBack_50 rfl 0 rfl ?_
    refine gR37 k1478 dX11_goesBack_51 (fun x14 => ?_)
    refine T.if_le (pc1 := 142) dX11_goesBack_54 (by decide) ?_ ?_
    · refine T.iload_n dX11_goesBack_142 rfl 1 rfl ?_
      exact T.ret_i rfl dX11_goesBack_143
    · refine T.aload_n dX11_goesBack_57 rfl 0 rfl ?_
      refine cR123 k1480 dX11_goesBack_58 ?_
      refine T.aload_n dX11_goesBack_61 rfl 0 rfl ?_
      refine gR37 k1478 dX11_goesBack_62 (fun x15 => ?_)
      refine T.iconst (w := 1) dX11_goesBack_65 (by decide) ?_
      refine T.isub dX11_goesBack_66 (fun x16 => ?_)
      refine alR76 dX11_goesBack_67 (fun x17 => ?_)
      refine T.if_lt (pc1 := 142) dX11_goesBack_68 (by decide) ?_ ?_
      · refine T.iload_n dX11_goesBack_142 rfl 1 rfl ?_
        exact T.ret_i rfl dX11_goesBack_143
      · refine T.aload_n dX11_goesBack_71 rfl 0 rfl ?_
        refine T.dupr dX11_goesBack_72 ?_
        refine gR37 k1478 dX11_goesBack_73 (fun x18 => ?_)
        refine T.iconst (w := 1) dX11_goesBack_76 (by decide) ?_
        refine T.isub dX11_goesBack_77 (fun x19 => ?_)
        refine pR37 k1478 dX11_goesBack_78 (fun X20 => ?_)
        refine T.aload_n dX11_goesBack_81 rfl 0 rfl ?_
        refine cR123 k1480 dX11_goesBack_82 ?_
        refine T.aload_n dX11_goesBack_85 rfl 0 rfl ?_
        refine gR37 k1478 dX11_goesBack_86 (fun x21 => ?_)
        refine alR76 dX11_goesBack_89 (fun x22 => ?_)
        refine T.istore_n (lv1 := [(2, .int x22), (0, .ref (Γ.2.2.2.1 0)), (1, .int a1)]) dX11_goesBack_90 rfl (by decide) rfl ?_
        refine T.aload_n dX11_goesBack_91 rfl 1 rfl ?_
        refine T.aload_n dX11_goesBack_92 rfl 1 rfl ?_
        refine gR31 k1456 dX11_goesBack_93 (fun x23 => ?_)
        refine T.iconst (w := 1) dX11_goesBack_96 (by decide) ?_
        refine T.isub dX11_goesBack_97 (fun x24 => ?_)
        refine T.aload_n dX11_goesBack_98 rfl 1 rfl ?_
        refine T.aload_n dX11_goesBack_99 rfl 1 rfl ?_
        refine cR115 k1467 dX11_goesBack_100 ?_
        refine T.iload_n dX11_goesBack_103 rfl 0 rfl ?_
        refine alR68 dX11_goesBack_104 (fun x25 => ?_)
        refine T.callV_i 0 (As1 := [.int x25]) (rest := [.int x24, .ref (Γ.2.2.2.1 0)]) (c_resultOf Γ x25 X20) ka_X11_resultOf kv_X11_resultOf oR rfl k2068 rfl rfl rfl rfl ⟨Nat.le_of_ble_eq_true rfl, Nat.le_of_ble_eq_true rfl⟩ (Nat.le_of_ble_eq_true rfl) dX11_goesBack_105 (fun x26 X27 => ?_)
        refine T.aload_n dX11_goesBack_108 rfl 1 rfl ?_
        refine T.aload_n dX11_goesBack_109 rfl 1 rfl ?_
        refine cR116 k1468 dX11_goesBack_110 ?_
        refine T.iload_n dX11_goesBack_113 rfl 0 rfl ?_
        refine alR69 dX11_goesBack_114 (fun x28 => ?_)
        refine T.callV_i 0 (As1 := [.int x28]) (rest := [.int x26, .int x24, .ref (Γ.2.2.2.1 0)]) (c_resultOf Γ x28 X27) ka_X11_resultOf kv_X11_resultOf oR rfl k2068 rfl rfl rfl rfl ⟨Nat.le_of_ble_eq_true rfl, Nat.le_of_ble_eq_true rfl⟩ (Nat.le_of_ble_eq_true rfl) dX11_goesBack_115 (fun x29 X30 => ?_)
        refine T.aload_n dX11_goesBack_118 rfl 1 rfl ?_
        refine cR117 k1469 dX11_goesBack_119 ?_
        refine T.iload_n dX11_goesBack_122 rfl 0 rfl ?_
        refine alR70 dX11_goesBack_123 (fun x31 => ?_)
        refine T.aload_n dX11_goesBack_124 rfl 1 rfl ?_
        refine cR118 k1470 dX11_goesBack_125 ?_
        refine T.iload_n dX11_goesBack_128 rfl 0 rfl ?_
        refine alR71 dX11_goesBack_129 (fun x32 => ?_)
        refine T.aload_n dX11_goesBack_130 rfl 1 rfl ?_
        refine cR119 k1471 dX11_goesBack_131 ?_
        refine T.iload_n dX11_goesBack_134 rfl 0 rfl ?_
        refine alR72 dX11_goesBack_135 (fun x33 => ?_)
        refine T.callV_v 0 (As1 := [.int x24, .int x26, .int x29, .int x31, .int x32, .int x33]) (rest := []) (c_asks Γ x24 x26 x29 x31 x32 x33 X30) ka_X11_asks kv_X11_asks oR rfl k2124 rfl rfl rfl rfl ⟨Nat.le_of_ble_eq_true rfl, Nat.le_of_ble_eq_true rfl⟩ (Nat.le_of_ble_eq_true rfl) dX11_goesBack_136 (fun _ X34 => ?_)
        refine T.goto (pc1 := 43) dX11_goesBack_139 (by decide) ?_
        refine T.sub [1, 2] rfl ?_
        exact hr43 a1 X34
noncomputable def f_goesBack (X : St) : Option (Int32 × St) :=
  letV (X.1 0 37) fun x1 =>
  letV (x1 - (1 : Int32)) fun x2 =>
  letV (wI X 0 37 x2) fun X3 =>
  letV (X3.1 0 37) fun x4 =>
  chk (inR x4 2300) (letV (X3.1 77 (ix x4)) fun x5 =>
  letV (X3.1 0 37) fun x6 =>
  chk (inR x6 2300) (letV (X3.1 78 (ix x6)) fun x7 =>
  letV (wI X3 0 32 x7) fun X8 =>
  letV (X8.1 0 38) fun x9 =>
  letV (x9 - (1 : Int32)) fun x10 =>
  letV (wI X8 0 38 x10) fun X11 =>
  f_goesBack_43 BIG x5 X11))
set_option maxHeartbeats 4000000 in
set_option maxRecDepth 100000 in
theorem c_goesBack (Γ : Gx) (X : St) : TMI YR Γ yX11_goesBack cX11_goesBack 3 "BlameCourtModel" (some .int) R_goesBack [.ref (Γ.2.2.2.1 0)] X (f_goesBack X) := by
  refine TMI.of (by decide) (Nat.le_of_ble_eq_true rfl) rfl ?_
  show T YR Γ cX11_goesBack 3 "BlameCourtModel" (some .int) R_goesBack _ qI 0 [(0, .ref (Γ.2.2.2.1 0))] [] X (f_goesBack X)
  unfold f_goesBack
  refine T.aload_n dX11_goesBack_0 rfl 0 rfl ?_
  refine T.dupr dX11_goesBack_1 ?_
  refine gR37 k1478 dX11_goesBack_2 (fun x1 => ?_)
  refine T.iconst (w := 1) dX11_goesBack_5 (by decide) ?_
  refine T.isub dX11_goesBack_6 (fun x2 => ?_)
  refine pR37 k1478 dX11_goesBack_7 (fun X3 => ?_)
  refine T.aload_n dX11_goesBack_10 rfl 0 rfl ?_
  refine cR124 k1481 dX11_goesBack_11 ?_
  refine T.aload_n dX11_goesBack_14 rfl 0 rfl ?_
  refine gR37 k1478 dX11_goesBack_15 (fun x4 => ?_)
  refine alR77 dX11_goesBack_18 (fun x5 => ?_)
  refine T.istore_n (lv1 := [(1, .int x5), (0, .ref (Γ.2.2.2.1 0))]) dX11_goesBack_19 rfl (by decide) rfl ?_
  refine T.aload_n dX11_goesBack_20 rfl 1 rfl ?_
  refine T.aload_n dX11_goesBack_21 rfl 1 rfl ?_
  refine cR125 k1482 dX11_goesBack_22 ?_
  refine T.aload_n dX11_goesBack_25 rfl 1 rfl ?_
  refine gR37 k1478 dX11_goesBack_26 (fun x6 => ?_)
  refine alR78 dX11_goesBack_29 (fun x7 => ?_)
  refine pR32 k1459 dX11_goesBack_30 (fun X8 => ?_)
  refine T.aload_n dX11_goesBack_33 rfl 1 rfl ?_
  refine T.dupr dX11_goesBack_34 ?_
  refine gR38 k1479 dX11_goesBack_35 (fun x9 => ?_)
  refine T.iconst (w := 1) dX11_goesBack_38 (by decide) ?_
  refine T.isub dX11_goesBack_39 (fun x10 => ?_)
  refine pR38 k1479 dX11_goesBack_40 (fun X11 => ?_)
  refine T.sub [1, 0] rfl ?_
  exact c_goesBack_43 Γ _ BIG x5 X11
abbrev R_makes : Room := { frames := 14, cells := 0, slots := 0, locals := 210 }
noncomputable def f_makes_58_s (r58 : Int32 → Int32 → Int32 → St → Option (Int32 × St)) (a2 : Int32) (a3 : Int32) (a4 : Int32) (X : St) : Option (Int32 × St) :=
  if a2.toInt ≤ a4.toInt then
    letV (X.1 0 31) fun x11 =>
    letV (x11 - (2 : Int32)) fun x12 =>
    letV (wI X 0 31 x12) fun X13 =>
    bnd (f_value (3 : Int32) a3 X13) fun _ X14 =>
    some (0, X14)
  else
    chk (inR a3 1000) (letV (X.1 65 (ix a3)) fun x15 =>
    letV (x15 + a4) fun x16 =>
    letV (X.1 0 31) fun x17 =>
    letV (x17 - (1 : Int32)) fun x18 =>
    chk (inR x18 20400) (letV (X.1 60 (ix x18)) fun x19 =>
    chk (inR x16 4000) (letV (wI X 74 (ix x16) x19) fun X20 =>
    chk (inR a3 1000) (letV (X20.1 65 (ix a3)) fun x21 =>
    letV (x21 + a4) fun x22 =>
    letV (X20.1 0 31) fun x23 =>
    letV (x23 - (1 : Int32)) fun x24 =>
    chk (inR x24 20400) (letV (X20.1 61 (ix x24)) fun x25 =>
    chk (inR x22 4000) (letV (wI X20 75 (ix x22) x25) fun X26 =>
    letV (a4 + Int32.ofInt (1)) fun x27 =>
    r58 a2 a3 x27 X26))))))
noncomputable def f_makes_58 (n : Nat) : Int32 → Int32 → Int32 → St → Option (Int32 × St) := lp (fun _ _ _ _ => none) (f_makes_58_s) n
set_option maxHeartbeats 4000000 in
set_option maxRecDepth 100000 in
theorem c_makes_58 (Γ : Gx) (As : List Value) (n : Nat) : ∀ (a2 : Int32) (a3 : Int32) (a4 : Int32) (X : St), T YR Γ cX11_makes 5 "BlameCourtModel" none R_makes As qV 58 [(0, .ref (Γ.2.2.2.1 0)), (2, .int a2), (3, .int a3), (4, .int a4)] [] X (f_makes_58 n a2 a3 a4 X) := by
  unfold f_makes_58
  refine lp_ind (P := fun (r58 : Int32 → Int32 → Int32 → St → Option (Int32 × St)) => ∀ (a2 : Int32) (a3 : Int32) (a4 : Int32) (X : St), T YR Γ cX11_makes 5 "BlameCourtModel" none R_makes As qV 58 [(0, .ref (Γ.2.2.2.1 0)), (2, .int a2), (3, .int a3), (4, .int a4)] [] X (r58 a2 a3 a4 X)) (fun _ _ _ _ => T.no) ?_ n
  intro r58 hr58 a2 a3 a4 X
  unfold f_makes_58_s
  refine T.iload dX11_makes_58 3 rfl ?_
  refine T.iload_n dX11_makes_60 rfl 1 rfl ?_
  refine T.icmp_ge (pc1 := 120) dX11_makes_61 (by decide) rfl ?_ ?_
  · refine T.aload_n dX11_makes_120 rfl 0 rfl ?_
    refine T.dupr dX11_makes_121 ?_
    refine gR31 k1456 dX11_makes_122 (fun x11 => ?_)
    refine T.iconst (w := 2) dX11_makes_125 (by decide) ?_
    refine T.isub dX11_makes_126 (fun x12 => ?_)
    refine pR31 k1456 dX11_makes_127 (fun X13 => ?_)
    refine T.aload_n dX11_makes_130 rfl 0 rfl ?_
    refine T.iconst (w := 3) dX11_makes_131 (by decide) ?_
    refine T.iload_n dX11_makes_132 rfl 2 rfl ?_
    refine T.callV_v 0 (As1 := [.int 3, .int a3]) (rest := []) (c_value Γ (3 : Int32) a3 X13) ka_X11_value kv_X11_value oR rfl k2116 rfl rfl rfl rfl ⟨Nat.le_of_ble_eq_true rfl, Nat.le_of_ble_eq_true rfl⟩ (Nat.le_of_ble_eq_true rfl) dX11_makes_133 (fun _ X14 => ?_)
    exact T.ret_v rfl dX11_makes_136
  · refine T.aload_n dX11_makes_64 rfl 0 rfl ?_
    refine cR121 k1474 dX11_makes_65 ?_
    refine T.aload_n dX11_makes_68 rfl 0 rfl ?_
    refine cR112 k1464 dX11_makes_69 ?_
    refine T.iload_n dX11_makes_72 rfl 2 rfl ?_
    refine alR65 dX11_makes_73 (fun x15 => ?_)
    refine T.iload dX11_makes_74 3 rfl ?_
    refine T.iadd dX11_makes_76 (fun x16 => ?_)
    refine T.aload_n dX11_makes_77 rfl 0 rfl ?_
    refine cR107 k1457 dX11_makes_78 ?_
    refine T.aload_n dX11_makes_81 rfl 0 rfl ?_
    refine gR31 k1456 dX11_makes_82 (fun x17 => ?_)
    refine T.iconst (w := 1) dX11_makes_85 (by decide) ?_
    refine T.isub dX11_makes_86 (fun x18 => ?_)
    refine alR60 dX11_makes_87 (fun x19 => ?_)
    refine asR74 dX11_makes_88 (fun X20 => ?_)
    refine T.aload_n dX11_makes_89 rfl 0 rfl ?_
    refine cR122 k1475 dX11_makes_90 ?_
    refine T.aload_n dX11_makes_93 rfl 0 rfl ?_
    refine cR112 k1464 dX11_makes_94 ?_
    refine T.iload_n dX11_makes_97 rfl 2 rfl ?_
    refine alR65 dX11_makes_98 (fun x21 => ?_)
    refine T.iload dX11_makes_99 3 rfl ?_
    refine T.iadd dX11_makes_101 (fun x22 => ?_)
    refine T.aload_n dX11_makes_102 rfl 0 rfl ?_
    refine cR108 k1458 dX11_makes_103 ?_
    refine T.aload_n dX11_makes_106 rfl 0 rfl ?_
    refine gR31 k1456 dX11_makes_107 (fun x23 => ?_)
    refine T.iconst (w := 1) dX11_makes_110 (by decide) ?_
    refine T.isub dX11_makes_111 (fun x24 => ?_)
    refine alR61 dX11_makes_112 (fun x25 => ?_)
    refine asR75 dX11_makes_113 (fun X26 => ?_)
    refine T.iinc dX11_makes_114 3 rfl (by decide) (lvf := fun x27 => [(4, .int x27), (0, .ref (Γ.2.2.2.1 0)), (2, .int a2), (3, .int a3)]) (fun _ => rfl) (fun x27 => ?_)
    refine T.goto (pc1 := 58) dX11_makes_117 (by decide) ?_
    refine T.sub [1, 2, 3, 0] rfl ?_
    exact hr58 a2 a3 x27 X26
noncomputable def f_makes (p1 : Int32) (X : St) : Option (Int32 × St) :=
  letV (X.1 0 31) fun x1 =>
  letV (x1 - (2 : Int32)) fun x2 =>
  chk (inR x2 20400) (letV (X.1 61 (ix x2)) fun x3 =>
  bnd (f_in x3 (0 : Int32) (1000 : Int32) X) fun x4 X5 =>
  if x4.toInt = 0 then
    chk (inR p1 3100) (letV (X5.1 21 (ix p1)) fun x28 =>
    bnd (f_ends (1 : Int32) x28 X5) fun _ X29 =>
    some (0, X29))
  else
    chk (inR p1 3100) (letV (X5.1 21 (ix p1)) fun x6 =>
    bnd (f_row x3 x6 X5) fun x7 X8 =>
    bnd (f_isOn X8) fun x9 X10 =>
    if x9.toInt = 0 then
      some (0, X10)
    else
      f_makes_58 BIG x3 x7 (0 : Int32) X10))
set_option maxHeartbeats 4000000 in
set_option maxRecDepth 100000 in
theorem c_makes (Γ : Gx) (p1 : Int32) (X : St) : TMV YR Γ yX11_makes cX11_makes 5 "BlameCourtModel" none R_makes [.ref (Γ.2.2.2.1 0), .int p1] X (f_makes p1 X) := by
  refine TMV.of (by decide) (Nat.le_of_ble_eq_true rfl) rfl ?_
  show T YR Γ cX11_makes 5 "BlameCourtModel" none R_makes _ qV 0 [(0, .ref (Γ.2.2.2.1 0)), (1, .int p1)] [] X (f_makes p1 X)
  unfold f_makes
  refine T.aload_n dX11_makes_0 rfl 0 rfl ?_
  refine cR108 k1458 dX11_makes_1 ?_
  refine T.aload_n dX11_makes_4 rfl 0 rfl ?_
  refine gR31 k1456 dX11_makes_5 (fun x1 => ?_)
  refine T.iconst (w := 2) dX11_makes_8 (by decide) ?_
  refine T.isub dX11_makes_9 (fun x2 => ?_)
  refine alR61 dX11_makes_10 (fun x3 => ?_)
  refine T.istore_n (lv1 := [(2, .int x3), (0, .ref (Γ.2.2.2.1 0)), (1, .int p1)]) dX11_makes_11 rfl (by decide) rfl ?_
  refine T.iload_n dX11_makes_12 rfl 0 rfl ?_
  refine T.iconst (w := 0) dX11_makes_13 (by decide) ?_
  refine T.sipush (w := 1000) dX11_makes_14 (by decide) ?_
  refine T.callS_i (As1 := [.int x3, .int 0, .int 1000]) (rest := []) (c_in Γ x3 (0 : Int32) (1000 : Int32) X) ka_X11_in k1766 k1765 rfl rfl rfl rfl ⟨Nat.le_of_ble_eq_true rfl, Nat.le_of_ble_eq_true rfl⟩ (Nat.le_of_ble_eq_true rfl) dX11_makes_17 (fun x4 X5 => ?_)
  refine T.if_ne (pc1 := 35) dX11_makes_20 (by decide) ?_ ?_
  · refine T.aload_n dX11_makes_35 rfl 1 rfl ?_
    refine T.iload_n dX11_makes_36 rfl 0 rfl ?_
    refine T.aload_n dX11_makes_37 rfl 1 rfl ?_
    refine cR68 k1406 dX11_makes_38 ?_
    refine T.iload_n dX11_makes_41 rfl 2 rfl ?_
    refine alR21 dX11_makes_42 (fun x6 => ?_)
    refine T.callV_i 0 (As1 := [.int x3, .int x6]) (rest := []) (c_row Γ x3 x6 X5) ka_X11_row kv_X11_row oR rfl k2156 rfl rfl rfl rfl ⟨Nat.le_of_ble_eq_true rfl, Nat.le_of_ble_eq_true rfl⟩ (Nat.le_of_ble_eq_true rfl) dX11_makes_43 (fun x7 X8 => ?_)
    refine T.istore_n (lv1 := [(3, .int x7), (2, .int x3), (0, .ref (Γ.2.2.2.1 0)), (1, .int p1)]) dX11_makes_46 rfl (by decide) rfl ?_
    refine T.aload_n dX11_makes_47 rfl 2 rfl ?_
    refine T.callV_i 0 (As1 := []) (rest := []) (c_isOn Γ X8) ka_X11_isOn kv_X11_isOn oR rfl k2108 rfl rfl rfl rfl ⟨Nat.le_of_ble_eq_true rfl, Nat.le_of_ble_eq_true rfl⟩ (Nat.le_of_ble_eq_true rfl) dX11_makes_48 (fun x9 X10 => ?_)
    refine T.if_ne (pc1 := 55) dX11_makes_51 (by decide) ?_ ?_
    · refine T.iconst (w := 0) dX11_makes_55 (by decide) ?_
      refine T.istore (lv1 := [(4, .int 0), (3, .int x7), (2, .int x3), (0, .ref (Γ.2.2.2.1 0)), (1, .int p1)]) dX11_makes_56 (by decide) rfl ?_
      refine T.sub [3, 2, 1, 0] rfl ?_
      exact c_makes_58 Γ _ BIG x3 x7 (0 : Int32) X10
    · exact T.ret_v rfl dX11_makes_54
  · refine T.aload_n dX11_makes_23 rfl 1 rfl ?_
    refine T.iconst (w := 1) dX11_makes_24 (by decide) ?_
    refine T.aload_n dX11_makes_25 rfl 1 rfl ?_
    refine cR68 k1406 dX11_makes_26 ?_
    refine T.iload_n dX11_makes_29 rfl 2 rfl ?_
    refine alR21 dX11_makes_30 (fun x28 => ?_)
    refine T.callV_v 0 (As1 := [.int 1, .int x28]) (rest := []) (c_ends Γ (1 : Int32) x28 X5) ka_X11_ends kv_X11_ends oR rfl k2104 rfl rfl rfl rfl ⟨Nat.le_of_ble_eq_true rfl, Nat.le_of_ble_eq_true rfl⟩ (Nat.le_of_ble_eq_true rfl) dX11_makes_31 (fun _ X29 => ?_)
    exact T.ret_v rfl dX11_makes_34
abbrev R_sums : Room := { frames := 10, cells := 0, slots := 0, locals := 150 }
noncomputable def f_sums_70 (a1 : Int32) (a2 : Int32) (a3 : Int32) (X : St) : Option (Int32 × St) :=
  chk (inR a1 3100) (letV (X.1 26 (ix a1)) fun x10 =>
  if x10.toInt = 42 then
    letV (a2 * a3) fun x12 =>
    bnd (f_value (0 : Int32) x12 X) fun _ X13 =>
    some (0, X13)
  else if x10.toInt = 43 then
    letV (a2 + a3) fun x15 =>
    bnd (f_value (0 : Int32) x15 X) fun _ X16 =>
    some (0, X16)
  else if x10.toInt = 45 then
    letV (a2 - a3) fun x18 =>
    bnd (f_value (0 : Int32) x18 X) fun _ X19 =>
    some (0, X19)
  else if x10.toInt = 47 then
    chk (¬ a3.toInt = 0) (letV (a2 / a3) fun x21 =>
    bnd (f_value (0 : Int32) x21 X) fun _ X23 =>
    some (0, X23))
  else chk (¬ a3.toInt = 0) (letV (a2 - a2 / a3 * a3) fun x24 =>
  bnd (f_value (0 : Int32) x24 X) fun _ X26 =>
  some (0, X26)))
set_option maxHeartbeats 4000000 in
set_option maxRecDepth 100000 in
theorem c_sums_70 (Γ : Gx) (As : List Value) (a1 : Int32) (a2 : Int32) (a3 : Int32) (X : St) : T YR Γ cX11_sums 4 "BlameCourtModel" none R_sums As qV 70 [(0, .ref (Γ.2.2.2.1 0)), (1, .int a1), (2, .int a2), (3, .int a3)] [] X (f_sums_70 a1 a2 a3 X) := by
  unfold f_sums_70
  refine T.aload_n dX11_sums_70 rfl 0 rfl ?_
  refine cR73 k1411 dX11_sums_71 ?_
  refine T.iload_n dX11_sums_74 rfl 1 rfl ?_
  refine alR26 dX11_sums_75 (fun x10 => ?_)
  refine T.ite (fun s11 => ?_) (fun s11 => ?_)
  · refine T.tbl (pc1 := 138) dX11_sums_76 (by decide) (off := 62) (by rw [s11]; rfl) (by decide) ?_
    refine T.aload_n dX11_sums_138 rfl 0 rfl ?_
    refine T.iconst (w := 0) dX11_sums_139 (by decide) ?_
    refine T.iload_n dX11_sums_140 rfl 2 rfl ?_
    refine T.iload_n dX11_sums_141 rfl 3 rfl ?_
    refine T.imul dX11_sums_142 (fun x12 => ?_)
    refine T.callV_v 0 (As1 := [.int 0, .int x12]) (rest := []) (c_value Γ (0 : Int32) x12 X) ka_X11_value kv_X11_value oR rfl k2116 rfl rfl rfl rfl ⟨Nat.le_of_ble_eq_true rfl, Nat.le_of_ble_eq_true rfl⟩ (Nat.le_of_ble_eq_true rfl) dX11_sums_143 (fun _ X13 => ?_)
    refine T.goto (pc1 := 168) dX11_sums_146 (by decide) ?_
    exact T.ret_v rfl dX11_sums_168
  refine T.ite (fun s14 => ?_) (fun s14 => ?_)
  · refine T.tbl (pc1 := 116) dX11_sums_76 (by decide) (off := 40) (by rw [s14]; rfl) (by decide) ?_
    refine T.aload_n dX11_sums_116 rfl 0 rfl ?_
    refine T.iconst (w := 0) dX11_sums_117 (by decide) ?_
    refine T.iload_n dX11_sums_118 rfl 2 rfl ?_
    refine T.iload_n dX11_sums_119 rfl 3 rfl ?_
    refine T.iadd dX11_sums_120 (fun x15 => ?_)
    refine T.callV_v 0 (As1 := [.int 0, .int x15]) (rest := []) (c_value Γ (0 : Int32) x15 X) ka_X11_value kv_X11_value oR rfl k2116 rfl rfl rfl rfl ⟨Nat.le_of_ble_eq_true rfl, Nat.le_of_ble_eq_true rfl⟩ (Nat.le_of_ble_eq_true rfl) dX11_sums_121 (fun _ X16 => ?_)
    refine T.goto (pc1 := 168) dX11_sums_124 (by decide) ?_
    exact T.ret_v rfl dX11_sums_168
  refine T.ite (fun s17 => ?_) (fun s17 => ?_)
  · refine T.tbl (pc1 := 127) dX11_sums_76 (by decide) (off := 51) (by rw [s17]; rfl) (by decide) ?_
    refine T.aload_n dX11_sums_127 rfl 0 rfl ?_
    refine T.iconst (w := 0) dX11_sums_128 (by decide) ?_
    refine T.iload_n dX11_sums_129 rfl 2 rfl ?_
    refine T.iload_n dX11_sums_130 rfl 3 rfl ?_
    refine T.isub dX11_sums_131 (fun x18 => ?_)
    refine T.callV_v 0 (As1 := [.int 0, .int x18]) (rest := []) (c_value Γ (0 : Int32) x18 X) ka_X11_value kv_X11_value oR rfl k2116 rfl rfl rfl rfl ⟨Nat.le_of_ble_eq_true rfl, Nat.le_of_ble_eq_true rfl⟩ (Nat.le_of_ble_eq_true rfl) dX11_sums_132 (fun _ X19 => ?_)
    refine T.goto (pc1 := 168) dX11_sums_135 (by decide) ?_
    exact T.ret_v rfl dX11_sums_168
  refine T.ite (fun s20 => ?_) (fun s20 => ?_)
  · refine T.tbl (pc1 := 149) dX11_sums_76 (by decide) (off := 73) (by rw [s20]; rfl) (by decide) ?_
    refine T.aload_n dX11_sums_149 rfl 0 rfl ?_
    refine T.iconst (w := 0) dX11_sums_150 (by decide) ?_
    refine T.iload_n dX11_sums_151 rfl 2 rfl ?_
    refine T.iload_n dX11_sums_152 rfl 3 rfl ?_
    refine T.ck (fun h22 => T.idiv dX11_sums_153 h22 (fun x21 => ?_))
    refine T.callV_v 0 (As1 := [.int 0, .int x21]) (rest := []) (c_value Γ (0 : Int32) x21 X) ka_X11_value kv_X11_value oR rfl k2116 rfl rfl rfl rfl ⟨Nat.le_of_ble_eq_true rfl, Nat.le_of_ble_eq_true rfl⟩ (Nat.le_of_ble_eq_true rfl) dX11_sums_154 (fun _ X23 => ?_)
    refine T.goto (pc1 := 168) dX11_sums_157 (by decide) ?_
    exact T.ret_v rfl dX11_sums_168
  refine T.tbl (pc1 := 160) dX11_sums_76 (by decide) (off := 84) (tbl_d [42, 43, 45, 47] (by intro q; simp only [List.mem_cons, List.not_mem_nil, or_false] at q; omega) (by decide)) (by decide) ?_
  refine T.aload_n dX11_sums_160 rfl 0 rfl ?_
  refine T.iconst (w := 0) dX11_sums_161 (by decide) ?_
  refine T.iload_n dX11_sums_162 rfl 2 rfl ?_
  refine T.iload_n dX11_sums_163 rfl 3 rfl ?_
  refine T.ck (fun h25 => T.irem dX11_sums_164 h25 (fun x24 => ?_))
  refine T.callV_v 0 (As1 := [.int 0, .int x24]) (rest := []) (c_value Γ (0 : Int32) x24 X) ka_X11_value kv_X11_value oR rfl k2116 rfl rfl rfl rfl ⟨Nat.le_of_ble_eq_true rfl, Nat.le_of_ble_eq_true rfl⟩ (Nat.le_of_ble_eq_true rfl) dX11_sums_165 (fun _ X26 => ?_)
  exact T.ret_v rfl dX11_sums_168
noncomputable def f_sums_54 (a1 : Int32) (a2 : Int32) (a3 : Int32) (X : St) : Option (Int32 × St) :=
  if a3.toInt = 0 then
    chk (inR a1 3100) (letV (X.1 22 (ix a1)) fun x27 =>
    bnd (f_ends (2 : Int32) x27 X) fun _ X28 =>
    some (0, X28))
  else
    f_sums_70 a1 a2 a3 X
set_option maxHeartbeats 4000000 in
set_option maxRecDepth 100000 in
theorem c_sums_54 (Γ : Gx) (As : List Value) (a1 : Int32) (a2 : Int32) (a3 : Int32) (X : St) : T YR Γ cX11_sums 4 "BlameCourtModel" none R_sums As qV 54 [(0, .ref (Γ.2.2.2.1 0)), (1, .int a1), (2, .int a2), (3, .int a3)] [] X (f_sums_54 a1 a2 a3 X) := by
  unfold f_sums_54
  refine T.iload_n dX11_sums_54 rfl 3 rfl ?_
  refine T.if_ne (pc1 := 70) dX11_sums_55 (by decide) ?_ ?_
  · exact c_sums_70 Γ _ a1 a2 a3 X
  · refine T.aload_n dX11_sums_58 rfl 0 rfl ?_
    refine T.iconst (w := 2) dX11_sums_59 (by decide) ?_
    refine T.aload_n dX11_sums_60 rfl 0 rfl ?_
    refine cR69 k1407 dX11_sums_61 ?_
    refine T.iload_n dX11_sums_64 rfl 1 rfl ?_
    refine alR22 dX11_sums_65 (fun x27 => ?_)
    refine T.callV_v 0 (As1 := [.int 2, .int x27]) (rest := []) (c_ends Γ (2 : Int32) x27 X) ka_X11_ends kv_X11_ends oR rfl k2104 rfl rfl rfl rfl ⟨Nat.le_of_ble_eq_true rfl, Nat.le_of_ble_eq_true rfl⟩ (Nat.le_of_ble_eq_true rfl) dX11_sums_66 (fun _ X28 => ?_)
    exact T.ret_v rfl dX11_sums_69
noncomputable def f_sums (p1 : Int32) (X : St) : Option (Int32 × St) :=
  letV (X.1 0 31) fun x1 =>
  letV (x1 - (2 : Int32)) fun x2 =>
  letV (wI X 0 31 x2) fun X3 =>
  letV (X3.1 0 31) fun x4 =>
  chk (inR x4 20400) (letV (X3.1 61 (ix x4)) fun x5 =>
  letV (X3.1 0 31) fun x6 =>
  letV (x6 + (1 : Int32)) fun x7 =>
  chk (inR x7 20400) (letV (X3.1 61 (ix x7)) fun x8 =>
  chk (inR p1 3100) (letV (X3.1 26 (ix p1)) fun x9 =>
  if x9.toInt = 47 then
    f_sums_54 p1 x5 x8 X3
  else
    chk (inR p1 3100) (letV (X3.1 26 (ix p1)) fun x29 =>
    if x29.toInt = 37 then
      f_sums_54 p1 x5 x8 X3
    else
      f_sums_70 p1 x5 x8 X3))))
set_option maxHeartbeats 4000000 in
set_option maxRecDepth 100000 in
theorem c_sums (Γ : Gx) (p1 : Int32) (X : St) : TMV YR Γ yX11_sums cX11_sums 4 "BlameCourtModel" none R_sums [.ref (Γ.2.2.2.1 0), .int p1] X (f_sums p1 X) := by
  refine TMV.of (by decide) (Nat.le_of_ble_eq_true rfl) rfl ?_
  show T YR Γ cX11_sums 4 "BlameCourtModel" none R_sums _ qV 0 [(0, .ref (Γ.2.2.2.1 0)), (1, .int p1)] [] X (f_sums p1 X)
  unfold f_sums
  refine T.aload_n dX11_sums_0 rfl 0 rfl ?_
  refine T.dupr dX11_sums_1 ?_
  refine gR31 k1456 dX11_sums_2 (fun x1 => ?_)
  refine T.iconst (w := 2) dX11_sums_5 (by decide) ?_
  refine T.isub dX11_sums_6 (fun x2 => ?_)
  refine pR31 k1456 dX11_sums_7 (fun X3 => ?_)
  refine T.aload_n dX11_sums_10 rfl 0 rfl ?_
  refine cR108 k1458 dX11_sums_11 ?_
  refine T.aload_n dX11_sums_14 rfl 0 rfl ?_
  refine gR31 k1456 dX11_sums_15 (fun x4 => ?_)
  refine alR61 dX11_sums_18 (fun x5 => ?_)
  refine T.istore_n (lv1 := [(2, .int x5), (0, .ref (Γ.2.2.2.1 0)), (1, .int p1)]) dX11_sums_19 rfl (by decide) rfl ?_
  refine T.aload_n dX11_sums_20 rfl 1 rfl ?_
  refine cR108 k1458 dX11_sums_21 ?_
  refine T.aload_n dX11_sums_24 rfl 1 rfl ?_
  refine gR31 k1456 dX11_sums_25 (fun x6 => ?_)
  refine T.iconst (w := 1) dX11_sums_28 (by decide) ?_
  refine T.iadd dX11_sums_29 (fun x7 => ?_)
  refine alR61 dX11_sums_30 (fun x8 => ?_)
  refine T.istore_n (lv1 := [(3, .int x8), (2, .int x5), (0, .ref (Γ.2.2.2.1 0)), (1, .int p1)]) dX11_sums_31 rfl (by decide) rfl ?_
  refine T.aload_n dX11_sums_32 rfl 2 rfl ?_
  refine cR73 k1411 dX11_sums_33 ?_
  refine T.iload_n dX11_sums_36 rfl 3 rfl ?_
  refine alR26 dX11_sums_37 (fun x9 => ?_)
  refine T.bipush (w := 47) dX11_sums_38 (by decide) ?_
  refine T.icmp_eq (pc1 := 54) dX11_sums_40 (by decide) rfl ?_ ?_
  · refine T.sub [2, 3, 1, 0] rfl ?_
    exact c_sums_54 Γ _ p1 x5 x8 X3
  · refine T.aload_n dX11_sums_43 rfl 2 rfl ?_
    refine cR73 k1411 dX11_sums_44 ?_
    refine T.iload_n dX11_sums_47 rfl 3 rfl ?_
    refine alR26 dX11_sums_48 (fun x29 => ?_)
    refine T.bipush (w := 37) dX11_sums_49 (by decide) ?_
    refine T.icmp_ne (pc1 := 70) dX11_sums_51 (by decide) rfl ?_ ?_
    · refine T.sub [2, 3, 1, 0] rfl ?_
      exact c_sums_70 Γ _ p1 x5 x8 X3
    · refine T.sub [2, 3, 1, 0] rfl ?_
      exact c_sums_54 Γ _ p1 x5 x8 X3
abbrev R_aroundOf : Room := { frames := 6, cells := 0, slots := 0, locals := 90 }
noncomputable def f_aroundOf_4_s (r4 : Int32 → Int32 → St → Option (Int32 × St)) (a2 : Int32) (a3 : Int32) (X : St) : Option (Int32 × St) :=
  chk (inR a3 1000) (letV (X.1 64 (ix a3)) fun x1 =>
  if x1.toInt = 0 then
    some (a2, X)
  else
    chk (inR a2 21) (letV (wI X 81 (ix a2) a3) fun X2 =>
    letV (a2 + Int32.ofInt (1)) fun x3 =>
    chk (inR a3 1000) (letV (X2.1 67 (ix a3)) fun x4 =>
    r4 x3 x4 X2)))
noncomputable def f_aroundOf_4 (n : Nat) : Int32 → Int32 → St → Option (Int32 × St) := lp (fun _ _ _ => none) (f_aroundOf_4_s) n
set_option maxHeartbeats 4000000 in
set_option maxRecDepth 100000 in
theorem c_aroundOf_4 (Γ : Gx) (As : List Value) (n : Nat) : ∀ (a2 : Int32) (a3 : Int32) (X : St), T YR Γ cX11_aroundOf 4 "BlameCourtModel" (some .int) R_aroundOf As qI 4 [(0, .ref (Γ.2.2.2.1 0)), (2, .int a2), (3, .int a3)] [] X (f_aroundOf_4 n a2 a3 X) := by
  unfold f_aroundOf_4
  refine lp_ind (P := fun (r4 : Int32 → Int32 → St → Option (Int32 × St)) => ∀ (a2 : Int32) (a3 : Int32) (X : St), T YR Γ cX11_aroundOf 4 "BlameCourtModel" (some .int) R_aroundOf As qI 4 [(0, .ref (Γ.2.2.2.1 0)), (2, .int a2), (3, .int a3)] [] X (r4 a2 a3 X)) (fun _ _ _ => T.no) ?_ n
  intro r4 hr4 a2 a3 X
  unfold f_aroundOf_4_s
  refine T.aload_n dX11_aroundOf_4 rfl 0 rfl ?_
  refine cR111 k1463 dX11_aroundOf_5 ?_
  refine T.iload_n dX11_aroundOf_8 rfl 2 rfl ?_
  refine alR64 dX11_aroundOf_9 (fun x1 => ?_)
  refine T.if_eq (pc1 := 33) dX11_aroundOf_10 (by decide) ?_ ?_
  · refine T.iload_n dX11_aroundOf_33 rfl 1 rfl ?_
    exact T.ret_i rfl dX11_aroundOf_34
  · refine T.aload_n dX11_aroundOf_13 rfl 0 rfl ?_
    refine cR128 k1493 dX11_aroundOf_14 ?_
    refine T.iload_n dX11_aroundOf_17 rfl 1 rfl ?_
    refine T.iload_n dX11_aroundOf_18 rfl 2 rfl ?_
    refine asR81 dX11_aroundOf_19 (fun X2 => ?_)
    refine T.iinc dX11_aroundOf_20 1 rfl (by decide) (lvf := fun x3 => [(2, .int x3), (0, .ref (Γ.2.2.2.1 0)), (3, .int a3)]) (fun _ => rfl) (fun x3 => ?_)
    refine T.aload_n dX11_aroundOf_23 rfl 1 rfl ?_
    refine cR114 k1466 dX11_aroundOf_24 ?_
    refine T.iload_n dX11_aroundOf_27 rfl 2 rfl ?_
    refine alR67 dX11_aroundOf_28 (fun x4 => ?_)
    refine T.istore_n (lv1 := [(3, .int x4), (2, .int x3), (0, .ref (Γ.2.2.2.1 0))]) dX11_aroundOf_29 rfl (by decide) rfl ?_
    refine T.goto (pc1 := 4) dX11_aroundOf_30 (by decide) ?_
    refine T.sub [2, 1, 0] rfl ?_
    exact hr4 x3 x4 X2
noncomputable def f_aroundOf (p1 : Int32) (X : St) : Option (Int32 × St) :=
  f_aroundOf_4 BIG (0 : Int32) p1 X
set_option maxHeartbeats 4000000 in
set_option maxRecDepth 100000 in
theorem c_aroundOf (Γ : Gx) (p1 : Int32) (X : St) : TMI YR Γ yX11_aroundOf cX11_aroundOf 4 "BlameCourtModel" (some .int) R_aroundOf [.ref (Γ.2.2.2.1 0), .int p1] X (f_aroundOf p1 X) := by
  refine TMI.of (by decide) (Nat.le_of_ble_eq_true rfl) rfl ?_
  show T YR Γ cX11_aroundOf 4 "BlameCourtModel" (some .int) R_aroundOf _ qI 0 [(0, .ref (Γ.2.2.2.1 0)), (1, .int p1)] [] X (f_aroundOf p1 X)
  unfold f_aroundOf
  refine T.iconst (w := 0) dX11_aroundOf_0 (by decide) ?_
  refine T.istore_n (lv1 := [(2, .int 0), (0, .ref (Γ.2.2.2.1 0)), (1, .int p1)]) dX11_aroundOf_1 rfl (by decide) rfl ?_
  refine T.iload_n dX11_aroundOf_2 rfl 2 rfl ?_
  refine T.istore_n (lv1 := [(3, .int p1), (2, .int 0), (0, .ref (Γ.2.2.2.1 0)), (1, .int p1)]) dX11_aroundOf_3 rfl (by decide) rfl ?_
  refine T.sub [2, 1, 0] rfl ?_
  exact c_aroundOf_4 Γ _ BIG (0 : Int32) p1 X
abbrev R_readsPlace : Room := { frames := 18, cells := 0, slots := 0, locals := 270 }
noncomputable def f_readsPlace_126_s (r126 : Int32 → Int32 → St → Option (Int32 × St)) (a2 : Int32) (a6 : Int32) (X : St) : Option (Int32 × St) :=
  if a6.toInt < 0 then
    some (0, X)
  else
    bnd (f_isOn X) fun x27 X28 =>
    if x27.toInt = 0 then
      some (0, X28)
    else
      chk (inR a6 21) (letV (X28.1 81 (ix a6)) fun x29 =>
      chk (inR x29 1000) (letV (X28.1 68 (ix x29)) fun x30 =>
      bnd (f_elementOf x30 X28) fun x31 X32 =>
      chk (inR x29 1000) (letV (X32.1 69 (ix x29)) fun x33 =>
      bnd (f_elementOf x33 X32) fun x34 X35 =>
      chk (inR x29 1000) (letV (X35.1 70 (ix x29)) fun x36 =>
      chk (inR x29 1000) (letV (X35.1 71 (ix x29)) fun x37 =>
      chk (inR x29 1000) (letV (X35.1 72 (ix x29)) fun x38 =>
      bnd (f_asks a2 x31 x34 x36 x37 x38 X35) fun _ X39 =>
      letV (a6 + Int32.ofInt (-1)) fun x40 =>
      r126 a2 x40 X39))))))
noncomputable def f_readsPlace_126 (n : Nat) : Int32 → Int32 → St → Option (Int32 × St) := lp (fun _ _ _ => none) (f_readsPlace_126_s) n
set_option maxHeartbeats 4000000 in
set_option maxRecDepth 100000 in
theorem c_readsPlace_126 (Γ : Gx) (As : List Value) (n : Nat) : ∀ (a2 : Int32) (a6 : Int32) (X : St), T YR Γ cX11_readsPlace 8 "BlameCourtModel" none R_readsPlace As qV 126 [(0, .ref (Γ.2.2.2.1 0)), (2, .int a2), (6, .int a6)] [] X (f_readsPlace_126 n a2 a6 X) := by
  unfold f_readsPlace_126
  refine lp_ind (P := fun (r126 : Int32 → Int32 → St → Option (Int32 × St)) => ∀ (a2 : Int32) (a6 : Int32) (X : St), T YR Γ cX11_readsPlace 8 "BlameCourtModel" none R_readsPlace As qV 126 [(0, .ref (Γ.2.2.2.1 0)), (2, .int a2), (6, .int a6)] [] X (r126 a2 a6 X)) (fun _ _ _ => T.no) ?_ n
  intro r126 hr126 a2 a6 X
  unfold f_readsPlace_126_s
  refine T.iload dX11_readsPlace_126 2 rfl ?_
  refine T.if_lt (pc1 := 201) dX11_readsPlace_128 (by decide) ?_ ?_
  · exact T.ret_v rfl dX11_readsPlace_201
  · refine T.aload_n dX11_readsPlace_131 rfl 0 rfl ?_
    refine T.callV_i 0 (As1 := []) (rest := []) (c_isOn Γ X) ka_X11_isOn kv_X11_isOn oR rfl k2108 rfl rfl rfl rfl ⟨Nat.le_of_ble_eq_true rfl, Nat.le_of_ble_eq_true rfl⟩ (Nat.le_of_ble_eq_true rfl) dX11_readsPlace_132 (fun x27 X28 => ?_)
    refine T.if_eq (pc1 := 201) dX11_readsPlace_135 (by decide) ?_ ?_
    · exact T.ret_v rfl dX11_readsPlace_201
    · refine T.aload_n dX11_readsPlace_138 rfl 0 rfl ?_
      refine cR128 k1493 dX11_readsPlace_139 ?_
      refine T.iload dX11_readsPlace_142 2 rfl ?_
      refine alR81 dX11_readsPlace_144 (fun x29 => ?_)
      refine T.istore (lv1 := [(7, .int x29), (0, .ref (Γ.2.2.2.1 0)), (2, .int a2), (6, .int a6)]) dX11_readsPlace_145 (by decide) rfl ?_
      refine T.aload_n dX11_readsPlace_147 rfl 1 rfl ?_
      refine T.iload_n dX11_readsPlace_148 rfl 2 rfl ?_
      refine T.aload_n dX11_readsPlace_149 rfl 1 rfl ?_
      refine T.aload_n dX11_readsPlace_150 rfl 1 rfl ?_
      refine cR115 k1467 dX11_readsPlace_151 ?_
      refine T.iload dX11_readsPlace_154 0 rfl ?_
      refine alR68 dX11_readsPlace_156 (fun x30 => ?_)
      refine T.callV_i 0 (As1 := [.int x30]) (rest := [.int a2, .ref (Γ.2.2.2.1 0)]) (c_elementOf Γ x30 X28) ka_X11_elementOf kv_X11_elementOf oR rfl k2048 rfl rfl rfl rfl ⟨Nat.le_of_ble_eq_true rfl, Nat.le_of_ble_eq_true rfl⟩ (Nat.le_of_ble_eq_true rfl) dX11_readsPlace_157 (fun x31 X32 => ?_)
      refine T.aload_n dX11_readsPlace_160 rfl 1 rfl ?_
      refine T.aload_n dX11_readsPlace_161 rfl 1 rfl ?_
      refine cR116 k1468 dX11_readsPlace_162 ?_
      refine T.iload dX11_readsPlace_165 0 rfl ?_
      refine alR69 dX11_readsPlace_167 (fun x33 => ?_)
      refine T.callV_i 0 (As1 := [.int x33]) (rest := [.int x31, .int a2, .ref (Γ.2.2.2.1 0)]) (c_elementOf Γ x33 X32) ka_X11_elementOf kv_X11_elementOf oR rfl k2048 rfl rfl rfl rfl ⟨Nat.le_of_ble_eq_true rfl, Nat.le_of_ble_eq_true rfl⟩ (Nat.le_of_ble_eq_true rfl) dX11_readsPlace_168 (fun x34 X35 => ?_)
      refine T.aload_n dX11_readsPlace_171 rfl 1 rfl ?_
      refine cR117 k1469 dX11_readsPlace_172 ?_
      refine T.iload dX11_readsPlace_175 0 rfl ?_
      refine alR70 dX11_readsPlace_177 (fun x36 => ?_)
      refine T.aload_n dX11_readsPlace_178 rfl 1 rfl ?_
      refine cR118 k1470 dX11_readsPlace_179 ?_
      refine T.iload dX11_readsPlace_182 0 rfl ?_
      refine alR71 dX11_readsPlace_184 (fun x37 => ?_)
      refine T.aload_n dX11_readsPlace_185 rfl 1 rfl ?_
      refine cR119 k1471 dX11_readsPlace_186 ?_
      refine T.iload dX11_readsPlace_189 0 rfl ?_
      refine alR72 dX11_readsPlace_191 (fun x38 => ?_)
      refine T.callV_v 0 (As1 := [.int a2, .int x31, .int x34, .int x36, .int x37, .int x38]) (rest := []) (c_asks Γ a2 x31 x34 x36 x37 x38 X35) ka_X11_asks kv_X11_asks oR rfl k2124 rfl rfl rfl rfl ⟨Nat.le_of_ble_eq_true rfl, Nat.le_of_ble_eq_true rfl⟩ (Nat.le_of_ble_eq_true rfl) dX11_readsPlace_192 (fun _ X39 => ?_)
      refine T.iinc dX11_readsPlace_195 3 rfl (by decide) (lvf := fun x40 => [(6, .int x40), (7, .int x29), (0, .ref (Γ.2.2.2.1 0)), (2, .int a2)]) (fun _ => rfl) (fun x40 => ?_)
      refine T.goto (pc1 := 126) dX11_readsPlace_198 (by decide) ?_
      refine T.sub [2, 3, 0] rfl ?_
      exact hr126 a2 x40 X39
noncomputable def f_readsPlace (p1 : Int32) (X : St) : Option (Int32 × St) :=
  letV (X.1 0 31) fun x1 =>
  letV (x1 - (2 : Int32)) fun x2 =>
  chk (inR x2 20400) (letV (X.1 61 (ix x2)) fun x3 =>
  bnd (f_within (3 : Int32) x3 X) fun x4 X5 =>
  letV (X5.1 0 31) fun x6 =>
  letV (x6 - (1 : Int32)) fun x7 =>
  chk (inR x7 20400) (letV (X5.1 61 (ix x7)) fun x8 =>
  chk (inR x4 1000) (letV (X5.1 66 (ix x4)) fun x9 =>
  letV (x9 - (1 : Int32)) fun x10 =>
  bnd (f_in x8 (0 : Int32) x10 X5) fun x11 X12 =>
  if x11.toInt = 0 then
    chk (inR p1 3100) (letV (X12.1 22 (ix p1)) fun x41 =>
    bnd (f_ends (1 : Int32) x41 X12) fun _ X42 =>
    some (0, X42))
  else
    letV (X12.1 0 31) fun x13 =>
    letV (x13 - (1 : Int32)) fun x14 =>
    letV (wI X12 0 31 x14) fun X15 =>
    chk (inR x4 1000) (letV (X15.1 65 (ix x4)) fun x16 =>
    letV (x16 + x8) fun x17 =>
    chk (inR x17 4000) (letV (X15.1 74 (ix x17)) fun x18 =>
    chk (inR x2 20400) (letV (wI X15 60 (ix x2) x18) fun X19 =>
    chk (inR x4 1000) (letV (X19.1 65 (ix x4)) fun x20 =>
    letV (x20 + x8) fun x21 =>
    chk (inR x21 4000) (letV (X19.1 75 (ix x21)) fun x22 =>
    chk (inR x2 20400) (letV (wI X19 61 (ix x2) x22) fun X23 =>
    bnd (f_aroundOf x3 X23) fun x24 X25 =>
    letV (x24 - (1 : Int32)) fun x26 =>
    f_readsPlace_126 BIG x2 x26 X25)))))))))
set_option maxHeartbeats 4000000 in
set_option maxRecDepth 100000 in
theorem c_readsPlace (Γ : Gx) (p1 : Int32) (X : St) : TMV YR Γ yX11_readsPlace cX11_readsPlace 8 "BlameCourtModel" none R_readsPlace [.ref (Γ.2.2.2.1 0), .int p1] X (f_readsPlace p1 X) := by
  refine TMV.of (by decide) (Nat.le_of_ble_eq_true rfl) rfl ?_
  show T YR Γ cX11_readsPlace 8 "BlameCourtModel" none R_readsPlace _ qV 0 [(0, .ref (Γ.2.2.2.1 0)), (1, .int p1)] [] X (f_readsPlace p1 X)
  unfold f_readsPlace
  refine T.aload_n dX11_readsPlace_0 rfl 0 rfl ?_
  refine gR31 k1456 dX11_readsPlace_1 (fun x1 => ?_)
  refine T.iconst (w := 2) dX11_readsPlace_4 (by decide) ?_
  refine T.isub dX11_readsPlace_5 (fun x2 => ?_)
  refine T.istore_n (lv1 := [(2, .int x2), (0, .ref (Γ.2.2.2.1 0)), (1, .int p1)]) dX11_readsPlace_6 rfl (by decide) rfl ?_
  refine T.aload_n dX11_readsPlace_7 rfl 1 rfl ?_
  refine cR108 k1458 dX11_readsPlace_8 ?_
  refine T.iload_n dX11_readsPlace_11 rfl 0 rfl ?_
  refine alR61 dX11_readsPlace_12 (fun x3 => ?_)
  refine T.istore_n (lv1 := [(3, .int x3), (2, .int x2), (0, .ref (Γ.2.2.2.1 0)), (1, .int p1)]) dX11_readsPlace_13 rfl (by decide) rfl ?_
  refine T.aload_n dX11_readsPlace_14 rfl 2 rfl ?_
  refine T.iconst (w := 3) dX11_readsPlace_15 (by decide) ?_
  refine T.iload_n dX11_readsPlace_16 rfl 0 rfl ?_
  refine T.callV_i 0 (As1 := [.int 3, .int x3]) (rest := []) (c_within Γ (3 : Int32) x3 X) ka_X11_within kv_X11_within oR rfl k2132 rfl rfl rfl rfl ⟨Nat.le_of_ble_eq_true rfl, Nat.le_of_ble_eq_true rfl⟩ (Nat.le_of_ble_eq_true rfl) dX11_readsPlace_17 (fun x4 X5 => ?_)
  refine T.istore (lv1 := [(4, .int x4), (3, .int x3), (2, .int x2), (0, .ref (Γ.2.2.2.1 0)), (1, .int p1)]) dX11_readsPlace_20 (by decide) rfl ?_
  refine T.aload_n dX11_readsPlace_22 rfl 3 rfl ?_
  refine cR108 k1458 dX11_readsPlace_23 ?_
  refine T.aload_n dX11_readsPlace_26 rfl 3 rfl ?_
  refine gR31 k1456 dX11_readsPlace_27 (fun x6 => ?_)
  refine T.iconst (w := 1) dX11_readsPlace_30 (by decide) ?_
  refine T.isub dX11_readsPlace_31 (fun x7 => ?_)
  refine alR61 dX11_readsPlace_32 (fun x8 => ?_)
  refine T.istore (lv1 := [(5, .int x8), (4, .int x4), (3, .int x3), (2, .int x2), (0, .ref (Γ.2.2.2.1 0)), (1, .int p1)]) dX11_readsPlace_33 (by decide) rfl ?_
  refine T.iload dX11_readsPlace_35 0 rfl ?_
  refine T.iconst (w := 0) dX11_readsPlace_37 (by decide) ?_
  refine T.aload_n dX11_readsPlace_38 rfl 4 rfl ?_
  refine cR113 k1465 dX11_readsPlace_39 ?_
  refine T.iload dX11_readsPlace_42 1 rfl ?_
  refine alR66 dX11_readsPlace_44 (fun x9 => ?_)
  refine T.iconst (w := 1) dX11_readsPlace_45 (by decide) ?_
  refine T.isub dX11_readsPlace_46 (fun x10 => ?_)
  refine T.callS_i (As1 := [.int x8, .int 0, .int x10]) (rest := []) (c_in Γ x8 (0 : Int32) x10 X5) ka_X11_in k1766 k1765 rfl rfl rfl rfl ⟨Nat.le_of_ble_eq_true rfl, Nat.le_of_ble_eq_true rfl⟩ (Nat.le_of_ble_eq_true rfl) dX11_readsPlace_47 (fun x11 X12 => ?_)
  refine T.if_ne (pc1 := 65) dX11_readsPlace_50 (by decide) ?_ ?_
  · refine T.aload_n dX11_readsPlace_65 rfl 4 rfl ?_
    refine T.dupr dX11_readsPlace_66 ?_
    refine gR31 k1456 dX11_readsPlace_67 (fun x13 => ?_)
    refine T.iconst (w := 1) dX11_readsPlace_70 (by decide) ?_
    refine T.isub dX11_readsPlace_71 (fun x14 => ?_)
    refine pR31 k1456 dX11_readsPlace_72 (fun X15 => ?_)
    refine T.aload_n dX11_readsPlace_75 rfl 4 rfl ?_
    refine cR107 k1457 dX11_readsPlace_76 ?_
    refine T.iload_n dX11_readsPlace_79 rfl 3 rfl ?_
    refine T.aload_n dX11_readsPlace_80 rfl 4 rfl ?_
    refine cR121 k1474 dX11_readsPlace_81 ?_
    refine T.aload_n dX11_readsPlace_84 rfl 4 rfl ?_
    refine cR112 k1464 dX11_readsPlace_85 ?_
    refine T.iload dX11_readsPlace_88 1 rfl ?_
    refine alR65 dX11_readsPlace_90 (fun x16 => ?_)
    refine T.iload dX11_readsPlace_91 0 rfl ?_
    refine T.iadd dX11_readsPlace_93 (fun x17 => ?_)
    refine alR74 dX11_readsPlace_94 (fun x18 => ?_)
    refine asR60 dX11_readsPlace_95 (fun X19 => ?_)
    refine T.aload_n dX11_readsPlace_96 rfl 4 rfl ?_
    refine cR108 k1458 dX11_readsPlace_97 ?_
    refine T.iload_n dX11_readsPlace_100 rfl 3 rfl ?_
    refine T.aload_n dX11_readsPlace_101 rfl 4 rfl ?_
    refine cR122 k1475 dX11_readsPlace_102 ?_
    refine T.aload_n dX11_readsPlace_105 rfl 4 rfl ?_
    refine cR112 k1464 dX11_readsPlace_106 ?_
    refine T.iload dX11_readsPlace_109 1 rfl ?_
    refine alR65 dX11_readsPlace_111 (fun x20 => ?_)
    refine T.iload dX11_readsPlace_112 0 rfl ?_
    refine T.iadd dX11_readsPlace_114 (fun x21 => ?_)
    refine alR75 dX11_readsPlace_115 (fun x22 => ?_)
    refine asR61 dX11_readsPlace_116 (fun X23 => ?_)
    refine T.aload_n dX11_readsPlace_117 rfl 4 rfl ?_
    refine T.iload_n dX11_readsPlace_118 rfl 2 rfl ?_
    refine T.callV_i 0 (As1 := [.int x3]) (rest := []) (c_aroundOf Γ x3 X23) ka_X11_aroundOf kv_X11_aroundOf oR rfl k2172 rfl rfl rfl rfl ⟨Nat.le_of_ble_eq_true rfl, Nat.le_of_ble_eq_true rfl⟩ (Nat.le_of_ble_eq_true rfl) dX11_readsPlace_119 (fun x24 X25 => ?_)
    refine T.iconst (w := 1) dX11_readsPlace_122 (by decide) ?_
    refine T.isub dX11_readsPlace_123 (fun x26 => ?_)
    refine T.istore (lv1 := [(6, .int x26), (5, .int x8), (4, .int x4), (3, .int x3), (2, .int x2), (0, .ref (Γ.2.2.2.1 0)), (1, .int p1)]) dX11_readsPlace_124 (by decide) rfl ?_
    refine T.sub [5, 4, 0] rfl ?_
    exact c_readsPlace_126 Γ _ BIG x2 x26 X25
  · refine T.aload_n dX11_readsPlace_53 rfl 4 rfl ?_
    refine T.iconst (w := 1) dX11_readsPlace_54 (by decide) ?_
    refine T.aload_n dX11_readsPlace_55 rfl 4 rfl ?_
    refine cR69 k1407 dX11_readsPlace_56 ?_
    refine T.iload_n dX11_readsPlace_59 rfl 5 rfl ?_
    refine alR22 dX11_readsPlace_60 (fun x41 => ?_)
    refine T.callV_v 0 (As1 := [.int 1, .int x41]) (rest := []) (c_ends Γ (1 : Int32) x41 X12) ka_X11_ends kv_X11_ends oR rfl k2104 rfl rfl rfl rfl ⟨Nat.le_of_ble_eq_true rfl, Nat.le_of_ble_eq_true rfl⟩ (Nat.le_of_ble_eq_true rfl) dX11_readsPlace_61 (fun _ X42 => ?_)
    exact T.ret_v rfl dX11_readsPlace_64
abbrev R_writes : Room := { frames := 18, cells := 0, slots := 0, locals := 270 }
noncomputable def f_writes_242 (a2 : Int32) (a6 : Int32) (a7 : Int32) (X : St) : Option (Int32 × St) :=
  letV (wI X 0 31 a2) fun X23 =>
  bnd (f_value a6 a7 X23) fun _ X24 =>
  some (0, X24)
set_option maxHeartbeats 4000000 in
set_option maxRecDepth 100000 in
theorem c_writes_242 (Γ : Gx) (As : List Value) (a2 : Int32) (a6 : Int32) (a7 : Int32) (X : St) : T YR Γ cX11_writes 11 "BlameCourtModel" none R_writes As qV 242 [(0, .ref (Γ.2.2.2.1 0)), (2, .int a2), (6, .int a6), (7, .int a7)] [] X (f_writes_242 a2 a6 a7 X) := by
  unfold f_writes_242
  refine T.aload_n dX11_writes_242 rfl 0 rfl ?_
  refine T.iload_n dX11_writes_243 rfl 1 rfl ?_
  refine pR31 k1456 dX11_writes_244 (fun X23 => ?_)
  refine T.aload_n dX11_writes_247 rfl 0 rfl ?_
  refine T.iload dX11_writes_248 2 rfl ?_
  refine T.iload dX11_writes_250 3 rfl ?_
  refine T.callV_v 0 (As1 := [.int a6, .int a7]) (rest := []) (c_value Γ a6 a7 X23) ka_X11_value kv_X11_value oR rfl k2116 rfl rfl rfl rfl ⟨Nat.le_of_ble_eq_true rfl, Nat.le_of_ble_eq_true rfl⟩ (Nat.le_of_ble_eq_true rfl) dX11_writes_252 (fun _ X24 => ?_)
  exact T.ret_v rfl dX11_writes_255
noncomputable def f_writes_183 (a2 : Int32) (a4 : Int32) (a5 : Int32) (a6 : Int32) (a7 : Int32) (X : St) : Option (Int32 × St) :=
  bnd (f_isOn X) fun x21 X22 =>
  if x21.toInt = 0 then
    f_writes_242 a2 a6 a7 X22
  else
    chk (inR a4 1000) (letV (X22.1 65 (ix a4)) fun x25 =>
    letV (x25 + a5) fun x26 =>
    letV (X22.1 0 31) fun x27 =>
    letV (x27 - (1 : Int32)) fun x28 =>
    chk (inR x28 20400) (letV (X22.1 60 (ix x28)) fun x29 =>
    chk (inR x26 4000) (letV (wI X22 74 (ix x26) x29) fun X30 =>
    chk (inR a4 1000) (letV (X30.1 65 (ix a4)) fun x31 =>
    letV (x31 + a5) fun x32 =>
    letV (X30.1 0 31) fun x33 =>
    letV (x33 - (1 : Int32)) fun x34 =>
    chk (inR x34 20400) (letV (X30.1 61 (ix x34)) fun x35 =>
    chk (inR x32 4000) (letV (wI X30 75 (ix x32) x35) fun X36 =>
    f_writes_242 a2 a6 a7 X36))))))
set_option maxHeartbeats 4000000 in
set_option maxRecDepth 100000 in
theorem c_writes_183 (Γ : Gx) (As : List Value) (a2 : Int32) (a4 : Int32) (a5 : Int32) (a6 : Int32) (a7 : Int32) (X : St) : T YR Γ cX11_writes 11 "BlameCourtModel" none R_writes As qV 183 [(0, .ref (Γ.2.2.2.1 0)), (2, .int a2), (4, .int a4), (5, .int a5), (6, .int a6), (7, .int a7)] [] X (f_writes_183 a2 a4 a5 a6 a7 X) := by
  unfold f_writes_183
  refine T.aload_n dX11_writes_183 rfl 0 rfl ?_
  refine T.callV_i 0 (As1 := []) (rest := []) (c_isOn Γ X) ka_X11_isOn kv_X11_isOn oR rfl k2108 rfl rfl rfl rfl ⟨Nat.le_of_ble_eq_true rfl, Nat.le_of_ble_eq_true rfl⟩ (Nat.le_of_ble_eq_true rfl) dX11_writes_184 (fun x21 X22 => ?_)
  refine T.if_eq (pc1 := 242) dX11_writes_187 (by decide) ?_ ?_
  · refine T.sub [0, 1, 4, 5] rfl ?_
    exact c_writes_242 Γ _ a2 a6 a7 X22
  · refine T.aload_n dX11_writes_190 rfl 0 rfl ?_
    refine cR121 k1474 dX11_writes_191 ?_
    refine T.aload_n dX11_writes_194 rfl 0 rfl ?_
    refine cR112 k1464 dX11_writes_195 ?_
    refine T.iload dX11_writes_198 2 rfl ?_
    refine alR65 dX11_writes_200 (fun x25 => ?_)
    refine T.iload dX11_writes_201 3 rfl ?_
    refine T.iadd dX11_writes_203 (fun x26 => ?_)
    refine T.aload_n dX11_writes_204 rfl 0 rfl ?_
    refine cR107 k1457 dX11_writes_205 ?_
    refine T.aload_n dX11_writes_208 rfl 0 rfl ?_
    refine gR31 k1456 dX11_writes_209 (fun x27 => ?_)
    refine T.iconst (w := 1) dX11_writes_212 (by decide) ?_
    refine T.isub dX11_writes_213 (fun x28 => ?_)
    refine alR60 dX11_writes_214 (fun x29 => ?_)
    refine asR74 dX11_writes_215 (fun X30 => ?_)
    refine T.aload_n dX11_writes_216 rfl 0 rfl ?_
    refine cR122 k1475 dX11_writes_217 ?_
    refine T.aload_n dX11_writes_220 rfl 0 rfl ?_
    refine cR112 k1464 dX11_writes_221 ?_
    refine T.iload dX11_writes_224 2 rfl ?_
    refine alR65 dX11_writes_226 (fun x31 => ?_)
    refine T.iload dX11_writes_227 3 rfl ?_
    refine T.iadd dX11_writes_229 (fun x32 => ?_)
    refine T.aload_n dX11_writes_230 rfl 0 rfl ?_
    refine cR108 k1458 dX11_writes_231 ?_
    refine T.aload_n dX11_writes_234 rfl 0 rfl ?_
    refine gR31 k1456 dX11_writes_235 (fun x33 => ?_)
    refine T.iconst (w := 1) dX11_writes_238 (by decide) ?_
    refine T.isub dX11_writes_239 (fun x34 => ?_)
    refine alR61 dX11_writes_240 (fun x35 => ?_)
    refine asR75 dX11_writes_241 (fun X36 => ?_)
    refine T.sub [0, 1, 4, 5] rfl ?_
    exact c_writes_242 Γ _ a2 a6 a7 X36
noncomputable def f_writes_101_s (r101 : Int32 → Int32 → Int32 → Int32 → Int32 → Int32 → Int32 → St → Option (Int32 × St)) (a2 : Int32) (a4 : Int32) (a5 : Int32) (a6 : Int32) (a7 : Int32) (a8 : Int32) (a9 : Int32) (X : St) : Option (Int32 × St) :=
  if a8.toInt ≤ a9.toInt then
    f_writes_183 a2 a4 a5 a6 a7 X
  else
    bnd (f_isOn X) fun x37 X38 =>
    if x37.toInt = 0 then
      f_writes_183 a2 a4 a5 a6 a7 X38
    else
      chk (inR a9 21) (letV (X38.1 81 (ix a9)) fun x39 =>
      letV (X38.1 0 31) fun x40 =>
      letV (x40 - (1 : Int32)) fun x41 =>
      chk (inR x39 1000) (letV (X38.1 69 (ix x39)) fun x42 =>
      bnd (f_elementOf x42 X38) fun x43 X44 =>
      chk (inR x39 1000) (letV (X44.1 68 (ix x39)) fun x45 =>
      bnd (f_elementOf x45 X44) fun x46 X47 =>
      chk (inR x39 1000) (letV (X47.1 71 (ix x39)) fun x48 =>
      chk (inR x39 1000) (letV (X47.1 70 (ix x39)) fun x49 =>
      chk (inR x39 1000) (letV (X47.1 72 (ix x39)) fun x50 =>
      bnd (f_asks x41 x43 x46 x48 x49 x50 X47) fun _ X51 =>
      letV (a9 + Int32.ofInt (1)) fun x52 =>
      r101 a2 a4 a5 a6 a7 a8 x52 X51))))))
noncomputable def f_writes_101 (n : Nat) : Int32 → Int32 → Int32 → Int32 → Int32 → Int32 → Int32 → St → Option (Int32 × St) := lp (fun _ _ _ _ _ _ _ _ => none) (f_writes_101_s) n
set_option maxHeartbeats 4000000 in
set_option maxRecDepth 100000 in
theorem c_writes_101 (Γ : Gx) (As : List Value) (n : Nat) : ∀ (a2 : Int32) (a4 : Int32) (a5 : Int32) (a6 : Int32) (a7 : Int32) (a8 : Int32) (a9 : Int32) (X : St), T YR Γ cX11_writes 11 "BlameCourtModel" none R_writes As qV 101 [(0, .ref (Γ.2.2.2.1 0)), (2, .int a2), (4, .int a4), (5, .int a5), (6, .int a6), (7, .int a7), (8, .int a8), (9, .int a9)] [] X (f_writes_101 n a2 a4 a5 a6 a7 a8 a9 X) := by
  unfold f_writes_101
  refine lp_ind (P := fun (r101 : Int32 → Int32 → Int32 → Int32 → Int32 → Int32 → Int32 → St → Option (Int32 × St)) => ∀ (a2 : Int32) (a4 : Int32) (a5 : Int32) (a6 : Int32) (a7 : Int32) (a8 : Int32) (a9 : Int32) (X : St), T YR Γ cX11_writes 11 "BlameCourtModel" none R_writes As qV 101 [(0, .ref (Γ.2.2.2.1 0)), (2, .int a2), (4, .int a4), (5, .int a5), (6, .int a6), (7, .int a7), (8, .int a8), (9, .int a9)] [] X (r101 a2 a4 a5 a6 a7 a8 a9 X)) (fun _ _ _ _ _ _ _ _ => T.no) ?_ n
  intro r101 hr101 a2 a4 a5 a6 a7 a8 a9 X
  unfold f_writes_101_s
  refine T.iload dX11_writes_101 7 rfl ?_
  refine T.iload dX11_writes_103 6 rfl ?_
  refine T.icmp_ge (pc1 := 183) dX11_writes_105 (by decide) rfl ?_ ?_
  · refine T.sub [0, 1, 2, 3, 4, 5] rfl ?_
    exact c_writes_183 Γ _ a2 a4 a5 a6 a7 X
  · refine T.aload_n dX11_writes_108 rfl 0 rfl ?_
    refine T.callV_i 0 (As1 := []) (rest := []) (c_isOn Γ X) ka_X11_isOn kv_X11_isOn oR rfl k2108 rfl rfl rfl rfl ⟨Nat.le_of_ble_eq_true rfl, Nat.le_of_ble_eq_true rfl⟩ (Nat.le_of_ble_eq_true rfl) dX11_writes_109 (fun x37 X38 => ?_)
    refine T.if_eq (pc1 := 183) dX11_writes_112 (by decide) ?_ ?_
    · refine T.sub [0, 1, 2, 3, 4, 5] rfl ?_
      exact c_writes_183 Γ _ a2 a4 a5 a6 a7 X38
    · refine T.aload_n dX11_writes_115 rfl 0 rfl ?_
      refine cR128 k1493 dX11_writes_116 ?_
      refine T.iload dX11_writes_119 7 rfl ?_
      refine alR81 dX11_writes_121 (fun x39 => ?_)
      refine T.istore (lv1 := [(10, .int x39), (0, .ref (Γ.2.2.2.1 0)), (2, .int a2), (4, .int a4), (5, .int a5), (6, .int a6), (7, .int a7), (8, .int a8), (9, .int a9)]) dX11_writes_122 (by decide) rfl ?_
      refine T.aload_n dX11_writes_124 rfl 1 rfl ?_
      refine T.aload_n dX11_writes_125 rfl 1 rfl ?_
      refine gR31 k1456 dX11_writes_126 (fun x40 => ?_)
      refine T.iconst (w := 1) dX11_writes_129 (by decide) ?_
      refine T.isub dX11_writes_130 (fun x41 => ?_)
      refine T.aload_n dX11_writes_131 rfl 1 rfl ?_
      refine T.aload_n dX11_writes_132 rfl 1 rfl ?_
      refine cR116 k1468 dX11_writes_133 ?_
      refine T.iload dX11_writes_136 0 rfl ?_
      refine alR69 dX11_writes_138 (fun x42 => ?_)
      refine T.callV_i 0 (As1 := [.int x42]) (rest := [.int x41, .ref (Γ.2.2.2.1 0)]) (c_elementOf Γ x42 X38) ka_X11_elementOf kv_X11_elementOf oR rfl k2048 rfl rfl rfl rfl ⟨Nat.le_of_ble_eq_true rfl, Nat.le_of_ble_eq_true rfl⟩ (Nat.le_of_ble_eq_true rfl) dX11_writes_139 (fun x43 X44 => ?_)
      refine T.aload_n dX11_writes_142 rfl 1 rfl ?_
      refine T.aload_n dX11_writes_143 rfl 1 rfl ?_
      refine cR115 k1467 dX11_writes_144 ?_
      refine T.iload dX11_writes_147 0 rfl ?_
      refine alR68 dX11_writes_149 (fun x45 => ?_)
      refine T.callV_i 0 (As1 := [.int x45]) (rest := [.int x43, .int x41, .ref (Γ.2.2.2.1 0)]) (c_elementOf Γ x45 X44) ka_X11_elementOf kv_X11_elementOf oR rfl k2048 rfl rfl rfl rfl ⟨Nat.le_of_ble_eq_true rfl, Nat.le_of_ble_eq_true rfl⟩ (Nat.le_of_ble_eq_true rfl) dX11_writes_150 (fun x46 X47 => ?_)
      refine T.aload_n dX11_writes_153 rfl 1 rfl ?_
      refine cR118 k1470 dX11_writes_154 ?_
      refine T.iload dX11_writes_157 0 rfl ?_
      refine alR71 dX11_writes_159 (fun x48 => ?_)
      refine T.aload_n dX11_writes_160 rfl 1 rfl ?_
      refine cR117 k1469 dX11_writes_161 ?_
      refine T.iload dX11_writes_164 0 rfl ?_
      refine alR70 dX11_writes_166 (fun x49 => ?_)
      refine T.aload_n dX11_writes_167 rfl 1 rfl ?_
      refine cR119 k1471 dX11_writes_168 ?_
      refine T.iload dX11_writes_171 0 rfl ?_
      refine alR72 dX11_writes_173 (fun x50 => ?_)
      refine T.callV_v 0 (As1 := [.int x41, .int x43, .int x46, .int x48, .int x49, .int x50]) (rest := []) (c_asks Γ x41 x43 x46 x48 x49 x50 X47) ka_X11_asks kv_X11_asks oR rfl k2124 rfl rfl rfl rfl ⟨Nat.le_of_ble_eq_true rfl, Nat.le_of_ble_eq_true rfl⟩ (Nat.le_of_ble_eq_true rfl) dX11_writes_174 (fun _ X51 => ?_)
      refine T.iinc dX11_writes_177 8 rfl (by decide) (lvf := fun x52 => [(9, .int x52), (10, .int x39), (0, .ref (Γ.2.2.2.1 0)), (2, .int a2), (4, .int a4), (5, .int a5), (6, .int a6), (7, .int a7), (8, .int a8)]) (fun _ => rfl) (fun x52 => ?_)
      refine T.goto (pc1 := 101) dX11_writes_180 (by decide) ?_
      refine T.sub [2, 3, 4, 5, 6, 7, 8, 0] rfl ?_
      exact hr101 a2 a4 a5 a6 a7 a8 x52 X51
noncomputable def f_writes (p1 : Int32) (X : St) : Option (Int32 × St) :=
  letV (X.1 0 31) fun x1 =>
  letV (x1 - (3 : Int32)) fun x2 =>
  chk (inR x2 20400) (letV (X.1 61 (ix x2)) fun x3 =>
  bnd (f_within (3 : Int32) x3 X) fun x4 X5 =>
  letV (X5.1 0 31) fun x6 =>
  letV (x6 - (2 : Int32)) fun x7 =>
  chk (inR x7 20400) (letV (X5.1 61 (ix x7)) fun x8 =>
  chk (inR x4 1000) (letV (X5.1 66 (ix x4)) fun x9 =>
  letV (x9 - (1 : Int32)) fun x10 =>
  bnd (f_in x8 (0 : Int32) x10 X5) fun x11 X12 =>
  if x11.toInt = 0 then
    chk (inR p1 3100) (letV (X12.1 22 (ix p1)) fun x53 =>
    bnd (f_ends (1 : Int32) x53 X12) fun _ X54 =>
    some (0, X54))
  else
    letV (X12.1 0 31) fun x13 =>
    letV (x13 - (1 : Int32)) fun x14 =>
    chk (inR x14 20400) (letV (X12.1 60 (ix x14)) fun x15 =>
    letV (X12.1 0 31) fun x16 =>
    letV (x16 - (1 : Int32)) fun x17 =>
    chk (inR x17 20400) (letV (X12.1 61 (ix x17)) fun x18 =>
    bnd (f_aroundOf x3 X12) fun x19 X20 =>
    f_writes_101 BIG x2 x4 x8 x15 x18 x19 (0 : Int32) X20)))))
set_option maxHeartbeats 4000000 in
set_option maxRecDepth 100000 in
theorem c_writes (Γ : Gx) (p1 : Int32) (X : St) : TMV YR Γ yX11_writes cX11_writes 11 "BlameCourtModel" none R_writes [.ref (Γ.2.2.2.1 0), .int p1] X (f_writes p1 X) := by
  refine TMV.of (by decide) (Nat.le_of_ble_eq_true rfl) rfl ?_
  show T YR Γ cX11_writes 11 "BlameCourtModel" none R_writes _ qV 0 [(0, .ref (Γ.2.2.2.1 0)), (1, .int p1)] [] X (f_writes p1 X)
  unfold f_writes
  refine T.aload_n dX11_writes_0 rfl 0 rfl ?_
  refine gR31 k1456 dX11_writes_1 (fun x1 => ?_)
  refine T.iconst (w := 3) dX11_writes_4 (by decide) ?_
  refine T.isub dX11_writes_5 (fun x2 => ?_)
  refine T.istore_n (lv1 := [(2, .int x2), (0, .ref (Γ.2.2.2.1 0)), (1, .int p1)]) dX11_writes_6 rfl (by decide) rfl ?_
  refine T.aload_n dX11_writes_7 rfl 1 rfl ?_
  refine cR108 k1458 dX11_writes_8 ?_
  refine T.iload_n dX11_writes_11 rfl 0 rfl ?_
  refine alR61 dX11_writes_12 (fun x3 => ?_)
  refine T.istore_n (lv1 := [(3, .int x3), (2, .int x2), (0, .ref (Γ.2.2.2.1 0)), (1, .int p1)]) dX11_writes_13 rfl (by decide) rfl ?_
  refine T.aload_n dX11_writes_14 rfl 2 rfl ?_
  refine T.iconst (w := 3) dX11_writes_15 (by decide) ?_
  refine T.iload_n dX11_writes_16 rfl 0 rfl ?_
  refine T.callV_i 0 (As1 := [.int 3, .int x3]) (rest := []) (c_within Γ (3 : Int32) x3 X) ka_X11_within kv_X11_within oR rfl k2132 rfl rfl rfl rfl ⟨Nat.le_of_ble_eq_true rfl, Nat.le_of_ble_eq_true rfl⟩ (Nat.le_of_ble_eq_true rfl) dX11_writes_17 (fun x4 X5 => ?_)
  refine T.istore (lv1 := [(4, .int x4), (3, .int x3), (2, .int x2), (0, .ref (Γ.2.2.2.1 0)), (1, .int p1)]) dX11_writes_20 (by decide) rfl ?_
  refine T.aload_n dX11_writes_22 rfl 3 rfl ?_
  refine cR108 k1458 dX11_writes_23 ?_
  refine T.aload_n dX11_writes_26 rfl 3 rfl ?_
  refine gR31 k1456 dX11_writes_27 (fun x6 => ?_)
  refine T.iconst (w := 2) dX11_writes_30 (by decide) ?_
  refine T.isub dX11_writes_31 (fun x7 => ?_)
  refine alR61 dX11_writes_32 (fun x8 => ?_)
  refine T.istore (lv1 := [(5, .int x8), (4, .int x4), (3, .int x3), (2, .int x2), (0, .ref (Γ.2.2.2.1 0)), (1, .int p1)]) dX11_writes_33 (by decide) rfl ?_
  refine T.iload dX11_writes_35 0 rfl ?_
  refine T.iconst (w := 0) dX11_writes_37 (by decide) ?_
  refine T.aload_n dX11_writes_38 rfl 4 rfl ?_
  refine cR113 k1465 dX11_writes_39 ?_
  refine T.iload dX11_writes_42 1 rfl ?_
  refine alR66 dX11_writes_44 (fun x9 => ?_)
  refine T.iconst (w := 1) dX11_writes_45 (by decide) ?_
  refine T.isub dX11_writes_46 (fun x10 => ?_)
  refine T.callS_i (As1 := [.int x8, .int 0, .int x10]) (rest := []) (c_in Γ x8 (0 : Int32) x10 X5) ka_X11_in k1766 k1765 rfl rfl rfl rfl ⟨Nat.le_of_ble_eq_true rfl, Nat.le_of_ble_eq_true rfl⟩ (Nat.le_of_ble_eq_true rfl) dX11_writes_47 (fun x11 X12 => ?_)
  refine T.if_ne (pc1 := 65) dX11_writes_50 (by decide) ?_ ?_
  · refine T.aload_n dX11_writes_65 rfl 4 rfl ?_
    refine cR107 k1457 dX11_writes_66 ?_
    refine T.aload_n dX11_writes_69 rfl 4 rfl ?_
    refine gR31 k1456 dX11_writes_70 (fun x13 => ?_)
    refine T.iconst (w := 1) dX11_writes_73 (by decide) ?_
    refine T.isub dX11_writes_74 (fun x14 => ?_)
    refine alR60 dX11_writes_75 (fun x15 => ?_)
    refine T.istore (lv1 := [(6, .int x15), (5, .int x8), (4, .int x4), (3, .int x3), (2, .int x2), (0, .ref (Γ.2.2.2.1 0)), (1, .int p1)]) dX11_writes_76 (by decide) rfl ?_
    refine T.aload_n dX11_writes_78 rfl 5 rfl ?_
    refine cR108 k1458 dX11_writes_79 ?_
    refine T.aload_n dX11_writes_82 rfl 5 rfl ?_
    refine gR31 k1456 dX11_writes_83 (fun x16 => ?_)
    refine T.iconst (w := 1) dX11_writes_86 (by decide) ?_
    refine T.isub dX11_writes_87 (fun x17 => ?_)
    refine alR61 dX11_writes_88 (fun x18 => ?_)
    refine T.istore (lv1 := [(7, .int x18), (6, .int x15), (5, .int x8), (4, .int x4), (3, .int x3), (2, .int x2), (0, .ref (Γ.2.2.2.1 0)), (1, .int p1)]) dX11_writes_89 (by decide) rfl ?_
    refine T.aload_n dX11_writes_91 rfl 6 rfl ?_
    refine T.iload_n dX11_writes_92 rfl 4 rfl ?_
    refine T.callV_i 0 (As1 := [.int x3]) (rest := []) (c_aroundOf Γ x3 X12) ka_X11_aroundOf kv_X11_aroundOf oR rfl k2172 rfl rfl rfl rfl ⟨Nat.le_of_ble_eq_true rfl, Nat.le_of_ble_eq_true rfl⟩ (Nat.le_of_ble_eq_true rfl) dX11_writes_93 (fun x19 X20 => ?_)
    refine T.istore (lv1 := [(8, .int x19), (7, .int x18), (6, .int x15), (5, .int x8), (4, .int x4), (3, .int x3), (2, .int x2), (0, .ref (Γ.2.2.2.1 0)), (1, .int p1)]) dX11_writes_96 (by decide) rfl ?_
    refine T.iconst (w := 0) dX11_writes_98 (by decide) ?_
    refine T.istore (lv1 := [(9, .int 0), (8, .int x19), (7, .int x18), (6, .int x15), (5, .int x8), (4, .int x4), (3, .int x3), (2, .int x2), (0, .ref (Γ.2.2.2.1 0)), (1, .int p1)]) dX11_writes_99 (by decide) rfl ?_
    refine T.sub [8, 7, 5, 4, 3, 2, 1, 0] rfl ?_
    exact c_writes_101 Γ _ BIG x2 x4 x8 x15 x18 x19 (0 : Int32) X20
  · refine T.aload_n dX11_writes_53 rfl 4 rfl ?_
    refine T.iconst (w := 1) dX11_writes_54 (by decide) ?_
    refine T.aload_n dX11_writes_55 rfl 4 rfl ?_
    refine cR69 k1407 dX11_writes_56 ?_
    refine T.iload_n dX11_writes_59 rfl 5 rfl ?_
    refine alR22 dX11_writes_60 (fun x53 => ?_)
    refine T.callV_v 0 (As1 := [.int 1, .int x53]) (rest := []) (c_ends Γ (1 : Int32) x53 X12) ka_X11_ends kv_X11_ends oR rfl k2104 rfl rfl rfl rfl ⟨Nat.le_of_ble_eq_true rfl, Nat.le_of_ble_eq_true rfl⟩ (Nat.le_of_ble_eq_true rfl) dX11_writes_61 (fun _ X54 => ?_)
    exact T.ret_v rfl dX11_writes_64
abbrev R_works : Room := { frames := 22, cells := 0, slots := 0, locals := 330 }
noncomputable def f_works_98_s (r98 : Int32 → Int32 → Int32 → St → Option (Int32 × St)) (a2 : Int32) (a3 : Int32) (a4 : Int32) (X : St) : Option (Int32 × St) :=
  chk (inR a2 3100) (letV (X.1 27 (ix a2)) fun x12 =>
  if x12.toInt ≤ a4.toInt then
    bnd (f_value (3 : Int32) a3 X) fun _ X13 =>
    some (0, X13)
  else
    chk (inR a3 1000) (letV (X.1 65 (ix a3)) fun x14 =>
    letV (x14 + a4) fun x15 =>
    letV (X.1 0 31) fun x16 =>
    letV (x16 + a4) fun x17 =>
    chk (inR x17 20400) (letV (X.1 60 (ix x17)) fun x18 =>
    chk (inR x15 4000) (letV (wI X 74 (ix x15) x18) fun X19 =>
    chk (inR a3 1000) (letV (X19.1 65 (ix a3)) fun x20 =>
    letV (x20 + a4) fun x21 =>
    letV (X19.1 0 31) fun x22 =>
    letV (x22 + a4) fun x23 =>
    chk (inR x23 20400) (letV (X19.1 61 (ix x23)) fun x24 =>
    chk (inR x21 4000) (letV (wI X19 75 (ix x21) x24) fun X25 =>
    letV (a4 + Int32.ofInt (1)) fun x26 =>
    r98 a2 a3 x26 X25)))))))
noncomputable def f_works_98 (n : Nat) : Int32 → Int32 → Int32 → St → Option (Int32 × St) := lp (fun _ _ _ _ => none) (f_works_98_s) n
set_option maxHeartbeats 4000000 in
set_option maxRecDepth 100000 in
theorem c_works_98 (Γ : Gx) (As : List Value) (n : Nat) : ∀ (a2 : Int32) (a3 : Int32) (a4 : Int32) (X : St), T YR Γ cX11_works 5 "BlameCourtModel" none R_works As qV 98 [(0, .ref (Γ.2.2.2.1 0)), (2, .int a2), (3, .int a3), (4, .int a4)] [] X (f_works_98 n a2 a3 a4 X) := by
  unfold f_works_98
  refine lp_ind (P := fun (r98 : Int32 → Int32 → Int32 → St → Option (Int32 × St)) => ∀ (a2 : Int32) (a3 : Int32) (a4 : Int32) (X : St), T YR Γ cX11_works 5 "BlameCourtModel" none R_works As qV 98 [(0, .ref (Γ.2.2.2.1 0)), (2, .int a2), (3, .int a3), (4, .int a4)] [] X (r98 a2 a3 a4 X)) (fun _ _ _ _ => T.no) ?_ n
  intro r98 hr98 a2 a3 a4 X
  unfold f_works_98_s
  refine T.iload dX11_works_98 3 rfl ?_
  refine T.aload_n dX11_works_100 rfl 0 rfl ?_
  refine cR74 k1412 dX11_works_101 ?_
  refine T.iload_n dX11_works_104 rfl 1 rfl ?_
  refine alR27 dX11_works_105 (fun x12 => ?_)
  refine T.icmp_ge (pc1 := 167) dX11_works_106 (by decide) rfl ?_ ?_
  · refine T.aload_n dX11_works_167 rfl 0 rfl ?_
    refine T.iconst (w := 3) dX11_works_168 (by decide) ?_
    refine T.iload_n dX11_works_169 rfl 2 rfl ?_
    refine T.callV_v 0 (As1 := [.int 3, .int a3]) (rest := []) (c_value Γ (3 : Int32) a3 X) ka_X11_value kv_X11_value oR rfl k2116 rfl rfl rfl rfl ⟨Nat.le_of_ble_eq_true rfl, Nat.le_of_ble_eq_true rfl⟩ (Nat.le_of_ble_eq_true rfl) dX11_works_170 (fun _ X13 => ?_)
    refine T.goto (pc1 := 454) dX11_works_173 (by decide) ?_
    exact T.ret_v rfl dX11_works_454
  · refine T.aload_n dX11_works_109 rfl 0 rfl ?_
    refine cR121 k1474 dX11_works_110 ?_
    refine T.aload_n dX11_works_113 rfl 0 rfl ?_
    refine cR112 k1464 dX11_works_114 ?_
    refine T.iload_n dX11_works_117 rfl 2 rfl ?_
    refine alR65 dX11_works_118 (fun x14 => ?_)
    refine T.iload dX11_works_119 3 rfl ?_
    refine T.iadd dX11_works_121 (fun x15 => ?_)
    refine T.aload_n dX11_works_122 rfl 0 rfl ?_
    refine cR107 k1457 dX11_works_123 ?_
    refine T.aload_n dX11_works_126 rfl 0 rfl ?_
    refine gR31 k1456 dX11_works_127 (fun x16 => ?_)
    refine T.iload dX11_works_130 3 rfl ?_
    refine T.iadd dX11_works_132 (fun x17 => ?_)
    refine alR60 dX11_works_133 (fun x18 => ?_)
    refine asR74 dX11_works_134 (fun X19 => ?_)
    refine T.aload_n dX11_works_135 rfl 0 rfl ?_
    refine cR122 k1475 dX11_works_136 ?_
    refine T.aload_n dX11_works_139 rfl 0 rfl ?_
    refine cR112 k1464 dX11_works_140 ?_
    refine T.iload_n dX11_works_143 rfl 2 rfl ?_
    refine alR65 dX11_works_144 (fun x20 => ?_)
    refine T.iload dX11_works_145 3 rfl ?_
    refine T.iadd dX11_works_147 (fun x21 => ?_)
    refine T.aload_n dX11_works_148 rfl 0 rfl ?_
    refine cR108 k1458 dX11_works_149 ?_
    refine T.aload_n dX11_works_152 rfl 0 rfl ?_
    refine gR31 k1456 dX11_works_153 (fun x22 => ?_)
    refine T.iload dX11_works_156 3 rfl ?_
    refine T.iadd dX11_works_158 (fun x23 => ?_)
    refine alR61 dX11_works_159 (fun x24 => ?_)
    refine asR75 dX11_works_160 (fun X25 => ?_)
    refine T.iinc dX11_works_161 3 rfl (by decide) (lvf := fun x26 => [(4, .int x26), (0, .ref (Γ.2.2.2.1 0)), (2, .int a2), (3, .int a3)]) (fun _ => rfl) (fun x26 => ?_)
    refine T.goto (pc1 := 98) dX11_works_164 (by decide) ?_
    refine T.sub [1, 2, 3, 0] rfl ?_
    exact hr98 a2 a3 x26 X25
noncomputable def f_works_432 (b0 : Int32) (b1 : Int32) (X : St) : Option (Int32 × St) :=
  bnd (f_value b1 b0 X) fun _ X79 =>
  some (0, X79)
set_option maxHeartbeats 4000000 in
set_option maxRecDepth 100000 in
theorem c_works_432 (Γ : Gx) (As : List Value) (b0 : Int32) (b1 : Int32) (X : St) : T YR Γ cX11_works 5 "BlameCourtModel" none R_works As qV 432 [] [.int b0, .int b1, .ref (Γ.2.2.2.1 0)] X (f_works_432 b0 b1 X) := by
  unfold f_works_432
  refine T.callV_v 0 (As1 := [.int b1, .int b0]) (rest := []) (c_value Γ b1 b0 X) ka_X11_value kv_X11_value oR rfl k2116 rfl rfl rfl rfl ⟨Nat.le_of_ble_eq_true rfl, Nat.le_of_ble_eq_true rfl⟩ (Nat.le_of_ble_eq_true rfl) dX11_works_432 (fun _ X79 => ?_)
  refine T.goto (pc1 := 454) dX11_works_435 (by decide) ?_
  exact T.ret_v rfl dX11_works_454
noncomputable def f_works_420 (b0 : Int32) (X : St) : Option (Int32 × St) :=
  if b0.toInt = 0 then
    f_works_432 (0 : Int32) (1 : Int32) X
  else
    f_works_432 (1 : Int32) (1 : Int32) X
set_option maxHeartbeats 4000000 in
set_option maxRecDepth 100000 in
theorem c_works_420 (Γ : Gx) (As : List Value) (b0 : Int32) (X : St) : T YR Γ cX11_works 5 "BlameCourtModel" none R_works As qV 420 [(0, .ref (Γ.2.2.2.1 0))] [.int b0] X (f_works_420 b0 X) := by
  unfold f_works_420
  refine T.istore_n (lv1 := [(3, .int b0), (0, .ref (Γ.2.2.2.1 0))]) dX11_works_420 rfl (by decide) rfl ?_
  refine T.aload_n dX11_works_421 rfl 1 rfl ?_
  refine T.iconst (w := 1) dX11_works_422 (by decide) ?_
  refine T.iload_n dX11_works_423 rfl 0 rfl ?_
  refine T.if_eq (pc1 := 431) dX11_works_424 (by decide) ?_ ?_
  · refine T.iconst (w := 0) dX11_works_431 (by decide) ?_
    refine T.sub [] rfl ?_
    exact c_works_432 Γ _ (0 : Int32) (1 : Int32) X
  · refine T.iconst (w := 1) dX11_works_427 (by decide) ?_
    refine T.goto (pc1 := 432) dX11_works_428 (by decide) ?_
    refine T.sub [] rfl ?_
    exact c_works_432 Γ _ (1 : Int32) (1 : Int32) X
noncomputable def f_works (p1 : Int32) (p2 : Int32) (X : St) : Option (Int32 × St) :=
  if p1.toInt = 18 then
    chk (inR p2 3100) (letV (X.1 27 (ix p2)) fun x2 =>
    chk (inR p2 3100) (letV (X.1 21 (ix p2)) fun x3 =>
    bnd (f_row x2 x3 X) fun x4 X5 =>
    bnd (f_isOn X5) fun x6 X7 =>
    if x6.toInt = 0 then
      some (0, X7)
    else
      letV (X7.1 0 31) fun x8 =>
      chk (inR p2 3100) (letV (X7.1 27 (ix p2)) fun x9 =>
      letV (x8 - x9) fun x10 =>
      letV (wI X7 0 31 x10) fun X11 =>
      f_works_98 BIG p2 x4 (0 : Int32) X11)))
  else if p1.toInt = 19 then
    bnd (f_makes p2 X) fun _ X28 =>
    some (0, X28)
  else if p1.toInt = 20 then
    letV (X.1 0 31) fun x30 =>
    letV (x30 - (1 : Int32)) fun x31 =>
    letV (wI X 0 31 x31) fun X32 =>
    letV (X32.1 0 31) fun x33 =>
    chk (inR x33 20400) (letV (X32.1 61 (ix x33)) fun x34 =>
    bnd (f_within (3 : Int32) x34 X32) fun x35 X36 =>
    chk (inR x35 1000) (letV (X36.1 66 (ix x35)) fun x37 =>
    bnd (f_value (0 : Int32) x37 X36) fun _ X38 =>
    some (0, X38)))
  else if p1.toInt = 21 then
    letV (X.1 0 46) fun x40 =>
    if x40.toInt = 200 then
      chk (inR p2 3100) (letV (X.1 21 (ix p2)) fun x49 =>
      bnd (f_ends (6 : Int32) x49 X) fun _ X50 =>
      some (0, X50))
    else
      letV (X.1 0 46) fun x41 =>
      letV (X.1 0 31) fun x42 =>
      letV (x42 - (1 : Int32)) fun x43 =>
      chk (inR x43 20400) (letV (X.1 61 (ix x43)) fun x44 =>
      chk (inR x41 200) (letV (wI X 79 (ix x41) x44) fun X45 =>
      letV (X45.1 0 46) fun x46 =>
      letV (x46 + (1 : Int32)) fun x47 =>
      letV (wI X45 0 46 x47) fun X48 =>
      some (0, X48)))
  else if p1.toInt = 22 then
    letV (X.1 0 31) fun x52 =>
    letV (x52 - (1 : Int32)) fun x53 =>
    letV (X.1 0 31) fun x54 =>
    letV (x54 - (1 : Int32)) fun x55 =>
    chk (inR x55 20400) (letV (X.1 61 (ix x55)) fun x56 =>
    letV (-x56) fun x57 =>
    chk (inR x53 20400) (letV (wI X 61 (ix x53) x57) fun X58 =>
    some (0, X58)))
  else if p1.toInt = 23 then
    letV (X.1 0 31) fun x60 =>
    letV (x60 - (1 : Int32)) fun x61 =>
    letV (X.1 0 31) fun x62 =>
    letV (x62 - (1 : Int32)) fun x63 =>
    chk (inR x63 20400) (letV (X.1 61 (ix x63)) fun x64 =>
    letV ((1 : Int32) - x64) fun x65 =>
    chk (inR x61 20400) (letV (wI X 61 (ix x61) x65) fun X66 =>
    some (0, X66)))
  else if p1.toInt = 24 then
    bnd (f_sums p2 X) fun _ X68 =>
    some (0, X68)
  else if p1.toInt = 25 then
    letV (X.1 0 31) fun x70 =>
    letV (x70 - (2 : Int32)) fun x71 =>
    letV (wI X 0 31 x71) fun X72 =>
    chk (inR p2 3100) (letV (X72.1 26 (ix p2)) fun x73 =>
    if x73.toInt = 60 then
      letV (X72.1 0 31) fun x80 =>
      chk (inR x80 20400) (letV (X72.1 61 (ix x80)) fun x81 =>
      letV (X72.1 0 31) fun x82 =>
      letV (x82 + (1 : Int32)) fun x83 =>
      chk (inR x83 20400) (letV (X72.1 61 (ix x83)) fun x84 =>
      if x84.toInt ≤ x81.toInt then
        f_works_420 (0 : Int32) X72
      else
        f_works_420 (1 : Int32) X72))
    else
      letV (X72.1 0 31) fun x74 =>
      chk (inR x74 20400) (letV (X72.1 61 (ix x74)) fun x75 =>
      letV (X72.1 0 31) fun x76 =>
      letV (x76 + (1 : Int32)) fun x77 =>
      chk (inR x77 20400) (letV (X72.1 61 (ix x77)) fun x78 =>
      if x75.toInt = x78.toInt then
        f_works_420 (1 : Int32) X72
      else
        f_works_420 (0 : Int32) X72)))
  else if p1.toInt = 26 then
    bnd (f_readsPlace p2 X) fun _ X86 =>
    some (0, X86)
  else if p1.toInt = 27 then
    bnd (f_writes p2 X) fun _ X88 =>
    some (0, X88)
  else some (0, X)
set_option maxHeartbeats 4000000 in
set_option maxRecDepth 100000 in
theorem c_works (Γ : Gx) (p1 : Int32) (p2 : Int32) (X : St) : TMV YR Γ yX11_works cX11_works 5 "BlameCourtModel" none R_works [.ref (Γ.2.2.2.1 0), .int p1, .int p2] X (f_works p1 p2 X) := by
  refine TMV.of (by decide) (Nat.le_of_ble_eq_true rfl) rfl ?_
  show T YR Γ cX11_works 5 "BlameCourtModel" none R_works _ qV 0 [(0, .ref (Γ.2.2.2.1 0)), (1, .int p1), (2, .int p2)] [] X (f_works p1 p2 X)
  unfold f_works
  refine T.iload_n dX11_works_0 rfl 1 rfl ?_
  refine T.ite (fun s1 => ?_) (fun s1 => ?_)
  · refine T.tbl (pc1 := 56) dX11_works_1 (by decide) (off := 55) (by rw [s1]; rfl) (by decide) ?_
    refine T.aload_n dX11_works_56 rfl 0 rfl ?_
    refine T.aload_n dX11_works_57 rfl 0 rfl ?_
    refine cR74 k1412 dX11_works_58 ?_
    refine T.iload_n dX11_works_61 rfl 2 rfl ?_
    refine alR27 dX11_works_62 (fun x2 => ?_)
    refine T.aload_n dX11_works_63 rfl 0 rfl ?_
    refine cR68 k1406 dX11_works_64 ?_
    refine T.iload_n dX11_works_67 rfl 2 rfl ?_
    refine alR21 dX11_works_68 (fun x3 => ?_)
    refine T.callV_i 0 (As1 := [.int x2, .int x3]) (rest := []) (c_row Γ x2 x3 X) ka_X11_row kv_X11_row oR rfl k2156 rfl rfl rfl rfl ⟨Nat.le_of_ble_eq_true rfl, Nat.le_of_ble_eq_true rfl⟩ (Nat.le_of_ble_eq_true rfl) dX11_works_69 (fun x4 X5 => ?_)
    refine T.istore_n (lv1 := [(3, .int x4), (0, .ref (Γ.2.2.2.1 0)), (1, .int p1), (2, .int p2)]) dX11_works_72 rfl (by decide) rfl ?_
    refine T.aload_n dX11_works_73 rfl 1 rfl ?_
    refine T.callV_i 0 (As1 := []) (rest := []) (c_isOn Γ X5) ka_X11_isOn kv_X11_isOn oR rfl k2108 rfl rfl rfl rfl ⟨Nat.le_of_ble_eq_true rfl, Nat.le_of_ble_eq_true rfl⟩ (Nat.le_of_ble_eq_true rfl) dX11_works_74 (fun x6 X7 => ?_)
    refine T.if_eq (pc1 := 454) dX11_works_77 (by decide) ?_ ?_
    · exact T.ret_v rfl dX11_works_454
    · refine T.aload_n dX11_works_80 rfl 1 rfl ?_
      refine T.dupr dX11_works_81 ?_
      refine gR31 k1456 dX11_works_82 (fun x8 => ?_)
      refine T.aload_n dX11_works_85 rfl 1 rfl ?_
      refine cR74 k1412 dX11_works_86 ?_
      refine T.iload_n dX11_works_89 rfl 3 rfl ?_
      refine alR27 dX11_works_90 (fun x9 => ?_)
      refine T.isub dX11_works_91 (fun x10 => ?_)
      refine pR31 k1456 dX11_works_92 (fun X11 => ?_)
      refine T.iconst (w := 0) dX11_works_95 (by decide) ?_
      refine T.istore (lv1 := [(4, .int 0), (3, .int x4), (0, .ref (Γ.2.2.2.1 0)), (1, .int p1), (2, .int p2)]) dX11_works_96 (by decide) rfl ?_
      refine T.sub [2, 4, 1, 0] rfl ?_
      exact c_works_98 Γ _ BIG p2 x4 (0 : Int32) X11
  refine T.ite (fun s27 => ?_) (fun s27 => ?_)
  · refine T.tbl (pc1 := 176) dX11_works_1 (by decide) (off := 175) (by rw [s27]; rfl) (by decide) ?_
    refine T.aload_n dX11_works_176 rfl 0 rfl ?_
    refine T.iload_n dX11_works_177 rfl 2 rfl ?_
    refine T.callV_v 0 (As1 := [.int p2]) (rest := []) (c_makes Γ p2 X) ka_X11_makes kv_X11_makes oR rfl k2160 rfl rfl rfl rfl ⟨Nat.le_of_ble_eq_true rfl, Nat.le_of_ble_eq_true rfl⟩ (Nat.le_of_ble_eq_true rfl) dX11_works_178 (fun _ X28 => ?_)
    refine T.goto (pc1 := 454) dX11_works_181 (by decide) ?_
    exact T.ret_v rfl dX11_works_454
  refine T.ite (fun s29 => ?_) (fun s29 => ?_)
  · refine T.tbl (pc1 := 184) dX11_works_1 (by decide) (off := 183) (by rw [s29]; rfl) (by decide) ?_
    refine T.aload_n dX11_works_184 rfl 0 rfl ?_
    refine T.dupr dX11_works_185 ?_
    refine gR31 k1456 dX11_works_186 (fun x30 => ?_)
    refine T.iconst (w := 1) dX11_works_189 (by decide) ?_
    refine T.isub dX11_works_190 (fun x31 => ?_)
    refine pR31 k1456 dX11_works_191 (fun X32 => ?_)
    refine T.aload_n dX11_works_194 rfl 0 rfl ?_
    refine T.iconst (w := 0) dX11_works_195 (by decide) ?_
    refine T.aload_n dX11_works_196 rfl 0 rfl ?_
    refine cR113 k1465 dX11_works_197 ?_
    refine T.aload_n dX11_works_200 rfl 0 rfl ?_
    refine T.iconst (w := 3) dX11_works_201 (by decide) ?_
    refine T.aload_n dX11_works_202 rfl 0 rfl ?_
    refine cR108 k1458 dX11_works_203 ?_
    refine T.aload_n dX11_works_206 rfl 0 rfl ?_
    refine gR31 k1456 dX11_works_207 (fun x33 => ?_)
    refine alR61 dX11_works_210 (fun x34 => ?_)
    refine T.callV_i 0 (As1 := [.int 3, .int x34]) (rest := [.ref (Γ.2.2.2.1 66), .int 0, .ref (Γ.2.2.2.1 0)]) (c_within Γ (3 : Int32) x34 X32) ka_X11_within kv_X11_within oR rfl k2132 rfl rfl rfl rfl ⟨Nat.le_of_ble_eq_true rfl, Nat.le_of_ble_eq_true rfl⟩ (Nat.le_of_ble_eq_true rfl) dX11_works_211 (fun x35 X36 => ?_)
    refine alR66 dX11_works_214 (fun x37 => ?_)
    refine T.callV_v 0 (As1 := [.int 0, .int x37]) (rest := []) (c_value Γ (0 : Int32) x37 X36) ka_X11_value kv_X11_value oR rfl k2116 rfl rfl rfl rfl ⟨Nat.le_of_ble_eq_true rfl, Nat.le_of_ble_eq_true rfl⟩ (Nat.le_of_ble_eq_true rfl) dX11_works_215 (fun _ X38 => ?_)
    refine T.goto (pc1 := 454) dX11_works_218 (by decide) ?_
    exact T.ret_v rfl dX11_works_454
  refine T.ite (fun s39 => ?_) (fun s39 => ?_)
  · refine T.tbl (pc1 := 221) dX11_works_1 (by decide) (off := 220) (by rw [s39]; rfl) (by decide) ?_
    refine T.aload_n dX11_works_221 rfl 0 rfl ?_
    refine gR46 k1490 dX11_works_222 (fun x40 => ?_)
    refine T.sipush (w := 200) dX11_works_225 (by decide) ?_
    refine T.icmp_ne (pc1 := 246) dX11_works_228 (by decide) rfl ?_ ?_
    · refine T.aload_n dX11_works_246 rfl 0 rfl ?_
      refine cR126 k1491 dX11_works_247 ?_
      refine T.aload_n dX11_works_250 rfl 0 rfl ?_
      refine gR46 k1490 dX11_works_251 (fun x41 => ?_)
      refine T.aload_n dX11_works_254 rfl 0 rfl ?_
      refine cR108 k1458 dX11_works_255 ?_
      refine T.aload_n dX11_works_258 rfl 0 rfl ?_
      refine gR31 k1456 dX11_works_259 (fun x42 => ?_)
      refine T.iconst (w := 1) dX11_works_262 (by decide) ?_
      refine T.isub dX11_works_263 (fun x43 => ?_)
      refine alR61 dX11_works_264 (fun x44 => ?_)
      refine asR79 dX11_works_265 (fun X45 => ?_)
      refine T.aload_n dX11_works_266 rfl 0 rfl ?_
      refine T.dupr dX11_works_267 ?_
      refine gR46 k1490 dX11_works_268 (fun x46 => ?_)
      refine T.iconst (w := 1) dX11_works_271 (by decide) ?_
      refine T.iadd dX11_works_272 (fun x47 => ?_)
      refine pR46 k1490 dX11_works_273 (fun X48 => ?_)
      refine T.goto (pc1 := 454) dX11_works_276 (by decide) ?_
      exact T.ret_v rfl dX11_works_454
    · refine T.aload_n dX11_works_231 rfl 0 rfl ?_
      refine T.bipush (w := 6) dX11_works_232 (by decide) ?_
      refine T.aload_n dX11_works_234 rfl 0 rfl ?_
      refine cR68 k1406 dX11_works_235 ?_
      refine T.iload_n dX11_works_238 rfl 2 rfl ?_
      refine alR21 dX11_works_239 (fun x49 => ?_)
      refine T.callV_v 0 (As1 := [.int 6, .int x49]) (rest := []) (c_ends Γ (6 : Int32) x49 X) ka_X11_ends kv_X11_ends oR rfl k2104 rfl rfl rfl rfl ⟨Nat.le_of_ble_eq_true rfl, Nat.le_of_ble_eq_true rfl⟩ (Nat.le_of_ble_eq_true rfl) dX11_works_240 (fun _ X50 => ?_)
      refine T.goto (pc1 := 454) dX11_works_243 (by decide) ?_
      exact T.ret_v rfl dX11_works_454
  refine T.ite (fun s51 => ?_) (fun s51 => ?_)
  · refine T.tbl (pc1 := 279) dX11_works_1 (by decide) (off := 278) (by rw [s51]; rfl) (by decide) ?_
    refine T.aload_n dX11_works_279 rfl 0 rfl ?_
    refine cR108 k1458 dX11_works_280 ?_
    refine T.aload_n dX11_works_283 rfl 0 rfl ?_
    refine gR31 k1456 dX11_works_284 (fun x52 => ?_)
    refine T.iconst (w := 1) dX11_works_287 (by decide) ?_
    refine T.isub dX11_works_288 (fun x53 => ?_)
    refine T.aload_n dX11_works_289 rfl 0 rfl ?_
    refine cR108 k1458 dX11_works_290 ?_
    refine T.aload_n dX11_works_293 rfl 0 rfl ?_
    refine gR31 k1456 dX11_works_294 (fun x54 => ?_)
    refine T.iconst (w := 1) dX11_works_297 (by decide) ?_
    refine T.isub dX11_works_298 (fun x55 => ?_)
    refine alR61 dX11_works_299 (fun x56 => ?_)
    refine T.ineg dX11_works_300 (fun x57 => ?_)
    refine asR61 dX11_works_301 (fun X58 => ?_)
    refine T.goto (pc1 := 454) dX11_works_302 (by decide) ?_
    exact T.ret_v rfl dX11_works_454
  refine T.ite (fun s59 => ?_) (fun s59 => ?_)
  · refine T.tbl (pc1 := 305) dX11_works_1 (by decide) (off := 304) (by rw [s59]; rfl) (by decide) ?_
    refine T.aload_n dX11_works_305 rfl 0 rfl ?_
    refine cR108 k1458 dX11_works_306 ?_
    refine T.aload_n dX11_works_309 rfl 0 rfl ?_
    refine gR31 k1456 dX11_works_310 (fun x60 => ?_)
    refine T.iconst (w := 1) dX11_works_313 (by decide) ?_
    refine T.isub dX11_works_314 (fun x61 => ?_)
    refine T.iconst (w := 1) dX11_works_315 (by decide) ?_
    refine T.aload_n dX11_works_316 rfl 0 rfl ?_
    refine cR108 k1458 dX11_works_317 ?_
    refine T.aload_n dX11_works_320 rfl 0 rfl ?_
    refine gR31 k1456 dX11_works_321 (fun x62 => ?_)
    refine T.iconst (w := 1) dX11_works_324 (by decide) ?_
    refine T.isub dX11_works_325 (fun x63 => ?_)
    refine alR61 dX11_works_326 (fun x64 => ?_)
    refine T.isub dX11_works_327 (fun x65 => ?_)
    refine asR61 dX11_works_328 (fun X66 => ?_)
    refine T.goto (pc1 := 454) dX11_works_329 (by decide) ?_
    exact T.ret_v rfl dX11_works_454
  refine T.ite (fun s67 => ?_) (fun s67 => ?_)
  · refine T.tbl (pc1 := 332) dX11_works_1 (by decide) (off := 331) (by rw [s67]; rfl) (by decide) ?_
    refine T.aload_n dX11_works_332 rfl 0 rfl ?_
    refine T.iload_n dX11_works_333 rfl 2 rfl ?_
    refine T.callV_v 0 (As1 := [.int p2]) (rest := []) (c_sums Γ p2 X) ka_X11_sums kv_X11_sums oR rfl k2164 rfl rfl rfl rfl ⟨Nat.le_of_ble_eq_true rfl, Nat.le_of_ble_eq_true rfl⟩ (Nat.le_of_ble_eq_true rfl) dX11_works_334 (fun _ X68 => ?_)
    refine T.goto (pc1 := 454) dX11_works_337 (by decide) ?_
    exact T.ret_v rfl dX11_works_454
  refine T.ite (fun s69 => ?_) (fun s69 => ?_)
  · refine T.tbl (pc1 := 340) dX11_works_1 (by decide) (off := 339) (by rw [s69]; rfl) (by decide) ?_
    refine T.aload_n dX11_works_340 rfl 0 rfl ?_
    refine T.dupr dX11_works_341 ?_
    refine gR31 k1456 dX11_works_342 (fun x70 => ?_)
    refine T.iconst (w := 2) dX11_works_345 (by decide) ?_
    refine T.isub dX11_works_346 (fun x71 => ?_)
    refine pR31 k1456 dX11_works_347 (fun X72 => ?_)
    refine T.aload_n dX11_works_350 rfl 0 rfl ?_
    refine cR73 k1411 dX11_works_351 ?_
    refine T.iload_n dX11_works_354 rfl 2 rfl ?_
    refine alR26 dX11_works_355 (fun x73 => ?_)
    refine T.bipush (w := 60) dX11_works_356 (by decide) ?_
    refine T.icmp_ne (pc1 := 392) dX11_works_358 (by decide) rfl ?_ ?_
    · refine T.aload_n dX11_works_392 rfl 0 rfl ?_
      refine cR108 k1458 dX11_works_393 ?_
      refine T.aload_n dX11_works_396 rfl 0 rfl ?_
      refine gR31 k1456 dX11_works_397 (fun x74 => ?_)
      refine alR61 dX11_works_400 (fun x75 => ?_)
      refine T.aload_n dX11_works_401 rfl 0 rfl ?_
      refine cR108 k1458 dX11_works_402 ?_
      refine T.aload_n dX11_works_405 rfl 0 rfl ?_
      refine gR31 k1456 dX11_works_406 (fun x76 => ?_)
      refine T.iconst (w := 1) dX11_works_409 (by decide) ?_
      refine T.iadd dX11_works_410 (fun x77 => ?_)
      refine alR61 dX11_works_411 (fun x78 => ?_)
      refine T.icmp_ne (pc1 := 419) dX11_works_412 (by decide) rfl ?_ ?_
      · refine T.iconst (w := 0) dX11_works_419 (by decide) ?_
        refine T.sub [0] rfl ?_
        exact c_works_420 Γ _ (0 : Int32) X72
      · refine T.iconst (w := 1) dX11_works_415 (by decide) ?_
        refine T.goto (pc1 := 420) dX11_works_416 (by decide) ?_
        refine T.sub [0] rfl ?_
        exact c_works_420 Γ _ (1 : Int32) X72
    · refine T.aload_n dX11_works_361 rfl 0 rfl ?_
      refine cR108 k1458 dX11_works_362 ?_
      refine T.aload_n dX11_works_365 rfl 0 rfl ?_
      refine gR31 k1456 dX11_works_366 (fun x80 => ?_)
      refine alR61 dX11_works_369 (fun x81 => ?_)
      refine T.aload_n dX11_works_370 rfl 0 rfl ?_
      refine cR108 k1458 dX11_works_371 ?_
      refine T.aload_n dX11_works_374 rfl 0 rfl ?_
      refine gR31 k1456 dX11_works_375 (fun x82 => ?_)
      refine T.iconst (w := 1) dX11_works_378 (by decide) ?_
      refine T.iadd dX11_works_379 (fun x83 => ?_)
      refine alR61 dX11_works_380 (fun x84 => ?_)
      refine T.icmp_ge (pc1 := 388) dX11_works_381 (by decide) rfl ?_ ?_
      · refine T.iconst (w := 0) dX11_works_388 (by decide) ?_
        refine T.goto (pc1 := 420) dX11_works_389 (by decide) ?_
        refine T.sub [0] rfl ?_
        exact c_works_420 Γ _ (0 : Int32) X72
      · refine T.iconst (w := 1) dX11_works_384 (by decide) ?_
        refine T.goto (pc1 := 420) dX11_works_385 (by decide) ?_
        refine T.sub [0] rfl ?_
        exact c_works_420 Γ _ (1 : Int32) X72
  refine T.ite (fun s85 => ?_) (fun s85 => ?_)
  · refine T.tbl (pc1 := 438) dX11_works_1 (by decide) (off := 437) (by rw [s85]; rfl) (by decide) ?_
    refine T.aload_n dX11_works_438 rfl 0 rfl ?_
    refine T.iload_n dX11_works_439 rfl 2 rfl ?_
    refine T.callV_v 0 (As1 := [.int p2]) (rest := []) (c_readsPlace Γ p2 X) ka_X11_readsPlace kv_X11_readsPlace oR rfl k2168 rfl rfl rfl rfl ⟨Nat.le_of_ble_eq_true rfl, Nat.le_of_ble_eq_true rfl⟩ (Nat.le_of_ble_eq_true rfl) dX11_works_440 (fun _ X86 => ?_)
    refine T.goto (pc1 := 454) dX11_works_443 (by decide) ?_
    exact T.ret_v rfl dX11_works_454
  refine T.ite (fun s87 => ?_) (fun s87 => ?_)
  · refine T.tbl (pc1 := 446) dX11_works_1 (by decide) (off := 445) (by rw [s87]; rfl) (by decide) ?_
    refine T.aload_n dX11_works_446 rfl 0 rfl ?_
    refine T.iload_n dX11_works_447 rfl 2 rfl ?_
    refine T.callV_v 0 (As1 := [.int p2]) (rest := []) (c_writes Γ p2 X) ka_X11_writes kv_X11_writes oR rfl k2176 rfl rfl rfl rfl ⟨Nat.le_of_ble_eq_true rfl, Nat.le_of_ble_eq_true rfl⟩ (Nat.le_of_ble_eq_true rfl) dX11_works_448 (fun _ X88 => ?_)
    refine T.goto (pc1 := 454) dX11_works_451 (by decide) ?_
    exact T.ret_v rfl dX11_works_454
  refine T.tbl (pc1 := 454) dX11_works_1 (by decide) (off := 453) (tbl_d [18, 19, 20, 21, 22, 23, 24, 25, 26, 27] (by intro q; simp only [List.mem_cons, List.not_mem_nil, or_false] at q; omega) (by decide)) (by decide) ?_
  exact T.ret_v rfl dX11_works_454
abbrev R_does : Room := { frames := 26, cells := 0, slots := 0, locals := 390 }
noncomputable def f_does (p1 : Int32) (p2 : Int32) (X : St) : Option (Int32 × St) :=
  chk (inR p1 24000) (letV (X.1 40 (ix p1)) fun x1 =>
  if x1.toInt = 0 then
    letV (X.1 0 40) fun x3 =>
    letV (X.1 0 39) fun x4 =>
    if x3.toInt = x4.toInt then
      chk (inR p2 3100) (letV (X.1 21 (ix p2)) fun x9 =>
      bnd (f_ends (7 : Int32) x9 X) fun _ X10 =>
      letV (p1 + (1 : Int32)) fun x11 =>
      some (x11, X10))
    else
      letV (X.1 0 40) fun x5 =>
      letV (x5 + (1 : Int32)) fun x6 =>
      letV (wI X 0 40 x6) fun X7 =>
      letV (p1 + (1 : Int32)) fun x8 =>
      some (x8, X7)
  else if x1.toInt = 1 then
    chk (inR p2 3100) (letV (X.1 26 (ix p2)) fun x13 =>
    bnd (f_value (0 : Int32) x13 X) fun _ X14 =>
    letV (p1 + (1 : Int32)) fun x15 =>
    some (x15, X14))
  else if x1.toInt = 2 then
    chk (inR p2 3100) (letV (X.1 26 (ix p2)) fun x17 =>
    bnd (f_value (1 : Int32) x17 X) fun _ X18 =>
    letV (p1 + (1 : Int32)) fun x19 =>
    some (x19, X18))
  else if x1.toInt = 3 then
    letV (X.1 0 32) fun x21 =>
    chk (inR p2 3100) (letV (X.1 26 (ix p2)) fun x22 =>
    letV (x21 + x22) fun x23 =>
    chk (inR x23 5000) (letV (X.1 62 (ix x23)) fun x24 =>
    letV (X.1 0 32) fun x25 =>
    chk (inR p2 3100) (letV (X.1 26 (ix p2)) fun x26 =>
    letV (x25 + x26) fun x27 =>
    chk (inR x27 5000) (letV (X.1 63 (ix x27)) fun x28 =>
    bnd (f_value x24 x28 X) fun _ X29 =>
    letV (p1 + (1 : Int32)) fun x30 =>
    some (x30, X29)))))
  else if x1.toInt = 4 then
    chk (inR p2 3100) (letV (X.1 26 (ix p2)) fun x32 =>
    bnd (f_value (4 : Int32) x32 X) fun _ X33 =>
    letV (p1 + (1 : Int32)) fun x34 =>
    some (x34, X33))
  else if x1.toInt = 5 then
    chk (inR p2 3100) (letV (X.1 21 (ix p2)) fun x36 =>
    bnd (f_guarded p1 (0 : Int32) x36 X) fun _ X37 =>
    letV (p1 + (1 : Int32)) fun x38 =>
    some (x38, X37))
  else if x1.toInt = 6 then
    chk (inR p2 3100) (letV (X.1 21 (ix p2)) fun x40 =>
    bnd (f_guarded p1 (1 : Int32) x40 X) fun _ X41 =>
    letV (p1 + (1 : Int32)) fun x42 =>
    some (x42, X41))
  else if x1.toInt = 7 then
    chk (inR p2 3100) (letV (X.1 22 (ix p2)) fun x44 =>
    bnd (f_guarded p1 (4 : Int32) x44 X) fun _ X45 =>
    bnd (f_isOn X45) fun x46 X47 =>
    if x46.toInt = 0 then
      letV (p1 + (1 : Int32)) fun x48 =>
      some (x48, X47)
    else
      letV (X47.1 0 42) fun x49 =>
      if x49.toInt = 0 then
        letV (X47.1 0 31) fun x51 =>
        letV (x51 - (1 : Int32)) fun x52 =>
        chk (inR x52 20400) (letV (X47.1 61 (ix x52)) fun x53 =>
        chk (inR x53 41) (letV (X47.1 15 (ix x53)) fun x54 =>
        chk (inR p2 3100) (letV (X47.1 27 (ix p2)) fun x55 =>
        if x54.toInt = x55.toInt then
          letV (p1 + (1 : Int32)) fun x56 =>
          some (x56, X47)
        else
          chk (inR p2 3100) (letV (X47.1 22 (ix p2)) fun x57 =>
          bnd (f_ends (4 : Int32) x57 X47) fun _ X58 =>
          letV (p1 + (1 : Int32)) fun x59 =>
          some (x59, X58)))))
      else
        letV (p1 + (1 : Int32)) fun x50 =>
        some (x50, X47))
  else if x1.toInt = 8 then
    chk (inR p2 3100) (letV (X.1 22 (ix p2)) fun x61 =>
    bnd (f_guarded p1 (3 : Int32) x61 X) fun _ X62 =>
    letV (p1 + (1 : Int32)) fun x63 =>
    some (x63, X62))
  else if x1.toInt = 9 then
    chk (inR p2 3100) (letV (X.1 21 (ix p2)) fun x65 =>
    bnd (f_guarded p1 (3 : Int32) x65 X) fun _ X66 =>
    letV (p1 + (1 : Int32)) fun x67 =>
    some (x67, X66))
  else if x1.toInt = 10 then
    bnd (f_guarded p1 (-1 : Int32) (-1 : Int32) X) fun _ X69 =>
    letV (p1 + (1 : Int32)) fun x70 =>
    some (x70, X69)
  else if x1.toInt = 11 then
    bnd (f_guarded p1 (-1 : Int32) (-1 : Int32) X) fun _ X72 =>
    letV (p1 + (1 : Int32)) fun x73 =>
    some (x73, X72)
  else if x1.toInt = 12 then
    bnd (f_guarded p1 (-1 : Int32) (-1 : Int32) X) fun _ X75 =>
    letV (p1 + (1 : Int32)) fun x76 =>
    some (x76, X75)
  else if x1.toInt = 13 then
    letV (X.1 0 31) fun x78 =>
    letV (x78 - (1 : Int32)) fun x79 =>
    letV (wI X 0 31 x79) fun X80 =>
    letV (X80.1 0 32) fun x81 =>
    chk (inR p2 3100) (letV (X80.1 26 (ix p2)) fun x82 =>
    letV (x81 + x82) fun x83 =>
    letV (X80.1 0 31) fun x84 =>
    chk (inR x84 20400) (letV (X80.1 60 (ix x84)) fun x85 =>
    chk (inR x83 5000) (letV (wI X80 62 (ix x83) x85) fun X86 =>
    letV (X86.1 0 32) fun x87 =>
    chk (inR p2 3100) (letV (X86.1 26 (ix p2)) fun x88 =>
    letV (x87 + x88) fun x89 =>
    letV (X86.1 0 31) fun x90 =>
    chk (inR x90 20400) (letV (X86.1 61 (ix x90)) fun x91 =>
    chk (inR x89 5000) (letV (wI X86 63 (ix x89) x91) fun X92 =>
    letV (p1 + (1 : Int32)) fun x93 =>
    some (x93, X92)))))))
  else if x1.toInt = 14 then
    bnd (f_guarded p1 (-1 : Int32) (-1 : Int32) X) fun _ X95 =>
    letV (p1 + (1 : Int32)) fun x96 =>
    some (x96, X95)
  else if x1.toInt = 15 then
    letV (X.1 0 31) fun x98 =>
    letV (x98 - (1 : Int32)) fun x99 =>
    letV (wI X 0 31 x99) fun X100 =>
    letV (X100.1 0 31) fun x101 =>
    chk (inR x101 20400) (letV (X100.1 61 (ix x101)) fun x102 =>
    if x102.toInt = 1 then
      letV (p1 + (1 : Int32)) fun x104 =>
      some (x104, X100)
    else
      chk (inR p2 3100) (letV (X100.1 46 (ix p2)) fun x103 =>
      some (x103, X100)))
  else if x1.toInt = 16 then
    chk (inR p2 3100) (letV (X.1 47 (ix p2)) fun x106 =>
    some (x106, X))
  else if x1.toInt = 28 then
    bnd (f_call p1 p2 X) fun x108 X109 =>
    some (x108, X109)
  else if x1.toInt = 29 then
    letV (X.1 0 31) fun x111 =>
    letV (x111 - (1 : Int32)) fun x112 =>
    letV (wI X 0 31 x112) fun X113 =>
    letV (p1 + (1 : Int32)) fun x114 =>
    some (x114, X113)
  else if x1.toInt = 30 then
    bnd (f_guarded p1 (-1 : Int32) (-1 : Int32) X) fun _ X116 =>
    letV (p1 + (1 : Int32)) fun x117 =>
    some (x117, X116)
  else if x1.toInt = 31 then
    bnd (f_goesBack X) fun x119 X120 =>
    some (x119, X120)
  else chk (inR p1 24000) (letV (X.1 40 (ix p1)) fun x121 =>
  bnd (f_works x121 p2 X) fun _ X122 =>
  letV (p1 + (1 : Int32)) fun x123 =>
  some (x123, X122)))
set_option maxHeartbeats 4000000 in
set_option maxRecDepth 100000 in
theorem c_does (Γ : Gx) (p1 : Int32) (p2 : Int32) (X : St) : TMI YR Γ yX11_does cX11_does 3 "BlameCourtModel" (some .int) R_does [.ref (Γ.2.2.2.1 0), .int p1, .int p2] X (f_does p1 p2 X) := by
  refine TMI.of (by decide) (Nat.le_of_ble_eq_true rfl) rfl ?_
  show T YR Γ cX11_does 3 "BlameCourtModel" (some .int) R_does _ qI 0 [(0, .ref (Γ.2.2.2.1 0)), (1, .int p1), (2, .int p2)] [] X (f_does p1 p2 X)
  unfold f_does
  refine T.aload_n dX11_does_0 rfl 0 rfl ?_
  refine cR87 k1432 dX11_does_1 ?_
  refine T.iload_n dX11_does_4 rfl 1 rfl ?_
  refine alR40 dX11_does_5 (fun x1 => ?_)
  refine T.ite (fun s2 => ?_) (fun s2 => ?_)
  · refine T.tbl (pc1 := 148) dX11_does_6 (by decide) (off := 142) (by rw [s2]; rfl) (by decide) ?_
    refine T.aload_n dX11_does_148 rfl 0 rfl ?_
    refine gR40 k1484 dX11_does_149 (fun x3 => ?_)
    refine T.aload_n dX11_does_152 rfl 0 rfl ?_
    refine gR39 k1483 dX11_does_153 (fun x4 => ?_)
    refine T.icmp_ne (pc1 := 174) dX11_does_156 (by decide) rfl ?_ ?_
    · refine T.aload_n dX11_does_174 rfl 0 rfl ?_
      refine T.dupr dX11_does_175 ?_
      refine gR40 k1484 dX11_does_176 (fun x5 => ?_)
      refine T.iconst (w := 1) dX11_does_179 (by decide) ?_
      refine T.iadd dX11_does_180 (fun x6 => ?_)
      refine pR40 k1484 dX11_does_181 (fun X7 => ?_)
      refine T.goto (pc1 := 545) dX11_does_184 (by decide) ?_
      refine T.iload_n dX11_does_545 rfl 1 rfl ?_
      refine T.iconst (w := 1) dX11_does_546 (by decide) ?_
      refine T.iadd dX11_does_547 (fun x8 => ?_)
      exact T.ret_i rfl dX11_does_548
    · refine T.aload_n dX11_does_159 rfl 0 rfl ?_
      refine T.bipush (w := 7) dX11_does_160 (by decide) ?_
      refine T.aload_n dX11_does_162 rfl 0 rfl ?_
      refine cR68 k1406 dX11_does_163 ?_
      refine T.iload_n dX11_does_166 rfl 2 rfl ?_
      refine alR21 dX11_does_167 (fun x9 => ?_)
      refine T.callV_v 0 (As1 := [.int 7, .int x9]) (rest := []) (c_ends Γ (7 : Int32) x9 X) ka_X11_ends kv_X11_ends oR rfl k2104 rfl rfl rfl rfl ⟨Nat.le_of_ble_eq_true rfl, Nat.le_of_ble_eq_true rfl⟩ (Nat.le_of_ble_eq_true rfl) dX11_does_168 (fun _ X10 => ?_)
      refine T.goto (pc1 := 545) dX11_does_171 (by decide) ?_
      refine T.iload_n dX11_does_545 rfl 1 rfl ?_
      refine T.iconst (w := 1) dX11_does_546 (by decide) ?_
      refine T.iadd dX11_does_547 (fun x11 => ?_)
      exact T.ret_i rfl dX11_does_548
  refine T.ite (fun s12 => ?_) (fun s12 => ?_)
  · refine T.tbl (pc1 := 187) dX11_does_6 (by decide) (off := 181) (by rw [s12]; rfl) (by decide) ?_
    refine T.aload_n dX11_does_187 rfl 0 rfl ?_
    refine T.iconst (w := 0) dX11_does_188 (by decide) ?_
    refine T.aload_n dX11_does_189 rfl 0 rfl ?_
    refine cR73 k1411 dX11_does_190 ?_
    refine T.iload_n dX11_does_193 rfl 2 rfl ?_
    refine alR26 dX11_does_194 (fun x13 => ?_)
    refine T.callV_v 0 (As1 := [.int 0, .int x13]) (rest := []) (c_value Γ (0 : Int32) x13 X) ka_X11_value kv_X11_value oR rfl k2116 rfl rfl rfl rfl ⟨Nat.le_of_ble_eq_true rfl, Nat.le_of_ble_eq_true rfl⟩ (Nat.le_of_ble_eq_true rfl) dX11_does_195 (fun _ X14 => ?_)
    refine T.goto (pc1 := 545) dX11_does_198 (by decide) ?_
    refine T.iload_n dX11_does_545 rfl 1 rfl ?_
    refine T.iconst (w := 1) dX11_does_546 (by decide) ?_
    refine T.iadd dX11_does_547 (fun x15 => ?_)
    exact T.ret_i rfl dX11_does_548
  refine T.ite (fun s16 => ?_) (fun s16 => ?_)
  · refine T.tbl (pc1 := 201) dX11_does_6 (by decide) (off := 195) (by rw [s16]; rfl) (by decide) ?_
    refine T.aload_n dX11_does_201 rfl 0 rfl ?_
    refine T.iconst (w := 1) dX11_does_202 (by decide) ?_
    refine T.aload_n dX11_does_203 rfl 0 rfl ?_
    refine cR73 k1411 dX11_does_204 ?_
    refine T.iload_n dX11_does_207 rfl 2 rfl ?_
    refine alR26 dX11_does_208 (fun x17 => ?_)
    refine T.callV_v 0 (As1 := [.int 1, .int x17]) (rest := []) (c_value Γ (1 : Int32) x17 X) ka_X11_value kv_X11_value oR rfl k2116 rfl rfl rfl rfl ⟨Nat.le_of_ble_eq_true rfl, Nat.le_of_ble_eq_true rfl⟩ (Nat.le_of_ble_eq_true rfl) dX11_does_209 (fun _ X18 => ?_)
    refine T.goto (pc1 := 545) dX11_does_212 (by decide) ?_
    refine T.iload_n dX11_does_545 rfl 1 rfl ?_
    refine T.iconst (w := 1) dX11_does_546 (by decide) ?_
    refine T.iadd dX11_does_547 (fun x19 => ?_)
    exact T.ret_i rfl dX11_does_548
  refine T.ite (fun s20 => ?_) (fun s20 => ?_)
  · refine T.tbl (pc1 := 215) dX11_does_6 (by decide) (off := 209) (by rw [s20]; rfl) (by decide) ?_
    refine T.aload_n dX11_does_215 rfl 0 rfl ?_
    refine T.aload_n dX11_does_216 rfl 0 rfl ?_
    refine cR109 k1460 dX11_does_217 ?_
    refine T.aload_n dX11_does_220 rfl 0 rfl ?_
    refine gR32 k1459 dX11_does_221 (fun x21 => ?_)
    refine T.aload_n dX11_does_224 rfl 0 rfl ?_
    refine cR73 k1411 dX11_does_225 ?_
    refine T.iload_n dX11_does_228 rfl 2 rfl ?_
    refine alR26 dX11_does_229 (fun x22 => ?_)
    refine T.iadd dX11_does_230 (fun x23 => ?_)
    refine alR62 dX11_does_231 (fun x24 => ?_)
    refine T.aload_n dX11_does_232 rfl 0 rfl ?_
    refine cR110 k1461 dX11_does_233 ?_
    refine T.aload_n dX11_does_236 rfl 0 rfl ?_
    refine gR32 k1459 dX11_does_237 (fun x25 => ?_)
    refine T.aload_n dX11_does_240 rfl 0 rfl ?_
    refine cR73 k1411 dX11_does_241 ?_
    refine T.iload_n dX11_does_244 rfl 2 rfl ?_
    refine alR26 dX11_does_245 (fun x26 => ?_)
    refine T.iadd dX11_does_246 (fun x27 => ?_)
    refine alR63 dX11_does_247 (fun x28 => ?_)
    refine T.callV_v 0 (As1 := [.int x24, .int x28]) (rest := []) (c_value Γ x24 x28 X) ka_X11_value kv_X11_value oR rfl k2116 rfl rfl rfl rfl ⟨Nat.le_of_ble_eq_true rfl, Nat.le_of_ble_eq_true rfl⟩ (Nat.le_of_ble_eq_true rfl) dX11_does_248 (fun _ X29 => ?_)
    refine T.goto (pc1 := 545) dX11_does_251 (by decide) ?_
    refine T.iload_n dX11_does_545 rfl 1 rfl ?_
    refine T.iconst (w := 1) dX11_does_546 (by decide) ?_
    refine T.iadd dX11_does_547 (fun x30 => ?_)
    exact T.ret_i rfl dX11_does_548
  refine T.ite (fun s31 => ?_) (fun s31 => ?_)
  · refine T.tbl (pc1 := 254) dX11_does_6 (by decide) (off := 248) (by rw [s31]; rfl) (by decide) ?_
    refine T.aload_n dX11_does_254 rfl 0 rfl ?_
    refine T.iconst (w := 4) dX11_does_255 (by decide) ?_
    refine T.aload_n dX11_does_256 rfl 0 rfl ?_
    refine cR73 k1411 dX11_does_257 ?_
    refine T.iload_n dX11_does_260 rfl 2 rfl ?_
    refine alR26 dX11_does_261 (fun x32 => ?_)
    refine T.callV_v 0 (As1 := [.int 4, .int x32]) (rest := []) (c_value Γ (4 : Int32) x32 X) ka_X11_value kv_X11_value oR rfl k2116 rfl rfl rfl rfl ⟨Nat.le_of_ble_eq_true rfl, Nat.le_of_ble_eq_true rfl⟩ (Nat.le_of_ble_eq_true rfl) dX11_does_262 (fun _ X33 => ?_)
    refine T.goto (pc1 := 545) dX11_does_265 (by decide) ?_
    refine T.iload_n dX11_does_545 rfl 1 rfl ?_
    refine T.iconst (w := 1) dX11_does_546 (by decide) ?_
    refine T.iadd dX11_does_547 (fun x34 => ?_)
    exact T.ret_i rfl dX11_does_548
  refine T.ite (fun s35 => ?_) (fun s35 => ?_)
  · refine T.tbl (pc1 := 268) dX11_does_6 (by decide) (off := 262) (by rw [s35]; rfl) (by decide) ?_
    refine T.aload_n dX11_does_268 rfl 0 rfl ?_
    refine T.iload_n dX11_does_269 rfl 1 rfl ?_
    refine T.iconst (w := 0) dX11_does_270 (by decide) ?_
    refine T.aload_n dX11_does_271 rfl 0 rfl ?_
    refine cR68 k1406 dX11_does_272 ?_
    refine T.iload_n dX11_does_275 rfl 2 rfl ?_
    refine alR21 dX11_does_276 (fun x36 => ?_)
    refine T.callV_v 0 (As1 := [.int p1, .int 0, .int x36]) (rest := []) (c_guarded Γ p1 (0 : Int32) x36 X) ka_X11_guarded kv_X11_guarded oR rfl k2120 rfl rfl rfl rfl ⟨Nat.le_of_ble_eq_true rfl, Nat.le_of_ble_eq_true rfl⟩ (Nat.le_of_ble_eq_true rfl) dX11_does_277 (fun _ X37 => ?_)
    refine T.goto (pc1 := 545) dX11_does_280 (by decide) ?_
    refine T.iload_n dX11_does_545 rfl 1 rfl ?_
    refine T.iconst (w := 1) dX11_does_546 (by decide) ?_
    refine T.iadd dX11_does_547 (fun x38 => ?_)
    exact T.ret_i rfl dX11_does_548
  refine T.ite (fun s39 => ?_) (fun s39 => ?_)
  · refine T.tbl (pc1 := 283) dX11_does_6 (by decide) (off := 277) (by rw [s39]; rfl) (by decide) ?_
    refine T.aload_n dX11_does_283 rfl 0 rfl ?_
    refine T.iload_n dX11_does_284 rfl 1 rfl ?_
    refine T.iconst (w := 1) dX11_does_285 (by decide) ?_
    refine T.aload_n dX11_does_286 rfl 0 rfl ?_
    refine cR68 k1406 dX11_does_287 ?_
    refine T.iload_n dX11_does_290 rfl 2 rfl ?_
    refine alR21 dX11_does_291 (fun x40 => ?_)
    refine T.callV_v 0 (As1 := [.int p1, .int 1, .int x40]) (rest := []) (c_guarded Γ p1 (1 : Int32) x40 X) ka_X11_guarded kv_X11_guarded oR rfl k2120 rfl rfl rfl rfl ⟨Nat.le_of_ble_eq_true rfl, Nat.le_of_ble_eq_true rfl⟩ (Nat.le_of_ble_eq_true rfl) dX11_does_292 (fun _ X41 => ?_)
    refine T.goto (pc1 := 545) dX11_does_295 (by decide) ?_
    refine T.iload_n dX11_does_545 rfl 1 rfl ?_
    refine T.iconst (w := 1) dX11_does_546 (by decide) ?_
    refine T.iadd dX11_does_547 (fun x42 => ?_)
    exact T.ret_i rfl dX11_does_548
  refine T.ite (fun s43 => ?_) (fun s43 => ?_)
  · refine T.tbl (pc1 := 298) dX11_does_6 (by decide) (off := 292) (by rw [s43]; rfl) (by decide) ?_
    refine T.aload_n dX11_does_298 rfl 0 rfl ?_
    refine T.iload_n dX11_does_299 rfl 1 rfl ?_
    refine T.iconst (w := 4) dX11_does_300 (by decide) ?_
    refine T.aload_n dX11_does_301 rfl 0 rfl ?_
    refine cR69 k1407 dX11_does_302 ?_
    refine T.iload_n dX11_does_305 rfl 2 rfl ?_
    refine alR22 dX11_does_306 (fun x44 => ?_)
    refine T.callV_v 0 (As1 := [.int p1, .int 4, .int x44]) (rest := []) (c_guarded Γ p1 (4 : Int32) x44 X) ka_X11_guarded kv_X11_guarded oR rfl k2120 rfl rfl rfl rfl ⟨Nat.le_of_ble_eq_true rfl, Nat.le_of_ble_eq_true rfl⟩ (Nat.le_of_ble_eq_true rfl) dX11_does_307 (fun _ X45 => ?_)
    refine T.aload_n dX11_does_310 rfl 0 rfl ?_
    refine T.callV_i 0 (As1 := []) (rest := []) (c_isOn Γ X45) ka_X11_isOn kv_X11_isOn oR rfl k2108 rfl rfl rfl rfl ⟨Nat.le_of_ble_eq_true rfl, Nat.le_of_ble_eq_true rfl⟩ (Nat.le_of_ble_eq_true rfl) dX11_does_311 (fun x46 X47 => ?_)
    refine T.if_eq (pc1 := 545) dX11_does_314 (by decide) ?_ ?_
    · refine T.iload_n dX11_does_545 rfl 1 rfl ?_
      refine T.iconst (w := 1) dX11_does_546 (by decide) ?_
      refine T.iadd dX11_does_547 (fun x48 => ?_)
      exact T.ret_i rfl dX11_does_548
    · refine T.aload_n dX11_does_317 rfl 0 rfl ?_
      refine gR42 k1486 dX11_does_318 (fun x49 => ?_)
      refine T.if_ne (pc1 := 545) dX11_does_321 (by decide) ?_ ?_
      · refine T.iload_n dX11_does_545 rfl 1 rfl ?_
        refine T.iconst (w := 1) dX11_does_546 (by decide) ?_
        refine T.iadd dX11_does_547 (fun x50 => ?_)
        exact T.ret_i rfl dX11_does_548
      · refine T.aload_n dX11_does_324 rfl 0 rfl ?_
        refine cR62 k1399 dX11_does_325 ?_
        refine T.aload_n dX11_does_328 rfl 0 rfl ?_
        refine cR108 k1458 dX11_does_329 ?_
        refine T.aload_n dX11_does_332 rfl 0 rfl ?_
        refine gR31 k1456 dX11_does_333 (fun x51 => ?_)
        refine T.iconst (w := 1) dX11_does_336 (by decide) ?_
        refine T.isub dX11_does_337 (fun x52 => ?_)
        refine alR61 dX11_does_338 (fun x53 => ?_)
        refine alR15 dX11_does_339 (fun x54 => ?_)
        refine T.aload_n dX11_does_340 rfl 0 rfl ?_
        refine cR74 k1412 dX11_does_341 ?_
        refine T.iload_n dX11_does_344 rfl 2 rfl ?_
        refine alR27 dX11_does_345 (fun x55 => ?_)
        refine T.icmp_eq (pc1 := 545) dX11_does_346 (by decide) rfl ?_ ?_
        · refine T.iload_n dX11_does_545 rfl 1 rfl ?_
          refine T.iconst (w := 1) dX11_does_546 (by decide) ?_
          refine T.iadd dX11_does_547 (fun x56 => ?_)
          exact T.ret_i rfl dX11_does_548
        · refine T.aload_n dX11_does_349 rfl 0 rfl ?_
          refine T.iconst (w := 4) dX11_does_350 (by decide) ?_
          refine T.aload_n dX11_does_351 rfl 0 rfl ?_
          refine cR69 k1407 dX11_does_352 ?_
          refine T.iload_n dX11_does_355 rfl 2 rfl ?_
          refine alR22 dX11_does_356 (fun x57 => ?_)
          refine T.callV_v 0 (As1 := [.int 4, .int x57]) (rest := []) (c_ends Γ (4 : Int32) x57 X47) ka_X11_ends kv_X11_ends oR rfl k2104 rfl rfl rfl rfl ⟨Nat.le_of_ble_eq_true rfl, Nat.le_of_ble_eq_true rfl⟩ (Nat.le_of_ble_eq_true rfl) dX11_does_357 (fun _ X58 => ?_)
          refine T.goto (pc1 := 545) dX11_does_360 (by decide) ?_
          refine T.iload_n dX11_does_545 rfl 1 rfl ?_
          refine T.iconst (w := 1) dX11_does_546 (by decide) ?_
          refine T.iadd dX11_does_547 (fun x59 => ?_)
          exact T.ret_i rfl dX11_does_548
  refine T.ite (fun s60 => ?_) (fun s60 => ?_)
  · refine T.tbl (pc1 := 363) dX11_does_6 (by decide) (off := 357) (by rw [s60]; rfl) (by decide) ?_
    refine T.aload_n dX11_does_363 rfl 0 rfl ?_
    refine T.iload_n dX11_does_364 rfl 1 rfl ?_
    refine T.iconst (w := 3) dX11_does_365 (by decide) ?_
    refine T.aload_n dX11_does_366 rfl 0 rfl ?_
    refine cR69 k1407 dX11_does_367 ?_
    refine T.iload_n dX11_does_370 rfl 2 rfl ?_
    refine alR22 dX11_does_371 (fun x61 => ?_)
    refine T.callV_v 0 (As1 := [.int p1, .int 3, .int x61]) (rest := []) (c_guarded Γ p1 (3 : Int32) x61 X) ka_X11_guarded kv_X11_guarded oR rfl k2120 rfl rfl rfl rfl ⟨Nat.le_of_ble_eq_true rfl, Nat.le_of_ble_eq_true rfl⟩ (Nat.le_of_ble_eq_true rfl) dX11_does_372 (fun _ X62 => ?_)
    refine T.goto (pc1 := 545) dX11_does_375 (by decide) ?_
    refine T.iload_n dX11_does_545 rfl 1 rfl ?_
    refine T.iconst (w := 1) dX11_does_546 (by decide) ?_
    refine T.iadd dX11_does_547 (fun x63 => ?_)
    exact T.ret_i rfl dX11_does_548
  refine T.ite (fun s64 => ?_) (fun s64 => ?_)
  · refine T.tbl (pc1 := 378) dX11_does_6 (by decide) (off := 372) (by rw [s64]; rfl) (by decide) ?_
    refine T.aload_n dX11_does_378 rfl 0 rfl ?_
    refine T.iload_n dX11_does_379 rfl 1 rfl ?_
    refine T.iconst (w := 3) dX11_does_380 (by decide) ?_
    refine T.aload_n dX11_does_381 rfl 0 rfl ?_
    refine cR68 k1406 dX11_does_382 ?_
    refine T.iload_n dX11_does_385 rfl 2 rfl ?_
    refine alR21 dX11_does_386 (fun x65 => ?_)
    refine T.callV_v 0 (As1 := [.int p1, .int 3, .int x65]) (rest := []) (c_guarded Γ p1 (3 : Int32) x65 X) ka_X11_guarded kv_X11_guarded oR rfl k2120 rfl rfl rfl rfl ⟨Nat.le_of_ble_eq_true rfl, Nat.le_of_ble_eq_true rfl⟩ (Nat.le_of_ble_eq_true rfl) dX11_does_387 (fun _ X66 => ?_)
    refine T.goto (pc1 := 545) dX11_does_390 (by decide) ?_
    refine T.iload_n dX11_does_545 rfl 1 rfl ?_
    refine T.iconst (w := 1) dX11_does_546 (by decide) ?_
    refine T.iadd dX11_does_547 (fun x67 => ?_)
    exact T.ret_i rfl dX11_does_548
  refine T.ite (fun s68 => ?_) (fun s68 => ?_)
  · refine T.tbl (pc1 := 393) dX11_does_6 (by decide) (off := 387) (by rw [s68]; rfl) (by decide) ?_
    refine T.aload_n dX11_does_393 rfl 0 rfl ?_
    refine T.iload_n dX11_does_394 rfl 1 rfl ?_
    refine T.iconst (w := (-1)) dX11_does_395 (by decide) ?_
    refine T.iconst (w := (-1)) dX11_does_396 (by decide) ?_
    refine T.callV_v 0 (As1 := [.int p1, .int (-1), .int (-1)]) (rest := []) (c_guarded Γ p1 (-1 : Int32) (-1 : Int32) X) ka_X11_guarded kv_X11_guarded oR rfl k2120 rfl rfl rfl rfl ⟨Nat.le_of_ble_eq_true rfl, Nat.le_of_ble_eq_true rfl⟩ (Nat.le_of_ble_eq_true rfl) dX11_does_397 (fun _ X69 => ?_)
    refine T.goto (pc1 := 545) dX11_does_400 (by decide) ?_
    refine T.iload_n dX11_does_545 rfl 1 rfl ?_
    refine T.iconst (w := 1) dX11_does_546 (by decide) ?_
    refine T.iadd dX11_does_547 (fun x70 => ?_)
    exact T.ret_i rfl dX11_does_548
  refine T.ite (fun s71 => ?_) (fun s71 => ?_)
  · refine T.tbl (pc1 := 393) dX11_does_6 (by decide) (off := 387) (by rw [s71]; rfl) (by decide) ?_
    refine T.aload_n dX11_does_393 rfl 0 rfl ?_
    refine T.iload_n dX11_does_394 rfl 1 rfl ?_
    refine T.iconst (w := (-1)) dX11_does_395 (by decide) ?_
    refine T.iconst (w := (-1)) dX11_does_396 (by decide) ?_
    refine T.callV_v 0 (As1 := [.int p1, .int (-1), .int (-1)]) (rest := []) (c_guarded Γ p1 (-1 : Int32) (-1 : Int32) X) ka_X11_guarded kv_X11_guarded oR rfl k2120 rfl rfl rfl rfl ⟨Nat.le_of_ble_eq_true rfl, Nat.le_of_ble_eq_true rfl⟩ (Nat.le_of_ble_eq_true rfl) dX11_does_397 (fun _ X72 => ?_)
    refine T.goto (pc1 := 545) dX11_does_400 (by decide) ?_
    refine T.iload_n dX11_does_545 rfl 1 rfl ?_
    refine T.iconst (w := 1) dX11_does_546 (by decide) ?_
    refine T.iadd dX11_does_547 (fun x73 => ?_)
    exact T.ret_i rfl dX11_does_548
  refine T.ite (fun s74 => ?_) (fun s74 => ?_)
  · refine T.tbl (pc1 := 393) dX11_does_6 (by decide) (off := 387) (by rw [s74]; rfl) (by decide) ?_
    refine T.aload_n dX11_does_393 rfl 0 rfl ?_
    refine T.iload_n dX11_does_394 rfl 1 rfl ?_
    refine T.iconst (w := (-1)) dX11_does_395 (by decide) ?_
    refine T.iconst (w := (-1)) dX11_does_396 (by decide) ?_
    refine T.callV_v 0 (As1 := [.int p1, .int (-1), .int (-1)]) (rest := []) (c_guarded Γ p1 (-1 : Int32) (-1 : Int32) X) ka_X11_guarded kv_X11_guarded oR rfl k2120 rfl rfl rfl rfl ⟨Nat.le_of_ble_eq_true rfl, Nat.le_of_ble_eq_true rfl⟩ (Nat.le_of_ble_eq_true rfl) dX11_does_397 (fun _ X75 => ?_)
    refine T.goto (pc1 := 545) dX11_does_400 (by decide) ?_
    refine T.iload_n dX11_does_545 rfl 1 rfl ?_
    refine T.iconst (w := 1) dX11_does_546 (by decide) ?_
    refine T.iadd dX11_does_547 (fun x76 => ?_)
    exact T.ret_i rfl dX11_does_548
  refine T.ite (fun s77 => ?_) (fun s77 => ?_)
  · refine T.tbl (pc1 := 403) dX11_does_6 (by decide) (off := 397) (by rw [s77]; rfl) (by decide) ?_
    refine T.aload_n dX11_does_403 rfl 0 rfl ?_
    refine T.dupr dX11_does_404 ?_
    refine gR31 k1456 dX11_does_405 (fun x78 => ?_)
    refine T.iconst (w := 1) dX11_does_408 (by decide) ?_
    refine T.isub dX11_does_409 (fun x79 => ?_)
    refine pR31 k1456 dX11_does_410 (fun X80 => ?_)
    refine T.aload_n dX11_does_413 rfl 0 rfl ?_
    refine cR109 k1460 dX11_does_414 ?_
    refine T.aload_n dX11_does_417 rfl 0 rfl ?_
    refine gR32 k1459 dX11_does_418 (fun x81 => ?_)
    refine T.aload_n dX11_does_421 rfl 0 rfl ?_
    refine cR73 k1411 dX11_does_422 ?_
    refine T.iload_n dX11_does_425 rfl 2 rfl ?_
    refine alR26 dX11_does_426 (fun x82 => ?_)
    refine T.iadd dX11_does_427 (fun x83 => ?_)
    refine T.aload_n dX11_does_428 rfl 0 rfl ?_
    refine cR107 k1457 dX11_does_429 ?_
    refine T.aload_n dX11_does_432 rfl 0 rfl ?_
    refine gR31 k1456 dX11_does_433 (fun x84 => ?_)
    refine alR60 dX11_does_436 (fun x85 => ?_)
    refine asR62 dX11_does_437 (fun X86 => ?_)
    refine T.aload_n dX11_does_438 rfl 0 rfl ?_
    refine cR110 k1461 dX11_does_439 ?_
    refine T.aload_n dX11_does_442 rfl 0 rfl ?_
    refine gR32 k1459 dX11_does_443 (fun x87 => ?_)
    refine T.aload_n dX11_does_446 rfl 0 rfl ?_
    refine cR73 k1411 dX11_does_447 ?_
    refine T.iload_n dX11_does_450 rfl 2 rfl ?_
    refine alR26 dX11_does_451 (fun x88 => ?_)
    refine T.iadd dX11_does_452 (fun x89 => ?_)
    refine T.aload_n dX11_does_453 rfl 0 rfl ?_
    refine cR108 k1458 dX11_does_454 ?_
    refine T.aload_n dX11_does_457 rfl 0 rfl ?_
    refine gR31 k1456 dX11_does_458 (fun x90 => ?_)
    refine alR61 dX11_does_461 (fun x91 => ?_)
    refine asR63 dX11_does_462 (fun X92 => ?_)
    refine T.goto (pc1 := 545) dX11_does_463 (by decide) ?_
    refine T.iload_n dX11_does_545 rfl 1 rfl ?_
    refine T.iconst (w := 1) dX11_does_546 (by decide) ?_
    refine T.iadd dX11_does_547 (fun x93 => ?_)
    exact T.ret_i rfl dX11_does_548
  refine T.ite (fun s94 => ?_) (fun s94 => ?_)
  · refine T.tbl (pc1 := 393) dX11_does_6 (by decide) (off := 387) (by rw [s94]; rfl) (by decide) ?_
    refine T.aload_n dX11_does_393 rfl 0 rfl ?_
    refine T.iload_n dX11_does_394 rfl 1 rfl ?_
    refine T.iconst (w := (-1)) dX11_does_395 (by decide) ?_
    refine T.iconst (w := (-1)) dX11_does_396 (by decide) ?_
    refine T.callV_v 0 (As1 := [.int p1, .int (-1), .int (-1)]) (rest := []) (c_guarded Γ p1 (-1 : Int32) (-1 : Int32) X) ka_X11_guarded kv_X11_guarded oR rfl k2120 rfl rfl rfl rfl ⟨Nat.le_of_ble_eq_true rfl, Nat.le_of_ble_eq_true rfl⟩ (Nat.le_of_ble_eq_true rfl) dX11_does_397 (fun _ X95 => ?_)
    refine T.goto (pc1 := 545) dX11_does_400 (by decide) ?_
    refine T.iload_n dX11_does_545 rfl 1 rfl ?_
    refine T.iconst (w := 1) dX11_does_546 (by decide) ?_
    refine T.iadd dX11_does_547 (fun x96 => ?_)
    exact T.ret_i rfl dX11_does_548
  refine T.ite (fun s97 => ?_) (fun s97 => ?_)
  · refine T.tbl (pc1 := 466) dX11_does_6 (by decide) (off := 460) (by rw [s97]; rfl) (by decide) ?_
    refine T.aload_n dX11_does_466 rfl 0 rfl ?_
    refine T.dupr dX11_does_467 ?_
    refine gR31 k1456 dX11_does_468 (fun x98 => ?_)
    refine T.iconst (w := 1) dX11_does_471 (by decide) ?_
    refine T.isub dX11_does_472 (fun x99 => ?_)
    refine pR31 k1456 dX11_does_473 (fun X100 => ?_)
    refine T.aload_n dX11_does_476 rfl 0 rfl ?_
    refine cR108 k1458 dX11_does_477 ?_
    refine T.aload_n dX11_does_480 rfl 0 rfl ?_
    refine gR31 k1456 dX11_does_481 (fun x101 => ?_)
    refine alR61 dX11_does_484 (fun x102 => ?_)
    refine T.iconst (w := 1) dX11_does_485 (by decide) ?_
    refine T.icmp_ne (pc1 := 495) dX11_does_486 (by decide) rfl ?_ ?_
    · refine T.aload_n dX11_does_495 rfl 0 rfl ?_
      refine cR93 k1438 dX11_does_496 ?_
      refine T.iload_n dX11_does_499 rfl 2 rfl ?_
      refine alR46 dX11_does_500 (fun x103 => ?_)
      exact T.ret_i rfl dX11_does_501
    · refine T.iload_n dX11_does_489 rfl 1 rfl ?_
      refine T.iconst (w := 1) dX11_does_490 (by decide) ?_
      refine T.iadd dX11_does_491 (fun x104 => ?_)
      refine T.goto (pc1 := 501) dX11_does_492 (by decide) ?_
      exact T.ret_i rfl dX11_does_501
  refine T.ite (fun s105 => ?_) (fun s105 => ?_)
  · refine T.tbl (pc1 := 502) dX11_does_6 (by decide) (off := 496) (by rw [s105]; rfl) (by decide) ?_
    refine T.aload_n dX11_does_502 rfl 0 rfl ?_
    refine cR94 k1439 dX11_does_503 ?_
    refine T.iload_n dX11_does_506 rfl 2 rfl ?_
    refine alR47 dX11_does_507 (fun x106 => ?_)
    exact T.ret_i rfl dX11_does_508
  refine T.ite (fun s107 => ?_) (fun s107 => ?_)
  · refine T.tbl (pc1 := 522) dX11_does_6 (by decide) (off := 516) (by rw [s107]; rfl) (by decide) ?_
    refine T.aload_n dX11_does_522 rfl 0 rfl ?_
    refine T.iload_n dX11_does_523 rfl 1 rfl ?_
    refine T.iload_n dX11_does_524 rfl 2 rfl ?_
    refine T.callV_i 0 (As1 := [.int p1, .int p2]) (rest := []) (c_call Γ p1 p2 X) ka_X11_call kv_X11_call oR rfl k2144 rfl rfl rfl rfl ⟨Nat.le_of_ble_eq_true rfl, Nat.le_of_ble_eq_true rfl⟩ (Nat.le_of_ble_eq_true rfl) dX11_does_525 (fun x108 X109 => ?_)
    exact T.ret_i rfl dX11_does_528
  refine T.ite (fun s110 => ?_) (fun s110 => ?_)
  · refine T.tbl (pc1 := 509) dX11_does_6 (by decide) (off := 503) (by rw [s110]; rfl) (by decide) ?_
    refine T.aload_n dX11_does_509 rfl 0 rfl ?_
    refine T.dupr dX11_does_510 ?_
    refine gR31 k1456 dX11_does_511 (fun x111 => ?_)
    refine T.iconst (w := 1) dX11_does_514 (by decide) ?_
    refine T.isub dX11_does_515 (fun x112 => ?_)
    refine pR31 k1456 dX11_does_516 (fun X113 => ?_)
    refine T.goto (pc1 := 545) dX11_does_519 (by decide) ?_
    refine T.iload_n dX11_does_545 rfl 1 rfl ?_
    refine T.iconst (w := 1) dX11_does_546 (by decide) ?_
    refine T.iadd dX11_does_547 (fun x114 => ?_)
    exact T.ret_i rfl dX11_does_548
  refine T.ite (fun s115 => ?_) (fun s115 => ?_)
  · refine T.tbl (pc1 := 393) dX11_does_6 (by decide) (off := 387) (by rw [s115]; rfl) (by decide) ?_
    refine T.aload_n dX11_does_393 rfl 0 rfl ?_
    refine T.iload_n dX11_does_394 rfl 1 rfl ?_
    refine T.iconst (w := (-1)) dX11_does_395 (by decide) ?_
    refine T.iconst (w := (-1)) dX11_does_396 (by decide) ?_
    refine T.callV_v 0 (As1 := [.int p1, .int (-1), .int (-1)]) (rest := []) (c_guarded Γ p1 (-1 : Int32) (-1 : Int32) X) ka_X11_guarded kv_X11_guarded oR rfl k2120 rfl rfl rfl rfl ⟨Nat.le_of_ble_eq_true rfl, Nat.le_of_ble_eq_true rfl⟩ (Nat.le_of_ble_eq_true rfl) dX11_does_397 (fun _ X116 => ?_)
    refine T.goto (pc1 := 545) dX11_does_400 (by decide) ?_
    refine T.iload_n dX11_does_545 rfl 1 rfl ?_
    refine T.iconst (w := 1) dX11_does_546 (by decide) ?_
    refine T.iadd dX11_does_547 (fun x117 => ?_)
    exact T.ret_i rfl dX11_does_548
  refine T.ite (fun s118 => ?_) (fun s118 => ?_)
  · refine T.tbl (pc1 := 529) dX11_does_6 (by decide) (off := 523) (by rw [s118]; rfl) (by decide) ?_
    refine T.aload_n dX11_does_529 rfl 0 rfl ?_
    refine T.callV_i 0 (As1 := []) (rest := []) (c_goesBack Γ X) ka_X11_goesBack kv_X11_goesBack oR rfl k2148 rfl rfl rfl rfl ⟨Nat.le_of_ble_eq_true rfl, Nat.le_of_ble_eq_true rfl⟩ (Nat.le_of_ble_eq_true rfl) dX11_does_530 (fun x119 X120 => ?_)
    exact T.ret_i rfl dX11_does_533
  refine T.tbl (pc1 := 534) dX11_does_6 (by decide) (off := 528) (tbl_d [0, 1, 2, 3, 4, 5, 6, 7, 8, 9, 10, 11, 12, 13, 14, 15, 16, 28, 29, 30, 31] (by intro q; simp only [List.mem_cons, List.not_mem_nil, or_false] at q; omega) (by decide)) (by decide) ?_
  refine T.aload_n dX11_does_534 rfl 0 rfl ?_
  refine T.aload_n dX11_does_535 rfl 0 rfl ?_
  refine cR87 k1432 dX11_does_536 ?_
  refine T.iload_n dX11_does_539 rfl 1 rfl ?_
  refine alR40 dX11_does_540 (fun x121 => ?_)
  refine T.iload_n dX11_does_541 rfl 2 rfl ?_
  refine T.callV_v 0 (As1 := [.int x121, .int p2]) (rest := []) (c_works Γ x121 p2 X) ka_X11_works kv_X11_works oR rfl k2152 rfl rfl rfl rfl ⟨Nat.le_of_ble_eq_true rfl, Nat.le_of_ble_eq_true rfl⟩ (Nat.le_of_ble_eq_true rfl) dX11_does_542 (fun _ X122 => ?_)
  refine T.iload_n dX11_does_545 rfl 1 rfl ?_
  refine T.iconst (w := 1) dX11_does_546 (by decide) ?_
  refine T.iadd dX11_does_547 (fun x123 => ?_)
  exact T.ret_i rfl dX11_does_548
