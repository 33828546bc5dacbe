theorem dX11_fifth_0 : decode cX11_fifth 0 = .ok (.aload_n 0, 1) := by decide +kernel
theorem dX11_fifth_1 : decode cX11_fifth 1 = .ok (.bipush 91, 2) := by decide +kernel
theorem dX11_fifth_3 : decode cX11_fifth 3 = .ok (.invokevirtual 345, 3) := by decide +kernel
theorem dX11_fifth_6 : decode cX11_fifth 6 = .ok (.ifCond .ne 39, 3) := by decide +kernel
theorem dX11_fifth_9 : decode cX11_fifth 9 = .ok (.aload_n 0, 1) := by decide +kernel
theorem dX11_fifth_10 : decode cX11_fifth 10 = .ok (.bipush 14, 2) := by decide +kernel
theorem dX11_fifth_12 : decode cX11_fifth 12 = .ok (.invokevirtual 370, 3) := by decide +kernel
theorem dX11_fifth_15 : decode cX11_fifth 15 = .ok (.ifCond .ne 30, 3) := by decide +kernel
theorem dX11_fifth_18 : decode cX11_fifth 18 = .ok (.aload_n 0, 1) := by decide +kernel
theorem dX11_fifth_19 : decode cX11_fifth 19 = .ok (.bipush 11, 2) := by decide +kernel
theorem dX11_fifth_21 : decode cX11_fifth 21 = .ok (.invokevirtual 370, 3) := by decide +kernel
theorem dX11_fifth_24 : decode cX11_fifth 24 = .ok (.ifCond .ne 21, 3) := by decide +kernel
theorem dX11_fifth_27 : decode cX11_fifth 27 = .ok (.aload_n 0, 1) := by decide +kernel
theorem dX11_fifth_28 : decode cX11_fifth 28 = .ok (.bipush 12, 2) := by decide +kernel
theorem dX11_fifth_30 : decode cX11_fifth 30 = .ok (.invokevirtual 370, 3) := by decide +kernel
theorem dX11_fifth_33 : decode cX11_fifth 33 = .ok (.ifCond .ne 12, 3) := by decide +kernel
theorem dX11_fifth_36 : decode cX11_fifth 36 = .ok (.aload_n 0, 1) := by decide +kernel
theorem dX11_fifth_37 : decode cX11_fifth 37 = .ok (.bipush 13, 2) := by decide +kernel
theorem dX11_fifth_39 : decode cX11_fifth 39 = .ok (.invokevirtual 370, 3) := by decide +kernel
theorem dX11_fifth_42 : decode cX11_fifth 42 = .ok (.ifCond .eq 7, 3) := by decide +kernel
theorem dX11_fifth_45 : decode cX11_fifth 45 = .ok (.iconst 1, 1) := by decide +kernel
theorem dX11_fifth_46 : decode cX11_fifth 46 = .ok (.goto 4, 3) := by decide +kernel
theorem dX11_fifth_49 : decode cX11_fifth 49 = .ok (.iconst 0, 1) := by decide +kernel
theorem dX11_fifth_50 : decode cX11_fifth 50 = .ok (.istore_n 2, 1) := by decide +kernel
theorem dX11_fifth_51 : decode cX11_fifth 51 = .ok (.iload_n 1, 1) := by decide +kernel
theorem dX11_fifth_52 : decode cX11_fifth 52 = .ok (.iconst 4, 1) := by decide +kernel
theorem dX11_fifth_53 : decode cX11_fifth 53 = .ok (.if_icmp .ne 16, 3) := by decide +kernel
theorem dX11_fifth_56 : decode cX11_fifth 56 = .ok (.iload_n 2, 1) := by decide +kernel
theorem dX11_fifth_57 : decode cX11_fifth 57 = .ok (.ifCond .eq 12, 3) := by decide +kernel
theorem dX11_fifth_60 : decode cX11_fifth 60 = .ok (.aload_n 0, 1) := by decide +kernel
theorem dX11_fifth_61 : decode cX11_fifth 61 = .ok (.iconst 3, 1) := by decide +kernel
theorem dX11_fifth_62 : decode cX11_fifth 62 = .ok (.aload_n 0, 1) := by decide +kernel
theorem dX11_fifth_63 : decode cX11_fifth 63 = .ok (.getfield 292, 3) := by decide +kernel
theorem dX11_fifth_66 : decode cX11_fifth 66 = .ok (.invokevirtual 295, 3) := by decide +kernel
theorem dX11_fifth_69 : decode cX11_fifth 69 = .ok (.return_, 1) := by decide +kernel
theorem dX11_kind_0 : decode cX11_kind 0 = .ok (.iconst 0, 1) := by decide +kernel
theorem dX11_kind_1 : decode cX11_kind 1 = .ok (.istore_n 1, 1) := by decide +kernel
theorem dX11_kind_2 : decode cX11_kind 2 = .ok (.iconst (-1), 1) := by decide +kernel
theorem dX11_kind_3 : decode cX11_kind 3 = .ok (.istore_n 2, 1) := by decide +kernel
theorem dX11_kind_4 : decode cX11_kind 4 = .ok (.aload_n 0, 1) := by decide +kernel
theorem dX11_kind_5 : decode cX11_kind 5 = .ok (.iconst 0, 1) := by decide +kernel
theorem dX11_kind_6 : decode cX11_kind 6 = .ok (.putfield 364, 3) := by decide +kernel
theorem dX11_kind_9 : decode cX11_kind 9 = .ok (.iconst 0, 1) := by decide +kernel
theorem dX11_kind_10 : decode cX11_kind 10 = .ok (.istore_n 3, 1) := by decide +kernel
theorem dX11_kind_11 : decode cX11_kind 11 = .ok (.aload_n 0, 1) := by decide +kernel
theorem dX11_kind_12 : decode cX11_kind 12 = .ok (.invokevirtual 341, 3) := by decide +kernel
theorem dX11_kind_15 : decode cX11_kind 15 = .ok (.ifCond .eq 331, 3) := by decide +kernel
theorem dX11_kind_18 : decode cX11_kind 18 = .ok (.iload_n 3, 1) := by decide +kernel
theorem dX11_kind_19 : decode cX11_kind 19 = .ok (.ifCond .ne 327, 3) := by decide +kernel
theorem dX11_kind_22 : decode cX11_kind 22 = .ok (.iload_n 2, 1) := by decide +kernel
theorem dX11_kind_23 : decode cX11_kind 23 = .ok (.ifCond .ge 116, 3) := by decide +kernel
theorem dX11_kind_26 : decode cX11_kind 26 = .ok (.aload_n 0, 1) := by decide +kernel
theorem dX11_kind_27 : decode cX11_kind 27 = .ok (.bipush 91, 2) := by decide +kernel
theorem dX11_kind_29 : decode cX11_kind 29 = .ok (.invokevirtual 345, 3) := by decide +kernel
theorem dX11_kind_32 : decode cX11_kind 32 = .ok (.ifCond .eq 22, 3) := by decide +kernel
theorem dX11_kind_35 : decode cX11_kind 35 = .ok (.aload_n 0, 1) := by decide +kernel
theorem dX11_kind_36 : decode cX11_kind 36 = .ok (.bipush 91, 2) := by decide +kernel
theorem dX11_kind_38 : decode cX11_kind 38 = .ok (.invokevirtual 367, 3) := by decide +kernel
theorem dX11_kind_41 : decode cX11_kind 41 = .ok (.aload_n 0, 1) := by decide +kernel
theorem dX11_kind_42 : decode cX11_kind 42 = .ok (.getfield 116, 3) := by decide +kernel
theorem dX11_kind_45 : decode cX11_kind 45 = .ok (.iload_n 1, 1) := by decide +kernel
theorem dX11_kind_46 : decode cX11_kind 46 = .ok (.iconst 0, 1) := by decide +kernel
theorem dX11_kind_47 : decode cX11_kind 47 = .ok (.iastore, 1) := by decide +kernel
theorem dX11_kind_48 : decode cX11_kind 48 = .ok (.iinc 1 1, 3) := by decide +kernel
theorem dX11_kind_51 : decode cX11_kind 51 = .ok (.goto (-40), 3) := by decide +kernel
theorem dX11_kind_54 : decode cX11_kind 54 = .ok (.aload_n 0, 1) := by decide +kernel
theorem dX11_kind_55 : decode cX11_kind 55 = .ok (.bipush 14, 2) := by decide +kernel
theorem dX11_kind_57 : decode cX11_kind 57 = .ok (.invokevirtual 370, 3) := by decide +kernel
theorem dX11_kind_60 : decode cX11_kind 60 = .ok (.ifCond .eq 71, 3) := by decide +kernel
theorem dX11_kind_63 : decode cX11_kind 63 = .ok (.aload_n 0, 1) := by decide +kernel
theorem dX11_kind_64 : decode cX11_kind 64 = .ok (.invokevirtual 358, 3) := by decide +kernel
theorem dX11_kind_67 : decode cX11_kind 67 = .ok (.aload_n 0, 1) := by decide +kernel
theorem dX11_kind_68 : decode cX11_kind 68 = .ok (.invokevirtual 341, 3) := by decide +kernel
theorem dX11_kind_71 : decode cX11_kind 71 = .ok (.ifCond .eq 13, 3) := by decide +kernel
theorem dX11_kind_74 : decode cX11_kind 74 = .ok (.aload_n 0, 1) := by decide +kernel
theorem dX11_kind_75 : decode cX11_kind 75 = .ok (.invokevirtual 349, 3) := by decide +kernel
theorem dX11_kind_78 : decode cX11_kind 78 = .ok (.aload_n 0, 1) := by decide +kernel
theorem dX11_kind_79 : decode cX11_kind 79 = .ok (.bipush 40, 2) := by decide +kernel
theorem dX11_kind_81 : decode cX11_kind 81 = .ok (.invokevirtual 367, 3) := by decide +kernel
theorem dX11_kind_84 : decode cX11_kind 84 = .ok (.aload_n 0, 1) := by decide +kernel
theorem dX11_kind_85 : decode cX11_kind 85 = .ok (.getfield 116, 3) := by decide +kernel
theorem dX11_kind_88 : decode cX11_kind 88 = .ok (.iload_n 1, 1) := by decide +kernel
theorem dX11_kind_89 : decode cX11_kind 89 = .ok (.iconst 1, 1) := by decide +kernel
theorem dX11_kind_90 : decode cX11_kind 90 = .ok (.iastore, 1) := by decide +kernel
theorem dX11_kind_91 : decode cX11_kind 91 = .ok (.aload_n 0, 1) := by decide +kernel
theorem dX11_kind_92 : decode cX11_kind 92 = .ok (.getfield 119, 3) := by decide +kernel
theorem dX11_kind_95 : decode cX11_kind 95 = .ok (.iload_n 1, 1) := by decide +kernel
theorem dX11_kind_96 : decode cX11_kind 96 = .ok (.aload_n 0, 1) := by decide +kernel
theorem dX11_kind_97 : decode cX11_kind 97 = .ok (.getfield 364, 3) := by decide +kernel
theorem dX11_kind_100 : decode cX11_kind 100 = .ok (.iastore, 1) := by decide +kernel
theorem dX11_kind_101 : decode cX11_kind 101 = .ok (.iinc 1 1, 3) := by decide +kernel
theorem dX11_kind_104 : decode cX11_kind 104 = .ok (.aload_n 0, 1) := by decide +kernel
theorem dX11_kind_105 : decode cX11_kind 105 = .ok (.bipush 41, 2) := by decide +kernel
theorem dX11_kind_107 : decode cX11_kind 107 = .ok (.invokevirtual 345, 3) := by decide +kernel
theorem dX11_kind_110 : decode cX11_kind 110 = .ok (.ifCond .eq (-99), 3) := by decide +kernel
theorem dX11_kind_113 : decode cX11_kind 113 = .ok (.aload_n 0, 1) := by decide +kernel
theorem dX11_kind_114 : decode cX11_kind 114 = .ok (.bipush 41, 2) := by decide +kernel
theorem dX11_kind_116 : decode cX11_kind 116 = .ok (.invokevirtual 373, 3) := by decide +kernel
theorem dX11_kind_119 : decode cX11_kind 119 = .ok (.aload_n 0, 1) := by decide +kernel
theorem dX11_kind_120 : decode cX11_kind 120 = .ok (.getfield 116, 3) := by decide +kernel
theorem dX11_kind_123 : decode cX11_kind 123 = .ok (.iload_n 1, 1) := by decide +kernel
theorem dX11_kind_124 : decode cX11_kind 124 = .ok (.iconst 1, 1) := by decide +kernel
theorem dX11_kind_125 : decode cX11_kind 125 = .ok (.isub, 1) := by decide +kernel
theorem dX11_kind_126 : decode cX11_kind 126 = .ok (.iconst 2, 1) := by decide +kernel
theorem dX11_kind_127 : decode cX11_kind 127 = .ok (.iastore, 1) := by decide +kernel
theorem dX11_kind_128 : decode cX11_kind 128 = .ok (.goto (-117), 3) := by decide +kernel
theorem dX11_kind_131 : decode cX11_kind 131 = .ok (.aload_n 0, 1) := by decide +kernel
theorem dX11_kind_132 : decode cX11_kind 132 = .ok (.invokevirtual 376, 3) := by decide +kernel
theorem dX11_kind_135 : decode cX11_kind 135 = .ok (.istore_n 2, 1) := by decide +kernel
theorem dX11_kind_136 : decode cX11_kind 136 = .ok (.goto (-125), 3) := by decide +kernel
theorem dX11_kind_139 : decode cX11_kind 139 = .ok (.iload_n 1, 1) := by decide +kernel
theorem dX11_kind_140 : decode cX11_kind 140 = .ok (.ifCond .ne 8, 3) := by decide +kernel
theorem dX11_kind_143 : decode cX11_kind 143 = .ok (.iconst 1, 1) := by decide +kernel
theorem dX11_kind_144 : decode cX11_kind 144 = .ok (.istore_n 3, 1) := by decide +kernel
theorem dX11_kind_145 : decode cX11_kind 145 = .ok (.goto (-134), 3) := by decide +kernel
theorem dX11_kind_148 : decode cX11_kind 148 = .ok (.iload_n 1, 1) := by decide +kernel
theorem dX11_kind_149 : decode cX11_kind 149 = .ok (.iconst 1, 1) := by decide +kernel
theorem dX11_kind_150 : decode cX11_kind 150 = .ok (.isub, 1) := by decide +kernel
theorem dX11_kind_151 : decode cX11_kind 151 = .ok (.istore 4, 2) := by decide +kernel
theorem dX11_kind_153 : decode cX11_kind 153 = .ok (.aload_n 0, 1) := by decide +kernel
theorem dX11_kind_154 : decode cX11_kind 154 = .ok (.getfield 116, 3) := by decide +kernel
theorem dX11_kind_157 : decode cX11_kind 157 = .ok (.iload 4, 2) := by decide +kernel
theorem dX11_kind_159 : decode cX11_kind 159 = .ok (.iaload, 1) := by decide +kernel
theorem dX11_kind_160 : decode cX11_kind 160 = .ok (.ifCond .ne 32, 3) := by decide +kernel
theorem dX11_kind_163 : decode cX11_kind 163 = .ok (.aload_n 0, 1) := by decide +kernel
theorem dX11_kind_164 : decode cX11_kind 164 = .ok (.bipush 93, 2) := by decide +kernel
theorem dX11_kind_166 : decode cX11_kind 166 = .ok (.invokevirtual 373, 3) := by decide +kernel
theorem dX11_kind_169 : decode cX11_kind 169 = .ok (.aload_n 0, 1) := by decide +kernel
theorem dX11_kind_170 : decode cX11_kind 170 = .ok (.invokevirtual 341, 3) := by decide +kernel
theorem dX11_kind_173 : decode cX11_kind 173 = .ok (.ifCond .eq 11, 3) := by decide +kernel
theorem dX11_kind_176 : decode cX11_kind 176 = .ok (.aload_n 0, 1) := by decide +kernel
theorem dX11_kind_177 : decode cX11_kind 177 = .ok (.iload_n 2, 1) := by decide +kernel
theorem dX11_kind_178 : decode cX11_kind 178 = .ok (.invokevirtual 380, 3) := by decide +kernel
theorem dX11_kind_181 : decode cX11_kind 181 = .ok (.goto 4, 3) := by decide +kernel
theorem dX11_kind_184 : decode cX11_kind 184 = .ok (.iload_n 2, 1) := by decide +kernel
theorem dX11_kind_185 : decode cX11_kind 185 = .ok (.istore_n 2, 1) := by decide +kernel
theorem dX11_kind_186 : decode cX11_kind 186 = .ok (.iinc 1 (-1), 3) := by decide +kernel
theorem dX11_kind_189 : decode cX11_kind 189 = .ok (.goto 154, 3) := by decide +kernel
theorem dX11_kind_192 : decode cX11_kind 192 = .ok (.aload_n 0, 1) := by decide +kernel
theorem dX11_kind_193 : decode cX11_kind 193 = .ok (.getfield 116, 3) := by decide +kernel
theorem dX11_kind_196 : decode cX11_kind 196 = .ok (.iload 4, 2) := by decide +kernel
theorem dX11_kind_198 : decode cX11_kind 198 = .ok (.iaload, 1) := by decide +kernel
theorem dX11_kind_199 : decode cX11_kind 199 = .ok (.iconst 1, 1) := by decide +kernel
theorem dX11_kind_200 : decode cX11_kind 200 = .ok (.if_icmp .ne 74, 3) := by decide +kernel
theorem dX11_kind_203 : decode cX11_kind 203 = .ok (.aload_n 0, 1) := by decide +kernel
theorem dX11_kind_204 : decode cX11_kind 204 = .ok (.getfield 46, 3) := by decide +kernel
theorem dX11_kind_207 : decode cX11_kind 207 = .ok (.aload_n 0, 1) := by decide +kernel
theorem dX11_kind_208 : decode cX11_kind 208 = .ok (.getfield 364, 3) := by decide +kernel
theorem dX11_kind_211 : decode cX11_kind 211 = .ok (.iload_n 2, 1) := by decide +kernel
theorem dX11_kind_212 : decode cX11_kind 212 = .ok (.iastore, 1) := by decide +kernel
theorem dX11_kind_213 : decode cX11_kind 213 = .ok (.aload_n 0, 1) := by decide +kernel
theorem dX11_kind_214 : decode cX11_kind 214 = .ok (.dup, 1) := by decide +kernel
theorem dX11_kind_215 : decode cX11_kind 215 = .ok (.getfield 364, 3) := by decide +kernel
theorem dX11_kind_218 : decode cX11_kind 218 = .ok (.iconst 1, 1) := by decide +kernel
theorem dX11_kind_219 : decode cX11_kind 219 = .ok (.iadd, 1) := by decide +kernel
theorem dX11_kind_220 : decode cX11_kind 220 = .ok (.putfield 364, 3) := by decide +kernel
theorem dX11_kind_223 : decode cX11_kind 223 = .ok (.iconst (-1), 1) := by decide +kernel
theorem dX11_kind_224 : decode cX11_kind 224 = .ok (.istore_n 2, 1) := by decide +kernel
theorem dX11_kind_225 : decode cX11_kind 225 = .ok (.aload_n 0, 1) := by decide +kernel
theorem dX11_kind_226 : decode cX11_kind 226 = .ok (.bipush 44, 2) := by decide +kernel
theorem dX11_kind_228 : decode cX11_kind 228 = .ok (.invokevirtual 345, 3) := by decide +kernel
theorem dX11_kind_231 : decode cX11_kind 231 = .ok (.ifCond .eq 26, 3) := by decide +kernel
theorem dX11_kind_234 : decode cX11_kind 234 = .ok (.aload_n 0, 1) := by decide +kernel
theorem dX11_kind_235 : decode cX11_kind 235 = .ok (.invokevirtual 349, 3) := by decide +kernel
theorem dX11_kind_238 : decode cX11_kind 238 = .ok (.aload_n 0, 1) := by decide +kernel
theorem dX11_kind_239 : decode cX11_kind 239 = .ok (.aload_n 0, 1) := by decide +kernel
theorem dX11_kind_240 : decode cX11_kind 240 = .ok (.getfield 364, 3) := by decide +kernel
theorem dX11_kind_243 : decode cX11_kind 243 = .ok (.aload_n 0, 1) := by decide +kernel
theorem dX11_kind_244 : decode cX11_kind 244 = .ok (.getfield 119, 3) := by decide +kernel
theorem dX11_kind_247 : decode cX11_kind 247 = .ok (.iload 4, 2) := by decide +kernel
theorem dX11_kind_249 : decode cX11_kind 249 = .ok (.iaload, 1) := by decide +kernel
theorem dX11_kind_250 : decode cX11_kind 250 = .ok (.isub, 1) := by decide +kernel
theorem dX11_kind_251 : decode cX11_kind 251 = .ok (.invokevirtual 383, 3) := by decide +kernel
theorem dX11_kind_254 : decode cX11_kind 254 = .ok (.goto 89, 3) := by decide +kernel
theorem dX11_kind_257 : decode cX11_kind 257 = .ok (.aload_n 0, 1) := by decide +kernel
theorem dX11_kind_258 : decode cX11_kind 258 = .ok (.bipush 41, 2) := by decide +kernel
theorem dX11_kind_260 : decode cX11_kind 260 = .ok (.invokevirtual 373, 3) := by decide +kernel
theorem dX11_kind_263 : decode cX11_kind 263 = .ok (.aload_n 0, 1) := by decide +kernel
theorem dX11_kind_264 : decode cX11_kind 264 = .ok (.getfield 116, 3) := by decide +kernel
theorem dX11_kind_267 : decode cX11_kind 267 = .ok (.iload 4, 2) := by decide +kernel
theorem dX11_kind_269 : decode cX11_kind 269 = .ok (.iconst 2, 1) := by decide +kernel
theorem dX11_kind_270 : decode cX11_kind 270 = .ok (.iastore, 1) := by decide +kernel
theorem dX11_kind_271 : decode cX11_kind 271 = .ok (.goto 72, 3) := by decide +kernel
theorem dX11_kind_274 : decode cX11_kind 274 = .ok (.aload_n 0, 1) := by decide +kernel
theorem dX11_kind_275 : decode cX11_kind 275 = .ok (.getfield 46, 3) := by decide +kernel
theorem dX11_kind_278 : decode cX11_kind 278 = .ok (.aload_n 0, 1) := by decide +kernel
theorem dX11_kind_279 : decode cX11_kind 279 = .ok (.getfield 364, 3) := by decide +kernel
theorem dX11_kind_282 : decode cX11_kind 282 = .ok (.iload_n 2, 1) := by decide +kernel
theorem dX11_kind_283 : decode cX11_kind 283 = .ok (.iastore, 1) := by decide +kernel
theorem dX11_kind_284 : decode cX11_kind 284 = .ok (.aload_n 0, 1) := by decide +kernel
theorem dX11_kind_285 : decode cX11_kind 285 = .ok (.dup, 1) := by decide +kernel
theorem dX11_kind_286 : decode cX11_kind 286 = .ok (.getfield 364, 3) := by decide +kernel
theorem dX11_kind_289 : decode cX11_kind 289 = .ok (.iconst 1, 1) := by decide +kernel
theorem dX11_kind_290 : decode cX11_kind 290 = .ok (.iadd, 1) := by decide +kernel
theorem dX11_kind_291 : decode cX11_kind 291 = .ok (.putfield 364, 3) := by decide +kernel
theorem dX11_kind_294 : decode cX11_kind 294 = .ok (.aload_n 0, 1) := by decide +kernel
theorem dX11_kind_295 : decode cX11_kind 295 = .ok (.dup, 1) := by decide +kernel
theorem dX11_kind_296 : decode cX11_kind 296 = .ok (.getfield 355, 3) := by decide +kernel
theorem dX11_kind_299 : decode cX11_kind 299 = .ok (.iconst 1, 1) := by decide +kernel
theorem dX11_kind_300 : decode cX11_kind 300 = .ok (.isub, 1) := by decide +kernel
theorem dX11_kind_301 : decode cX11_kind 301 = .ok (.putfield 355, 3) := by decide +kernel
theorem dX11_kind_304 : decode cX11_kind 304 = .ok (.aload_n 0, 1) := by decide +kernel
theorem dX11_kind_305 : decode cX11_kind 305 = .ok (.iconst 5, 1) := by decide +kernel
theorem dX11_kind_306 : decode cX11_kind 306 = .ok (.aload_n 0, 1) := by decide +kernel
theorem dX11_kind_307 : decode cX11_kind 307 = .ok (.getfield 119, 3) := by decide +kernel
theorem dX11_kind_310 : decode cX11_kind 310 = .ok (.iload 4, 2) := by decide +kernel
theorem dX11_kind_312 : decode cX11_kind 312 = .ok (.iaload, 1) := by decide +kernel
theorem dX11_kind_313 : decode cX11_kind 313 = .ok (.aload_n 0, 1) := by decide +kernel
theorem dX11_kind_314 : decode cX11_kind 314 = .ok (.getfield 364, 3) := by decide +kernel
theorem dX11_kind_317 : decode cX11_kind 317 = .ok (.aload_n 0, 1) := by decide +kernel
theorem dX11_kind_318 : decode cX11_kind 318 = .ok (.getfield 119, 3) := by decide +kernel
theorem dX11_kind_321 : decode cX11_kind 321 = .ok (.iload 4, 2) := by decide +kernel
theorem dX11_kind_323 : decode cX11_kind 323 = .ok (.iaload, 1) := by decide +kernel
theorem dX11_kind_324 : decode cX11_kind 324 = .ok (.isub, 1) := by decide +kernel
theorem dX11_kind_325 : decode cX11_kind 325 = .ok (.invokevirtual 272, 3) := by decide +kernel
theorem dX11_kind_328 : decode cX11_kind 328 = .ok (.istore_n 2, 1) := by decide +kernel
theorem dX11_kind_329 : decode cX11_kind 329 = .ok (.aload_n 0, 1) := by decide +kernel
theorem dX11_kind_330 : decode cX11_kind 330 = .ok (.aload_n 0, 1) := by decide +kernel
theorem dX11_kind_331 : decode cX11_kind 331 = .ok (.getfield 119, 3) := by decide +kernel
theorem dX11_kind_334 : decode cX11_kind 334 = .ok (.iload 4, 2) := by decide +kernel
theorem dX11_kind_336 : decode cX11_kind 336 = .ok (.iaload, 1) := by decide +kernel
theorem dX11_kind_337 : decode cX11_kind 337 = .ok (.putfield 364, 3) := by decide +kernel
theorem dX11_kind_340 : decode cX11_kind 340 = .ok (.iinc 1 (-1), 3) := by decide +kernel
theorem dX11_kind_343 : decode cX11_kind 343 = .ok (.goto (-332), 3) := by decide +kernel
theorem dX11_kind_346 : decode cX11_kind 346 = .ok (.iload_n 2, 1) := by decide +kernel
theorem dX11_kind_347 : decode cX11_kind 347 = .ok (.ifCond .ge 7, 3) := by decide +kernel
theorem dX11_kind_350 : decode cX11_kind 350 = .ok (.iconst 2, 1) := by decide +kernel
theorem dX11_kind_351 : decode cX11_kind 351 = .ok (.goto 4, 3) := by decide +kernel
theorem dX11_kind_354 : decode cX11_kind 354 = .ok (.iload_n 2, 1) := by decide +kernel
theorem dX11_kind_355 : decode cX11_kind 355 = .ok (.ireturn, 1) := by decide +kernel
theorem k1393 : Cond.fieldLink "BlameCourtModel" 364 "BlameCourtModel" "givens" "I" ∈ gtb := gtm (in_tables_1_6 (List.mem_of_getElem? (i := 7) rfl)) rfl
theorem k1420 : Cond.fieldLink "BlameCourtModel" 116 "BlameCourtModel" "openKind" "[I" ∈ gtb := gtm (in_tables_1_6 (List.mem_of_getElem? (i := 34) rfl)) rfl
theorem k1421 : Cond.fieldLink "BlameCourtModel" 119 "BlameCourtModel" "openFrom" "[I" ∈ gtb := gtm (in_tables_1_6 (List.mem_of_getElem? (i := 35) rfl)) rfl
theorem k1820 : Cond.methodLink "BlameCourtModel" 367 yX11_opens ∈ gtb := gtm (in_tables_1_7 (List.mem_of_getElem? (i := 194) rfl)) rfl
theorem k1832 : Cond.methodLink "BlameCourtModel" 373 yX11_closes ∈ gtb := gtm (in_tables_1_7 (List.mem_of_getElem? (i := 206) rfl)) rfl
theorem k1848 : Cond.methodLink "BlameCourtModel" 376 yX11_plainKind ∈ gtb := gtm (in_tables_1_7 (List.mem_of_getElem? (i := 222) rfl)) rfl
theorem k1852 : Cond.methodLink "BlameCourtModel" 380 yX11_rowOf ∈ gtb := gtm (in_tables_1_7 (List.mem_of_getElem? (i := 226) rfl)) rfl
theorem k1856 : Cond.methodLink "BlameCourtModel" 383 yX11_fifth ∈ gtb := gtm (in_tables_1_7 (List.mem_of_getElem? (i := 230) rfl)) rfl
theorem k1859 : Cond.code yX11_fifth cX11_fifth 3 none ∈ gtb := gtm (in_tables_1_7 (List.mem_of_getElem? (i := 233) rfl)) rfl
theorem ka_X11_fifth : KA yX11_fifth cX11_fifth 3 none 1 := ⟨k1859, k197, by decide, by decide, by decide +kernel⟩
theorem k1858 : Cond.instanceMethod yX11_fifth ∈ gtb := gtm (in_tables_1_7 (List.mem_of_getElem? (i := 232) rfl)) rfl
theorem k116 : Cond.selects "BlameCourtModel" yX11_fifth yX11_fifth ∈ gtb := gtm (in_lw_privs_8 (q := (yX11_fifth, 129)) (List.mem_of_getElem? (i := 4) rfl)) rfl
theorem kv_X11_fifth : KV yX11_fifth := ⟨k1858, k116⟩
theorem k1847 : Cond.code yX11_kind cX11_kind 5 (some .int) ∈ gtb := gtm (in_tables_1_7 (List.mem_of_getElem? (i := 221) rfl)) rfl
theorem ka_X11_kind : KA yX11_kind cX11_kind 5 (some .int) 0 := ⟨k1847, k197, by decide, by decide, by decide +kernel⟩
theorem k1846 : Cond.instanceMethod yX11_kind ∈ gtb := gtm (in_tables_1_7 (List.mem_of_getElem? (i := 220) rfl)) rfl
theorem k113 : Cond.selects "BlameCourtModel" yX11_kind yX11_kind ∈ gtb := gtm (in_lw_privs_8 (q := (yX11_kind, 129)) (List.mem_of_getElem? (i := 1) rfl)) rfl
theorem kv_X11_kind : KV yX11_kind := ⟨k1846, k113⟩
/-- the open kinds: 0 a row, 1 a function's takers, 2 what it gives -/
def wk (f : Nat → Int32) : Nat → Int
  | 0 => 0
  | o + 1 => wk f o + (if (f o).toInt = 1 then 2 else 1)
def c2 (f : Nat → Int32) : Nat → Int
  | 0 => 0
  | o + 1 => c2 f o + (if (f o).toInt = 2 then 1 else 0)
def okk (f : Nat → Int32) (n : Nat) : Prop := ∀ o, o < n → (f o).toInt = 0 ∨ (f o).toInt = 1 ∨ (f o).toInt = 2
def frk (f g : Nat → Int32) : Nat → Int → Prop
  | 0, v => 0 ≤ v
  | o + 1, v => if (f o).toInt = 0 then frk f g o v else (0 ≤ (g o).toInt ∧ (g o).toInt ≤ v ∧ frk f g o (g o).toInt)
theorem upd_ge {f : Nat → Int32} {i o : Nat} {v : Int32} (h : o < i) : upd f i v o = f o := by
  unfold upd
  rw [if_neg (by omega)]
theorem upd_at {f : Nat → Int32} {i : Nat} {v : Int32} : upd f i v i = v := by
  unfold upd
  rw [if_pos rfl]
theorem wk_ge {f : Nat → Int32} {i : Nat} {v : Int32} : ∀ o, o ≤ i → wk (upd f i v) o = wk f o
  | 0, _ => rfl
  | o + 1, h => by
    unfold wk
    rw [wk_ge o (by omega), upd_ge (by omega)]
theorem c2_ge {f : Nat → Int32} {i : Nat} {v : Int32} : ∀ o, o ≤ i → c2 (upd f i v) o = c2 f o
  | 0, _ => rfl
  | o + 1, h => by
    unfold c2
    rw [c2_ge o (by omega), upd_ge (by omega)]
theorem frk_f {f g : Nat → Int32} {i : Nat} {v : Int32} : ∀ (o : Nat) (w : Int), o ≤ i → frk f g o w → frk (upd f i v) g o w
  | 0, _, _, h => h
  | o + 1, w, hi, h => by
    unfold frk at h ⊢
    rw [upd_ge (by omega)]
    split
    · rename_i q
      rw [if_pos q] at h
      exact frk_f o w (by omega) h
    · rename_i q
      rw [if_neg q] at h
      exact ⟨h.1, h.2.1, frk_f o _ (by omega) h.2.2⟩
theorem frk_g {f g : Nat → Int32} {i : Nat} {v : Int32} : ∀ (o : Nat) (w : Int), o ≤ i → frk f g o w → frk f (upd g i v) o w
  | 0, _, _, h => h
  | o + 1, w, hi, h => by
    unfold frk at h ⊢
    rw [upd_ge (by omega)]
    split
    · rename_i q
      rw [if_pos q] at h
      exact frk_g o w (by omega) h
    · rename_i q
      rw [if_neg q] at h
      exact ⟨h.1, h.2.1, frk_g o _ (by omega) h.2.2⟩
theorem frk_up {f g : Nat → Int32} : ∀ (o : Nat) (v w : Int), v ≤ w → frk f g o v → frk f g o w
  | 0, v, w, hv, h => by
    unfold frk at h ⊢
    omega
  | o + 1, v, w, hv, h => by
    unfold frk at h ⊢
    split
    · rename_i q
      rw [if_pos q] at h
      exact frk_up o v w hv h
    · rename_i q
      rw [if_neg q] at h
      exact ⟨h.1, by omega, h.2.2⟩
theorem wk_lo {f : Nat → Int32} : ∀ o : Nat, (o : Int) ≤ wk f o
  | 0 => by unfold wk; omega
  | o + 1 => by
    have q := wk_lo (f := f) o
    unfold wk
    split <;> omega
theorem c2_lo {f : Nat → Int32} : ∀ o : Nat, 0 ≤ c2 f o
  | 0 => by unfold c2; omega
  | o + 1 => by
    have q := c2_lo (f := f) o
    unfold c2
    split <;> omega
theorem okk_put {f : Nat → Int32} {n : Nat} {v : Int32} (h : okk f n) (hv : v.toInt = 0 ∨ v.toInt = 1 ∨ v.toInt = 2) : okk (upd f n v) (n + 1) := by
  intro o ho
  by_cases q : o = n
  · subst q
    rw [upd_at]
    exact hv
  · rw [upd_ge (by omega)]
    exact h o (by omega)
theorem okk_at {f : Nat → Int32} {n i : Nat} {v : Int32} (h : okk f n) (hv : v.toInt = 0 ∨ v.toInt = 1 ∨ v.toInt = 2) : okk (upd f i v) n := by
  intro o ho
  unfold upd
  split
  · exact hv
  · exact h o ho
/-- what is given is a kind -/
def gvk (f : Nat → Int32) (n K : Int) : Prop := ∀ j : Nat, (j : Int) < n → 0 ≤ (f j).toInt ∧ (f j).toInt < K
theorem gvk_put {f : Nat → Int32} {n K : Int} {i v : Int32} (h : gvk f n K) (hi : i.toInt = n) (h0 : 0 ≤ n) (hv : 0 ≤ v.toInt) (hv2 : v.toInt < K) : gvk (upd f i.toNatClampNeg v) (n + 1) K := by
  intro j hj
  have q := tnc (x := i) (by omega)
  unfold upd
  split
  · exact ⟨hv, hv2⟩
  · exact h j (by omega)
theorem gvk.up {f : Nat → Int32} {n n' K K' : Int} (h : gvk f n K) (hn : n' ≤ n) (hK : K ≤ K') : gvk f n' K' := fun j hj => by
  have q := h j (by omega)
  omega

theorem wk_push {f : Nat → Int32} {n : Nat} {v : Int32} : wk (upd f n v) (n + 1) = wk f n + (if v.toInt = 1 then 2 else 1) := by
  show wk (upd f n v) n + (if (upd f n v n).toInt = 1 then 2 else 1) = _
  rw [wk_ge n (Nat.le_refl n), upd_at]
theorem c2_push {f : Nat → Int32} {n : Nat} {v : Int32} : c2 (upd f n v) (n + 1) = c2 f n + (if v.toInt = 2 then 1 else 0) := by
  show c2 (upd f n v) n + (if (upd f n v n).toInt = 2 then 1 else 0) = _
  rw [c2_ge n (Nat.le_refl n), upd_at]
theorem frk_p0 {f g : Nat → Int32} {n : Nat} {v : Int32} {w : Int} (h : frk f g n w) (hv : v.toInt = 0) : frk (upd f n v) g (n + 1) w := by
  unfold frk
  rw [upd_at, if_pos hv]
  exact frk_f n w (Nat.le_refl n) h
theorem frk_p1 {f g : Nat → Int32} {n : Nat} {v x : Int32} {w : Int} (h : frk f g n w) (hv : ¬ v.toInt = 0) (hx : x.toInt = w) (hw : 0 ≤ w) : frk (upd f n v) (upd g n x) (n + 1) w := by
  unfold frk
  rw [upd_at, upd_at, if_neg hv]
  refine ⟨by omega, by omega, ?_⟩
  rw [hx]
  exact frk_g n w (Nat.le_refl n) (frk_f n w (Nat.le_refl n) h)
theorem frk_re {f g : Nat → Int32} {n : Nat} {v : Int32} {w : Int} (h : frk f g (n + 1) w) (h0 : ¬ (f n).toInt = 0) (hv : ¬ v.toInt = 0) : frk (upd f n v) g (n + 1) w := by
  unfold frk at h ⊢
  rw [if_neg h0] at h
  rw [upd_at, if_neg hv]
  exact ⟨h.1, h.2.1, frk_f n _ (Nat.le_refl n) h.2.2⟩
theorem upd_upd {f : Nat → Int32} {n : Nat} {u v : Int32} : upd (upd f n u) n v = upd f n v := by
  funext j
  unfold upd
  split <;> rfl

set_option maxHeartbeats 4000000 in
set_option maxRecDepth 100000 in
theorem m_fifth (l : Launch) (dC : Nat → ClassId) (dI : Nat → Nat → Nat) (h0 : Nat) (ad : Nat → Nat) (cA : Nat → ClassId) (σ : Nat → Int32) (τ : Int64) (α : Nat → Nat → Int32) (β : Nat → Nat → Int64) (v : Int32) (sz : Nat) : MCv l dC dI h0 ad cA yX11_fifth cX11_fifth 3 ({ frames := 14, cells := 0, slots := 0, locals := 210 } : Room) [.int v] σ τ α β (fun x => offS [9, 10] σ x.1 ∧ offA [] α x.2.2.1 ∧ offA [] β x.2.2.2 ∧ x.2.1 = τ ∧ (((x.1 9).toInt = 0 → (σ 9).toInt = 0))) sz := by
  refine gbody_v (by decide) (Nat.le_of_ble_eq_true rfl) ?_
  intro p e s m below meth c ls A H hf hr hlk hw hl
  have hl : lv_has ls 3 [(0, .ref h0), (1, .int v)] := hl
  refine lv_aload_n hf.1 hf.2.1 dX11_fifth_0 rfl (lv_at hl 0 rfl) ?_
  refine lv_bipush (v := 91) hf.1 hf.2.1 dX11_fifth_1 (by decide) ?_
  refine gcall_i (As := [.int 91]) (rest := []) hf hw (m_isSign l dC dI h0 ad cA σ τ α β 91 H.size ) ka_X11_isSign kv_X11_isSign rfl k1824 rfl rfl hl.1 rfl rfl ⟨Nat.le_of_ble_eq_true rfl, Nat.le_of_ble_eq_true rfl⟩ (Nat.le_of_ble_eq_true rfl) ⟨Nat.le_refl _, Nat.le_refl _⟩ dX11_fifth_3 (fun r_6 w_5 hw_5 H locs hw => ?_)
  obtain ⟨σ_5, τ_5, α_5, β_5⟩ := w_5
  obtain ⟨hS_5, hA_5, hB_5, hT_5, hp_5⟩ := hw_5
  obtain rfl : σ = σ_5 := (offS_nil hS_5).symm
  obtain rfl : τ = τ_5 := hT_5.symm
  obtain rfl : α = α_5 := (offA_nil hA_5).symm
  obtain rfl : β = β_5 := (offA_nil hB_5).symm
  have hp_5 : (r_6.toInt = 0 ∨ r_6.toInt = 1) ∧ (r_6.toInt = 1 → (σ 9).toInt = 0 ∧ (σ 7).toInt = 4) := hp_5
  have hw : Wd dC dI A (MW h0 ad cA σ τ α β) (MT cA) s H locs := hw
  refine lv_if_ne (tgt := 45) hf.1 hf.2.1 dX11_fifth_6 (by decide) (fun c_7 => ?_) (fun c_7 => ?_)
  · have ic_7 : ¬ r_6.toInt = (0 : Int) := ti_ne c_7
    refine lv_iconst (v := 1) hf.1 hf.2.1 dX11_fifth_45 (by decide) ?_
    refine lv_goto (tgt := 50) hf.1 hf.2.1 dX11_fifth_46 (by decide) ?_
    refine lv_istore_n (lv' := [(2, .int 1), (0, .ref h0), (1, .int v)]) hf.1 hf.2.1 dX11_fifth_50 rfl hl (by decide) rfl (fun ls hl => ?_)
    refine lv_iload_n hf.1 hf.2.1 dX11_fifth_51 rfl (lv_at hl 2 rfl) ?_
    refine lv_iconst (v := 4) hf.1 hf.2.1 dX11_fifth_52 (by decide) ?_
    refine lv_icmp_ne (tgt := 69) hf.1 hf.2.1 dX11_fifth_53 (by decide) (fun c_8 => ?_) (fun c_8 => ?_)
    · have ic_8 : ¬ v.toInt = (4 : Int) := ti_ne c_8
      exact gret_v hf hr hlk hw ⟨offS.rf, offA.rf, offA.rf, rfl, (by show ((σ 9).toInt = 0 → (σ 9).toInt = 0); omega)⟩ dX11_fifth_69
    · have ic_8 : v.toInt = (4 : Int) := ti_eq c_8
      refine lv_iload_n hf.1 hf.2.1 dX11_fifth_56 rfl (lv_at hl 0 rfl) ?_
      refine lv_if_eq (tgt := 69) hf.1 hf.2.1 dX11_fifth_57 (by decide) (fun c_9 => absurd c_9 (by decide)) (fun c_9 => ?_)
      refine lv_aload_n hf.1 hf.2.1 dX11_fifth_60 rfl (lv_at hl 1 rfl) ?_
      refine lv_iconst (v := 3) hf.1 hf.2.1 dX11_fifth_61 (by decide) ?_
      refine lv_aload_n hf.1 hf.2.1 dX11_fifth_62 rfl (lv_at hl 1 rfl) ?_
      refine gget hf hw 6 (by decide) k1374 (v := σ 6) rfl dX11_fifth_63 ?_
      refine gcall_v (As := [.int 3, .int (σ 6)]) (rest := []) hf hw (m_fails2 l dC dI h0 ad cA σ τ α β 3 ((σ 6)) H.size ) ka_X11_fails kv_X11_fails rfl k1812 rfl rfl hl.1 rfl rfl ⟨Nat.le_of_ble_eq_true rfl, Nat.le_of_ble_eq_true rfl⟩ (Nat.le_of_ble_eq_true rfl) ⟨Nat.le_refl _, Nat.le_refl _⟩ dX11_fifth_66 (fun w_10 hw_10 H locs hw => ?_)
      obtain ⟨σ_10, τ_10, α_10, β_10⟩ := w_10
      obtain ⟨hS_10, hA_10, hB_10, hT_10, hp_10⟩ := hw_10
      obtain rfl : τ = τ_10 := hT_10.symm
      obtain rfl : α = α_10 := (offA_nil hA_10).symm
      obtain rfl : β = β_10 := (offA_nil hB_10).symm
      have hp_10 : (¬ (3 : Int) = 0 → ¬ (σ_10 9).toInt = 0) ∧ ((σ_10 9).toInt = 0 → (σ 9).toInt = 0) := hp_10
      have f_10_0 : (σ_10 0).toInt = (σ 0).toInt := congrArg Int32.toInt (hS_10 0 (by decide))
      have f_10_1 : (σ_10 1).toInt = (σ 1).toInt := congrArg Int32.toInt (hS_10 1 (by decide))
      have f_10_5 : (σ_10 5).toInt = (σ 5).toInt := congrArg Int32.toInt (hS_10 5 (by decide))
      have f_10_6 : (σ_10 6).toInt = (σ 6).toInt := congrArg Int32.toInt (hS_10 6 (by decide))
      have f_10_7 : (σ_10 7).toInt = (σ 7).toInt := congrArg Int32.toInt (hS_10 7 (by decide))
      have f_10_13 : (σ_10 13).toInt = (σ 13).toInt := congrArg Int32.toInt (hS_10 13 (by decide))
      have f_10_15 : (σ_10 15).toInt = (σ 15).toInt := congrArg Int32.toInt (hS_10 15 (by decide))
      have f_10_17 : (σ_10 17).toInt = (σ 17).toInt := congrArg Int32.toInt (hS_10 17 (by decide))
      have f_10_18 : (σ_10 18).toInt = (σ 18).toInt := congrArg Int32.toInt (hS_10 18 (by decide))
      have f_10_19 : (σ_10 19).toInt = (σ 19).toInt := congrArg Int32.toInt (hS_10 19 (by decide))
      have f_10_20 : (σ_10 20).toInt = (σ 20).toInt := congrArg Int32.toInt (hS_10 20 (by decide))
      have f_10_21 : (σ_10 21).toInt = (σ 21).toInt := congrArg Int32.toInt (hS_10 21 (by decide))
      have f_10_22 : (σ_10 22).toInt = (σ 22).toInt := congrArg Int32.toInt (hS_10 22 (by decide))
      have hw : Wd dC dI A (MW h0 ad cA σ_10 τ α β) (MT cA) s H locs := hw
      exact gret_v hf hr hlk hw ⟨(offS.rf.tr hS_10 (by decide)), offA.rf, offA.rf, rfl, (by show ((σ_10 9).toInt = 0 → (σ 9).toInt = 0); omega)⟩ dX11_fifth_69
  · have ic_7 : r_6.toInt = (0 : Int) := ti_eq c_7
    refine lv_aload_n hf.1 hf.2.1 dX11_fifth_9 rfl (lv_at hl 0 rfl) ?_
    refine lv_bipush (v := 14) hf.1 hf.2.1 dX11_fifth_10 (by decide) ?_
    refine gcall_i (As := [.int 14]) (rest := []) hf hw (m_isWord l dC dI h0 ad cA σ τ α β 14 H.size ) ka_X11_isWord kv_X11_isWord rfl k1804 rfl rfl hl.1 rfl rfl ⟨Nat.le_of_ble_eq_true rfl, Nat.le_of_ble_eq_true rfl⟩ (Nat.le_of_ble_eq_true rfl) ⟨Nat.le_refl _, Nat.le_refl _⟩ dX11_fifth_12 (fun r_13 w_12 hw_12 H locs hw => ?_)
    obtain ⟨σ_12, τ_12, α_12, β_12⟩ := w_12
    obtain ⟨hS_12, hA_12, hB_12, hT_12, hp_12⟩ := hw_12
    obtain rfl : σ = σ_12 := (offS_nil hS_12).symm
    obtain rfl : τ = τ_12 := hT_12.symm
    obtain rfl : α = α_12 := (offA_nil hA_12).symm
    obtain rfl : β = β_12 := (offA_nil hB_12).symm
    have hp_12 : (r_13.toInt = 0 ∨ r_13.toInt = 1) ∧ (r_13.toInt = 1 → (σ 9).toInt = 0 ∧ (σ 7).toInt = 2) := hp_12
    have hw : Wd dC dI A (MW h0 ad cA σ τ α β) (MT cA) s H locs := hw
    refine lv_if_ne (tgt := 45) hf.1 hf.2.1 dX11_fifth_15 (by decide) (fun c_14 => ?_) (fun c_14 => ?_)
    · have ic_14 : ¬ r_13.toInt = (0 : Int) := ti_ne c_14
      refine lv_iconst (v := 1) hf.1 hf.2.1 dX11_fifth_45 (by decide) ?_
      refine lv_goto (tgt := 50) hf.1 hf.2.1 dX11_fifth_46 (by decide) ?_
      refine lv_istore_n (lv' := [(2, .int 1), (0, .ref h0), (1, .int v)]) hf.1 hf.2.1 dX11_fifth_50 rfl hl (by decide) rfl (fun ls hl => ?_)
      refine lv_iload_n hf.1 hf.2.1 dX11_fifth_51 rfl (lv_at hl 2 rfl) ?_
      refine lv_iconst (v := 4) hf.1 hf.2.1 dX11_fifth_52 (by decide) ?_
      refine lv_icmp_ne (tgt := 69) hf.1 hf.2.1 dX11_fifth_53 (by decide) (fun c_15 => ?_) (fun c_15 => ?_)
      · have ic_15 : ¬ v.toInt = (4 : Int) := ti_ne c_15
        exact gret_v hf hr hlk hw ⟨offS.rf, offA.rf, offA.rf, rfl, (by show ((σ 9).toInt = 0 → (σ 9).toInt = 0); omega)⟩ dX11_fifth_69
      · have ic_15 : v.toInt = (4 : Int) := ti_eq c_15
        refine lv_iload_n hf.1 hf.2.1 dX11_fifth_56 rfl (lv_at hl 0 rfl) ?_
        refine lv_if_eq (tgt := 69) hf.1 hf.2.1 dX11_fifth_57 (by decide) (fun c_16 => absurd c_16 (by decide)) (fun c_16 => ?_)
        refine lv_aload_n hf.1 hf.2.1 dX11_fifth_60 rfl (lv_at hl 1 rfl) ?_
        refine lv_iconst (v := 3) hf.1 hf.2.1 dX11_fifth_61 (by decide) ?_
        refine lv_aload_n hf.1 hf.2.1 dX11_fifth_62 rfl (lv_at hl 1 rfl) ?_
        refine gget hf hw 6 (by decide) k1374 (v := σ 6) rfl dX11_fifth_63 ?_
        refine gcall_v (As := [.int 3, .int (σ 6)]) (rest := []) hf hw (m_fails2 l dC dI h0 ad cA σ τ α β 3 ((σ 6)) H.size ) ka_X11_fails kv_X11_fails rfl k1812 rfl rfl hl.1 rfl rfl ⟨Nat.le_of_ble_eq_true rfl, Nat.le_of_ble_eq_true rfl⟩ (Nat.le_of_ble_eq_true rfl) ⟨Nat.le_refl _, Nat.le_refl _⟩ dX11_fifth_66 (fun w_17 hw_17 H locs hw => ?_)
        obtain ⟨σ_17, τ_17, α_17, β_17⟩ := w_17
        obtain ⟨hS_17, hA_17, hB_17, hT_17, hp_17⟩ := hw_17
        obtain rfl : τ = τ_17 := hT_17.symm
        obtain rfl : α = α_17 := (offA_nil hA_17).symm
        obtain rfl : β = β_17 := (offA_nil hB_17).symm
        have hp_17 : (¬ (3 : Int) = 0 → ¬ (σ_17 9).toInt = 0) ∧ ((σ_17 9).toInt = 0 → (σ 9).toInt = 0) := hp_17
        have f_17_0 : (σ_17 0).toInt = (σ 0).toInt := congrArg Int32.toInt (hS_17 0 (by decide))
        have f_17_1 : (σ_17 1).toInt = (σ 1).toInt := congrArg Int32.toInt (hS_17 1 (by decide))
        have f_17_5 : (σ_17 5).toInt = (σ 5).toInt := congrArg Int32.toInt (hS_17 5 (by decide))
        have f_17_6 : (σ_17 6).toInt = (σ 6).toInt := congrArg Int32.toInt (hS_17 6 (by decide))
        have f_17_7 : (σ_17 7).toInt = (σ 7).toInt := congrArg Int32.toInt (hS_17 7 (by decide))
        have f_17_13 : (σ_17 13).toInt = (σ 13).toInt := congrArg Int32.toInt (hS_17 13 (by decide))
        have f_17_15 : (σ_17 15).toInt = (σ 15).toInt := congrArg Int32.toInt (hS_17 15 (by decide))
        have f_17_17 : (σ_17 17).toInt = (σ 17).toInt := congrArg Int32.toInt (hS_17 17 (by decide))
        have f_17_18 : (σ_17 18).toInt = (σ 18).toInt := congrArg Int32.toInt (hS_17 18 (by decide))
        have f_17_19 : (σ_17 19).toInt = (σ 19).toInt := congrArg Int32.toInt (hS_17 19 (by decide))
        have f_17_20 : (σ_17 20).toInt = (σ 20).toInt := congrArg Int32.toInt (hS_17 20 (by decide))
        have f_17_21 : (σ_17 21).toInt = (σ 21).toInt := congrArg Int32.toInt (hS_17 21 (by decide))
        have f_17_22 : (σ_17 22).toInt = (σ 22).toInt := congrArg Int32.toInt (hS_17 22 (by decide))
        have hw : Wd dC dI A (MW h0 ad cA σ_17 τ α β) (MT cA) s H locs := hw
        exact gret_v hf hr hlk hw ⟨(offS.rf.tr hS_17 (by decide)), offA.rf, offA.rf, rfl, (by show ((σ_17 9).toInt = 0 → (σ 9).toInt = 0); omega)⟩ dX11_fifth_69
    · have ic_14 : r_13.toInt = (0 : Int) := ti_eq c_14
      refine lv_aload_n hf.1 hf.2.1 dX11_fifth_18 rfl (lv_at hl 0 rfl) ?_
      refine lv_bipush (v := 11) hf.1 hf.2.1 dX11_fifth_19 (by decide) ?_
      refine gcall_i (As := [.int 11]) (rest := []) hf hw (m_isWord l dC dI h0 ad cA σ τ α β 11 H.size ) ka_X11_isWord kv_X11_isWord rfl k1804 rfl rfl hl.1 rfl rfl ⟨Nat.le_of_ble_eq_true rfl, Nat.le_of_ble_eq_true rfl⟩ (Nat.le_of_ble_eq_true rfl) ⟨Nat.le_refl _, Nat.le_refl _⟩ dX11_fifth_21 (fun r_20 w_19 hw_19 H locs hw => ?_)
      obtain ⟨σ_19, τ_19, α_19, β_19⟩ := w_19
      obtain ⟨hS_19, hA_19, hB_19, hT_19, hp_19⟩ := hw_19
      obtain rfl : σ = σ_19 := (offS_nil hS_19).symm
      obtain rfl : τ = τ_19 := hT_19.symm
      obtain rfl : α = α_19 := (offA_nil hA_19).symm
      obtain rfl : β = β_19 := (offA_nil hB_19).symm
      have hp_19 : (r_20.toInt = 0 ∨ r_20.toInt = 1) ∧ (r_20.toInt = 1 → (σ 9).toInt = 0 ∧ (σ 7).toInt = 2) := hp_19
      have hw : Wd dC dI A (MW h0 ad cA σ τ α β) (MT cA) s H locs := hw
      refine lv_if_ne (tgt := 45) hf.1 hf.2.1 dX11_fifth_24 (by decide) (fun c_21 => ?_) (fun c_21 => ?_)
      · have ic_21 : ¬ r_20.toInt = (0 : Int) := ti_ne c_21
        refine lv_iconst (v := 1) hf.1 hf.2.1 dX11_fifth_45 (by decide) ?_
        refine lv_goto (tgt := 50) hf.1 hf.2.1 dX11_fifth_46 (by decide) ?_
        refine lv_istore_n (lv' := [(2, .int 1), (0, .ref h0), (1, .int v)]) hf.1 hf.2.1 dX11_fifth_50 rfl hl (by decide) rfl (fun ls hl => ?_)
        refine lv_iload_n hf.1 hf.2.1 dX11_fifth_51 rfl (lv_at hl 2 rfl) ?_
        refine lv_iconst (v := 4) hf.1 hf.2.1 dX11_fifth_52 (by decide) ?_
        refine lv_icmp_ne (tgt := 69) hf.1 hf.2.1 dX11_fifth_53 (by decide) (fun c_22 => ?_) (fun c_22 => ?_)
        · have ic_22 : ¬ v.toInt = (4 : Int) := ti_ne c_22
          exact gret_v hf hr hlk hw ⟨offS.rf, offA.rf, offA.rf, rfl, (by show ((σ 9).toInt = 0 → (σ 9).toInt = 0); omega)⟩ dX11_fifth_69
        · have ic_22 : v.toInt = (4 : Int) := ti_eq c_22
          refine lv_iload_n hf.1 hf.2.1 dX11_fifth_56 rfl (lv_at hl 0 rfl) ?_
          refine lv_if_eq (tgt := 69) hf.1 hf.2.1 dX11_fifth_57 (by decide) (fun c_23 => absurd c_23 (by decide)) (fun c_23 => ?_)
          refine lv_aload_n hf.1 hf.2.1 dX11_fifth_60 rfl (lv_at hl 1 rfl) ?_
          refine lv_iconst (v := 3) hf.1 hf.2.1 dX11_fifth_61 (by decide) ?_
          refine lv_aload_n hf.1 hf.2.1 dX11_fifth_62 rfl (lv_at hl 1 rfl) ?_
          refine gget hf hw 6 (by decide) k1374 (v := σ 6) rfl dX11_fifth_63 ?_
          refine gcall_v (As := [.int 3, .int (σ 6)]) (rest := []) hf hw (m_fails2 l dC dI h0 ad cA σ τ α β 3 ((σ 6)) H.size ) ka_X11_fails kv_X11_fails rfl k1812 rfl rfl hl.1 rfl rfl ⟨Nat.le_of_ble_eq_true rfl, Nat.le_of_ble_eq_true rfl⟩ (Nat.le_of_ble_eq_true rfl) ⟨Nat.le_refl _, Nat.le_refl _⟩ dX11_fifth_66 (fun w_24 hw_24 H locs hw => ?_)
          obtain ⟨σ_24, τ_24, α_24, β_24⟩ := w_24
          obtain ⟨hS_24, hA_24, hB_24, hT_24, hp_24⟩ := hw_24
          obtain rfl : τ = τ_24 := hT_24.symm
          obtain rfl : α = α_24 := (offA_nil hA_24).symm
          obtain rfl : β = β_24 := (offA_nil hB_24).symm
          have hp_24 : (¬ (3 : Int) = 0 → ¬ (σ_24 9).toInt = 0) ∧ ((σ_24 9).toInt = 0 → (σ 9).toInt = 0) := hp_24
          have f_24_0 : (σ_24 0).toInt = (σ 0).toInt := congrArg Int32.toInt (hS_24 0 (by decide))
          have f_24_1 : (σ_24 1).toInt = (σ 1).toInt := congrArg Int32.toInt (hS_24 1 (by decide))
          have f_24_5 : (σ_24 5).toInt = (σ 5).toInt := congrArg Int32.toInt (hS_24 5 (by decide))
          have f_24_6 : (σ_24 6).toInt = (σ 6).toInt := congrArg Int32.toInt (hS_24 6 (by decide))
          have f_24_7 : (σ_24 7).toInt = (σ 7).toInt := congrArg Int32.toInt (hS_24 7 (by decide))
          have f_24_13 : (σ_24 13).toInt = (σ 13).toInt := congrArg Int32.toInt (hS_24 13 (by decide))
          have f_24_15 : (σ_24 15).toInt = (σ 15).toInt := congrArg Int32.toInt (hS_24 15 (by decide))
          have f_24_17 : (σ_24 17).toInt = (σ 17).toInt := congrArg Int32.toInt (hS_24 17 (by decide))
          have f_24_18 : (σ_24 18).toInt = (σ 18).toInt := congrArg Int32.toInt (hS_24 18 (by decide))
          have f_24_19 : (σ_24 19).toInt = (σ 19).toInt := congrArg Int32.toInt (hS_24 19 (by decide))
          have f_24_20 : (σ_24 20).toInt = (σ 20).toInt := congrArg Int32.toInt (hS_24 20 (by decide))
          have f_24_21 : (σ_24 21).toInt = (σ 21).toInt := congrArg Int32.toInt (hS_24 21 (by decide))
          have f_24_22 : (σ_24 22).toInt = (σ 22).toInt := congrArg Int32.toInt (hS_24 22 (by decide))
          have hw : Wd dC dI A (MW h0 ad cA σ_24 τ α β) (MT cA) s H locs := hw
          exact gret_v hf hr hlk hw ⟨(offS.rf.tr hS_24 (by decide)), offA.rf, offA.rf, rfl, (by show ((σ_24 9).toInt = 0 → (σ 9).toInt = 0); omega)⟩ dX11_fifth_69
      · have ic_21 : r_20.toInt = (0 : Int) := ti_eq c_21
        refine lv_aload_n hf.1 hf.2.1 dX11_fifth_27 rfl (lv_at hl 0 rfl) ?_
        refine lv_bipush (v := 12) hf.1 hf.2.1 dX11_fifth_28 (by decide) ?_
        refine gcall_i (As := [.int 12]) (rest := []) hf hw (m_isWord l dC dI h0 ad cA σ τ α β 12 H.size ) ka_X11_isWord kv_X11_isWord rfl k1804 rfl rfl hl.1 rfl rfl ⟨Nat.le_of_ble_eq_true rfl, Nat.le_of_ble_eq_true rfl⟩ (Nat.le_of_ble_eq_true rfl) ⟨Nat.le_refl _, Nat.le_refl _⟩ dX11_fifth_30 (fun r_27 w_26 hw_26 H locs hw => ?_)
        obtain ⟨σ_26, τ_26, α_26, β_26⟩ := w_26
        obtain ⟨hS_26, hA_26, hB_26, hT_26, hp_26⟩ := hw_26
        obtain rfl : σ = σ_26 := (offS_nil hS_26).symm
        obtain rfl : τ = τ_26 := hT_26.symm
        obtain rfl : α = α_26 := (offA_nil hA_26).symm
        obtain rfl : β = β_26 := (offA_nil hB_26).symm
        have hp_26 : (r_27.toInt = 0 ∨ r_27.toInt = 1) ∧ (r_27.toInt = 1 → (σ 9).toInt = 0 ∧ (σ 7).toInt = 2) := hp_26
        have hw : Wd dC dI A (MW h0 ad cA σ τ α β) (MT cA) s H locs := hw
        refine lv_if_ne (tgt := 45) hf.1 hf.2.1 dX11_fifth_33 (by decide) (fun c_28 => ?_) (fun c_28 => ?_)
        · have ic_28 : ¬ r_27.toInt = (0 : Int) := ti_ne c_28
          refine lv_iconst (v := 1) hf.1 hf.2.1 dX11_fifth_45 (by decide) ?_
          refine lv_goto (tgt := 50) hf.1 hf.2.1 dX11_fifth_46 (by decide) ?_
          refine lv_istore_n (lv' := [(2, .int 1), (0, .ref h0), (1, .int v)]) hf.1 hf.2.1 dX11_fifth_50 rfl hl (by decide) rfl (fun ls hl => ?_)
          refine lv_iload_n hf.1 hf.2.1 dX11_fifth_51 rfl (lv_at hl 2 rfl) ?_
          refine lv_iconst (v := 4) hf.1 hf.2.1 dX11_fifth_52 (by decide) ?_
          refine lv_icmp_ne (tgt := 69) hf.1 hf.2.1 dX11_fifth_53 (by decide) (fun c_29 => ?_) (fun c_29 => ?_)
          · have ic_29 : ¬ v.toInt = (4 : Int) := ti_ne c_29
            exact gret_v hf hr hlk hw ⟨offS.rf, offA.rf, offA.rf, rfl, (by show ((σ 9).toInt = 0 → (σ 9).toInt = 0); omega)⟩ dX11_fifth_69
          · have ic_29 : v.toInt = (4 : Int) := ti_eq c_29
            refine lv_iload_n hf.1 hf.2.1 dX11_fifth_56 rfl (lv_at hl 0 rfl) ?_
            refine lv_if_eq (tgt := 69) hf.1 hf.2.1 dX11_fifth_57 (by decide) (fun c_30 => absurd c_30 (by decide)) (fun c_30 => ?_)
            refine lv_aload_n hf.1 hf.2.1 dX11_fifth_60 rfl (lv_at hl 1 rfl) ?_
            refine lv_iconst (v := 3) hf.1 hf.2.1 dX11_fifth_61 (by decide) ?_
            refine lv_aload_n hf.1 hf.2.1 dX11_fifth_62 rfl (lv_at hl 1 rfl) ?_
            refine gget hf hw 6 (by decide) k1374 (v := σ 6) rfl dX11_fifth_63 ?_
            refine gcall_v (As := [.int 3, .int (σ 6)]) (rest := []) hf hw (m_fails2 l dC dI h0 ad cA σ τ α β 3 ((σ 6)) H.size ) ka_X11_fails kv_X11_fails rfl k1812 rfl rfl hl.1 rfl rfl ⟨Nat.le_of_ble_eq_true rfl, Nat.le_of_ble_eq_true rfl⟩ (Nat.le_of_ble_eq_true rfl) ⟨Nat.le_refl _, Nat.le_refl _⟩ dX11_fifth_66 (fun w_31 hw_31 H locs hw => ?_)
            obtain ⟨σ_31, τ_31, α_31, β_31⟩ := w_31
            obtain ⟨hS_31, hA_31, hB_31, hT_31, hp_31⟩ := hw_31
            obtain rfl : τ = τ_31 := hT_31.symm
            obtain rfl : α = α_31 := (offA_nil hA_31).symm
            obtain rfl : β = β_31 := (offA_nil hB_31).symm
            have hp_31 : (¬ (3 : Int) = 0 → ¬ (σ_31 9).toInt = 0) ∧ ((σ_31 9).toInt = 0 → (σ 9).toInt = 0) := hp_31
            have f_31_0 : (σ_31 0).toInt = (σ 0).toInt := congrArg Int32.toInt (hS_31 0 (by decide))
            have f_31_1 : (σ_31 1).toInt = (σ 1).toInt := congrArg Int32.toInt (hS_31 1 (by decide))
            have f_31_5 : (σ_31 5).toInt = (σ 5).toInt := congrArg Int32.toInt (hS_31 5 (by decide))
            have f_31_6 : (σ_31 6).toInt = (σ 6).toInt := congrArg Int32.toInt (hS_31 6 (by decide))
            have f_31_7 : (σ_31 7).toInt = (σ 7).toInt := congrArg Int32.toInt (hS_31 7 (by decide))
            have f_31_13 : (σ_31 13).toInt = (σ 13).toInt := congrArg Int32.toInt (hS_31 13 (by decide))
            have f_31_15 : (σ_31 15).toInt = (σ 15).toInt := congrArg Int32.toInt (hS_31 15 (by decide))
            have f_31_17 : (σ_31 17).toInt = (σ 17).toInt := congrArg Int32.toInt (hS_31 17 (by decide))
            have f_31_18 : (σ_31 18).toInt = (σ 18).toInt := congrArg Int32.toInt (hS_31 18 (by decide))
            have f_31_19 : (σ_31 19).toInt = (σ 19).toInt := congrArg Int32.toInt (hS_31 19 (by decide))
            have f_31_20 : (σ_31 20).toInt = (σ 20).toInt := congrArg Int32.toInt (hS_31 20 (by decide))
            have f_31_21 : (σ_31 21).toInt = (σ 21).toInt := congrArg Int32.toInt (hS_31 21 (by decide))
            have f_31_22 : (σ_31 22).toInt = (σ 22).toInt := congrArg Int32.toInt (hS_31 22 (by decide))
            have hw : Wd dC dI A (MW h0 ad cA σ_31 τ α β) (MT cA) s H locs := hw
            exact gret_v hf hr hlk hw ⟨(offS.rf.tr hS_31 (by decide)), offA.rf, offA.rf, rfl, (by show ((σ_31 9).toInt = 0 → (σ 9).toInt = 0); omega)⟩ dX11_fifth_69
        · have ic_28 : r_27.toInt = (0 : Int) := ti_eq c_28
          refine lv_aload_n hf.1 hf.2.1 dX11_fifth_36 rfl (lv_at hl 0 rfl) ?_
          refine lv_bipush (v := 13) hf.1 hf.2.1 dX11_fifth_37 (by decide) ?_
          refine gcall_i (As := [.int 13]) (rest := []) hf hw (m_isWord l dC dI h0 ad cA σ τ α β 13 H.size ) ka_X11_isWord kv_X11_isWord rfl k1804 rfl rfl hl.1 rfl rfl ⟨Nat.le_of_ble_eq_true rfl, Nat.le_of_ble_eq_true rfl⟩ (Nat.le_of_ble_eq_true rfl) ⟨Nat.le_refl _, Nat.le_refl _⟩ dX11_fifth_39 (fun r_34 w_33 hw_33 H locs hw => ?_)
          obtain ⟨σ_33, τ_33, α_33, β_33⟩ := w_33
          obtain ⟨hS_33, hA_33, hB_33, hT_33, hp_33⟩ := hw_33
          obtain rfl : σ = σ_33 := (offS_nil hS_33).symm
          obtain rfl : τ = τ_33 := hT_33.symm
          obtain rfl : α = α_33 := (offA_nil hA_33).symm
          obtain rfl : β = β_33 := (offA_nil hB_33).symm
          have hp_33 : (r_34.toInt = 0 ∨ r_34.toInt = 1) ∧ (r_34.toInt = 1 → (σ 9).toInt = 0 ∧ (σ 7).toInt = 2) := hp_33
          have hw : Wd dC dI A (MW h0 ad cA σ τ α β) (MT cA) s H locs := hw
          refine lv_if_eq (tgt := 49) hf.1 hf.2.1 dX11_fifth_42 (by decide) (fun c_35 => ?_) (fun c_35 => ?_)
          · have ic_35 : r_34.toInt = (0 : Int) := ti_eq c_35
            refine lv_iconst (v := 0) hf.1 hf.2.1 dX11_fifth_49 (by decide) ?_
            refine lv_istore_n (lv' := [(2, .int 0), (0, .ref h0), (1, .int v)]) hf.1 hf.2.1 dX11_fifth_50 rfl hl (by decide) rfl (fun ls hl => ?_)
            refine lv_iload_n hf.1 hf.2.1 dX11_fifth_51 rfl (lv_at hl 2 rfl) ?_
            refine lv_iconst (v := 4) hf.1 hf.2.1 dX11_fifth_52 (by decide) ?_
            refine lv_icmp_ne (tgt := 69) hf.1 hf.2.1 dX11_fifth_53 (by decide) (fun c_36 => ?_) (fun c_36 => ?_)
            · have ic_36 : ¬ v.toInt = (4 : Int) := ti_ne c_36
              exact gret_v hf hr hlk hw ⟨offS.rf, offA.rf, offA.rf, rfl, (by show ((σ 9).toInt = 0 → (σ 9).toInt = 0); omega)⟩ dX11_fifth_69
            · have ic_36 : v.toInt = (4 : Int) := ti_eq c_36
              refine lv_iload_n hf.1 hf.2.1 dX11_fifth_56 rfl (lv_at hl 0 rfl) ?_
              refine lv_if_eq (tgt := 69) hf.1 hf.2.1 dX11_fifth_57 (by decide) (fun c_37 => ?_) (fun c_37 => absurd (by decide) c_37)
              exact gret_v hf hr hlk hw ⟨offS.rf, offA.rf, offA.rf, rfl, (by show ((σ 9).toInt = 0 → (σ 9).toInt = 0); omega)⟩ dX11_fifth_69
          · have ic_35 : ¬ r_34.toInt = (0 : Int) := ti_ne c_35
            refine lv_iconst (v := 1) hf.1 hf.2.1 dX11_fifth_45 (by decide) ?_
            refine lv_goto (tgt := 50) hf.1 hf.2.1 dX11_fifth_46 (by decide) ?_
            refine lv_istore_n (lv' := [(2, .int 1), (0, .ref h0), (1, .int v)]) hf.1 hf.2.1 dX11_fifth_50 rfl hl (by decide) rfl (fun ls hl => ?_)
            refine lv_iload_n hf.1 hf.2.1 dX11_fifth_51 rfl (lv_at hl 2 rfl) ?_
            refine lv_iconst (v := 4) hf.1 hf.2.1 dX11_fifth_52 (by decide) ?_
            refine lv_icmp_ne (tgt := 69) hf.1 hf.2.1 dX11_fifth_53 (by decide) (fun c_38 => ?_) (fun c_38 => ?_)
            · have ic_38 : ¬ v.toInt = (4 : Int) := ti_ne c_38
              exact gret_v hf hr hlk hw ⟨offS.rf, offA.rf, offA.rf, rfl, (by show ((σ 9).toInt = 0 → (σ 9).toInt = 0); omega)⟩ dX11_fifth_69
            · have ic_38 : v.toInt = (4 : Int) := ti_eq c_38
              refine lv_iload_n hf.1 hf.2.1 dX11_fifth_56 rfl (lv_at hl 0 rfl) ?_
              refine lv_if_eq (tgt := 69) hf.1 hf.2.1 dX11_fifth_57 (by decide) (fun c_39 => absurd c_39 (by decide)) (fun c_39 => ?_)
              refine lv_aload_n hf.1 hf.2.1 dX11_fifth_60 rfl (lv_at hl 1 rfl) ?_
              refine lv_iconst (v := 3) hf.1 hf.2.1 dX11_fifth_61 (by decide) ?_
              refine lv_aload_n hf.1 hf.2.1 dX11_fifth_62 rfl (lv_at hl 1 rfl) ?_
              refine gget hf hw 6 (by decide) k1374 (v := σ 6) rfl dX11_fifth_63 ?_
              refine gcall_v (As := [.int 3, .int (σ 6)]) (rest := []) hf hw (m_fails2 l dC dI h0 ad cA σ τ α β 3 ((σ 6)) H.size ) ka_X11_fails kv_X11_fails rfl k1812 rfl rfl hl.1 rfl rfl ⟨Nat.le_of_ble_eq_true rfl, Nat.le_of_ble_eq_true rfl⟩ (Nat.le_of_ble_eq_true rfl) ⟨Nat.le_refl _, Nat.le_refl _⟩ dX11_fifth_66 (fun w_40 hw_40 H locs hw => ?_)
              obtain ⟨σ_40, τ_40, α_40, β_40⟩ := w_40
              obtain ⟨hS_40, hA_40, hB_40, hT_40, hp_40⟩ := hw_40
              obtain rfl : τ = τ_40 := hT_40.symm
              obtain rfl : α = α_40 := (offA_nil hA_40).symm
              obtain rfl : β = β_40 := (offA_nil hB_40).symm
              have hp_40 : (¬ (3 : Int) = 0 → ¬ (σ_40 9).toInt = 0) ∧ ((σ_40 9).toInt = 0 → (σ 9).toInt = 0) := hp_40
              have f_40_0 : (σ_40 0).toInt = (σ 0).toInt := congrArg Int32.toInt (hS_40 0 (by decide))
              have f_40_1 : (σ_40 1).toInt = (σ 1).toInt := congrArg Int32.toInt (hS_40 1 (by decide))
              have f_40_5 : (σ_40 5).toInt = (σ 5).toInt := congrArg Int32.toInt (hS_40 5 (by decide))
              have f_40_6 : (σ_40 6).toInt = (σ 6).toInt := congrArg Int32.toInt (hS_40 6 (by decide))
              have f_40_7 : (σ_40 7).toInt = (σ 7).toInt := congrArg Int32.toInt (hS_40 7 (by decide))
              have f_40_13 : (σ_40 13).toInt = (σ 13).toInt := congrArg Int32.toInt (hS_40 13 (by decide))
              have f_40_15 : (σ_40 15).toInt = (σ 15).toInt := congrArg Int32.toInt (hS_40 15 (by decide))
              have f_40_17 : (σ_40 17).toInt = (σ 17).toInt := congrArg Int32.toInt (hS_40 17 (by decide))
              have f_40_18 : (σ_40 18).toInt = (σ 18).toInt := congrArg Int32.toInt (hS_40 18 (by decide))
              have f_40_19 : (σ_40 19).toInt = (σ 19).toInt := congrArg Int32.toInt (hS_40 19 (by decide))
              have f_40_20 : (σ_40 20).toInt = (σ 20).toInt := congrArg Int32.toInt (hS_40 20 (by decide))
              have f_40_21 : (σ_40 21).toInt = (σ 21).toInt := congrArg Int32.toInt (hS_40 21 (by decide))
              have f_40_22 : (σ_40 22).toInt = (σ 22).toInt := congrArg Int32.toInt (hS_40 22 (by decide))
              have hw : Wd dC dI A (MW h0 ad cA σ_40 τ α β) (MT cA) s H locs := hw
              exact gret_v hf hr hlk hw ⟨(offS.rf.tr hS_40 (by decide)), offA.rf, offA.rf, rfl, (by show ((σ_40 9).toInt = 0 → (σ 9).toInt = 0); omega)⟩ dX11_fifth_69

set_option maxHeartbeats 4000000 in
set_option maxRecDepth 100000 in
theorem m_kind (l : Launch) (dC : Nat → ClassId) (dI : Nat → Nat → Nat) (h0 : Nat) (ad : Nat → Nat) (cA : Nat → ClassId) (σ : Nat → Int32) (τ : Int64) (α : Nat → Nat → Int32) (β : Nat → Nat → Int64) (sz : Nat) (hLI : 0 ≤ (σ 6).toInt ∧ (σ 6).toInt ≤ (σ 5).toInt ∧ (σ 5).toInt ≤ (σ 1).toInt ∧ (σ 1).toInt ≤ 3000 ∧ 0 ≤ (σ 7).toInt ∧ (σ 7).toInt ≤ 5 ∧ (¬ (σ 7).toInt = 0 → (σ 6).toInt < (σ 5).toInt)) (hK : 3 ≤ (σ 13).toInt ∧ (σ 13).toInt ≤ 3 + (σ 6).toInt) (hL : 0 ≤ (σ 15).toInt ∧ (σ 15).toInt ≤ (σ 6).toInt) (hn : 0 ≤ (σ 21).toInt ∧ (σ 21).toInt ≤ 40) (hKT : KT α (σ 13).toInt (σ 15).toInt) : MCi l dC dI h0 ad cA yX11_kind cX11_kind 5 (some .int) ({ frames := 30, cells := 0, slots := 0, locals := 450 } : Room) [] σ τ α β (fun r x => offS [5, 6, 7, 8, 9, 10, 13, 15, 17, 21] σ x.1 ∧ offA [3, 4, 5, 6, 7, 8, 9, 32, 33] α x.2.2.1 ∧ offA [] β x.2.2.2 ∧ ((0 ≤ (x.1 6).toInt ∧ (x.1 6).toInt ≤ (x.1 5).toInt ∧ (x.1 5).toInt ≤ (x.1 1).toInt ∧ (x.1 1).toInt ≤ 3000 ∧ 0 ≤ (x.1 7).toInt ∧ (x.1 7).toInt ≤ 5 ∧ (¬ (x.1 7).toInt = 0 → (x.1 6).toInt < (x.1 5).toInt)) ∧ (σ 6).toInt ≤ (x.1 6).toInt ∧ 0 ≤ r.toInt ∧ r.toInt < (x.1 13).toInt ∧ (σ 13).toInt ≤ (x.1 13).toInt ∧ (x.1 13).toInt ≤ (σ 13).toInt + ((x.1 6).toInt - (σ 6).toInt) ∧ (σ 15).toInt ≤ (x.1 15).toInt ∧ (x.1 15).toInt ≤ (σ 15).toInt + ((x.1 6).toInt - (σ 6).toInt) ∧ -1 ≤ (x.1 21).toInt ∧ (x.1 21).toInt ≤ 100 ∧ ((x.1 9).toInt = 0 → (σ 9).toInt = 0 ∧ (x.1 21).toInt = (σ 21).toInt ∧ (σ 6).toInt < (x.1 6).toInt)) ∧ KT x.2.2.1 (x.1 13).toInt (x.1 15).toInt) sz := by
  refine gbody_i (by decide) (Nat.le_of_ble_eq_true rfl) ?_
  intro p e s m below meth c ls A H hf hr hlk hw hl
  have hl : lv_has ls 5 [(0, .ref h0)] := hl
  refine lv_iconst (v := 0) hf.1 hf.2.1 dX11_kind_0 (by decide) ?_
  refine lv_istore_n (lv' := [(1, .int 0), (0, .ref h0)]) hf.1 hf.2.1 dX11_kind_1 rfl hl (by decide) rfl (fun ls hl => ?_)
  refine lv_iconst (v := (-1)) hf.1 hf.2.1 dX11_kind_2 (by decide) ?_
  refine lv_istore_n (lv' := [(2, .int (-1)), (1, .int 0), (0, .ref h0)]) hf.1 hf.2.1 dX11_kind_3 rfl hl (by decide) rfl (fun ls hl => ?_)
  refine lv_aload_n hf.1 hf.2.1 dX11_kind_4 rfl (lv_at hl 2 rfl) ?_
  refine lv_iconst (v := 0) hf.1 hf.2.1 dX11_kind_5 (by decide) ?_
  refine gput hf hw 17 (by decide) k1393 rfl rfl rfl dX11_kind_6 (fun H locs hw => ?_)
  refine lv_iconst (v := 0) hf.1 hf.2.1 dX11_kind_9 (by decide) ?_
  refine lv_istore_n (lv' := [(3, .int 0), (2, .int (-1)), (1, .int 0), (0, .ref h0)]) hf.1 hf.2.1 dX11_kind_10 rfl hl (by decide) rfl (fun ls hl => ?_)
  have Jbad : ∀ (σq1 : Nat → Int32) (τq1 : Int64) (αq1 : Nat → Nat → Int32) (βq1 : Nat → Nat → Int64) (dn k op : Int32) (H : Heap) (locs : List Loc) (ls : Array Slot), offS [5, 6, 7, 8, 9, 10, 13, 15, 17, 21] σ σq1 → offA [3, 4, 5, 6, 7, 8, 9, 32, 33] α αq1 → offA [] β βq1 → ((0 ≤ (σq1 6).toInt ∧ (σq1 6).toInt ≤ (σq1 5).toInt ∧ (σq1 5).toInt ≤ (σq1 1).toInt ∧ (σq1 1).toInt ≤ 3000 ∧ 0 ≤ (σq1 7).toInt ∧ (σq1 7).toInt ≤ 5 ∧ (¬ (σq1 7).toInt = 0 → (σq1 6).toInt < (σq1 5).toInt)) ∧ (σ 6).toInt ≤ (σq1 6).toInt ∧ -1 ≤ k.toInt ∧ k.toInt < (σq1 13).toInt ∧ (σ 13).toInt ≤ (σq1 13).toInt ∧ (σ 15).toInt ≤ (σq1 15).toInt ∧ -1 ≤ (σq1 21).toInt ∧ (σq1 21).toInt ≤ 100 ∧ (σq1 13).toInt ≤ (σ 13).toInt + ((σq1 6).toInt - (σ 6).toInt) ∧ (σq1 15).toInt ≤ (σ 15).toInt + ((σq1 6).toInt - (σ 6).toInt) ∧ ¬ (σq1 9).toInt = 0) → KT αq1 (σq1 13).toInt (σq1 15).toInt → Wd dC dI A (MW h0 ad cA σq1 τq1 αq1 βq1) (MT cA) s H locs → lv_has ls 5 [(3, .int dn), (2, .int k), (1, .int op), (0, .ref h0)] → W p l e ({ frames := 30, cells := 0, slots := 0, locals := 450 } : Room) s m (.ref h0 :: [] : List Value).toArray below meth c H locs 0 0 (MZi below (fun r x => offS [5, 6, 7, 8, 9, 10, 13, 15, 17, 21] σ x.1 ∧ offA [3, 4, 5, 6, 7, 8, 9, 32, 33] α x.2.2.1 ∧ offA [] β x.2.2.2 ∧ ((0 ≤ (x.1 6).toInt ∧ (x.1 6).toInt ≤ (x.1 5).toInt ∧ (x.1 5).toInt ≤ (x.1 1).toInt ∧ (x.1 1).toInt ≤ 3000 ∧ 0 ≤ (x.1 7).toInt ∧ (x.1 7).toInt ≤ 5 ∧ (¬ (x.1 7).toInt = 0 → (x.1 6).toInt < (x.1 5).toInt)) ∧ (σ 6).toInt ≤ (x.1 6).toInt ∧ 0 ≤ r.toInt ∧ r.toInt < (x.1 13).toInt ∧ (σ 13).toInt ≤ (x.1 13).toInt ∧ (x.1 13).toInt ≤ (σ 13).toInt + ((x.1 6).toInt - (σ 6).toInt) ∧ (σ 15).toInt ≤ (x.1 15).toInt ∧ (x.1 15).toInt ≤ (σ 15).toInt + ((x.1 6).toInt - (σ 6).toInt) ∧ -1 ≤ (x.1 21).toInt ∧ (x.1 21).toInt ≤ 100 ∧ ((x.1 9).toInt = 0 → (σ 9).toInt = 0 ∧ (x.1 21).toInt = (σ 21).toInt ∧ (σ 6).toInt < (x.1 6).toInt)) ∧ KT x.2.2.1 (x.1 13).toInt (x.1 15).toInt) h0 ad cA dC dI A s (.ref h0 :: [])) (F0 m 11 ls []) := by
    intro σq1 τq1 αq1 βq1 dn k op H locs ls hSq1 hAq1 hBq1 hIq1 hKT hw hl
    have fq1_1 : (σq1 1).toInt = (σ 1).toInt := congrArg Int32.toInt (hSq1 1 (by decide))
    refine lv_aload_n hf.1 hf.2.1 dX11_kind_11 rfl (lv_at hl 3 rfl) ?_
    refine gcall_i (As := []) (rest := []) hf hw (m_isWell l dC dI h0 ad cA σq1 τq1 αq1 βq1  H.size ) ka_X11_isWell kv_X11_isWell rfl k1800 rfl rfl hl.1 rfl rfl ⟨Nat.le_of_ble_eq_true rfl, Nat.le_of_ble_eq_true rfl⟩ (Nat.le_of_ble_eq_true rfl) ⟨Nat.le_refl _, Nat.le_refl _⟩ dX11_kind_12 (fun r_3 w_2 hw_2 H locs hw => ?_)
    obtain ⟨σ_2, τ_2, α_2, β_2⟩ := w_2
    obtain ⟨hS_2, hA_2, hB_2, hT_2, hp_2⟩ := hw_2
    obtain rfl : σq1 = σ_2 := (offS_nil hS_2).symm
    obtain rfl : τq1 = τ_2 := hT_2.symm
    obtain rfl : αq1 = α_2 := (offA_nil hA_2).symm
    obtain rfl : βq1 = β_2 := (offA_nil hB_2).symm
    have hp_2 : (r_3.toInt = 0 ∨ r_3.toInt = 1) ∧ (r_3.toInt = 1 → (σq1 9).toInt = 0) ∧ (r_3.toInt = 0 → ¬ (σq1 9).toInt = 0) := hp_2
    have hw : Wd dC dI A (MW h0 ad cA σq1 τq1 αq1 βq1) (MT cA) s H locs := hw
    refine lv_if_eq (tgt := 346) hf.1 hf.2.1 dX11_kind_15 (by decide) (fun c_4 => ?_) (fun c_4 => ?_)
    · have ic_4 : r_3.toInt = (0 : Int) := ti_eq c_4
      refine lv_iload_n hf.1 hf.2.1 dX11_kind_346 rfl (lv_at hl 1 rfl) ?_
      refine lv_if_ge (tgt := 354) hf.1 hf.2.1 dX11_kind_347 (by decide) (fun c_5 => ?_) (fun c_5 => ?_)
      · have ic_5 : (0 : Int) ≤ k.toInt := ti_le c_5
        refine lv_iload_n hf.1 hf.2.1 dX11_kind_354 rfl (lv_at hl 1 rfl) ?_
        exact gret_i (v := k) hf hr hlk hw ⟨hSq1, hAq1, hBq1, (by show (0 ≤ (σq1 6).toInt ∧ (σq1 6).toInt ≤ (σq1 5).toInt ∧ (σq1 5).toInt ≤ (σq1 1).toInt ∧ (σq1 1).toInt ≤ 3000 ∧ 0 ≤ (σq1 7).toInt ∧ (σq1 7).toInt ≤ 5 ∧ (¬ (σq1 7).toInt = 0 → (σq1 6).toInt < (σq1 5).toInt)) ∧ (σ 6).toInt ≤ (σq1 6).toInt ∧ 0 ≤ k.toInt ∧ k.toInt < (σq1 13).toInt ∧ (σ 13).toInt ≤ (σq1 13).toInt ∧ (σq1 13).toInt ≤ (σ 13).toInt + ((σq1 6).toInt - (σ 6).toInt) ∧ (σ 15).toInt ≤ (σq1 15).toInt ∧ (σq1 15).toInt ≤ (σ 15).toInt + ((σq1 6).toInt - (σ 6).toInt) ∧ -1 ≤ (σq1 21).toInt ∧ (σq1 21).toInt ≤ 100 ∧ ((σq1 9).toInt = 0 → (σ 9).toInt = 0 ∧ (σq1 21).toInt = (σ 21).toInt ∧ (σ 6).toInt < (σq1 6).toInt); omega), hKT⟩ dX11_kind_355
      · have ic_5 : k.toInt < (0 : Int) := ti_nle c_5
        refine lv_iconst (v := 2) hf.1 hf.2.1 dX11_kind_350 (by decide) ?_
        refine lv_goto (tgt := 355) hf.1 hf.2.1 dX11_kind_351 (by decide) ?_
        exact gret_i (v := 2) hf hr hlk hw ⟨hSq1, hAq1, hBq1, (by show (0 ≤ (σq1 6).toInt ∧ (σq1 6).toInt ≤ (σq1 5).toInt ∧ (σq1 5).toInt ≤ (σq1 1).toInt ∧ (σq1 1).toInt ≤ 3000 ∧ 0 ≤ (σq1 7).toInt ∧ (σq1 7).toInt ≤ 5 ∧ (¬ (σq1 7).toInt = 0 → (σq1 6).toInt < (σq1 5).toInt)) ∧ (σ 6).toInt ≤ (σq1 6).toInt ∧ 0 ≤ (2 : Int) ∧ (2 : Int) < (σq1 13).toInt ∧ (σ 13).toInt ≤ (σq1 13).toInt ∧ (σq1 13).toInt ≤ (σ 13).toInt + ((σq1 6).toInt - (σ 6).toInt) ∧ (σ 15).toInt ≤ (σq1 15).toInt ∧ (σq1 15).toInt ≤ (σ 15).toInt + ((σq1 6).toInt - (σ 6).toInt) ∧ -1 ≤ (σq1 21).toInt ∧ (σq1 21).toInt ≤ 100 ∧ ((σq1 9).toInt = 0 → (σ 9).toInt = 0 ∧ (σq1 21).toInt = (σ 21).toInt ∧ (σ 6).toInt < (σq1 6).toInt); omega), hKT⟩ dX11_kind_355
    · have ic_4 : ¬ r_3.toInt = (0 : Int) := ti_ne c_4
      exfalso; omega
  have loop : ∀ (N : Nat) (σq6 : Nat → Int32) (τq6 : Int64) (αq6 : Nat → Nat → Int32) (βq6 : Nat → Nat → Int64) (dn k op : Int32) (n : Nat) (H : Heap) (locs : List Loc) (ls : Array Slot), ((3001 - (σq6 6).toInt) * 100 + (n : Int) + (1 - dn.toInt)).toNat < N → offS [5, 6, 7, 8, 9, 10, 13, 15, 17, 21] σ σq6 → offA [3, 4, 5, 6, 7, 8, 9, 32, 33] α αq6 → offA [] β βq6 → ((0 ≤ (σq6 6).toInt ∧ (σq6 6).toInt ≤ (σq6 5).toInt ∧ (σq6 5).toInt ≤ (σq6 1).toInt ∧ (σq6 1).toInt ≤ 3000 ∧ 0 ≤ (σq6 7).toInt ∧ (σq6 7).toInt ≤ 5 ∧ (¬ (σq6 7).toInt = 0 → (σq6 6).toInt < (σq6 5).toInt)) ∧ (σ 6).toInt ≤ (σq6 6).toInt ∧ -1 ≤ k.toInt ∧ k.toInt < (σq6 13).toInt ∧ (σ 13).toInt ≤ (σq6 13).toInt ∧ (σ 15).toInt ≤ (σq6 15).toInt ∧ -1 ≤ (σq6 21).toInt ∧ (σq6 21).toInt ≤ 100 ∧ (σq6 13).toInt + c2 (αq6 32) n ≤ (σ 13).toInt + ((σq6 6).toInt - (σ 6).toInt) ∧ ((k.toInt = -1 ∧ (σq6 15).toInt + (σq6 17).toInt + c2 (αq6 32) n ≤ (σ 15).toInt + ((σq6 6).toInt - (σ 6).toInt)) ∨ (0 ≤ k.toInt ∧ (σq6 15).toInt + (σq6 17).toInt + 1 + c2 (αq6 32) n ≤ (σ 15).toInt + ((σq6 6).toInt - (σ 6).toInt))) ∧ 0 ≤ (σq6 17).toInt ∧ op.toInt = n ∧ (σq6 9).toInt = 0 ∧ (σ 9).toInt = 0 ∧ (0 ≤ k.toInt → (σ 6).toInt < (σq6 6).toInt) ∧ (dn.toInt = 0 ∨ (dn.toInt = 1 ∧ 0 ≤ k.toInt ∧ n = 0)) ∧ (σq6 21).toInt = (σ 21).toInt + wk (αq6 32) n ∧ (σq6 21).toInt ≤ 40) → KT αq6 (σq6 13).toInt (σq6 15).toInt → okk (αq6 32) n → frk (αq6 32) (αq6 33) n (σq6 17).toInt → gvk (αq6 9) (σq6 17).toInt (σq6 13).toInt → Wd dC dI A (MW h0 ad cA σq6 τq6 αq6 βq6) (MT cA) s H locs → lv_has ls 5 [(3, .int dn), (2, .int k), (1, .int op), (0, .ref h0)] → W p l e ({ frames := 30, cells := 0, slots := 0, locals := 450 } : Room) s m (.ref h0 :: [] : List Value).toArray below meth c H locs 0 0 (MZi below (fun r x => offS [5, 6, 7, 8, 9, 10, 13, 15, 17, 21] σ x.1 ∧ offA [3, 4, 5, 6, 7, 8, 9, 32, 33] α x.2.2.1 ∧ offA [] β x.2.2.2 ∧ ((0 ≤ (x.1 6).toInt ∧ (x.1 6).toInt ≤ (x.1 5).toInt ∧ (x.1 5).toInt ≤ (x.1 1).toInt ∧ (x.1 1).toInt ≤ 3000 ∧ 0 ≤ (x.1 7).toInt ∧ (x.1 7).toInt ≤ 5 ∧ (¬ (x.1 7).toInt = 0 → (x.1 6).toInt < (x.1 5).toInt)) ∧ (σ 6).toInt ≤ (x.1 6).toInt ∧ 0 ≤ r.toInt ∧ r.toInt < (x.1 13).toInt ∧ (σ 13).toInt ≤ (x.1 13).toInt ∧ (x.1 13).toInt ≤ (σ 13).toInt + ((x.1 6).toInt - (σ 6).toInt) ∧ (σ 15).toInt ≤ (x.1 15).toInt ∧ (x.1 15).toInt ≤ (σ 15).toInt + ((x.1 6).toInt - (σ 6).toInt) ∧ -1 ≤ (x.1 21).toInt ∧ (x.1 21).toInt ≤ 100 ∧ ((x.1 9).toInt = 0 → (σ 9).toInt = 0 ∧ (x.1 21).toInt = (σ 21).toInt ∧ (σ 6).toInt < (x.1 6).toInt)) ∧ KT x.2.2.1 (x.1 13).toInt (x.1 15).toInt) h0 ad cA dC dI A s (.ref h0 :: [])) (F0 m 11 ls []) := by
    intro N
    induction N with
    | zero => intro σq6 τq6 αq6 βq6 dn k op n H locs ls hm; exact absurd hm (Nat.not_lt_zero _)
    | succ N ih =>
      intro σq6 τq6 αq6 βq6 dn k op n H locs ls hm hSq6 hAq6 hBq6 hIq6 hKT hO hF hV hw hl
      have fq6_1 : (σq6 1).toInt = (σ 1).toInt := congrArg Int32.toInt (hSq6 1 (by decide))
      have hc2 := c2_lo (f := αq6 32) n
      have hwl := wk_lo (f := αq6 32) n
      have hw0 : n = 0 → wk (αq6 32) n = 0 := by intro h; subst h; rfl
      have en : op.toNatClampNeg = n := by have := tnc (show 0 ≤ op.toInt by omega); omega
      refine lv_aload_n hf.1 hf.2.1 dX11_kind_11 rfl (lv_at hl 3 rfl) ?_
      refine gcall_i (As := []) (rest := []) hf hw (m_isWell l dC dI h0 ad cA σq6 τq6 αq6 βq6  H.size ) ka_X11_isWell kv_X11_isWell rfl k1800 rfl rfl hl.1 rfl rfl ⟨Nat.le_of_ble_eq_true rfl, Nat.le_of_ble_eq_true rfl⟩ (Nat.le_of_ble_eq_true rfl) ⟨Nat.le_refl _, Nat.le_refl _⟩ dX11_kind_12 (fun r_8 w_7 hw_7 H locs hw => ?_)
      obtain ⟨σ_7, τ_7, α_7, β_7⟩ := w_7
      obtain ⟨hS_7, hA_7, hB_7, hT_7, hp_7⟩ := hw_7
      obtain rfl : σq6 = σ_7 := (offS_nil hS_7).symm
      obtain rfl : τq6 = τ_7 := hT_7.symm
      obtain rfl : αq6 = α_7 := (offA_nil hA_7).symm
      obtain rfl : βq6 = β_7 := (offA_nil hB_7).symm
      have hp_7 : (r_8.toInt = 0 ∨ r_8.toInt = 1) ∧ (r_8.toInt = 1 → (σq6 9).toInt = 0) ∧ (r_8.toInt = 0 → ¬ (σq6 9).toInt = 0) := hp_7
      have hw : Wd dC dI A (MW h0 ad cA σq6 τq6 αq6 βq6) (MT cA) s H locs := hw
      refine lv_if_eq (tgt := 346) hf.1 hf.2.1 dX11_kind_15 (by decide) (fun c_9 => ?_) (fun c_9 => ?_)
      · have ic_9 : r_8.toInt = (0 : Int) := ti_eq c_9
        exfalso; omega
      · have ic_9 : ¬ r_8.toInt = (0 : Int) := ti_ne c_9
        refine lv_iload_n hf.1 hf.2.1 dX11_kind_18 rfl (lv_at hl 0 rfl) ?_
        refine lv_if_ne (tgt := 346) hf.1 hf.2.1 dX11_kind_19 (by decide) (fun c_10 => ?_) (fun c_10 => ?_)
        · have ic_10 : ¬ dn.toInt = (0 : Int) := ti_ne c_10
          refine lv_iload_n hf.1 hf.2.1 dX11_kind_346 rfl (lv_at hl 1 rfl) ?_
          refine lv_if_ge (tgt := 354) hf.1 hf.2.1 dX11_kind_347 (by decide) (fun c_11 => ?_) (fun c_11 => ?_)
          · have ic_11 : (0 : Int) ≤ k.toInt := ti_le c_11
            refine lv_iload_n hf.1 hf.2.1 dX11_kind_354 rfl (lv_at hl 1 rfl) ?_
            exact gret_i (v := k) hf hr hlk hw ⟨hSq6, hAq6, hBq6, (by show (0 ≤ (σq6 6).toInt ∧ (σq6 6).toInt ≤ (σq6 5).toInt ∧ (σq6 5).toInt ≤ (σq6 1).toInt ∧ (σq6 1).toInt ≤ 3000 ∧ 0 ≤ (σq6 7).toInt ∧ (σq6 7).toInt ≤ 5 ∧ (¬ (σq6 7).toInt = 0 → (σq6 6).toInt < (σq6 5).toInt)) ∧ (σ 6).toInt ≤ (σq6 6).toInt ∧ 0 ≤ k.toInt ∧ k.toInt < (σq6 13).toInt ∧ (σ 13).toInt ≤ (σq6 13).toInt ∧ (σq6 13).toInt ≤ (σ 13).toInt + ((σq6 6).toInt - (σ 6).toInt) ∧ (σ 15).toInt ≤ (σq6 15).toInt ∧ (σq6 15).toInt ≤ (σ 15).toInt + ((σq6 6).toInt - (σ 6).toInt) ∧ -1 ≤ (σq6 21).toInt ∧ (σq6 21).toInt ≤ 100 ∧ ((σq6 9).toInt = 0 → (σ 9).toInt = 0 ∧ (σq6 21).toInt = (σ 21).toInt ∧ (σ 6).toInt < (σq6 6).toInt); omega), hKT⟩ dX11_kind_355
          · have ic_11 : k.toInt < (0 : Int) := ti_nle c_11
            refine lv_iconst (v := 2) hf.1 hf.2.1 dX11_kind_350 (by decide) ?_
            refine lv_goto (tgt := 355) hf.1 hf.2.1 dX11_kind_351 (by decide) ?_
            exact gret_i (v := 2) hf hr hlk hw ⟨hSq6, hAq6, hBq6, (by show (0 ≤ (σq6 6).toInt ∧ (σq6 6).toInt ≤ (σq6 5).toInt ∧ (σq6 5).toInt ≤ (σq6 1).toInt ∧ (σq6 1).toInt ≤ 3000 ∧ 0 ≤ (σq6 7).toInt ∧ (σq6 7).toInt ≤ 5 ∧ (¬ (σq6 7).toInt = 0 → (σq6 6).toInt < (σq6 5).toInt)) ∧ (σ 6).toInt ≤ (σq6 6).toInt ∧ 0 ≤ (2 : Int) ∧ (2 : Int) < (σq6 13).toInt ∧ (σ 13).toInt ≤ (σq6 13).toInt ∧ (σq6 13).toInt ≤ (σ 13).toInt + ((σq6 6).toInt - (σ 6).toInt) ∧ (σ 15).toInt ≤ (σq6 15).toInt ∧ (σq6 15).toInt ≤ (σ 15).toInt + ((σq6 6).toInt - (σ 6).toInt) ∧ -1 ≤ (σq6 21).toInt ∧ (σq6 21).toInt ≤ 100 ∧ ((σq6 9).toInt = 0 → (σ 9).toInt = 0 ∧ (σq6 21).toInt = (σ 21).toInt ∧ (σ 6).toInt < (σq6 6).toInt); omega), hKT⟩ dX11_kind_355
        · have ic_10 : dn.toInt = (0 : Int) := ti_eq c_10
          refine lv_iload_n hf.1 hf.2.1 dX11_kind_22 rfl (lv_at hl 1 rfl) ?_
          refine lv_if_ge (tgt := 139) hf.1 hf.2.1 dX11_kind_23 (by decide) (fun c_12 => ?_) (fun c_12 => ?_)
          · have ic_12 : (0 : Int) ≤ k.toInt := ti_le c_12
            refine lv_iload_n hf.1 hf.2.1 dX11_kind_139 rfl (lv_at hl 2 rfl) ?_
            refine lv_if_ne (tgt := 148) hf.1 hf.2.1 dX11_kind_140 (by decide) (fun c_47 => ?_) (fun c_47 => ?_)
            · have ic_47 : ¬ op.toInt = (0 : Int) := ti_ne c_47
              obtain ⟨n1, rfl⟩ : ∃ z, n = z + 1 := ⟨n - 1, by omega⟩
              refine lv_iload_n hf.1 hf.2.1 dX11_kind_148 rfl (lv_at hl 2 rfl) ?_
              refine lv_iconst (v := 1) hf.1 hf.2.1 dX11_kind_149 (by decide) ?_
              refine lv_isub hf.1 hf.2.1 dX11_kind_150 ?_
              refine lv_topi (fun x_48 ex_48 => ?_)
              have tx_48 : x_48.toInt = op.toInt - (1 : Int) := by rw [ex_48]; exact ti_sub (by show _ ≤ op.toInt - (1 : Int); omega) (by show op.toInt - (1 : Int) ≤ _; omega)
              have en1 : x_48.toNatClampNeg = n1 := by have := tnc (show 0 ≤ x_48.toInt by omega); omega
              have hw1 : wk (αq6 32) (n1 + 1) = wk (αq6 32) n1 + (if ((αq6 32) n1).toInt = 1 then 2 else 1) := rfl
              have hd1 : c2 (αq6 32) (n1 + 1) = c2 (αq6 32) n1 + (if ((αq6 32) n1).toInt = 2 then 1 else 0) := rfl
              have hO1 : okk (αq6 32) n1 := fun o ho => hO o (by omega)
              refine lv_istore (lv' := [(4, .int x_48), (3, .int dn), (2, .int k), (1, .int op), (0, .ref h0)]) hf.1 hf.2.1 dX11_kind_151 hl (by decide) rfl (fun ls hl => ?_)
              refine lv_aload_n hf.1 hf.2.1 dX11_kind_153 rfl (lv_at hl 4 rfl) ?_
              refine ggetA hf hw 32 (by decide) k1420 dX11_kind_154 ?_
              refine lv_iload hf.1 hf.2.1 dX11_kind_157 (lv_at hl 0 rfl) ?_
              refine gild hf hw 32 (by decide) rfl (n := 100) (f := αq6 32) rfl (ti_in (by omega) (by omega)) dX11_kind_159 ?_
              refine lv_topi (fun x_49 ex_49 => ?_)
              have lx_49 : x_49.toInt = ((αq6 32) n1).toInt := by rw [ex_49, en1]
              refine lv_if_ne (tgt := 192) hf.1 hf.2.1 dX11_kind_160 (by decide) (fun c_50 => ?_) (fun c_50 => ?_)
              · have ic_50 : ¬ x_49.toInt = (0 : Int) := ti_ne c_50
                refine lv_aload_n hf.1 hf.2.1 dX11_kind_192 rfl (lv_at hl 4 rfl) ?_
                refine ggetA hf hw 32 (by decide) k1420 dX11_kind_193 ?_
                refine lv_iload hf.1 hf.2.1 dX11_kind_196 (lv_at hl 0 rfl) ?_
                refine gild hf hw 32 (by decide) rfl (n := 100) (f := αq6 32) rfl (ti_in (by omega) (by omega)) dX11_kind_198 ?_
                refine lv_topi (fun x_60 ex_60 => ?_)
                have lx_60 : x_60.toInt = ((αq6 32) n1).toInt := by rw [ex_60, en1]
                refine lv_iconst (v := 1) hf.1 hf.2.1 dX11_kind_199 (by decide) ?_
                refine lv_icmp_ne (tgt := 274) hf.1 hf.2.1 dX11_kind_200 (by decide) (fun c_61 => ?_) (fun c_61 => ?_)
                · have ic_61 : ¬ x_60.toInt = (1 : Int) := ti_ne c_61
                  have h2 : ((αq6 32) n1).toInt = 2 := by have q := hO n1 (Nat.lt_succ_self n1); omega
                  have hw2 : wk (αq6 32) (n1 + 1) = wk (αq6 32) n1 + 1 := by rw [hw1, if_neg (by omega)]
                  have hd2 : c2 (αq6 32) (n1 + 1) = c2 (αq6 32) n1 + 1 := by rw [hd1, if_pos h2]
                  have hq := hF
                  unfold frk at hq
                  rw [if_neg (by omega)] at hq
                  obtain ⟨hq1, hq2, hq3⟩ := hq
                  have hc3 := c2_lo (f := (αq6 32)) n1
                  refine lv_aload_n hf.1 hf.2.1 dX11_kind_274 rfl (lv_at hl 4 rfl) ?_
                  refine ggetA hf hw 9 (by decide) k1392 dX11_kind_275 ?_
                  refine lv_aload_n hf.1 hf.2.1 dX11_kind_278 rfl (lv_at hl 4 rfl) ?_
                  refine gget hf hw 17 (by decide) k1393 (v := σq6 17) rfl dX11_kind_279 ?_
                  refine lv_iload_n hf.1 hf.2.1 dX11_kind_282 rfl (lv_at hl 2 rfl) ?_
                  refine gist hf hw 9 (by decide) rfl (n := 3100) (f := αq6 9) rfl rfl rfl (ti_in (by omega) (by omega)) dX11_kind_283 (fun H locs hw => ?_)
                  refine lv_aload_n hf.1 hf.2.1 dX11_kind_284 rfl (lv_at hl 4 rfl) ?_
                  refine lv_dup hf.1 hf.2.1 dX11_kind_285 rfl ?_
                  refine gget hf hw 17 (by decide) k1393 (v := σq6 17) rfl dX11_kind_286 ?_
                  refine lv_iconst (v := 1) hf.1 hf.2.1 dX11_kind_289 (by decide) ?_
                  refine lv_iadd hf.1 hf.2.1 dX11_kind_290 ?_
                  refine lv_topi (fun x_74 ex_74 => ?_)
                  have tx_74 : x_74.toInt = (σq6 17).toInt + (1 : Int) := by rw [ex_74]; exact ti_add (by show _ ≤ (σq6 17).toInt + (1 : Int); omega) (by show (σq6 17).toInt + (1 : Int) ≤ _; omega)
                  refine gput hf hw 17 (by decide) k1393 rfl rfl rfl dX11_kind_291 (fun H locs hw => ?_)
                  have hV1 : gvk (upd (αq6 9) (σq6 17).toNatClampNeg k) ((σq6 17).toInt + 1) (σq6 13).toInt := gvk_put hV rfl (by omega) (by omega) (by omega)
                  refine lv_aload_n hf.1 hf.2.1 dX11_kind_294 rfl (lv_at hl 4 rfl) ?_
                  refine lv_dup hf.1 hf.2.1 dX11_kind_295 rfl ?_
                  refine gget hf hw 21 (by decide) k1419 (v := σq6 21) rfl dX11_kind_296 ?_
                  refine lv_iconst (v := 1) hf.1 hf.2.1 dX11_kind_299 (by decide) ?_
                  refine lv_isub hf.1 hf.2.1 dX11_kind_300 ?_
                  refine lv_topi (fun x_75 ex_75 => ?_)
                  have tx_75 : x_75.toInt = (σq6 21).toInt - (1 : Int) := by rw [ex_75]; exact ti_sub (by show _ ≤ (σq6 21).toInt - (1 : Int); omega) (by show (σq6 21).toInt - (1 : Int) ≤ _; omega)
                  refine gput hf hw 21 (by decide) k1419 rfl rfl rfl dX11_kind_301 (fun H locs hw => ?_)
                  refine lv_aload_n hf.1 hf.2.1 dX11_kind_304 rfl (lv_at hl 4 rfl) ?_
                  refine lv_iconst (v := 5) hf.1 hf.2.1 dX11_kind_305 (by decide) ?_
                  refine lv_aload_n hf.1 hf.2.1 dX11_kind_306 rfl (lv_at hl 4 rfl) ?_
                  refine ggetA hf hw 33 (by decide) k1421 dX11_kind_307 ?_
                  refine lv_iload hf.1 hf.2.1 dX11_kind_310 (lv_at hl 0 rfl) ?_
                  refine gild hf hw 33 (by decide) rfl (n := 100) (f := αq6 33) rfl (ti_in (by omega) (by omega)) dX11_kind_312 ?_
                  refine lv_topi (fun x_76 ex_76 => ?_)
                  have lx_76 : x_76.toInt = ((αq6 33) n1).toInt := by rw [ex_76, en1]
                  refine lv_aload_n hf.1 hf.2.1 dX11_kind_313 rfl (lv_at hl 4 rfl) ?_
                  refine gget hf hw 17 (by decide) k1393 (v := x_74) rfl dX11_kind_314 ?_
                  refine lv_aload_n hf.1 hf.2.1 dX11_kind_317 rfl (lv_at hl 4 rfl) ?_
                  refine ggetA hf hw 33 (by decide) k1421 dX11_kind_318 ?_
                  refine lv_iload hf.1 hf.2.1 dX11_kind_321 (lv_at hl 0 rfl) ?_
                  refine gild hf hw 33 (by decide) rfl (n := 100) (f := αq6 33) rfl (ti_in (by omega) (by omega)) dX11_kind_323 ?_
                  refine lv_topi (fun x_77 ex_77 => ?_)
                  have lx_77 : x_77.toInt = ((αq6 33) n1).toInt := by rw [ex_77, en1]
                  refine lv_isub hf.1 hf.2.1 dX11_kind_324 ?_
                  refine lv_topi (fun x_78 ex_78 => ?_)
                  have tx_78 : x_78.toInt = x_74.toInt - x_77.toInt := by rw [ex_78]; exact ti_sub (by show _ ≤ x_74.toInt - x_77.toInt; omega) (by show x_74.toInt - x_77.toInt ≤ _; omega)
                  refine gcall_i (As := [.int 5, .int x_76, .int x_78]) (rest := []) hf hw (m_kindOf l dC dI h0 ad cA (uS (uS σq6 17 x_74) 21 x_75) τq6 (uA αq6 9 (upd (αq6 9) (σq6 17).toNatClampNeg k)) βq6 5 x_76 x_78 H.size (by show 0 ≤ (σq6 13).toInt ∧ (σq6 13).toInt ≤ 5999; omega) (by show 0 ≤ (σq6 15).toInt ∧ (σq6 15).toInt + x_78.toInt ≤ 20000; omega) (by show 0 ≤ x_78.toInt ∧ x_78.toInt ≤ 3100; omega) (by show 0 ≤ x_76.toInt ∧ x_76.toInt + x_78.toInt ≤ 3100; omega) (by show ((5 : Int) = 4 → x_78.toInt = 1) ∧ ((5 : Int) = 5 → 1 ≤ x_78.toInt); omega) hKT (fun j h1 h2 => by have q := hV1 j (by omega); exact ⟨q.1, Int.lt_of_lt_of_le q.2 (by omega)⟩)) ka_X11_kindOf kv_X11_kindOf rfl k1361 rfl rfl hl.1 rfl rfl ⟨Nat.le_of_ble_eq_true rfl, Nat.le_of_ble_eq_true rfl⟩ (Nat.le_of_ble_eq_true rfl) ⟨Nat.le_refl _, Nat.le_refl _⟩ dX11_kind_325 (fun r_80 w_79 hw_79 H locs hw => ?_)
                  obtain ⟨σ_79, τ_79, α_79, β_79⟩ := w_79
                  obtain ⟨hS_79, hA_79, hB_79, hT_79, hp_79, hnKT, hx_79⟩ := hw_79
                  obtain rfl : τq6 = τ_79 := hT_79.symm
                  obtain rfl : βq6 = β_79 := (offA_nil hB_79).symm
                  have hp_79 : 0 ≤ r_80.toInt ∧ r_80.toInt < (σ_79 13).toInt ∧ (σq6 13).toInt ≤ (σ_79 13).toInt ∧ (σ_79 13).toInt ≤ (σq6 13).toInt + 1 ∧ (σq6 15).toInt ≤ (σ_79 15).toInt ∧ (σ_79 15).toInt ≤ (σq6 15).toInt + x_78.toInt := hp_79
                  have f_79_1 : (σ_79 1).toInt = (σq6 1).toInt := congrArg Int32.toInt (hS_79 1 (by decide))
                  have f_79_5 : (σ_79 5).toInt = (σq6 5).toInt := congrArg Int32.toInt (hS_79 5 (by decide))
                  have f_79_6 : (σ_79 6).toInt = (σq6 6).toInt := congrArg Int32.toInt (hS_79 6 (by decide))
                  have f_79_7 : (σ_79 7).toInt = (σq6 7).toInt := congrArg Int32.toInt (hS_79 7 (by decide))
                  have f_79_9 : (σ_79 9).toInt = (σq6 9).toInt := congrArg Int32.toInt (hS_79 9 (by decide))
                  have f_79_17 : (σ_79 17).toInt = x_74.toInt := congrArg Int32.toInt (hS_79 17 (by decide))
                  have f_79_21 : (σ_79 21).toInt = x_75.toInt := congrArg Int32.toInt (hS_79 21 (by decide))
                  have hx_79 : ((σ_79 13).toInt = (σq6 13).toInt → α_79 3 = (uA αq6 9 (upd (αq6 9) (σq6 17).toNatClampNeg k)) 3 ∧ (α_79 3 r_80.toNatClampNeg).toInt = (5 : Int)) ∧ ((σ_79 13).toInt = (σq6 13).toInt + 1 → α_79 3 = upd ((uA αq6 9 (upd (αq6 9) (σq6 17).toNatClampNeg k)) 3) (σq6 13).toNatClampNeg 5) := hx_79
                  have hw : Wd dC dI A (MW h0 ad cA σ_79 τq6 α_79 βq6) (MT cA) s H locs := hw
                  have hKT : KT α_79 (σ_79 13).toInt (σ_79 15).toInt := hnKT
                  have ef : α_79 32 = (αq6 32) := hA_79 32 (by decide)
                  have eg : α_79 33 = (αq6 33) := hA_79 33 (by decide)
                  have e9 : α_79 9 = upd (αq6 9) (σq6 17).toNatClampNeg k := hA_79 9 (by decide)
                  refine lv_istore_n (lv' := [(2, .int r_80), (4, .int x_48), (3, .int dn), (1, .int op), (0, .ref h0)]) hf.1 hf.2.1 dX11_kind_328 rfl hl (by decide) rfl (fun ls hl => ?_)
                  refine lv_aload_n hf.1 hf.2.1 dX11_kind_329 rfl (lv_at hl 4 rfl) ?_
                  refine lv_aload_n hf.1 hf.2.1 dX11_kind_330 rfl (lv_at hl 4 rfl) ?_
                  refine ggetA hf hw 33 (by decide) k1421 dX11_kind_331 ?_
                  refine lv_iload hf.1 hf.2.1 dX11_kind_334 (lv_at hl 1 rfl) ?_
                  refine gild hf hw 33 (by decide) rfl (n := 100) (f := α_79 33) rfl (ti_in (by omega) (by omega)) dX11_kind_336 ?_
                  refine lv_topi (fun x_81 ex_81 => ?_)
                  have lx_81 : x_81.toInt = ((αq6 33) n1).toInt := by rw [ex_81, eg, en1]
                  refine gput hf hw 17 (by decide) k1393 rfl rfl rfl dX11_kind_337 (fun H locs hw => ?_)
                  obtain ⟨x_82, ex_82⟩ : ∃ y : Int32, y = op + (-1) := ⟨_, rfl⟩
                  refine lv_iinc (v := x_82) (lv' := [(1, .int x_82), (2, .int r_80), (4, .int x_48), (3, .int dn), (0, .ref h0)]) hf.1 hf.2.1 dX11_kind_340 hl (k := 3) rfl (by rw [ex_82]; rfl) (by decide) rfl (fun ls hl => ?_)
                  have tx_82 : x_82.toInt = op.toInt - 1 := by rw [ex_82]; exact ti_add (by show _ ≤ op.toInt + -1; omega) (by show op.toInt + -1 ≤ _; omega)
                  refine lv_goto (tgt := 11) hf.1 hf.2.1 dX11_kind_343 (by decide) ?_
                  have ew : wk (α_79 32) n1 = wk (αq6 32) n1 := by rw [ef]
                  have ec : c2 (α_79 32) n1 = c2 (αq6 32) n1 := by rw [ef]
                  by_cases hwz : (σ_79 9).toInt = 0
                  · exact ih (uS σ_79 17 x_81) τq6 α_79 βq6 dn r_80 x_82 n1 _ _ _ (by show ((3001 - (σ_79 6).toInt) * 100 + (n1 : Int) + (1 - dn.toInt)).toNat < _; omega) ((((hSq6.put 17 (by decide) x_74).put 21 (by decide) x_75).tr hS_79 (by decide)).put 17 (by decide) x_81) ((hAq6.put 9 (by decide) _).tr hA_79 (by decide)) hBq6 (by show (0 ≤ (σ_79 6).toInt ∧ (σ_79 6).toInt ≤ (σ_79 5).toInt ∧ (σ_79 5).toInt ≤ (σ_79 1).toInt ∧ (σ_79 1).toInt ≤ 3000 ∧ 0 ≤ (σ_79 7).toInt ∧ (σ_79 7).toInt ≤ 5 ∧ (¬ (σ_79 7).toInt = 0 → (σ_79 6).toInt < (σ_79 5).toInt)) ∧ (σ 6).toInt ≤ (σ_79 6).toInt ∧ -1 ≤ r_80.toInt ∧ r_80.toInt < (σ_79 13).toInt ∧ (σ 13).toInt ≤ (σ_79 13).toInt ∧ (σ 15).toInt ≤ (σ_79 15).toInt ∧ -1 ≤ (σ_79 21).toInt ∧ (σ_79 21).toInt ≤ 100 ∧ (σ_79 13).toInt + c2 (α_79 32) n1 ≤ (σ 13).toInt + ((σ_79 6).toInt - (σ 6).toInt) ∧ ((r_80.toInt = -1 ∧ (σ_79 15).toInt + x_81.toInt + c2 (α_79 32) n1 ≤ (σ 15).toInt + ((σ_79 6).toInt - (σ 6).toInt)) ∨ (0 ≤ r_80.toInt ∧ (σ_79 15).toInt + x_81.toInt + 1 + c2 (α_79 32) n1 ≤ (σ 15).toInt + ((σ_79 6).toInt - (σ 6).toInt))) ∧ 0 ≤ x_81.toInt ∧ x_82.toInt = n1 ∧ (σ_79 9).toInt = 0 ∧ (σ 9).toInt = 0 ∧ (0 ≤ r_80.toInt → (σ 6).toInt < (σ_79 6).toInt) ∧ (dn.toInt = 0 ∨ (dn.toInt = 1 ∧ 0 ≤ r_80.toInt ∧ n1 = 0)) ∧ (σ_79 21).toInt = (σ 21).toInt + wk (α_79 32) n1 ∧ (σ_79 21).toInt ≤ 40; omega) hKT (by show okk (α_79 32) n1; rw [ef]; exact hO1) (by show frk (α_79 32) (α_79 33) n1 x_81.toInt; rw [ef, eg]; exact frk_up _ _ _ (by omega) hq3) (by show gvk (α_79 9) x_81.toInt (σ_79 13).toInt; rw [e9]; exact hV1.up (by omega) (by omega)) hw (lv_sub hl [3, 1, 0, 4] rfl)
                  · exact Jbad (uS σ_79 17 x_81) τq6 α_79 βq6 dn r_80 x_82 _ _ _ ((((hSq6.put 17 (by decide) x_74).put 21 (by decide) x_75).tr hS_79 (by decide)).put 17 (by decide) x_81) ((hAq6.put 9 (by decide) _).tr hA_79 (by decide)) hBq6 (by show (0 ≤ (σ_79 6).toInt ∧ (σ_79 6).toInt ≤ (σ_79 5).toInt ∧ (σ_79 5).toInt ≤ (σ_79 1).toInt ∧ (σ_79 1).toInt ≤ 3000 ∧ 0 ≤ (σ_79 7).toInt ∧ (σ_79 7).toInt ≤ 5 ∧ (¬ (σ_79 7).toInt = 0 → (σ_79 6).toInt < (σ_79 5).toInt)) ∧ (σ 6).toInt ≤ (σ_79 6).toInt ∧ -1 ≤ r_80.toInt ∧ r_80.toInt < (σ_79 13).toInt ∧ (σ 13).toInt ≤ (σ_79 13).toInt ∧ (σ 15).toInt ≤ (σ_79 15).toInt ∧ -1 ≤ (σ_79 21).toInt ∧ (σ_79 21).toInt ≤ 100 ∧ (σ_79 13).toInt ≤ (σ 13).toInt + ((σ_79 6).toInt - (σ 6).toInt) ∧ (σ_79 15).toInt ≤ (σ 15).toInt + ((σ_79 6).toInt - (σ 6).toInt) ∧ ¬ (σ_79 9).toInt = 0; omega) hKT hw (lv_sub hl [3, 1, 0, 4] rfl)
                · have ic_61 : x_60.toInt = (1 : Int) := ti_eq c_61
                  have h1 : ((αq6 32) n1).toInt = 1 := by omega
                  have hw2 : wk (αq6 32) (n1 + 1) = wk (αq6 32) n1 + 2 := by rw [hw1, if_pos h1]
                  have hd2 : c2 (αq6 32) (n1 + 1) = c2 (αq6 32) n1 := by rw [hd1, if_neg (by omega)]; exact Int.add_zero _
                  refine lv_aload_n hf.1 hf.2.1 dX11_kind_203 rfl (lv_at hl 4 rfl) ?_
                  refine ggetA hf hw 9 (by decide) k1392 dX11_kind_204 ?_
                  refine lv_aload_n hf.1 hf.2.1 dX11_kind_207 rfl (lv_at hl 4 rfl) ?_
                  refine gget hf hw 17 (by decide) k1393 (v := σq6 17) rfl dX11_kind_208 ?_
                  refine lv_iload_n hf.1 hf.2.1 dX11_kind_211 rfl (lv_at hl 2 rfl) ?_
                  refine gist hf hw 9 (by decide) rfl (n := 3100) (f := αq6 9) rfl rfl rfl (ti_in (by omega) (by omega)) dX11_kind_212 (fun H locs hw => ?_)
                  refine lv_aload_n hf.1 hf.2.1 dX11_kind_213 rfl (lv_at hl 4 rfl) ?_
                  refine lv_dup hf.1 hf.2.1 dX11_kind_214 rfl ?_
                  refine gget hf hw 17 (by decide) k1393 (v := σq6 17) rfl dX11_kind_215 ?_
                  refine lv_iconst (v := 1) hf.1 hf.2.1 dX11_kind_218 (by decide) ?_
                  have hV1 : gvk (upd (αq6 9) (σq6 17).toNatClampNeg k) ((σq6 17).toInt + 1) (σq6 13).toInt := gvk_put hV rfl (by omega) (by omega) (by omega)
                  have hF1 := frk_up _ _ ((σq6 17).toInt + 1) (by omega) hF
                  refine lv_iadd hf.1 hf.2.1 dX11_kind_219 ?_
                  refine lv_topi (fun x_62 ex_62 => ?_)
                  have tx_62 : x_62.toInt = (σq6 17).toInt + (1 : Int) := by rw [ex_62]; exact ti_add (by show _ ≤ (σq6 17).toInt + (1 : Int); omega) (by show (σq6 17).toInt + (1 : Int) ≤ _; omega)
                  refine gput hf hw 17 (by decide) k1393 rfl rfl rfl dX11_kind_220 (fun H locs hw => ?_)
                  refine lv_iconst (v := (-1)) hf.1 hf.2.1 dX11_kind_223 (by decide) ?_
                  refine lv_istore_n (lv' := [(2, .int (-1)), (4, .int x_48), (3, .int dn), (1, .int op), (0, .ref h0)]) hf.1 hf.2.1 dX11_kind_224 rfl hl (by decide) rfl (fun ls hl => ?_)
                  refine lv_aload_n hf.1 hf.2.1 dX11_kind_225 rfl (lv_at hl 4 rfl) ?_
                  refine lv_bipush (v := 44) hf.1 hf.2.1 dX11_kind_226 (by decide) ?_
                  refine gcall_i (As := [.int 44]) (rest := []) hf hw (m_isSign l dC dI h0 ad cA (uS σq6 17 x_62) τq6 (uA αq6 9 (upd (αq6 9) (σq6 17).toNatClampNeg k)) βq6 44 H.size ) ka_X11_isSign kv_X11_isSign rfl k1824 rfl rfl hl.1 rfl rfl ⟨Nat.le_of_ble_eq_true rfl, Nat.le_of_ble_eq_true rfl⟩ (Nat.le_of_ble_eq_true rfl) ⟨Nat.le_refl _, Nat.le_refl _⟩ dX11_kind_228 (fun r_64 w_63 hw_63 H locs hw => ?_)
                  obtain ⟨σ_63, τ_63, α_63, β_63⟩ := w_63
                  obtain ⟨hS_63, hA_63, hB_63, hT_63, hp_63⟩ := hw_63
                  obtain rfl : uS σq6 17 x_62 = σ_63 := (offS_nil hS_63).symm
                  obtain rfl : τq6 = τ_63 := hT_63.symm
                  obtain rfl : uA αq6 9 (upd (αq6 9) (σq6 17).toNatClampNeg k) = α_63 := (offA_nil hA_63).symm
                  obtain rfl : βq6 = β_63 := (offA_nil hB_63).symm
                  have hp_63 : (r_64.toInt = 0 ∨ r_64.toInt = 1) ∧ (r_64.toInt = 1 → (σq6 9).toInt = 0 ∧ (σq6 7).toInt = 4) := hp_63
                  have hw : Wd dC dI A (MW h0 ad cA (uS σq6 17 x_62) τq6 (uA αq6 9 (upd (αq6 9) (σq6 17).toNatClampNeg k)) βq6) (MT cA) s H locs := hw
                  refine lv_if_eq (tgt := 257) hf.1 hf.2.1 dX11_kind_231 (by decide) (fun c_65 => ?_) (fun c_65 => ?_)
                  · have ic_65 : r_64.toInt = (0 : Int) := ti_eq c_65
                    refine lv_aload_n hf.1 hf.2.1 dX11_kind_257 rfl (lv_at hl 4 rfl) ?_
                    refine lv_bipush (v := 41) hf.1 hf.2.1 dX11_kind_258 (by decide) ?_
                    refine gcall_v (As := [.int 41]) (rest := []) hf hw (m_closes l dC dI h0 ad cA (uS σq6 17 x_62) τq6 (uA αq6 9 (upd (αq6 9) (σq6 17).toNatClampNeg k)) βq6 41 H.size (by show 0 ≤ (σq6 6).toInt ∧ (σq6 6).toInt ≤ (σq6 5).toInt ∧ (σq6 5).toInt ≤ (σq6 1).toInt ∧ (σq6 1).toInt ≤ 3000 ∧ 0 ≤ (σq6 7).toInt ∧ (σq6 7).toInt ≤ 5 ∧ (¬ (σq6 7).toInt = 0 → (σq6 6).toInt < (σq6 5).toInt); omega) (by show -1 ≤ (σq6 21).toInt ∧ (σq6 21).toInt ≤ 100; omega)) ka_X11_closes kv_X11_closes rfl k1832 rfl rfl hl.1 rfl rfl ⟨Nat.le_of_ble_eq_true rfl, Nat.le_of_ble_eq_true rfl⟩ (Nat.le_of_ble_eq_true rfl) ⟨Nat.le_refl _, Nat.le_refl _⟩ dX11_kind_260 (fun w_72 hw_72 H locs hw => ?_)
                    obtain ⟨σ_72, τ_72, α_72, β_72⟩ := w_72
                    obtain ⟨hS_72, hA_72, hB_72, hp_72⟩ := hw_72
                    obtain rfl : uA αq6 9 (upd (αq6 9) (σq6 17).toNatClampNeg k) = α_72 := (offA_nil hA_72).symm
                    obtain rfl : βq6 = β_72 := (offA_nil hB_72).symm
                    have hp_72 : (0 ≤ (σ_72 6).toInt ∧ (σ_72 6).toInt ≤ (σ_72 5).toInt ∧ (σ_72 5).toInt ≤ (σ_72 1).toInt ∧ (σ_72 1).toInt ≤ 3000 ∧ 0 ≤ (σ_72 7).toInt ∧ (σ_72 7).toInt ≤ 5 ∧ (¬ (σ_72 7).toInt = 0 → (σ_72 6).toInt < (σ_72 5).toInt)) ∧ (σq6 6).toInt ≤ (σ_72 6).toInt ∧ (σ_72 21).toInt = (σq6 21).toInt - 1 ∧ ((σ_72 9).toInt = 0 → (σq6 9).toInt = 0 ∧ (σq6 7).toInt = 4 ∧ (σq6 6).toInt < (σ_72 6).toInt) := hp_72
                    have f_72_1 : (σ_72 1).toInt = (σq6 1).toInt := congrArg Int32.toInt (hS_72 1 (by decide))
                    have f_72_13 : (σ_72 13).toInt = (σq6 13).toInt := congrArg Int32.toInt (hS_72 13 (by decide))
                    have f_72_15 : (σ_72 15).toInt = (σq6 15).toInt := congrArg Int32.toInt (hS_72 15 (by decide))
                    have f_72_17 : (σ_72 17).toInt = x_62.toInt := congrArg Int32.toInt (hS_72 17 (by decide))
                    have hw : Wd dC dI A (MW h0 ad cA σ_72 τ_72 (uA αq6 9 (upd (αq6 9) (σq6 17).toNatClampNeg k)) βq6) (MT cA) s H locs := hw
                    have hKT : KT (uA αq6 9 (upd (αq6 9) (σq6 17).toNatClampNeg k)) (σ_72 13).toInt (σ_72 15).toInt := (show KT (uA αq6 9 (upd (αq6 9) (σq6 17).toNatClampNeg k)) (σq6 13).toInt (σq6 15).toInt from hKT).off (LA := []) offA.rf (by decide) (by decide) (by decide) (by decide) f_72_13 f_72_15
                    refine lv_aload_n hf.1 hf.2.1 dX11_kind_263 rfl (lv_at hl 4 rfl) ?_
                    refine ggetA hf hw 32 (by decide) k1420 dX11_kind_264 ?_
                    refine lv_iload hf.1 hf.2.1 dX11_kind_267 (lv_at hl 1 rfl) ?_
                    refine lv_iconst (v := 2) hf.1 hf.2.1 dX11_kind_269 (by decide) ?_
                    refine gist hf hw 32 (by decide) rfl (n := 100) (f := αq6 32) rfl rfl rfl (ti_in (by omega) (by omega)) dX11_kind_270 (fun H locs hw => ?_)
                    have hz3 : wk (upd (αq6 32) x_48.toNatClampNeg 2) (n1 + 1) = wk (αq6 32) n1 + 1 := by rw [en1, wk_push]; rfl
                    have hz4 : c2 (upd (αq6 32) x_48.toNatClampNeg 2) (n1 + 1) = c2 (αq6 32) n1 + 1 := by rw [en1, c2_push]; rfl
                    refine lv_goto (tgt := 343) hf.1 hf.2.1 dX11_kind_271 (by decide) ?_
                    refine lv_goto (tgt := 11) hf.1 hf.2.1 dX11_kind_343 (by decide) ?_
                    by_cases hwz : (σ_72 9).toInt = 0
                    · exact ih σ_72 τ_72 (uA (uA αq6 9 (upd (αq6 9) (σq6 17).toNatClampNeg k)) 32 (upd (αq6 32) x_48.toNatClampNeg 2)) βq6 dn (-1) op (n1 + 1) _ _ _ (by show ((3001 - (σ_72 6).toInt) * 100 + ((n1 + 1) : Int) + (1 - dn.toInt)).toNat < _; omega) ((hSq6.put 17 (by decide) x_62).tr hS_72 (by decide)) ((hAq6.put 9 (by decide) _).put 32 (by decide) _) hBq6 (by show (0 ≤ (σ_72 6).toInt ∧ (σ_72 6).toInt ≤ (σ_72 5).toInt ∧ (σ_72 5).toInt ≤ (σ_72 1).toInt ∧ (σ_72 1).toInt ≤ 3000 ∧ 0 ≤ (σ_72 7).toInt ∧ (σ_72 7).toInt ≤ 5 ∧ (¬ (σ_72 7).toInt = 0 → (σ_72 6).toInt < (σ_72 5).toInt)) ∧ (σ 6).toInt ≤ (σ_72 6).toInt ∧ -1 ≤ (-1 : Int) ∧ (-1 : Int) < (σ_72 13).toInt ∧ (σ 13).toInt ≤ (σ_72 13).toInt ∧ (σ 15).toInt ≤ (σ_72 15).toInt ∧ -1 ≤ (σ_72 21).toInt ∧ (σ_72 21).toInt ≤ 100 ∧ (σ_72 13).toInt + c2 (upd (αq6 32) x_48.toNatClampNeg 2) (n1 + 1) ≤ (σ 13).toInt + ((σ_72 6).toInt - (σ 6).toInt) ∧ (((-1 : Int) = -1 ∧ (σ_72 15).toInt + (σ_72 17).toInt + c2 (upd (αq6 32) x_48.toNatClampNeg 2) (n1 + 1) ≤ (σ 15).toInt + ((σ_72 6).toInt - (σ 6).toInt)) ∨ (0 ≤ (-1 : Int) ∧ (σ_72 15).toInt + (σ_72 17).toInt + 1 + c2 (upd (αq6 32) x_48.toNatClampNeg 2) (n1 + 1) ≤ (σ 15).toInt + ((σ_72 6).toInt - (σ 6).toInt))) ∧ 0 ≤ (σ_72 17).toInt ∧ op.toInt = (n1 + 1) ∧ (σ_72 9).toInt = 0 ∧ (σ 9).toInt = 0 ∧ (0 ≤ (-1 : Int) → (σ 6).toInt < (σ_72 6).toInt) ∧ (dn.toInt = 0 ∨ (dn.toInt = 1 ∧ 0 ≤ (-1 : Int) ∧ (n1 + 1) = 0)) ∧ (σ_72 21).toInt = (σ 21).toInt + wk (upd (αq6 32) x_48.toNatClampNeg 2) (n1 + 1) ∧ (σ_72 21).toInt ≤ 40; omega) hKT (okk_at hO (Or.inr (Or.inr rfl))) (by rw [en1]; exact frk_up _ _ _ (by show _ ≤ (σ_72 17).toInt; omega) (frk_re hF1 (by omega) (by decide))) (hV1.up (by show (σ_72 17).toInt ≤ _; omega) (by show _ ≤ (σ_72 13).toInt; omega)) hw (lv_sub hl [2, 0, 3, 4] rfl)
                    · exact Jbad σ_72 τ_72 (uA (uA αq6 9 (upd (αq6 9) (σq6 17).toNatClampNeg k)) 32 (upd (αq6 32) x_48.toNatClampNeg 2)) βq6 dn (-1) op _ _ _ ((hSq6.put 17 (by decide) x_62).tr hS_72 (by decide)) ((hAq6.put 9 (by decide) _).put 32 (by decide) _) hBq6 (by show (0 ≤ (σ_72 6).toInt ∧ (σ_72 6).toInt ≤ (σ_72 5).toInt ∧ (σ_72 5).toInt ≤ (σ_72 1).toInt ∧ (σ_72 1).toInt ≤ 3000 ∧ 0 ≤ (σ_72 7).toInt ∧ (σ_72 7).toInt ≤ 5 ∧ (¬ (σ_72 7).toInt = 0 → (σ_72 6).toInt < (σ_72 5).toInt)) ∧ (σ 6).toInt ≤ (σ_72 6).toInt ∧ -1 ≤ (-1 : Int) ∧ (-1 : Int) < (σ_72 13).toInt ∧ (σ 13).toInt ≤ (σ_72 13).toInt ∧ (σ 15).toInt ≤ (σ_72 15).toInt ∧ -1 ≤ (σ_72 21).toInt ∧ (σ_72 21).toInt ≤ 100 ∧ (σ_72 13).toInt ≤ (σ 13).toInt + ((σ_72 6).toInt - (σ 6).toInt) ∧ (σ_72 15).toInt ≤ (σ 15).toInt + ((σ_72 6).toInt - (σ 6).toInt) ∧ ¬ (σ_72 9).toInt = 0; omega) hKT hw (lv_sub hl [2, 0, 3, 4] rfl)
                  · have ic_65 : ¬ r_64.toInt = (0 : Int) := ti_ne c_65
                    refine lv_aload_n hf.1 hf.2.1 dX11_kind_234 rfl (lv_at hl 4 rfl) ?_
                    refine gcall_v (As := []) (rest := []) hf hw (m_next l dC dI h0 ad cA (uS σq6 17 x_62) τq6 (uA αq6 9 (upd (αq6 9) (σq6 17).toNatClampNeg k)) βq6  H.size (by show (σq6 1).toInt ≤ 3000; omega) (by show 0 ≤ (σq6 5).toInt; omega) (by show (σq6 5).toInt ≤ (σq6 1).toInt; omega)) ka_X11_next kv_X11_next rfl k1776 rfl rfl hl.1 rfl rfl ⟨Nat.le_of_ble_eq_true rfl, Nat.le_of_ble_eq_true rfl⟩ (Nat.le_of_ble_eq_true rfl) ⟨Nat.le_refl _, Nat.le_refl _⟩ dX11_kind_235 (fun w_66 hw_66 H locs hw => ?_)
                    obtain ⟨σ_66, τ_66, α_66, β_66⟩ := w_66
                    obtain ⟨hS_66, hA_66, hB_66, hp_66⟩ := hw_66
                    obtain rfl : uA αq6 9 (upd (αq6 9) (σq6 17).toNatClampNeg k) = α_66 := (offA_nil hA_66).symm
                    obtain rfl : βq6 = β_66 := (offA_nil hB_66).symm
                    have hp_66 : (σq6 5).toInt ≤ (σ_66 6).toInt ∧ (σ_66 6).toInt ≤ (σ_66 5).toInt ∧ (σ_66 5).toInt ≤ (σq6 1).toInt ∧ (((σ_66 7).toInt = 0 ∧ (σ_66 5).toInt = (σq6 1).toInt) ∨ (1 ≤ (σ_66 7).toInt ∧ (σ_66 7).toInt ≤ 5 ∧ (σ_66 6).toInt < (σ_66 5).toInt)) := hp_66
                    have f_66_1 : (σ_66 1).toInt = (σq6 1).toInt := congrArg Int32.toInt (hS_66 1 (by decide))
                    have f_66_9 : (σ_66 9).toInt = (σq6 9).toInt := congrArg Int32.toInt (hS_66 9 (by decide))
                    have f_66_13 : (σ_66 13).toInt = (σq6 13).toInt := congrArg Int32.toInt (hS_66 13 (by decide))
                    have f_66_15 : (σ_66 15).toInt = (σq6 15).toInt := congrArg Int32.toInt (hS_66 15 (by decide))
                    have f_66_17 : (σ_66 17).toInt = x_62.toInt := congrArg Int32.toInt (hS_66 17 (by decide))
                    have f_66_21 : (σ_66 21).toInt = (σq6 21).toInt := congrArg Int32.toInt (hS_66 21 (by decide))
                    have hw : Wd dC dI A (MW h0 ad cA σ_66 τ_66 (uA αq6 9 (upd (αq6 9) (σq6 17).toNatClampNeg k)) βq6) (MT cA) s H locs := hw
                    have hKT : KT (uA αq6 9 (upd (αq6 9) (σq6 17).toNatClampNeg k)) (σ_66 13).toInt (σ_66 15).toInt := (show KT (uA αq6 9 (upd (αq6 9) (σq6 17).toNatClampNeg k)) (σq6 13).toInt (σq6 15).toInt from hKT).off (LA := []) offA.rf (by decide) (by decide) (by decide) (by decide) f_66_13 f_66_15
                    refine lv_aload_n hf.1 hf.2.1 dX11_kind_238 rfl (lv_at hl 4 rfl) ?_
                    refine lv_aload_n hf.1 hf.2.1 dX11_kind_239 rfl (lv_at hl 4 rfl) ?_
                    refine gget hf hw 17 (by decide) k1393 (v := σ_66 17) rfl dX11_kind_240 ?_
                    refine lv_aload_n hf.1 hf.2.1 dX11_kind_243 rfl (lv_at hl 4 rfl) ?_
                    refine ggetA hf hw 33 (by decide) k1421 dX11_kind_244 ?_
                    refine lv_iload hf.1 hf.2.1 dX11_kind_247 (lv_at hl 1 rfl) ?_
                    refine gild hf hw 33 (by decide) rfl (n := 100) (f := αq6 33) rfl (ti_in (by omega) (by omega)) dX11_kind_249 ?_
                    refine lv_topi (fun x_68 ex_68 => ?_)
                    have lx_68 : x_68.toInt = ((αq6 33) n1).toInt := by rw [ex_68, en1]
                    refine lv_isub hf.1 hf.2.1 dX11_kind_250 ?_
                    refine lv_topi (fun x_69 ex_69 => ?_)
                    have tx_69 : x_69.toInt = (σ_66 17).toInt - x_68.toInt := by rw [ex_69]; exact ti_sub (by show _ ≤ (σ_66 17).toInt - x_68.toInt; omega) (by show (σ_66 17).toInt - x_68.toInt ≤ _; omega)
                    refine gcall_v (As := [.int x_69]) (rest := []) hf hw (m_fifth l dC dI h0 ad cA σ_66 τ_66 (uA αq6 9 (upd (αq6 9) (σq6 17).toNatClampNeg k)) βq6 x_69 H.size ) ka_X11_fifth kv_X11_fifth rfl k1856 rfl rfl hl.1 rfl rfl ⟨Nat.le_of_ble_eq_true rfl, Nat.le_of_ble_eq_true rfl⟩ (Nat.le_of_ble_eq_true rfl) ⟨Nat.le_refl _, Nat.le_refl _⟩ dX11_kind_251 (fun w_70 hw_70 H locs hw => ?_)
                    obtain ⟨σ_70, τ_70, α_70, β_70⟩ := w_70
                    obtain ⟨hS_70, hA_70, hB_70, hT_70, hp_70⟩ := hw_70
                    obtain rfl : τ_66 = τ_70 := hT_70.symm
                    obtain rfl : uA αq6 9 (upd (αq6 9) (σq6 17).toNatClampNeg k) = α_70 := (offA_nil hA_70).symm
                    obtain rfl : βq6 = β_70 := (offA_nil hB_70).symm
                    have hp_70 : ((σ_70 9).toInt = 0 → (σ_66 9).toInt = 0) := hp_70
                    have f_70_1 : (σ_70 1).toInt = (σ_66 1).toInt := congrArg Int32.toInt (hS_70 1 (by decide))
                    have f_70_5 : (σ_70 5).toInt = (σ_66 5).toInt := congrArg Int32.toInt (hS_70 5 (by decide))
                    have f_70_6 : (σ_70 6).toInt = (σ_66 6).toInt := congrArg Int32.toInt (hS_70 6 (by decide))
                    have f_70_7 : (σ_70 7).toInt = (σ_66 7).toInt := congrArg Int32.toInt (hS_70 7 (by decide))
                    have f_70_13 : (σ_70 13).toInt = (σ_66 13).toInt := congrArg Int32.toInt (hS_70 13 (by decide))
                    have f_70_15 : (σ_70 15).toInt = (σ_66 15).toInt := congrArg Int32.toInt (hS_70 15 (by decide))
                    have f_70_17 : (σ_70 17).toInt = (σ_66 17).toInt := congrArg Int32.toInt (hS_70 17 (by decide))
                    have f_70_21 : (σ_70 21).toInt = (σ_66 21).toInt := congrArg Int32.toInt (hS_70 21 (by decide))
                    have hw : Wd dC dI A (MW h0 ad cA σ_70 τ_66 (uA αq6 9 (upd (αq6 9) (σq6 17).toNatClampNeg k)) βq6) (MT cA) s H locs := hw
                    have hKT : KT (uA αq6 9 (upd (αq6 9) (σq6 17).toNatClampNeg k)) (σ_70 13).toInt (σ_70 15).toInt := (show KT (uA αq6 9 (upd (αq6 9) (σq6 17).toNatClampNeg k)) (σ_66 13).toInt (σ_66 15).toInt from hKT).off (LA := []) offA.rf (by decide) (by decide) (by decide) (by decide) f_70_13 f_70_15
                    refine lv_goto (tgt := 343) hf.1 hf.2.1 dX11_kind_254 (by decide) ?_
                    refine lv_goto (tgt := 11) hf.1 hf.2.1 dX11_kind_343 (by decide) ?_
                    by_cases hwz : (σ_70 9).toInt = 0
                    · exact ih σ_70 τ_66 (uA αq6 9 (upd (αq6 9) (σq6 17).toNatClampNeg k)) βq6 dn (-1) op (n1 + 1) _ _ _ (by show ((3001 - (σ_70 6).toInt) * 100 + ((n1 + 1) : Int) + (1 - dn.toInt)).toNat < _; omega) (((hSq6.put 17 (by decide) x_62).tr hS_66 (by decide)).tr hS_70 (by decide)) (hAq6.put 9 (by decide) _) hBq6 (by show (0 ≤ (σ_70 6).toInt ∧ (σ_70 6).toInt ≤ (σ_70 5).toInt ∧ (σ_70 5).toInt ≤ (σ_70 1).toInt ∧ (σ_70 1).toInt ≤ 3000 ∧ 0 ≤ (σ_70 7).toInt ∧ (σ_70 7).toInt ≤ 5 ∧ (¬ (σ_70 7).toInt = 0 → (σ_70 6).toInt < (σ_70 5).toInt)) ∧ (σ 6).toInt ≤ (σ_70 6).toInt ∧ -1 ≤ (-1 : Int) ∧ (-1 : Int) < (σ_70 13).toInt ∧ (σ 13).toInt ≤ (σ_70 13).toInt ∧ (σ 15).toInt ≤ (σ_70 15).toInt ∧ -1 ≤ (σ_70 21).toInt ∧ (σ_70 21).toInt ≤ 100 ∧ (σ_70 13).toInt + c2 (αq6 32) (n1 + 1) ≤ (σ 13).toInt + ((σ_70 6).toInt - (σ 6).toInt) ∧ (((-1 : Int) = -1 ∧ (σ_70 15).toInt + (σ_70 17).toInt + c2 (αq6 32) (n1 + 1) ≤ (σ 15).toInt + ((σ_70 6).toInt - (σ 6).toInt)) ∨ (0 ≤ (-1 : Int) ∧ (σ_70 15).toInt + (σ_70 17).toInt + 1 + c2 (αq6 32) (n1 + 1) ≤ (σ 15).toInt + ((σ_70 6).toInt - (σ 6).toInt))) ∧ 0 ≤ (σ_70 17).toInt ∧ op.toInt = (n1 + 1) ∧ (σ_70 9).toInt = 0 ∧ (σ 9).toInt = 0 ∧ (0 ≤ (-1 : Int) → (σ 6).toInt < (σ_70 6).toInt) ∧ (dn.toInt = 0 ∨ (dn.toInt = 1 ∧ 0 ≤ (-1 : Int) ∧ (n1 + 1) = 0)) ∧ (σ_70 21).toInt = (σ 21).toInt + wk (αq6 32) (n1 + 1) ∧ (σ_70 21).toInt ≤ 40; omega) hKT hO (frk_up _ _ _ (by show _ ≤ (σ_70 17).toInt; omega) hF1) (hV1.up (by show (σ_70 17).toInt ≤ _; omega) (by show _ ≤ (σ_70 13).toInt; omega)) hw (lv_sub hl [2, 0, 3, 4] rfl)
                    · exact Jbad σ_70 τ_66 (uA αq6 9 (upd (αq6 9) (σq6 17).toNatClampNeg k)) βq6 dn (-1) op _ _ _ (((hSq6.put 17 (by decide) x_62).tr hS_66 (by decide)).tr hS_70 (by decide)) (hAq6.put 9 (by decide) _) hBq6 (by show (0 ≤ (σ_70 6).toInt ∧ (σ_70 6).toInt ≤ (σ_70 5).toInt ∧ (σ_70 5).toInt ≤ (σ_70 1).toInt ∧ (σ_70 1).toInt ≤ 3000 ∧ 0 ≤ (σ_70 7).toInt ∧ (σ_70 7).toInt ≤ 5 ∧ (¬ (σ_70 7).toInt = 0 → (σ_70 6).toInt < (σ_70 5).toInt)) ∧ (σ 6).toInt ≤ (σ_70 6).toInt ∧ -1 ≤ (-1 : Int) ∧ (-1 : Int) < (σ_70 13).toInt ∧ (σ 13).toInt ≤ (σ_70 13).toInt ∧ (σ 15).toInt ≤ (σ_70 15).toInt ∧ -1 ≤ (σ_70 21).toInt ∧ (σ_70 21).toInt ≤ 100 ∧ (σ_70 13).toInt ≤ (σ 13).toInt + ((σ_70 6).toInt - (σ 6).toInt) ∧ (σ_70 15).toInt ≤ (σ 15).toInt + ((σ_70 6).toInt - (σ 6).toInt) ∧ ¬ (σ_70 9).toInt = 0; omega) hKT hw (lv_sub hl [2, 0, 3, 4] rfl)
              · have ic_50 : x_49.toInt = (0 : Int) := ti_eq c_50
                have h0 : ((αq6 32) n1).toInt = 0 := by omega
                have hw2 : wk (αq6 32) (n1 + 1) = wk (αq6 32) n1 + 1 := by rw [hw1, if_neg (by omega)]
                have hd2 : c2 (αq6 32) (n1 + 1) = c2 (αq6 32) n1 := by rw [hd1, if_neg (by omega)]; exact Int.add_zero _
                have hF1 : frk (αq6 32) (αq6 33) n1 (σq6 17).toInt := by have q := hF; unfold frk at q; rw [if_pos h0] at q; exact q
                have hc3 := c2_lo (f := (αq6 32)) n1
                refine lv_aload_n hf.1 hf.2.1 dX11_kind_163 rfl (lv_at hl 4 rfl) ?_
                refine lv_bipush (v := 93) hf.1 hf.2.1 dX11_kind_164 (by decide) ?_
                refine gcall_v (As := [.int 93]) (rest := []) hf hw (m_closes l dC dI h0 ad cA σq6 τq6 αq6 βq6 93 H.size (by show 0 ≤ (σq6 6).toInt ∧ (σq6 6).toInt ≤ (σq6 5).toInt ∧ (σq6 5).toInt ≤ (σq6 1).toInt ∧ (σq6 1).toInt ≤ 3000 ∧ 0 ≤ (σq6 7).toInt ∧ (σq6 7).toInt ≤ 5 ∧ (¬ (σq6 7).toInt = 0 → (σq6 6).toInt < (σq6 5).toInt); omega) (by show -1 ≤ (σq6 21).toInt ∧ (σq6 21).toInt ≤ 100; omega)) ka_X11_closes kv_X11_closes rfl k1832 rfl rfl hl.1 rfl rfl ⟨Nat.le_of_ble_eq_true rfl, Nat.le_of_ble_eq_true rfl⟩ (Nat.le_of_ble_eq_true rfl) ⟨Nat.le_refl _, Nat.le_refl _⟩ dX11_kind_166 (fun w_51 hw_51 H locs hw => ?_)
                obtain ⟨σ_51, τ_51, α_51, β_51⟩ := w_51
                obtain ⟨hS_51, hA_51, hB_51, hp_51⟩ := hw_51
                obtain rfl : αq6 = α_51 := (offA_nil hA_51).symm
                obtain rfl : βq6 = β_51 := (offA_nil hB_51).symm
                have hp_51 : (0 ≤ (σ_51 6).toInt ∧ (σ_51 6).toInt ≤ (σ_51 5).toInt ∧ (σ_51 5).toInt ≤ (σ_51 1).toInt ∧ (σ_51 1).toInt ≤ 3000 ∧ 0 ≤ (σ_51 7).toInt ∧ (σ_51 7).toInt ≤ 5 ∧ (¬ (σ_51 7).toInt = 0 → (σ_51 6).toInt < (σ_51 5).toInt)) ∧ (σq6 6).toInt ≤ (σ_51 6).toInt ∧ (σ_51 21).toInt = (σq6 21).toInt - 1 ∧ ((σ_51 9).toInt = 0 → (σq6 9).toInt = 0 ∧ (σq6 7).toInt = 4 ∧ (σq6 6).toInt < (σ_51 6).toInt) := hp_51
                have f_51_1 : (σ_51 1).toInt = (σq6 1).toInt := congrArg Int32.toInt (hS_51 1 (by decide))
                have f_51_13 : (σ_51 13).toInt = (σq6 13).toInt := congrArg Int32.toInt (hS_51 13 (by decide))
                have f_51_15 : (σ_51 15).toInt = (σq6 15).toInt := congrArg Int32.toInt (hS_51 15 (by decide))
                have f_51_17 : (σ_51 17).toInt = (σq6 17).toInt := congrArg Int32.toInt (hS_51 17 (by decide))
                have hw : Wd dC dI A (MW h0 ad cA σ_51 τ_51 αq6 βq6) (MT cA) s H locs := hw
                have hKT : KT αq6 (σ_51 13).toInt (σ_51 15).toInt := (show KT αq6 (σq6 13).toInt (σq6 15).toInt from hKT).off (LA := []) offA.rf (by decide) (by decide) (by decide) (by decide) f_51_13 f_51_15
                refine lv_aload_n hf.1 hf.2.1 dX11_kind_169 rfl (lv_at hl 4 rfl) ?_
                refine gcall_i (As := []) (rest := []) hf hw (m_isWell l dC dI h0 ad cA σ_51 τ_51 αq6 βq6  H.size ) ka_X11_isWell kv_X11_isWell rfl k1800 rfl rfl hl.1 rfl rfl ⟨Nat.le_of_ble_eq_true rfl, Nat.le_of_ble_eq_true rfl⟩ (Nat.le_of_ble_eq_true rfl) ⟨Nat.le_refl _, Nat.le_refl _⟩ dX11_kind_170 (fun r_54 w_53 hw_53 H locs hw => ?_)
                obtain ⟨σ_53, τ_53, α_53, β_53⟩ := w_53
                obtain ⟨hS_53, hA_53, hB_53, hT_53, hp_53⟩ := hw_53
                obtain rfl : σ_51 = σ_53 := (offS_nil hS_53).symm
                obtain rfl : τ_51 = τ_53 := hT_53.symm
                obtain rfl : αq6 = α_53 := (offA_nil hA_53).symm
                obtain rfl : βq6 = β_53 := (offA_nil hB_53).symm
                have hp_53 : (r_54.toInt = 0 ∨ r_54.toInt = 1) ∧ (r_54.toInt = 1 → (σ_51 9).toInt = 0) ∧ (r_54.toInt = 0 → ¬ (σ_51 9).toInt = 0) := hp_53
                have hw : Wd dC dI A (MW h0 ad cA σ_51 τ_51 αq6 βq6) (MT cA) s H locs := hw
                refine lv_if_eq (tgt := 184) hf.1 hf.2.1 dX11_kind_173 (by decide) (fun c_55 => ?_) (fun c_55 => ?_)
                · have ic_55 : r_54.toInt = (0 : Int) := ti_eq c_55
                  refine lv_iload_n hf.1 hf.2.1 dX11_kind_184 rfl (lv_at hl 2 rfl) ?_
                  refine lv_istore_n (lv' := [(2, .int k), (4, .int x_48), (3, .int dn), (1, .int op), (0, .ref h0)]) hf.1 hf.2.1 dX11_kind_185 rfl hl (by decide) rfl (fun ls hl => ?_)
                  obtain ⟨x_56, ex_56⟩ : ∃ y : Int32, y = op + (-1) := ⟨_, rfl⟩
                  refine lv_iinc (v := x_56) (lv' := [(1, .int x_56), (2, .int k), (4, .int x_48), (3, .int dn), (0, .ref h0)]) hf.1 hf.2.1 dX11_kind_186 hl (k := 3) rfl (by rw [ex_56]; rfl) (by decide) rfl (fun ls hl => ?_)
                  have tx_56 : x_56.toInt = op.toInt - 1 := by rw [ex_56]; exact ti_add (by show _ ≤ op.toInt + -1; omega) (by show op.toInt + -1 ≤ _; omega)
                  refine lv_goto (tgt := 343) hf.1 hf.2.1 dX11_kind_189 (by decide) ?_
                  refine lv_goto (tgt := 11) hf.1 hf.2.1 dX11_kind_343 (by decide) ?_
                  by_cases hwz : (σ_51 9).toInt = 0
                  · exact ih σ_51 τ_51 αq6 βq6 dn k x_56 n1 _ _ _ (by show ((3001 - (σ_51 6).toInt) * 100 + (n1 : Int) + (1 - dn.toInt)).toNat < _; omega) (hSq6.tr hS_51 (by decide)) hAq6 hBq6 (by show (0 ≤ (σ_51 6).toInt ∧ (σ_51 6).toInt ≤ (σ_51 5).toInt ∧ (σ_51 5).toInt ≤ (σ_51 1).toInt ∧ (σ_51 1).toInt ≤ 3000 ∧ 0 ≤ (σ_51 7).toInt ∧ (σ_51 7).toInt ≤ 5 ∧ (¬ (σ_51 7).toInt = 0 → (σ_51 6).toInt < (σ_51 5).toInt)) ∧ (σ 6).toInt ≤ (σ_51 6).toInt ∧ -1 ≤ k.toInt ∧ k.toInt < (σ_51 13).toInt ∧ (σ 13).toInt ≤ (σ_51 13).toInt ∧ (σ 15).toInt ≤ (σ_51 15).toInt ∧ -1 ≤ (σ_51 21).toInt ∧ (σ_51 21).toInt ≤ 100 ∧ (σ_51 13).toInt + c2 (αq6 32) n1 ≤ (σ 13).toInt + ((σ_51 6).toInt - (σ 6).toInt) ∧ ((k.toInt = -1 ∧ (σ_51 15).toInt + (σ_51 17).toInt + c2 (αq6 32) n1 ≤ (σ 15).toInt + ((σ_51 6).toInt - (σ 6).toInt)) ∨ (0 ≤ k.toInt ∧ (σ_51 15).toInt + (σ_51 17).toInt + 1 + c2 (αq6 32) n1 ≤ (σ 15).toInt + ((σ_51 6).toInt - (σ 6).toInt))) ∧ 0 ≤ (σ_51 17).toInt ∧ x_56.toInt = n1 ∧ (σ_51 9).toInt = 0 ∧ (σ 9).toInt = 0 ∧ (0 ≤ k.toInt → (σ 6).toInt < (σ_51 6).toInt) ∧ (dn.toInt = 0 ∨ (dn.toInt = 1 ∧ 0 ≤ k.toInt ∧ n1 = 0)) ∧ (σ_51 21).toInt = (σ 21).toInt + wk (αq6 32) n1 ∧ (σ_51 21).toInt ≤ 40; omega) hKT hO1 (frk_up _ _ _ (by show _ ≤ (σ_51 17).toInt; omega) hF1) (hV.up (by show (σ_51 17).toInt ≤ _; omega) (by show _ ≤ (σ_51 13).toInt; omega)) hw (lv_sub hl [3, 1, 0, 4] rfl)
                  · exact Jbad σ_51 τ_51 αq6 βq6 dn k x_56 _ _ _ (hSq6.tr hS_51 (by decide)) hAq6 hBq6 (by show (0 ≤ (σ_51 6).toInt ∧ (σ_51 6).toInt ≤ (σ_51 5).toInt ∧ (σ_51 5).toInt ≤ (σ_51 1).toInt ∧ (σ_51 1).toInt ≤ 3000 ∧ 0 ≤ (σ_51 7).toInt ∧ (σ_51 7).toInt ≤ 5 ∧ (¬ (σ_51 7).toInt = 0 → (σ_51 6).toInt < (σ_51 5).toInt)) ∧ (σ 6).toInt ≤ (σ_51 6).toInt ∧ -1 ≤ k.toInt ∧ k.toInt < (σ_51 13).toInt ∧ (σ 13).toInt ≤ (σ_51 13).toInt ∧ (σ 15).toInt ≤ (σ_51 15).toInt ∧ -1 ≤ (σ_51 21).toInt ∧ (σ_51 21).toInt ≤ 100 ∧ (σ_51 13).toInt ≤ (σ 13).toInt + ((σ_51 6).toInt - (σ 6).toInt) ∧ (σ_51 15).toInt ≤ (σ 15).toInt + ((σ_51 6).toInt - (σ 6).toInt) ∧ ¬ (σ_51 9).toInt = 0; omega) hKT hw (lv_sub hl [3, 1, 0, 4] rfl)
                · have ic_55 : ¬ r_54.toInt = (0 : Int) := ti_ne c_55
                  refine lv_aload_n hf.1 hf.2.1 dX11_kind_176 rfl (lv_at hl 4 rfl) ?_
                  refine lv_iload_n hf.1 hf.2.1 dX11_kind_177 rfl (lv_at hl 2 rfl) ?_
                  refine gcall_i (As := [.int k]) (rest := []) hf hw (m_rowOf l dC dI h0 ad cA σ_51 τ_51 αq6 βq6 k H.size (by show 3 ≤ (σ_51 13).toInt ∧ (σ_51 13).toInt ≤ 5999; omega) (by show 0 ≤ (σ_51 15).toInt ∧ (σ_51 15).toInt + 1 ≤ 20000; omega) (by show 0 ≤ k.toInt ∧ k.toInt < (σ_51 13).toInt; omega) hKT) ka_X11_rowOf kv_X11_rowOf rfl k1852 rfl rfl hl.1 rfl rfl ⟨Nat.le_of_ble_eq_true rfl, Nat.le_of_ble_eq_true rfl⟩ (Nat.le_of_ble_eq_true rfl) ⟨Nat.le_refl _, Nat.le_refl _⟩ dX11_kind_178 (fun r_58 w_57 hw_57 H locs hw => ?_)
                  obtain ⟨σ_57, τ_57, α_57, β_57⟩ := w_57
                  obtain ⟨hS_57, hA_57, hB_57, hT_57, hp_57, hnKT, hx_57⟩ := hw_57
                  obtain rfl : τ_51 = τ_57 := hT_57.symm
                  obtain rfl : βq6 = β_57 := (offA_nil hB_57).symm
                  have hp_57 : 0 ≤ r_58.toInt ∧ r_58.toInt < (σ_57 13).toInt ∧ (σ_51 13).toInt ≤ (σ_57 13).toInt ∧ (σ_57 13).toInt ≤ (σ_51 13).toInt + 1 ∧ (σ_51 15).toInt ≤ (σ_57 15).toInt ∧ (σ_57 15).toInt ≤ (σ_51 15).toInt + 1 := hp_57
                  have f_57_1 : (σ_57 1).toInt = (σ_51 1).toInt := congrArg Int32.toInt (hS_57 1 (by decide))
                  have f_57_5 : (σ_57 5).toInt = (σ_51 5).toInt := congrArg Int32.toInt (hS_57 5 (by decide))
                  have f_57_6 : (σ_57 6).toInt = (σ_51 6).toInt := congrArg Int32.toInt (hS_57 6 (by decide))
                  have f_57_7 : (σ_57 7).toInt = (σ_51 7).toInt := congrArg Int32.toInt (hS_57 7 (by decide))
                  have f_57_9 : (σ_57 9).toInt = (σ_51 9).toInt := congrArg Int32.toInt (hS_57 9 (by decide))
                  have f_57_17 : (σ_57 17).toInt = (σ_51 17).toInt := congrArg Int32.toInt (hS_57 17 (by decide))
                  have f_57_21 : (σ_57 21).toInt = (σ_51 21).toInt := congrArg Int32.toInt (hS_57 21 (by decide))
                  have hx_57 : ∀ j : Nat, j ≠ 3000 → α_57 9 j = αq6 9 j := hx_57
                  have hw : Wd dC dI A (MW h0 ad cA σ_57 τ_51 α_57 βq6) (MT cA) s H locs := hw
                  have hKT : KT α_57 (σ_57 13).toInt (σ_57 15).toInt := hnKT
                  refine lv_goto (tgt := 185) hf.1 hf.2.1 dX11_kind_181 (by decide) ?_
                  refine lv_istore_n (lv' := [(2, .int r_58), (4, .int x_48), (3, .int dn), (1, .int op), (0, .ref h0)]) hf.1 hf.2.1 dX11_kind_185 rfl hl (by decide) rfl (fun ls hl => ?_)
                  obtain ⟨x_59, ex_59⟩ : ∃ y : Int32, y = op + (-1) := ⟨_, rfl⟩
                  refine lv_iinc (v := x_59) (lv' := [(1, .int x_59), (2, .int r_58), (4, .int x_48), (3, .int dn), (0, .ref h0)]) hf.1 hf.2.1 dX11_kind_186 hl (k := 3) rfl (by rw [ex_59]; rfl) (by decide) rfl (fun ls hl => ?_)
                  have tx_59 : x_59.toInt = op.toInt - 1 := by rw [ex_59]; exact ti_add (by show _ ≤ op.toInt + -1; omega) (by show op.toInt + -1 ≤ _; omega)
                  refine lv_goto (tgt := 343) hf.1 hf.2.1 dX11_kind_189 (by decide) ?_
                  refine lv_goto (tgt := 11) hf.1 hf.2.1 dX11_kind_343 (by decide) ?_
                  have ef : (α_57 32) = (αq6 32) := hA_57 32 (by decide)
                  have eg : α_57 33 = (αq6 33) := hA_57 33 (by decide)
                  have ew : wk (α_57 32) n1 = wk (αq6 32) n1 := by rw [ef]
                  have ec : c2 (α_57 32) n1 = c2 (αq6 32) n1 := by rw [ef]
                  by_cases hwz : (σ_57 9).toInt = 0
                  · exact ih σ_57 τ_51 α_57 βq6 dn r_58 x_59 n1 _ _ _ (by show ((3001 - (σ_57 6).toInt) * 100 + (n1 : Int) + (1 - dn.toInt)).toNat < _; omega) ((hSq6.tr hS_51 (by decide)).tr hS_57 (by decide)) (hAq6.tr hA_57 (by decide)) hBq6 (by show (0 ≤ (σ_57 6).toInt ∧ (σ_57 6).toInt ≤ (σ_57 5).toInt ∧ (σ_57 5).toInt ≤ (σ_57 1).toInt ∧ (σ_57 1).toInt ≤ 3000 ∧ 0 ≤ (σ_57 7).toInt ∧ (σ_57 7).toInt ≤ 5 ∧ (¬ (σ_57 7).toInt = 0 → (σ_57 6).toInt < (σ_57 5).toInt)) ∧ (σ 6).toInt ≤ (σ_57 6).toInt ∧ -1 ≤ r_58.toInt ∧ r_58.toInt < (σ_57 13).toInt ∧ (σ 13).toInt ≤ (σ_57 13).toInt ∧ (σ 15).toInt ≤ (σ_57 15).toInt ∧ -1 ≤ (σ_57 21).toInt ∧ (σ_57 21).toInt ≤ 100 ∧ (σ_57 13).toInt + c2 (α_57 32) n1 ≤ (σ 13).toInt + ((σ_57 6).toInt - (σ 6).toInt) ∧ ((r_58.toInt = -1 ∧ (σ_57 15).toInt + (σ_57 17).toInt + c2 (α_57 32) n1 ≤ (σ 15).toInt + ((σ_57 6).toInt - (σ 6).toInt)) ∨ (0 ≤ r_58.toInt ∧ (σ_57 15).toInt + (σ_57 17).toInt + 1 + c2 (α_57 32) n1 ≤ (σ 15).toInt + ((σ_57 6).toInt - (σ 6).toInt))) ∧ 0 ≤ (σ_57 17).toInt ∧ x_59.toInt = n1 ∧ (σ_57 9).toInt = 0 ∧ (σ 9).toInt = 0 ∧ (0 ≤ r_58.toInt → (σ 6).toInt < (σ_57 6).toInt) ∧ (dn.toInt = 0 ∨ (dn.toInt = 1 ∧ 0 ≤ r_58.toInt ∧ n1 = 0)) ∧ (σ_57 21).toInt = (σ 21).toInt + wk (α_57 32) n1 ∧ (σ_57 21).toInt ≤ 40; omega) hKT (by rw [ef]; exact hO1) (by rw [ef, eg]; exact frk_up _ _ _ (by show _ ≤ (σ_57 17).toInt; omega) hF1) (fun j hj => by have hj : (j : Int) < (σ_57 17).toInt := hj; have q := hV j (by omega); rw [hx_57 j (by omega)]; exact ⟨q.1, by show _ < (σ_57 13).toInt; omega⟩) hw (lv_sub hl [3, 1, 0, 4] rfl)
                  · exact Jbad σ_57 τ_51 α_57 βq6 dn r_58 x_59 _ _ _ ((hSq6.tr hS_51 (by decide)).tr hS_57 (by decide)) (hAq6.tr hA_57 (by decide)) hBq6 (by show (0 ≤ (σ_57 6).toInt ∧ (σ_57 6).toInt ≤ (σ_57 5).toInt ∧ (σ_57 5).toInt ≤ (σ_57 1).toInt ∧ (σ_57 1).toInt ≤ 3000 ∧ 0 ≤ (σ_57 7).toInt ∧ (σ_57 7).toInt ≤ 5 ∧ (¬ (σ_57 7).toInt = 0 → (σ_57 6).toInt < (σ_57 5).toInt)) ∧ (σ 6).toInt ≤ (σ_57 6).toInt ∧ -1 ≤ r_58.toInt ∧ r_58.toInt < (σ_57 13).toInt ∧ (σ 13).toInt ≤ (σ_57 13).toInt ∧ (σ 15).toInt ≤ (σ_57 15).toInt ∧ -1 ≤ (σ_57 21).toInt ∧ (σ_57 21).toInt ≤ 100 ∧ (σ_57 13).toInt ≤ (σ 13).toInt + ((σ_57 6).toInt - (σ 6).toInt) ∧ (σ_57 15).toInt ≤ (σ 15).toInt + ((σ_57 6).toInt - (σ 6).toInt) ∧ ¬ (σ_57 9).toInt = 0; omega) hKT hw (lv_sub hl [3, 1, 0, 4] rfl)
            · have ic_47 : op.toInt = (0 : Int) := ti_eq c_47
              refine lv_iconst (v := 1) hf.1 hf.2.1 dX11_kind_143 (by decide) ?_
              refine lv_istore_n (lv' := [(3, .int 1), (2, .int k), (1, .int op), (0, .ref h0)]) hf.1 hf.2.1 dX11_kind_144 rfl hl (by decide) rfl (fun ls hl => ?_)
              refine lv_goto (tgt := 11) hf.1 hf.2.1 dX11_kind_145 (by decide) ?_
              by_cases hwz : (σq6 9).toInt = 0
              · exact ih σq6 τq6 αq6 βq6 1 k op n _ _ _ (by show ((3001 - (σq6 6).toInt) * 100 + (n : Int) + (1 - (1 : Int))).toNat < _; omega) hSq6 hAq6 hBq6 (by show (0 ≤ (σq6 6).toInt ∧ (σq6 6).toInt ≤ (σq6 5).toInt ∧ (σq6 5).toInt ≤ (σq6 1).toInt ∧ (σq6 1).toInt ≤ 3000 ∧ 0 ≤ (σq6 7).toInt ∧ (σq6 7).toInt ≤ 5 ∧ (¬ (σq6 7).toInt = 0 → (σq6 6).toInt < (σq6 5).toInt)) ∧ (σ 6).toInt ≤ (σq6 6).toInt ∧ -1 ≤ k.toInt ∧ k.toInt < (σq6 13).toInt ∧ (σ 13).toInt ≤ (σq6 13).toInt ∧ (σ 15).toInt ≤ (σq6 15).toInt ∧ -1 ≤ (σq6 21).toInt ∧ (σq6 21).toInt ≤ 100 ∧ (σq6 13).toInt + c2 (αq6 32) n ≤ (σ 13).toInt + ((σq6 6).toInt - (σ 6).toInt) ∧ ((k.toInt = -1 ∧ (σq6 15).toInt + (σq6 17).toInt + c2 (αq6 32) n ≤ (σ 15).toInt + ((σq6 6).toInt - (σ 6).toInt)) ∨ (0 ≤ k.toInt ∧ (σq6 15).toInt + (σq6 17).toInt + 1 + c2 (αq6 32) n ≤ (σ 15).toInt + ((σq6 6).toInt - (σ 6).toInt))) ∧ 0 ≤ (σq6 17).toInt ∧ op.toInt = n ∧ (σq6 9).toInt = 0 ∧ (σ 9).toInt = 0 ∧ (0 ≤ k.toInt → (σ 6).toInt < (σq6 6).toInt) ∧ ((1 : Int) = 0 ∨ ((1 : Int) = 1 ∧ 0 ≤ k.toInt ∧ n = 0)) ∧ (σq6 21).toInt = (σ 21).toInt + wk (αq6 32) n ∧ (σq6 21).toInt ≤ 40; omega) hKT hO hF hV hw (lv_sub hl [0, 1, 2, 3] rfl)
              · exact Jbad σq6 τq6 αq6 βq6 1 k op _ _ _ hSq6 hAq6 hBq6 (by show (0 ≤ (σq6 6).toInt ∧ (σq6 6).toInt ≤ (σq6 5).toInt ∧ (σq6 5).toInt ≤ (σq6 1).toInt ∧ (σq6 1).toInt ≤ 3000 ∧ 0 ≤ (σq6 7).toInt ∧ (σq6 7).toInt ≤ 5 ∧ (¬ (σq6 7).toInt = 0 → (σq6 6).toInt < (σq6 5).toInt)) ∧ (σ 6).toInt ≤ (σq6 6).toInt ∧ -1 ≤ k.toInt ∧ k.toInt < (σq6 13).toInt ∧ (σ 13).toInt ≤ (σq6 13).toInt ∧ (σ 15).toInt ≤ (σq6 15).toInt ∧ -1 ≤ (σq6 21).toInt ∧ (σq6 21).toInt ≤ 100 ∧ (σq6 13).toInt ≤ (σ 13).toInt + ((σq6 6).toInt - (σ 6).toInt) ∧ (σq6 15).toInt ≤ (σ 15).toInt + ((σq6 6).toInt - (σ 6).toInt) ∧ ¬ (σq6 9).toInt = 0; omega) hKT hw (lv_sub hl [0, 1, 2, 3] rfl)
          · have ic_12 : k.toInt < (0 : Int) := ti_nle c_12
            refine lv_aload_n hf.1 hf.2.1 dX11_kind_26 rfl (lv_at hl 3 rfl) ?_
            refine lv_bipush (v := 91) hf.1 hf.2.1 dX11_kind_27 (by decide) ?_
            refine gcall_i (As := [.int 91]) (rest := []) hf hw (m_isSign l dC dI h0 ad cA σq6 τq6 αq6 βq6 91 H.size ) ka_X11_isSign kv_X11_isSign rfl k1824 rfl rfl hl.1 rfl rfl ⟨Nat.le_of_ble_eq_true rfl, Nat.le_of_ble_eq_true rfl⟩ (Nat.le_of_ble_eq_true rfl) ⟨Nat.le_refl _, Nat.le_refl _⟩ dX11_kind_29 (fun r_14 w_13 hw_13 H locs hw => ?_)
            obtain ⟨σ_13, τ_13, α_13, β_13⟩ := w_13
            obtain ⟨hS_13, hA_13, hB_13, hT_13, hp_13⟩ := hw_13
            obtain rfl : σq6 = σ_13 := (offS_nil hS_13).symm
            obtain rfl : τq6 = τ_13 := hT_13.symm
            obtain rfl : αq6 = α_13 := (offA_nil hA_13).symm
            obtain rfl : βq6 = β_13 := (offA_nil hB_13).symm
            have hp_13 : (r_14.toInt = 0 ∨ r_14.toInt = 1) ∧ (r_14.toInt = 1 → (σq6 9).toInt = 0 ∧ (σq6 7).toInt = 4) := hp_13
            have hw : Wd dC dI A (MW h0 ad cA σq6 τq6 αq6 βq6) (MT cA) s H locs := hw
            refine lv_if_eq (tgt := 54) hf.1 hf.2.1 dX11_kind_32 (by decide) (fun c_15 => ?_) (fun c_15 => ?_)
            · have ic_15 : r_14.toInt = (0 : Int) := ti_eq c_15
              refine lv_aload_n hf.1 hf.2.1 dX11_kind_54 rfl (lv_at hl 3 rfl) ?_
              refine lv_bipush (v := 14) hf.1 hf.2.1 dX11_kind_55 (by decide) ?_
              refine gcall_i (As := [.int 14]) (rest := []) hf hw (m_isWord l dC dI h0 ad cA σq6 τq6 αq6 βq6 14 H.size ) ka_X11_isWord kv_X11_isWord rfl k1804 rfl rfl hl.1 rfl rfl ⟨Nat.le_of_ble_eq_true rfl, Nat.le_of_ble_eq_true rfl⟩ (Nat.le_of_ble_eq_true rfl) ⟨Nat.le_refl _, Nat.le_refl _⟩ dX11_kind_57 (fun r_20 w_19 hw_19 H locs hw => ?_)
              obtain ⟨σ_19, τ_19, α_19, β_19⟩ := w_19
              obtain ⟨hS_19, hA_19, hB_19, hT_19, hp_19⟩ := hw_19
              obtain rfl : σq6 = σ_19 := (offS_nil hS_19).symm
              obtain rfl : τq6 = τ_19 := hT_19.symm
              obtain rfl : αq6 = α_19 := (offA_nil hA_19).symm
              obtain rfl : βq6 = β_19 := (offA_nil hB_19).symm
              have hp_19 : (r_20.toInt = 0 ∨ r_20.toInt = 1) ∧ (r_20.toInt = 1 → (σq6 9).toInt = 0 ∧ (σq6 7).toInt = 2) := hp_19
              have hw : Wd dC dI A (MW h0 ad cA σq6 τq6 αq6 βq6) (MT cA) s H locs := hw
              refine lv_if_eq (tgt := 131) hf.1 hf.2.1 dX11_kind_60 (by decide) (fun c_21 => ?_) (fun c_21 => ?_)
              · have ic_21 : r_20.toInt = (0 : Int) := ti_eq c_21
                refine lv_aload_n hf.1 hf.2.1 dX11_kind_131 rfl (lv_at hl 3 rfl) ?_
                refine gcall_i (As := []) (rest := []) hf hw (m_plainKind l dC dI h0 ad cA σq6 τq6 αq6 βq6  H.size (by show 0 ≤ (σq6 6).toInt ∧ (σq6 6).toInt ≤ (σq6 5).toInt ∧ (σq6 5).toInt ≤ (σq6 1).toInt ∧ (σq6 1).toInt ≤ 3000 ∧ 0 ≤ (σq6 7).toInt ∧ (σq6 7).toInt ≤ 5 ∧ (¬ (σq6 7).toInt = 0 → (σq6 6).toInt < (σq6 5).toInt); omega)) ka_X11_plainKind kv_X11_plainKind rfl k1848 rfl rfl hl.1 rfl rfl ⟨Nat.le_of_ble_eq_true rfl, Nat.le_of_ble_eq_true rfl⟩ (Nat.le_of_ble_eq_true rfl) ⟨Nat.le_refl _, Nat.le_refl _⟩ dX11_kind_132 (fun r_46 w_45 hw_45 H locs hw => ?_)
                obtain ⟨σ_45, τ_45, α_45, β_45⟩ := w_45
                obtain ⟨hS_45, hA_45, hB_45, hp_45⟩ := hw_45
                obtain rfl : αq6 = α_45 := (offA_nil hA_45).symm
                obtain rfl : βq6 = β_45 := (offA_nil hB_45).symm
                have hp_45 : (0 ≤ (σ_45 6).toInt ∧ (σ_45 6).toInt ≤ (σ_45 5).toInt ∧ (σ_45 5).toInt ≤ (σ_45 1).toInt ∧ (σ_45 1).toInt ≤ 3000 ∧ 0 ≤ (σ_45 7).toInt ∧ (σ_45 7).toInt ≤ 5 ∧ (¬ (σ_45 7).toInt = 0 → (σ_45 6).toInt < (σ_45 5).toInt)) ∧ (σq6 6).toInt ≤ (σ_45 6).toInt ∧ -1 ≤ r_46.toInt ∧ r_46.toInt ≤ 2 ∧ (r_46.toInt < 0 → ¬ (σ_45 9).toInt = 0) ∧ (0 ≤ r_46.toInt → (σq6 6).toInt < (σ_45 6).toInt) ∧ ((σ_45 9).toInt = 0 → (σq6 9).toInt = 0) := hp_45
                have f_45_1 : (σ_45 1).toInt = (σq6 1).toInt := congrArg Int32.toInt (hS_45 1 (by decide))
                have f_45_13 : (σ_45 13).toInt = (σq6 13).toInt := congrArg Int32.toInt (hS_45 13 (by decide))
                have f_45_15 : (σ_45 15).toInt = (σq6 15).toInt := congrArg Int32.toInt (hS_45 15 (by decide))
                have f_45_17 : (σ_45 17).toInt = (σq6 17).toInt := congrArg Int32.toInt (hS_45 17 (by decide))
                have f_45_21 : (σ_45 21).toInt = (σq6 21).toInt := congrArg Int32.toInt (hS_45 21 (by decide))
                have hw : Wd dC dI A (MW h0 ad cA σ_45 τ_45 αq6 βq6) (MT cA) s H locs := hw
                have hKT : KT αq6 (σ_45 13).toInt (σ_45 15).toInt := (show KT αq6 (σq6 13).toInt (σq6 15).toInt from hKT).off (LA := []) offA.rf (by decide) (by decide) (by decide) (by decide) f_45_13 f_45_15
                refine lv_istore_n (lv' := [(2, .int r_46), (3, .int dn), (1, .int op), (0, .ref h0)]) hf.1 hf.2.1 dX11_kind_135 rfl hl (by decide) rfl (fun ls hl => ?_)
                refine lv_goto (tgt := 11) hf.1 hf.2.1 dX11_kind_136 (by decide) ?_
                have hkm : k.toInt = -1 := by omega
                by_cases hwz : (σ_45 9).toInt = 0
                · exact ih σ_45 τ_45 αq6 βq6 dn r_46 op n _ _ _ (by show ((3001 - (σ_45 6).toInt) * 100 + (n : Int) + (1 - dn.toInt)).toNat < _; omega) (hSq6.tr hS_45 (by decide)) hAq6 hBq6 (by show (0 ≤ (σ_45 6).toInt ∧ (σ_45 6).toInt ≤ (σ_45 5).toInt ∧ (σ_45 5).toInt ≤ (σ_45 1).toInt ∧ (σ_45 1).toInt ≤ 3000 ∧ 0 ≤ (σ_45 7).toInt ∧ (σ_45 7).toInt ≤ 5 ∧ (¬ (σ_45 7).toInt = 0 → (σ_45 6).toInt < (σ_45 5).toInt)) ∧ (σ 6).toInt ≤ (σ_45 6).toInt ∧ -1 ≤ r_46.toInt ∧ r_46.toInt < (σ_45 13).toInt ∧ (σ 13).toInt ≤ (σ_45 13).toInt ∧ (σ 15).toInt ≤ (σ_45 15).toInt ∧ -1 ≤ (σ_45 21).toInt ∧ (σ_45 21).toInt ≤ 100 ∧ (σ_45 13).toInt + c2 (αq6 32) n ≤ (σ 13).toInt + ((σ_45 6).toInt - (σ 6).toInt) ∧ ((r_46.toInt = -1 ∧ (σ_45 15).toInt + (σ_45 17).toInt + c2 (αq6 32) n ≤ (σ 15).toInt + ((σ_45 6).toInt - (σ 6).toInt)) ∨ (0 ≤ r_46.toInt ∧ (σ_45 15).toInt + (σ_45 17).toInt + 1 + c2 (αq6 32) n ≤ (σ 15).toInt + ((σ_45 6).toInt - (σ 6).toInt))) ∧ 0 ≤ (σ_45 17).toInt ∧ op.toInt = n ∧ (σ_45 9).toInt = 0 ∧ (σ 9).toInt = 0 ∧ (0 ≤ r_46.toInt → (σ 6).toInt < (σ_45 6).toInt) ∧ (dn.toInt = 0 ∨ (dn.toInt = 1 ∧ 0 ≤ r_46.toInt ∧ n = 0)) ∧ (σ_45 21).toInt = (σ 21).toInt + wk (αq6 32) n ∧ (σ_45 21).toInt ≤ 40; omega) hKT hO (frk_up _ _ _ (by show _ ≤ (σ_45 17).toInt; omega) hF) (hV.up (by show (σ_45 17).toInt ≤ _; omega) (by show _ ≤ (σ_45 13).toInt; omega)) hw (lv_sub hl [1, 0, 2, 3] rfl)
                · exact Jbad σ_45 τ_45 αq6 βq6 dn r_46 op _ _ _ (hSq6.tr hS_45 (by decide)) hAq6 hBq6 (by show (0 ≤ (σ_45 6).toInt ∧ (σ_45 6).toInt ≤ (σ_45 5).toInt ∧ (σ_45 5).toInt ≤ (σ_45 1).toInt ∧ (σ_45 1).toInt ≤ 3000 ∧ 0 ≤ (σ_45 7).toInt ∧ (σ_45 7).toInt ≤ 5 ∧ (¬ (σ_45 7).toInt = 0 → (σ_45 6).toInt < (σ_45 5).toInt)) ∧ (σ 6).toInt ≤ (σ_45 6).toInt ∧ -1 ≤ r_46.toInt ∧ r_46.toInt < (σ_45 13).toInt ∧ (σ 13).toInt ≤ (σ_45 13).toInt ∧ (σ 15).toInt ≤ (σ_45 15).toInt ∧ -1 ≤ (σ_45 21).toInt ∧ (σ_45 21).toInt ≤ 100 ∧ (σ_45 13).toInt ≤ (σ 13).toInt + ((σ_45 6).toInt - (σ 6).toInt) ∧ (σ_45 15).toInt ≤ (σ 15).toInt + ((σ_45 6).toInt - (σ 6).toInt) ∧ ¬ (σ_45 9).toInt = 0; omega) hKT hw (lv_sub hl [1, 0, 2, 3] rfl)
              · have ic_21 : ¬ r_20.toInt = (0 : Int) := ti_ne c_21
                refine lv_aload_n hf.1 hf.2.1 dX11_kind_63 rfl (lv_at hl 3 rfl) ?_
                refine gcall_v (As := []) (rest := []) hf hw (m_nests l dC dI h0 ad cA σq6 τq6 αq6 βq6  H.size (by show 0 ≤ (σq6 21).toInt ∧ (σq6 21).toInt ≤ 100; omega)) ka_X11_nests kv_X11_nests rfl k1828 rfl rfl hl.1 rfl rfl ⟨Nat.le_of_ble_eq_true rfl, Nat.le_of_ble_eq_true rfl⟩ (Nat.le_of_ble_eq_true rfl) ⟨Nat.le_refl _, Nat.le_refl _⟩ dX11_kind_64 (fun w_22 hw_22 H locs hw => ?_)
                obtain ⟨σ_22, τ_22, α_22, β_22⟩ := w_22
                obtain ⟨hS_22, hA_22, hB_22, hT_22, hp_22⟩ := hw_22
                obtain rfl : τq6 = τ_22 := hT_22.symm
                obtain rfl : αq6 = α_22 := (offA_nil hA_22).symm
                obtain rfl : βq6 = β_22 := (offA_nil hB_22).symm
                have hp_22 : (σ_22 21).toInt = (σq6 21).toInt + 1 ∧ ((σ_22 9).toInt = 0 → (σq6 9).toInt = 0 ∧ ¬ (σq6 21).toInt = 40) := hp_22
                have f_22_1 : (σ_22 1).toInt = (σq6 1).toInt := congrArg Int32.toInt (hS_22 1 (by decide))
                have f_22_5 : (σ_22 5).toInt = (σq6 5).toInt := congrArg Int32.toInt (hS_22 5 (by decide))
                have f_22_6 : (σ_22 6).toInt = (σq6 6).toInt := congrArg Int32.toInt (hS_22 6 (by decide))
                have f_22_7 : (σ_22 7).toInt = (σq6 7).toInt := congrArg Int32.toInt (hS_22 7 (by decide))
                have f_22_13 : (σ_22 13).toInt = (σq6 13).toInt := congrArg Int32.toInt (hS_22 13 (by decide))
                have f_22_15 : (σ_22 15).toInt = (σq6 15).toInt := congrArg Int32.toInt (hS_22 15 (by decide))
                have f_22_17 : (σ_22 17).toInt = (σq6 17).toInt := congrArg Int32.toInt (hS_22 17 (by decide))
                have hw : Wd dC dI A (MW h0 ad cA σ_22 τq6 αq6 βq6) (MT cA) s H locs := hw
                have hKT : KT αq6 (σ_22 13).toInt (σ_22 15).toInt := (show KT αq6 (σq6 13).toInt (σq6 15).toInt from hKT).off (LA := []) offA.rf (by decide) (by decide) (by decide) (by decide) f_22_13 f_22_15
                refine lv_aload_n hf.1 hf.2.1 dX11_kind_67 rfl (lv_at hl 3 rfl) ?_
                refine gcall_i (As := []) (rest := []) hf hw (m_isWell l dC dI h0 ad cA σ_22 τq6 αq6 βq6  H.size ) ka_X11_isWell kv_X11_isWell rfl k1800 rfl rfl hl.1 rfl rfl ⟨Nat.le_of_ble_eq_true rfl, Nat.le_of_ble_eq_true rfl⟩ (Nat.le_of_ble_eq_true rfl) ⟨Nat.le_refl _, Nat.le_refl _⟩ dX11_kind_68 (fun r_25 w_24 hw_24 H locs hw => ?_)
                obtain ⟨σ_24, τ_24, α_24, β_24⟩ := w_24
                obtain ⟨hS_24, hA_24, hB_24, hT_24, hp_24⟩ := hw_24
                obtain rfl : σ_22 = σ_24 := (offS_nil hS_24).symm
                obtain rfl : τq6 = τ_24 := hT_24.symm
                obtain rfl : αq6 = α_24 := (offA_nil hA_24).symm
                obtain rfl : βq6 = β_24 := (offA_nil hB_24).symm
                have hp_24 : (r_25.toInt = 0 ∨ r_25.toInt = 1) ∧ (r_25.toInt = 1 → (σ_22 9).toInt = 0) ∧ (r_25.toInt = 0 → ¬ (σ_22 9).toInt = 0) := hp_24
                have hw : Wd dC dI A (MW h0 ad cA σ_22 τq6 αq6 βq6) (MT cA) s H locs := hw
                refine lv_if_eq (tgt := 84) hf.1 hf.2.1 dX11_kind_71 (by decide) (fun c_26 => ?_) (fun c_26 => ?_)
                · have ic_26 : r_25.toInt = (0 : Int) := ti_eq c_26
                  refine lv_aload_n hf.1 hf.2.1 dX11_kind_84 rfl (lv_at hl 3 rfl) ?_
                  refine ggetA hf hw 32 (by decide) k1420 dX11_kind_85 ?_
                  refine lv_iload_n hf.1 hf.2.1 dX11_kind_88 rfl (lv_at hl 2 rfl) ?_
                  refine lv_iconst (v := 1) hf.1 hf.2.1 dX11_kind_89 (by decide) ?_
                  refine gist hf hw 32 (by decide) rfl (n := 100) (f := αq6 32) rfl rfl rfl (ti_in (by omega) (by omega)) dX11_kind_90 (fun H locs hw => ?_)
                  refine lv_aload_n hf.1 hf.2.1 dX11_kind_91 rfl (lv_at hl 3 rfl) ?_
                  refine ggetA hf hw 33 (by decide) k1421 dX11_kind_92 ?_
                  refine lv_iload_n hf.1 hf.2.1 dX11_kind_95 rfl (lv_at hl 2 rfl) ?_
                  refine lv_aload_n hf.1 hf.2.1 dX11_kind_96 rfl (lv_at hl 3 rfl) ?_
                  refine gget hf hw 17 (by decide) k1393 (v := σ_22 17) rfl dX11_kind_97 ?_
                  refine gist hf hw 33 (by decide) rfl (n := 100) (f := αq6 33) rfl rfl rfl (ti_in (by omega) (by omega)) dX11_kind_100 (fun H locs hw => ?_)
                  have hz1 : wk (upd (αq6 32) op.toNatClampNeg 1) (n + 1) = wk (αq6 32) n + 2 := by rw [en, wk_push]; rfl
                  have hz2 : c2 (upd (αq6 32) op.toNatClampNeg 1) (n + 1) = c2 (αq6 32) n := by rw [en, c2_push]; exact Int.add_zero _
                  have hF1 : frk (upd (αq6 32) op.toNatClampNeg 1) (upd (αq6 33) op.toNatClampNeg (σ_22 17)) (n + 1) (σ_22 17).toInt := by rw [en]; exact frk_p1 (frk_up _ _ _ (by omega) hF) (by decide) rfl (by omega)
                  have hO1 : okk (upd (αq6 32) op.toNatClampNeg 1) (n + 1) := by rw [en]; exact okk_put hO (Or.inr (Or.inl rfl))
                  obtain ⟨x_27, ex_27⟩ : ∃ y : Int32, y = op + 1 := ⟨_, rfl⟩
                  refine lv_iinc (v := x_27) (lv' := [(1, .int x_27), (3, .int dn), (2, .int k), (0, .ref h0)]) hf.1 hf.2.1 dX11_kind_101 hl (k := 2) rfl (by rw [ex_27]; rfl) (by decide) rfl (fun ls hl => ?_)
                  have tx_27 : x_27.toInt = op.toInt + 1 := by rw [ex_27]; exact ti_add (by show _ ≤ op.toInt + 1; omega) (by show op.toInt + 1 ≤ _; omega)
                  refine lv_aload_n hf.1 hf.2.1 dX11_kind_104 rfl (lv_at hl 3 rfl) ?_
                  refine lv_bipush (v := 41) hf.1 hf.2.1 dX11_kind_105 (by decide) ?_
                  refine gcall_i (As := [.int 41]) (rest := []) hf hw (m_isSign l dC dI h0 ad cA σ_22 τq6 (uA (uA αq6 32 (upd (αq6 32) op.toNatClampNeg 1)) 33 (upd (αq6 33) op.toNatClampNeg (σ_22 17))) βq6 41 H.size ) ka_X11_isSign kv_X11_isSign rfl k1824 rfl rfl hl.1 rfl rfl ⟨Nat.le_of_ble_eq_true rfl, Nat.le_of_ble_eq_true rfl⟩ (Nat.le_of_ble_eq_true rfl) ⟨Nat.le_refl _, Nat.le_refl _⟩ dX11_kind_107 (fun r_29 w_28 hw_28 H locs hw => ?_)
                  obtain ⟨σ_28, τ_28, α_28, β_28⟩ := w_28
                  obtain ⟨hS_28, hA_28, hB_28, hT_28, hp_28⟩ := hw_28
                  obtain rfl : σ_22 = σ_28 := (offS_nil hS_28).symm
                  obtain rfl : τq6 = τ_28 := hT_28.symm
                  obtain rfl : uA (uA αq6 32 (upd (αq6 32) op.toNatClampNeg 1)) 33 (upd (αq6 33) op.toNatClampNeg (σ_22 17)) = α_28 := (offA_nil hA_28).symm
                  obtain rfl : βq6 = β_28 := (offA_nil hB_28).symm
                  have hp_28 : (r_29.toInt = 0 ∨ r_29.toInt = 1) ∧ (r_29.toInt = 1 → (σ_22 9).toInt = 0 ∧ (σ_22 7).toInt = 4) := hp_28
                  have hw : Wd dC dI A (MW h0 ad cA σ_22 τq6 (uA (uA αq6 32 (upd (αq6 32) op.toNatClampNeg 1)) 33 (upd (αq6 33) op.toNatClampNeg (σ_22 17))) βq6) (MT cA) s H locs := hw
                  refine lv_if_eq (tgt := 11) hf.1 hf.2.1 dX11_kind_110 (by decide) (fun c_30 => ?_) (fun c_30 => ?_)
                  · have ic_30 : r_29.toInt = (0 : Int) := ti_eq c_30
                    by_cases hwz : (σ_22 9).toInt = 0
                    · exact ih σ_22 τq6 (uA (uA αq6 32 (upd (αq6 32) op.toNatClampNeg 1)) 33 (upd (αq6 33) op.toNatClampNeg (σ_22 17))) βq6 dn k x_27 (n + 1) _ _ _ (by show ((3001 - (σ_22 6).toInt) * 100 + ((n + 1) : Int) + (1 - dn.toInt)).toNat < _; omega) (hSq6.tr hS_22 (by decide)) ((hAq6.put 32 (by decide) _).put 33 (by decide) _) hBq6 (by show (0 ≤ (σ_22 6).toInt ∧ (σ_22 6).toInt ≤ (σ_22 5).toInt ∧ (σ_22 5).toInt ≤ (σ_22 1).toInt ∧ (σ_22 1).toInt ≤ 3000 ∧ 0 ≤ (σ_22 7).toInt ∧ (σ_22 7).toInt ≤ 5 ∧ (¬ (σ_22 7).toInt = 0 → (σ_22 6).toInt < (σ_22 5).toInt)) ∧ (σ 6).toInt ≤ (σ_22 6).toInt ∧ -1 ≤ k.toInt ∧ k.toInt < (σ_22 13).toInt ∧ (σ 13).toInt ≤ (σ_22 13).toInt ∧ (σ 15).toInt ≤ (σ_22 15).toInt ∧ -1 ≤ (σ_22 21).toInt ∧ (σ_22 21).toInt ≤ 100 ∧ (σ_22 13).toInt + c2 (upd (αq6 32) op.toNatClampNeg 1) (n + 1) ≤ (σ 13).toInt + ((σ_22 6).toInt - (σ 6).toInt) ∧ ((k.toInt = -1 ∧ (σ_22 15).toInt + (σ_22 17).toInt + c2 (upd (αq6 32) op.toNatClampNeg 1) (n + 1) ≤ (σ 15).toInt + ((σ_22 6).toInt - (σ 6).toInt)) ∨ (0 ≤ k.toInt ∧ (σ_22 15).toInt + (σ_22 17).toInt + 1 + c2 (upd (αq6 32) op.toNatClampNeg 1) (n + 1) ≤ (σ 15).toInt + ((σ_22 6).toInt - (σ 6).toInt))) ∧ 0 ≤ (σ_22 17).toInt ∧ x_27.toInt = (n + 1) ∧ (σ_22 9).toInt = 0 ∧ (σ 9).toInt = 0 ∧ (0 ≤ k.toInt → (σ 6).toInt < (σ_22 6).toInt) ∧ (dn.toInt = 0 ∨ (dn.toInt = 1 ∧ 0 ≤ k.toInt ∧ (n + 1) = 0)) ∧ (σ_22 21).toInt = (σ 21).toInt + wk (upd (αq6 32) op.toNatClampNeg 1) (n + 1) ∧ (σ_22 21).toInt ≤ 40; omega) hKT hO1 (frk_up _ _ _ (by show _ ≤ (σ_22 17).toInt; omega) hF1) (hV.up (by show (σ_22 17).toInt ≤ _; omega) (by show _ ≤ (σ_22 13).toInt; omega)) hw (lv_sub hl [1, 2, 0, 3] rfl)
                    · exact Jbad σ_22 τq6 (uA (uA αq6 32 (upd (αq6 32) op.toNatClampNeg 1)) 33 (upd (αq6 33) op.toNatClampNeg (σ_22 17))) βq6 dn k x_27 _ _ _ (hSq6.tr hS_22 (by decide)) ((hAq6.put 32 (by decide) _).put 33 (by decide) _) hBq6 (by show (0 ≤ (σ_22 6).toInt ∧ (σ_22 6).toInt ≤ (σ_22 5).toInt ∧ (σ_22 5).toInt ≤ (σ_22 1).toInt ∧ (σ_22 1).toInt ≤ 3000 ∧ 0 ≤ (σ_22 7).toInt ∧ (σ_22 7).toInt ≤ 5 ∧ (¬ (σ_22 7).toInt = 0 → (σ_22 6).toInt < (σ_22 5).toInt)) ∧ (σ 6).toInt ≤ (σ_22 6).toInt ∧ -1 ≤ k.toInt ∧ k.toInt < (σ_22 13).toInt ∧ (σ 13).toInt ≤ (σ_22 13).toInt ∧ (σ 15).toInt ≤ (σ_22 15).toInt ∧ -1 ≤ (σ_22 21).toInt ∧ (σ_22 21).toInt ≤ 100 ∧ (σ_22 13).toInt ≤ (σ 13).toInt + ((σ_22 6).toInt - (σ 6).toInt) ∧ (σ_22 15).toInt ≤ (σ 15).toInt + ((σ_22 6).toInt - (σ 6).toInt) ∧ ¬ (σ_22 9).toInt = 0; omega) hKT hw (lv_sub hl [1, 2, 0, 3] rfl)
                  · have ic_30 : ¬ r_29.toInt = (0 : Int) := ti_ne c_30
                    refine lv_aload_n hf.1 hf.2.1 dX11_kind_113 rfl (lv_at hl 3 rfl) ?_
                    refine lv_bipush (v := 41) hf.1 hf.2.1 dX11_kind_114 (by decide) ?_
                    refine gcall_v (As := [.int 41]) (rest := []) hf hw (m_closes l dC dI h0 ad cA σ_22 τq6 (uA (uA αq6 32 (upd (αq6 32) op.toNatClampNeg 1)) 33 (upd (αq6 33) op.toNatClampNeg (σ_22 17))) βq6 41 H.size (by show 0 ≤ (σ_22 6).toInt ∧ (σ_22 6).toInt ≤ (σ_22 5).toInt ∧ (σ_22 5).toInt ≤ (σ_22 1).toInt ∧ (σ_22 1).toInt ≤ 3000 ∧ 0 ≤ (σ_22 7).toInt ∧ (σ_22 7).toInt ≤ 5 ∧ (¬ (σ_22 7).toInt = 0 → (σ_22 6).toInt < (σ_22 5).toInt); omega) (by show -1 ≤ (σ_22 21).toInt ∧ (σ_22 21).toInt ≤ 100; omega)) ka_X11_closes kv_X11_closes rfl k1832 rfl rfl hl.1 rfl rfl ⟨Nat.le_of_ble_eq_true rfl, Nat.le_of_ble_eq_true rfl⟩ (Nat.le_of_ble_eq_true rfl) ⟨Nat.le_refl _, Nat.le_refl _⟩ dX11_kind_116 (fun w_31 hw_31 H locs hw => ?_)
                    obtain ⟨σ_31, τ_31, α_31, β_31⟩ := w_31
                    obtain ⟨hS_31, hA_31, hB_31, hp_31⟩ := hw_31
                    obtain rfl : uA (uA αq6 32 (upd (αq6 32) op.toNatClampNeg 1)) 33 (upd (αq6 33) op.toNatClampNeg (σ_22 17)) = α_31 := (offA_nil hA_31).symm
                    obtain rfl : βq6 = β_31 := (offA_nil hB_31).symm
                    have hp_31 : (0 ≤ (σ_31 6).toInt ∧ (σ_31 6).toInt ≤ (σ_31 5).toInt ∧ (σ_31 5).toInt ≤ (σ_31 1).toInt ∧ (σ_31 1).toInt ≤ 3000 ∧ 0 ≤ (σ_31 7).toInt ∧ (σ_31 7).toInt ≤ 5 ∧ (¬ (σ_31 7).toInt = 0 → (σ_31 6).toInt < (σ_31 5).toInt)) ∧ (σ_22 6).toInt ≤ (σ_31 6).toInt ∧ (σ_31 21).toInt = (σ_22 21).toInt - 1 ∧ ((σ_31 9).toInt = 0 → (σ_22 9).toInt = 0 ∧ (σ_22 7).toInt = 4 ∧ (σ_22 6).toInt < (σ_31 6).toInt) := hp_31
                    have f_31_1 : (σ_31 1).toInt = (σ_22 1).toInt := congrArg Int32.toInt (hS_31 1 (by decide))
                    have f_31_13 : (σ_31 13).toInt = (σ_22 13).toInt := congrArg Int32.toInt (hS_31 13 (by decide))
                    have f_31_15 : (σ_31 15).toInt = (σ_22 15).toInt := congrArg Int32.toInt (hS_31 15 (by decide))
                    have f_31_17 : (σ_31 17).toInt = (σ_22 17).toInt := congrArg Int32.toInt (hS_31 17 (by decide))
                    have hw : Wd dC dI A (MW h0 ad cA σ_31 τ_31 (uA (uA αq6 32 (upd (αq6 32) op.toNatClampNeg 1)) 33 (upd (αq6 33) op.toNatClampNeg (σ_22 17))) βq6) (MT cA) s H locs := hw
                    have hKT : KT (uA (uA αq6 32 (upd (αq6 32) op.toNatClampNeg 1)) 33 (upd (αq6 33) op.toNatClampNeg (σ_22 17))) (σ_31 13).toInt (σ_31 15).toInt := (show KT (uA (uA αq6 32 (upd (αq6 32) op.toNatClampNeg 1)) 33 (upd (αq6 33) op.toNatClampNeg (σ_22 17))) (σ_22 13).toInt (σ_22 15).toInt from hKT).off (LA := []) offA.rf (by decide) (by decide) (by decide) (by decide) f_31_13 f_31_15
                    refine lv_aload_n hf.1 hf.2.1 dX11_kind_119 rfl (lv_at hl 3 rfl) ?_
                    refine ggetA hf hw 32 (by decide) k1420 dX11_kind_120 ?_
                    refine lv_iload_n hf.1 hf.2.1 dX11_kind_123 rfl (lv_at hl 0 rfl) ?_
                    refine lv_iconst (v := 1) hf.1 hf.2.1 dX11_kind_124 (by decide) ?_
                    refine lv_isub hf.1 hf.2.1 dX11_kind_125 ?_
                    refine lv_topi (fun x_33 ex_33 => ?_)
                    have tx_33 : x_33.toInt = x_27.toInt - (1 : Int) := by rw [ex_33]; exact ti_sub (by show _ ≤ x_27.toInt - (1 : Int); omega) (by show x_27.toInt - (1 : Int) ≤ _; omega)
                    have en2 : x_33.toNatClampNeg = n := by have := tnc (show 0 ≤ x_33.toInt by omega); omega
                    refine lv_iconst (v := 2) hf.1 hf.2.1 dX11_kind_126 (by decide) ?_
                    refine gist hf hw 32 (by decide) rfl (n := 100) (f := (upd (αq6 32) op.toNatClampNeg 1)) rfl rfl rfl (ti_in (by omega) (by omega)) dX11_kind_127 (fun H locs hw => ?_)
                    have hz3 : wk (upd (upd (αq6 32) op.toNatClampNeg 1) x_33.toNatClampNeg 2) (n + 1) = wk (αq6 32) n + 1 := by rw [en, en2, upd_upd, wk_push]; rfl
                    have hz4 : c2 (upd (upd (αq6 32) op.toNatClampNeg 1) x_33.toNatClampNeg 2) (n + 1) = c2 (αq6 32) n + 1 := by rw [en, en2, upd_upd, c2_push]; rfl
                    refine lv_goto (tgt := 11) hf.1 hf.2.1 dX11_kind_128 (by decide) ?_
                    by_cases hwz : (σ_31 9).toInt = 0
                    · exact ih σ_31 τ_31 (uA (uA (uA αq6 32 (upd (αq6 32) op.toNatClampNeg 1)) 33 (upd (αq6 33) op.toNatClampNeg (σ_22 17))) 32 (upd (upd (αq6 32) op.toNatClampNeg 1) x_33.toNatClampNeg 2)) βq6 dn k x_27 (n + 1) _ _ _ (by show ((3001 - (σ_31 6).toInt) * 100 + ((n + 1) : Int) + (1 - dn.toInt)).toNat < _; omega) ((hSq6.tr hS_22 (by decide)).tr hS_31 (by decide)) (((hAq6.put 32 (by decide) _).put 33 (by decide) _).put 32 (by decide) _) hBq6 (by show (0 ≤ (σ_31 6).toInt ∧ (σ_31 6).toInt ≤ (σ_31 5).toInt ∧ (σ_31 5).toInt ≤ (σ_31 1).toInt ∧ (σ_31 1).toInt ≤ 3000 ∧ 0 ≤ (σ_31 7).toInt ∧ (σ_31 7).toInt ≤ 5 ∧ (¬ (σ_31 7).toInt = 0 → (σ_31 6).toInt < (σ_31 5).toInt)) ∧ (σ 6).toInt ≤ (σ_31 6).toInt ∧ -1 ≤ k.toInt ∧ k.toInt < (σ_31 13).toInt ∧ (σ 13).toInt ≤ (σ_31 13).toInt ∧ (σ 15).toInt ≤ (σ_31 15).toInt ∧ -1 ≤ (σ_31 21).toInt ∧ (σ_31 21).toInt ≤ 100 ∧ (σ_31 13).toInt + c2 (upd (upd (αq6 32) op.toNatClampNeg 1) x_33.toNatClampNeg 2) (n + 1) ≤ (σ 13).toInt + ((σ_31 6).toInt - (σ 6).toInt) ∧ ((k.toInt = -1 ∧ (σ_31 15).toInt + (σ_31 17).toInt + c2 (upd (upd (αq6 32) op.toNatClampNeg 1) x_33.toNatClampNeg 2) (n + 1) ≤ (σ 15).toInt + ((σ_31 6).toInt - (σ 6).toInt)) ∨ (0 ≤ k.toInt ∧ (σ_31 15).toInt + (σ_31 17).toInt + 1 + c2 (upd (upd (αq6 32) op.toNatClampNeg 1) x_33.toNatClampNeg 2) (n + 1) ≤ (σ 15).toInt + ((σ_31 6).toInt - (σ 6).toInt))) ∧ 0 ≤ (σ_31 17).toInt ∧ x_27.toInt = (n + 1) ∧ (σ_31 9).toInt = 0 ∧ (σ 9).toInt = 0 ∧ (0 ≤ k.toInt → (σ 6).toInt < (σ_31 6).toInt) ∧ (dn.toInt = 0 ∨ (dn.toInt = 1 ∧ 0 ≤ k.toInt ∧ (n + 1) = 0)) ∧ (σ_31 21).toInt = (σ 21).toInt + wk (upd (upd (αq6 32) op.toNatClampNeg 1) x_33.toNatClampNeg 2) (n + 1) ∧ (σ_31 21).toInt ≤ 40; omega) hKT (okk_at hO1 (Or.inr (Or.inr rfl))) (by rw [en2]; exact frk_up _ _ _ (by show _ ≤ (σ_31 17).toInt; omega) (frk_re hF1 (by rw [en, upd_at]; decide) (by decide))) (hV.up (by show (σ_31 17).toInt ≤ _; omega) (by show _ ≤ (σ_31 13).toInt; omega)) hw (lv_sub hl [1, 2, 0, 3] rfl)
                    · exact Jbad σ_31 τ_31 (uA (uA (uA αq6 32 (upd (αq6 32) op.toNatClampNeg 1)) 33 (upd (αq6 33) op.toNatClampNeg (σ_22 17))) 32 (upd (upd (αq6 32) op.toNatClampNeg 1) x_33.toNatClampNeg 2)) βq6 dn k x_27 _ _ _ ((hSq6.tr hS_22 (by decide)).tr hS_31 (by decide)) (((hAq6.put 32 (by decide) _).put 33 (by decide) _).put 32 (by decide) _) hBq6 (by show (0 ≤ (σ_31 6).toInt ∧ (σ_31 6).toInt ≤ (σ_31 5).toInt ∧ (σ_31 5).toInt ≤ (σ_31 1).toInt ∧ (σ_31 1).toInt ≤ 3000 ∧ 0 ≤ (σ_31 7).toInt ∧ (σ_31 7).toInt ≤ 5 ∧ (¬ (σ_31 7).toInt = 0 → (σ_31 6).toInt < (σ_31 5).toInt)) ∧ (σ 6).toInt ≤ (σ_31 6).toInt ∧ -1 ≤ k.toInt ∧ k.toInt < (σ_31 13).toInt ∧ (σ 13).toInt ≤ (σ_31 13).toInt ∧ (σ 15).toInt ≤ (σ_31 15).toInt ∧ -1 ≤ (σ_31 21).toInt ∧ (σ_31 21).toInt ≤ 100 ∧ (σ_31 13).toInt ≤ (σ 13).toInt + ((σ_31 6).toInt - (σ 6).toInt) ∧ (σ_31 15).toInt ≤ (σ 15).toInt + ((σ_31 6).toInt - (σ 6).toInt) ∧ ¬ (σ_31 9).toInt = 0; omega) hKT hw (lv_sub hl [1, 2, 0, 3] rfl)
                · have ic_26 : ¬ r_25.toInt = (0 : Int) := ti_ne c_26
                  refine lv_aload_n hf.1 hf.2.1 dX11_kind_74 rfl (lv_at hl 3 rfl) ?_
                  refine gcall_v (As := []) (rest := []) hf hw (m_next l dC dI h0 ad cA σ_22 τq6 αq6 βq6  H.size (by show (σ_22 1).toInt ≤ 3000; omega) (by show 0 ≤ (σ_22 5).toInt; omega) (by show (σ_22 5).toInt ≤ (σ_22 1).toInt; omega)) ka_X11_next kv_X11_next rfl k1776 rfl rfl hl.1 rfl rfl ⟨Nat.le_of_ble_eq_true rfl, Nat.le_of_ble_eq_true rfl⟩ (Nat.le_of_ble_eq_true rfl) ⟨Nat.le_refl _, Nat.le_refl _⟩ dX11_kind_75 (fun w_34 hw_34 H locs hw => ?_)
                  obtain ⟨σ_34, τ_34, α_34, β_34⟩ := w_34
                  obtain ⟨hS_34, hA_34, hB_34, hp_34⟩ := hw_34
                  obtain rfl : αq6 = α_34 := (offA_nil hA_34).symm
                  obtain rfl : βq6 = β_34 := (offA_nil hB_34).symm
                  have hp_34 : (σ_22 5).toInt ≤ (σ_34 6).toInt ∧ (σ_34 6).toInt ≤ (σ_34 5).toInt ∧ (σ_34 5).toInt ≤ (σ_22 1).toInt ∧ (((σ_34 7).toInt = 0 ∧ (σ_34 5).toInt = (σ_22 1).toInt) ∨ (1 ≤ (σ_34 7).toInt ∧ (σ_34 7).toInt ≤ 5 ∧ (σ_34 6).toInt < (σ_34 5).toInt)) := hp_34
                  have f_34_1 : (σ_34 1).toInt = (σ_22 1).toInt := congrArg Int32.toInt (hS_34 1 (by decide))
                  have f_34_9 : (σ_34 9).toInt = (σ_22 9).toInt := congrArg Int32.toInt (hS_34 9 (by decide))
                  have f_34_13 : (σ_34 13).toInt = (σ_22 13).toInt := congrArg Int32.toInt (hS_34 13 (by decide))
                  have f_34_15 : (σ_34 15).toInt = (σ_22 15).toInt := congrArg Int32.toInt (hS_34 15 (by decide))
                  have f_34_17 : (σ_34 17).toInt = (σ_22 17).toInt := congrArg Int32.toInt (hS_34 17 (by decide))
                  have f_34_21 : (σ_34 21).toInt = (σ_22 21).toInt := congrArg Int32.toInt (hS_34 21 (by decide))
                  have hw : Wd dC dI A (MW h0 ad cA σ_34 τ_34 αq6 βq6) (MT cA) s H locs := hw
                  have hKT : KT αq6 (σ_34 13).toInt (σ_34 15).toInt := (show KT αq6 (σ_22 13).toInt (σ_22 15).toInt from hKT).off (LA := []) offA.rf (by decide) (by decide) (by decide) (by decide) f_34_13 f_34_15
                  refine lv_aload_n hf.1 hf.2.1 dX11_kind_78 rfl (lv_at hl 3 rfl) ?_
                  refine lv_bipush (v := 40) hf.1 hf.2.1 dX11_kind_79 (by decide) ?_
                  refine gcall_v (As := [.int 40]) (rest := []) hf hw (m_opens l dC dI h0 ad cA σ_34 τ_34 αq6 βq6 40 H.size (by show 0 ≤ (σ_34 6).toInt ∧ (σ_34 6).toInt ≤ (σ_34 5).toInt ∧ (σ_34 5).toInt ≤ (σ_34 1).toInt ∧ (σ_34 1).toInt ≤ 3000 ∧ 0 ≤ (σ_34 7).toInt ∧ (σ_34 7).toInt ≤ 5 ∧ (¬ (σ_34 7).toInt = 0 → (σ_34 6).toInt < (σ_34 5).toInt); omega) (by show 0 ≤ (σ_34 21).toInt ∧ (σ_34 21).toInt ≤ 100; omega)) ka_X11_opens kv_X11_opens rfl k1820 rfl rfl hl.1 rfl rfl ⟨Nat.le_of_ble_eq_true rfl, Nat.le_of_ble_eq_true rfl⟩ (Nat.le_of_ble_eq_true rfl) ⟨Nat.le_refl _, Nat.le_refl _⟩ dX11_kind_81 (fun w_36 hw_36 H locs hw => ?_)
                  obtain ⟨σ_36, τ_36, α_36, β_36⟩ := w_36
                  obtain ⟨hS_36, hA_36, hB_36, hp_36⟩ := hw_36
                  obtain rfl : αq6 = α_36 := (offA_nil hA_36).symm
                  obtain rfl : βq6 = β_36 := (offA_nil hB_36).symm
                  have hp_36 : (0 ≤ (σ_36 6).toInt ∧ (σ_36 6).toInt ≤ (σ_36 5).toInt ∧ (σ_36 5).toInt ≤ (σ_36 1).toInt ∧ (σ_36 1).toInt ≤ 3000 ∧ 0 ≤ (σ_36 7).toInt ∧ (σ_36 7).toInt ≤ 5 ∧ (¬ (σ_36 7).toInt = 0 → (σ_36 6).toInt < (σ_36 5).toInt)) ∧ (σ_34 6).toInt ≤ (σ_36 6).toInt ∧ (σ_34 21).toInt ≤ (σ_36 21).toInt ∧ (σ_36 21).toInt ≤ (σ_34 21).toInt + 1 ∧ ((σ_36 9).toInt = 0 → (σ_34 9).toInt = 0 ∧ (σ_34 7).toInt = 4 ∧ (σ_34 6).toInt < (σ_36 6).toInt ∧ (σ_36 21).toInt = (σ_34 21).toInt + 1 ∧ ¬ (σ_34 21).toInt = 40) := hp_36
                  have f_36_1 : (σ_36 1).toInt = (σ_34 1).toInt := congrArg Int32.toInt (hS_36 1 (by decide))
                  have f_36_13 : (σ_36 13).toInt = (σ_34 13).toInt := congrArg Int32.toInt (hS_36 13 (by decide))
                  have f_36_15 : (σ_36 15).toInt = (σ_34 15).toInt := congrArg Int32.toInt (hS_36 15 (by decide))
                  have f_36_17 : (σ_36 17).toInt = (σ_34 17).toInt := congrArg Int32.toInt (hS_36 17 (by decide))
                  have hw : Wd dC dI A (MW h0 ad cA σ_36 τ_36 αq6 βq6) (MT cA) s H locs := hw
                  have hKT : KT αq6 (σ_36 13).toInt (σ_36 15).toInt := (show KT αq6 (σ_34 13).toInt (σ_34 15).toInt from hKT).off (LA := []) offA.rf (by decide) (by decide) (by decide) (by decide) f_36_13 f_36_15
                  refine lv_aload_n hf.1 hf.2.1 dX11_kind_84 rfl (lv_at hl 3 rfl) ?_
                  refine ggetA hf hw 32 (by decide) k1420 dX11_kind_85 ?_
                  refine lv_iload_n hf.1 hf.2.1 dX11_kind_88 rfl (lv_at hl 2 rfl) ?_
                  refine lv_iconst (v := 1) hf.1 hf.2.1 dX11_kind_89 (by decide) ?_
                  refine gist hf hw 32 (by decide) rfl (n := 100) (f := αq6 32) rfl rfl rfl (ti_in (by omega) (by omega)) dX11_kind_90 (fun H locs hw => ?_)
                  refine lv_aload_n hf.1 hf.2.1 dX11_kind_91 rfl (lv_at hl 3 rfl) ?_
                  refine ggetA hf hw 33 (by decide) k1421 dX11_kind_92 ?_
                  refine lv_iload_n hf.1 hf.2.1 dX11_kind_95 rfl (lv_at hl 2 rfl) ?_
                  refine lv_aload_n hf.1 hf.2.1 dX11_kind_96 rfl (lv_at hl 3 rfl) ?_
                  refine gget hf hw 17 (by decide) k1393 (v := σ_36 17) rfl dX11_kind_97 ?_
                  refine gist hf hw 33 (by decide) rfl (n := 100) (f := αq6 33) rfl rfl rfl (ti_in (by omega) (by omega)) dX11_kind_100 (fun H locs hw => ?_)
                  have hz1 : wk (upd (αq6 32) op.toNatClampNeg 1) (n + 1) = wk (αq6 32) n + 2 := by rw [en, wk_push]; rfl
                  have hz2 : c2 (upd (αq6 32) op.toNatClampNeg 1) (n + 1) = c2 (αq6 32) n := by rw [en, c2_push]; exact Int.add_zero _
                  have hF1 : frk (upd (αq6 32) op.toNatClampNeg 1) (upd (αq6 33) op.toNatClampNeg (σ_36 17)) (n + 1) (σ_36 17).toInt := by rw [en]; exact frk_p1 (frk_up _ _ _ (by omega) hF) (by decide) rfl (by omega)
                  have hO1 : okk (upd (αq6 32) op.toNatClampNeg 1) (n + 1) := by rw [en]; exact okk_put hO (Or.inr (Or.inl rfl))
                  obtain ⟨x_38, ex_38⟩ : ∃ y : Int32, y = op + 1 := ⟨_, rfl⟩
                  refine lv_iinc (v := x_38) (lv' := [(1, .int x_38), (3, .int dn), (2, .int k), (0, .ref h0)]) hf.1 hf.2.1 dX11_kind_101 hl (k := 2) rfl (by rw [ex_38]; rfl) (by decide) rfl (fun ls hl => ?_)
                  have tx_38 : x_38.toInt = op.toInt + 1 := by rw [ex_38]; exact ti_add (by show _ ≤ op.toInt + 1; omega) (by show op.toInt + 1 ≤ _; omega)
                  refine lv_aload_n hf.1 hf.2.1 dX11_kind_104 rfl (lv_at hl 3 rfl) ?_
                  refine lv_bipush (v := 41) hf.1 hf.2.1 dX11_kind_105 (by decide) ?_
                  refine gcall_i (As := [.int 41]) (rest := []) hf hw (m_isSign l dC dI h0 ad cA σ_36 τ_36 (uA (uA αq6 32 (upd (αq6 32) op.toNatClampNeg 1)) 33 (upd (αq6 33) op.toNatClampNeg (σ_36 17))) βq6 41 H.size ) ka_X11_isSign kv_X11_isSign rfl k1824 rfl rfl hl.1 rfl rfl ⟨Nat.le_of_ble_eq_true rfl, Nat.le_of_ble_eq_true rfl⟩ (Nat.le_of_ble_eq_true rfl) ⟨Nat.le_refl _, Nat.le_refl _⟩ dX11_kind_107 (fun r_40 w_39 hw_39 H locs hw => ?_)
                  obtain ⟨σ_39, τ_39, α_39, β_39⟩ := w_39
                  obtain ⟨hS_39, hA_39, hB_39, hT_39, hp_39⟩ := hw_39
                  obtain rfl : σ_36 = σ_39 := (offS_nil hS_39).symm
                  obtain rfl : τ_36 = τ_39 := hT_39.symm
                  obtain rfl : uA (uA αq6 32 (upd (αq6 32) op.toNatClampNeg 1)) 33 (upd (αq6 33) op.toNatClampNeg (σ_36 17)) = α_39 := (offA_nil hA_39).symm
                  obtain rfl : βq6 = β_39 := (offA_nil hB_39).symm
                  have hp_39 : (r_40.toInt = 0 ∨ r_40.toInt = 1) ∧ (r_40.toInt = 1 → (σ_36 9).toInt = 0 ∧ (σ_36 7).toInt = 4) := hp_39
                  have hw : Wd dC dI A (MW h0 ad cA σ_36 τ_36 (uA (uA αq6 32 (upd (αq6 32) op.toNatClampNeg 1)) 33 (upd (αq6 33) op.toNatClampNeg (σ_36 17))) βq6) (MT cA) s H locs := hw
                  refine lv_if_eq (tgt := 11) hf.1 hf.2.1 dX11_kind_110 (by decide) (fun c_41 => ?_) (fun c_41 => ?_)
                  · have ic_41 : r_40.toInt = (0 : Int) := ti_eq c_41
                    by_cases hwz : (σ_36 9).toInt = 0
                    · exact ih σ_36 τ_36 (uA (uA αq6 32 (upd (αq6 32) op.toNatClampNeg 1)) 33 (upd (αq6 33) op.toNatClampNeg (σ_36 17))) βq6 dn k x_38 (n + 1) _ _ _ (by show ((3001 - (σ_36 6).toInt) * 100 + ((n + 1) : Int) + (1 - dn.toInt)).toNat < _; omega) (((hSq6.tr hS_22 (by decide)).tr hS_34 (by decide)).tr hS_36 (by decide)) ((hAq6.put 32 (by decide) _).put 33 (by decide) _) hBq6 (by show (0 ≤ (σ_36 6).toInt ∧ (σ_36 6).toInt ≤ (σ_36 5).toInt ∧ (σ_36 5).toInt ≤ (σ_36 1).toInt ∧ (σ_36 1).toInt ≤ 3000 ∧ 0 ≤ (σ_36 7).toInt ∧ (σ_36 7).toInt ≤ 5 ∧ (¬ (σ_36 7).toInt = 0 → (σ_36 6).toInt < (σ_36 5).toInt)) ∧ (σ 6).toInt ≤ (σ_36 6).toInt ∧ -1 ≤ k.toInt ∧ k.toInt < (σ_36 13).toInt ∧ (σ 13).toInt ≤ (σ_36 13).toInt ∧ (σ 15).toInt ≤ (σ_36 15).toInt ∧ -1 ≤ (σ_36 21).toInt ∧ (σ_36 21).toInt ≤ 100 ∧ (σ_36 13).toInt + c2 (upd (αq6 32) op.toNatClampNeg 1) (n + 1) ≤ (σ 13).toInt + ((σ_36 6).toInt - (σ 6).toInt) ∧ ((k.toInt = -1 ∧ (σ_36 15).toInt + (σ_36 17).toInt + c2 (upd (αq6 32) op.toNatClampNeg 1) (n + 1) ≤ (σ 15).toInt + ((σ_36 6).toInt - (σ 6).toInt)) ∨ (0 ≤ k.toInt ∧ (σ_36 15).toInt + (σ_36 17).toInt + 1 + c2 (upd (αq6 32) op.toNatClampNeg 1) (n + 1) ≤ (σ 15).toInt + ((σ_36 6).toInt - (σ 6).toInt))) ∧ 0 ≤ (σ_36 17).toInt ∧ x_38.toInt = (n + 1) ∧ (σ_36 9).toInt = 0 ∧ (σ 9).toInt = 0 ∧ (0 ≤ k.toInt → (σ 6).toInt < (σ_36 6).toInt) ∧ (dn.toInt = 0 ∨ (dn.toInt = 1 ∧ 0 ≤ k.toInt ∧ (n + 1) = 0)) ∧ (σ_36 21).toInt = (σ 21).toInt + wk (upd (αq6 32) op.toNatClampNeg 1) (n + 1) ∧ (σ_36 21).toInt ≤ 40; omega) hKT hO1 (frk_up _ _ _ (by show _ ≤ (σ_36 17).toInt; omega) hF1) (hV.up (by show (σ_36 17).toInt ≤ _; omega) (by show _ ≤ (σ_36 13).toInt; omega)) hw (lv_sub hl [1, 2, 0, 3] rfl)
                    · exact Jbad σ_36 τ_36 (uA (uA αq6 32 (upd (αq6 32) op.toNatClampNeg 1)) 33 (upd (αq6 33) op.toNatClampNeg (σ_36 17))) βq6 dn k x_38 _ _ _ (((hSq6.tr hS_22 (by decide)).tr hS_34 (by decide)).tr hS_36 (by decide)) ((hAq6.put 32 (by decide) _).put 33 (by decide) _) hBq6 (by show (0 ≤ (σ_36 6).toInt ∧ (σ_36 6).toInt ≤ (σ_36 5).toInt ∧ (σ_36 5).toInt ≤ (σ_36 1).toInt ∧ (σ_36 1).toInt ≤ 3000 ∧ 0 ≤ (σ_36 7).toInt ∧ (σ_36 7).toInt ≤ 5 ∧ (¬ (σ_36 7).toInt = 0 → (σ_36 6).toInt < (σ_36 5).toInt)) ∧ (σ 6).toInt ≤ (σ_36 6).toInt ∧ -1 ≤ k.toInt ∧ k.toInt < (σ_36 13).toInt ∧ (σ 13).toInt ≤ (σ_36 13).toInt ∧ (σ 15).toInt ≤ (σ_36 15).toInt ∧ -1 ≤ (σ_36 21).toInt ∧ (σ_36 21).toInt ≤ 100 ∧ (σ_36 13).toInt ≤ (σ 13).toInt + ((σ_36 6).toInt - (σ 6).toInt) ∧ (σ_36 15).toInt ≤ (σ 15).toInt + ((σ_36 6).toInt - (σ 6).toInt) ∧ ¬ (σ_36 9).toInt = 0; omega) hKT hw (lv_sub hl [1, 2, 0, 3] rfl)
                  · have ic_41 : ¬ r_40.toInt = (0 : Int) := ti_ne c_41
                    refine lv_aload_n hf.1 hf.2.1 dX11_kind_113 rfl (lv_at hl 3 rfl) ?_
                    refine lv_bipush (v := 41) hf.1 hf.2.1 dX11_kind_114 (by decide) ?_
                    refine gcall_v (As := [.int 41]) (rest := []) hf hw (m_closes l dC dI h0 ad cA σ_36 τ_36 (uA (uA αq6 32 (upd (αq6 32) op.toNatClampNeg 1)) 33 (upd (αq6 33) op.toNatClampNeg (σ_36 17))) βq6 41 H.size (by show 0 ≤ (σ_36 6).toInt ∧ (σ_36 6).toInt ≤ (σ_36 5).toInt ∧ (σ_36 5).toInt ≤ (σ_36 1).toInt ∧ (σ_36 1).toInt ≤ 3000 ∧ 0 ≤ (σ_36 7).toInt ∧ (σ_36 7).toInt ≤ 5 ∧ (¬ (σ_36 7).toInt = 0 → (σ_36 6).toInt < (σ_36 5).toInt); omega) (by show -1 ≤ (σ_36 21).toInt ∧ (σ_36 21).toInt ≤ 100; omega)) ka_X11_closes kv_X11_closes rfl k1832 rfl rfl hl.1 rfl rfl ⟨Nat.le_of_ble_eq_true rfl, Nat.le_of_ble_eq_true rfl⟩ (Nat.le_of_ble_eq_true rfl) ⟨Nat.le_refl _, Nat.le_refl _⟩ dX11_kind_116 (fun w_42 hw_42 H locs hw => ?_)
                    obtain ⟨σ_42, τ_42, α_42, β_42⟩ := w_42
                    obtain ⟨hS_42, hA_42, hB_42, hp_42⟩ := hw_42
                    obtain rfl : uA (uA αq6 32 (upd (αq6 32) op.toNatClampNeg 1)) 33 (upd (αq6 33) op.toNatClampNeg (σ_36 17)) = α_42 := (offA_nil hA_42).symm
                    obtain rfl : βq6 = β_42 := (offA_nil hB_42).symm
                    have hp_42 : (0 ≤ (σ_42 6).toInt ∧ (σ_42 6).toInt ≤ (σ_42 5).toInt ∧ (σ_42 5).toInt ≤ (σ_42 1).toInt ∧ (σ_42 1).toInt ≤ 3000 ∧ 0 ≤ (σ_42 7).toInt ∧ (σ_42 7).toInt ≤ 5 ∧ (¬ (σ_42 7).toInt = 0 → (σ_42 6).toInt < (σ_42 5).toInt)) ∧ (σ_36 6).toInt ≤ (σ_42 6).toInt ∧ (σ_42 21).toInt = (σ_36 21).toInt - 1 ∧ ((σ_42 9).toInt = 0 → (σ_36 9).toInt = 0 ∧ (σ_36 7).toInt = 4 ∧ (σ_36 6).toInt < (σ_42 6).toInt) := hp_42
                    have f_42_1 : (σ_42 1).toInt = (σ_36 1).toInt := congrArg Int32.toInt (hS_42 1 (by decide))
                    have f_42_13 : (σ_42 13).toInt = (σ_36 13).toInt := congrArg Int32.toInt (hS_42 13 (by decide))
                    have f_42_15 : (σ_42 15).toInt = (σ_36 15).toInt := congrArg Int32.toInt (hS_42 15 (by decide))
                    have f_42_17 : (σ_42 17).toInt = (σ_36 17).toInt := congrArg Int32.toInt (hS_42 17 (by decide))
                    have hw : Wd dC dI A (MW h0 ad cA σ_42 τ_42 (uA (uA αq6 32 (upd (αq6 32) op.toNatClampNeg 1)) 33 (upd (αq6 33) op.toNatClampNeg (σ_36 17))) βq6) (MT cA) s H locs := hw
                    have hKT : KT (uA (uA αq6 32 (upd (αq6 32) op.toNatClampNeg 1)) 33 (upd (αq6 33) op.toNatClampNeg (σ_36 17))) (σ_42 13).toInt (σ_42 15).toInt := (show KT (uA (uA αq6 32 (upd (αq6 32) op.toNatClampNeg 1)) 33 (upd (αq6 33) op.toNatClampNeg (σ_36 17))) (σ_36 13).toInt (σ_36 15).toInt from hKT).off (LA := []) offA.rf (by decide) (by decide) (by decide) (by decide) f_42_13 f_42_15
                    refine lv_aload_n hf.1 hf.2.1 dX11_kind_119 rfl (lv_at hl 3 rfl) ?_
                    refine ggetA hf hw 32 (by decide) k1420 dX11_kind_120 ?_
                    refine lv_iload_n hf.1 hf.2.1 dX11_kind_123 rfl (lv_at hl 0 rfl) ?_
                    refine lv_iconst (v := 1) hf.1 hf.2.1 dX11_kind_124 (by decide) ?_
                    refine lv_isub hf.1 hf.2.1 dX11_kind_125 ?_
                    refine lv_topi (fun x_44 ex_44 => ?_)
                    have tx_44 : x_44.toInt = x_38.toInt - (1 : Int) := by rw [ex_44]; exact ti_sub (by show _ ≤ x_38.toInt - (1 : Int); omega) (by show x_38.toInt - (1 : Int) ≤ _; omega)
                    have en2 : x_44.toNatClampNeg = n := by have := tnc (show 0 ≤ x_44.toInt by omega); omega
                    refine lv_iconst (v := 2) hf.1 hf.2.1 dX11_kind_126 (by decide) ?_
                    refine gist hf hw 32 (by decide) rfl (n := 100) (f := (upd (αq6 32) op.toNatClampNeg 1)) rfl rfl rfl (ti_in (by omega) (by omega)) dX11_kind_127 (fun H locs hw => ?_)
                    have hz3 : wk (upd (upd (αq6 32) op.toNatClampNeg 1) x_44.toNatClampNeg 2) (n + 1) = wk (αq6 32) n + 1 := by rw [en, en2, upd_upd, wk_push]; rfl
                    have hz4 : c2 (upd (upd (αq6 32) op.toNatClampNeg 1) x_44.toNatClampNeg 2) (n + 1) = c2 (αq6 32) n + 1 := by rw [en, en2, upd_upd, c2_push]; rfl
                    refine lv_goto (tgt := 11) hf.1 hf.2.1 dX11_kind_128 (by decide) ?_
                    by_cases hwz : (σ_42 9).toInt = 0
                    · exact ih σ_42 τ_42 (uA (uA (uA αq6 32 (upd (αq6 32) op.toNatClampNeg 1)) 33 (upd (αq6 33) op.toNatClampNeg (σ_36 17))) 32 (upd (upd (αq6 32) op.toNatClampNeg 1) x_44.toNatClampNeg 2)) βq6 dn k x_38 (n + 1) _ _ _ (by show ((3001 - (σ_42 6).toInt) * 100 + ((n + 1) : Int) + (1 - dn.toInt)).toNat < _; omega) ((((hSq6.tr hS_22 (by decide)).tr hS_34 (by decide)).tr hS_36 (by decide)).tr hS_42 (by decide)) (((hAq6.put 32 (by decide) _).put 33 (by decide) _).put 32 (by decide) _) hBq6 (by show (0 ≤ (σ_42 6).toInt ∧ (σ_42 6).toInt ≤ (σ_42 5).toInt ∧ (σ_42 5).toInt ≤ (σ_42 1).toInt ∧ (σ_42 1).toInt ≤ 3000 ∧ 0 ≤ (σ_42 7).toInt ∧ (σ_42 7).toInt ≤ 5 ∧ (¬ (σ_42 7).toInt = 0 → (σ_42 6).toInt < (σ_42 5).toInt)) ∧ (σ 6).toInt ≤ (σ_42 6).toInt ∧ -1 ≤ k.toInt ∧ k.toInt < (σ_42 13).toInt ∧ (σ 13).toInt ≤ (σ_42 13).toInt ∧ (σ 15).toInt ≤ (σ_42 15).toInt ∧ -1 ≤ (σ_42 21).toInt ∧ (σ_42 21).toInt ≤ 100 ∧ (σ_42 13).toInt + c2 (upd (upd (αq6 32) op.toNatClampNeg 1) x_44.toNatClampNeg 2) (n + 1) ≤ (σ 13).toInt + ((σ_42 6).toInt - (σ 6).toInt) ∧ ((k.toInt = -1 ∧ (σ_42 15).toInt + (σ_42 17).toInt + c2 (upd (upd (αq6 32) op.toNatClampNeg 1) x_44.toNatClampNeg 2) (n + 1) ≤ (σ 15).toInt + ((σ_42 6).toInt - (σ 6).toInt)) ∨ (0 ≤ k.toInt ∧ (σ_42 15).toInt + (σ_42 17).toInt + 1 + c2 (upd (upd (αq6 32) op.toNatClampNeg 1) x_44.toNatClampNeg 2) (n + 1) ≤ (σ 15).toInt + ((σ_42 6).toInt - (σ 6).toInt))) ∧ 0 ≤ (σ_42 17).toInt ∧ x_38.toInt = (n + 1) ∧ (σ_42 9).toInt = 0 ∧ (σ 9).toInt = 0 ∧ (0 ≤ k.toInt → (σ 6).toInt < (σ_42 6).toInt) ∧ (dn.toInt = 0 ∨ (dn.toInt = 1 ∧ 0 ≤ k.toInt ∧ (n + 1) = 0)) ∧ (σ_42 21).toInt = (σ 21).toInt + wk (upd (upd (αq6 32) op.toNatClampNeg 1) x_44.toNatClampNeg 2) (n + 1) ∧ (σ_42 21).toInt ≤ 40; omega) hKT (okk_at hO1 (Or.inr (Or.inr rfl))) (by rw [en2]; exact frk_up _ _ _ (by show _ ≤ (σ_42 17).toInt; omega) (frk_re hF1 (by rw [en, upd_at]; decide) (by decide))) (hV.up (by show (σ_42 17).toInt ≤ _; omega) (by show _ ≤ (σ_42 13).toInt; omega)) hw (lv_sub hl [1, 2, 0, 3] rfl)
                    · exact Jbad σ_42 τ_42 (uA (uA (uA αq6 32 (upd (αq6 32) op.toNatClampNeg 1)) 33 (upd (αq6 33) op.toNatClampNeg (σ_36 17))) 32 (upd (upd (αq6 32) op.toNatClampNeg 1) x_44.toNatClampNeg 2)) βq6 dn k x_38 _ _ _ ((((hSq6.tr hS_22 (by decide)).tr hS_34 (by decide)).tr hS_36 (by decide)).tr hS_42 (by decide)) (((hAq6.put 32 (by decide) _).put 33 (by decide) _).put 32 (by decide) _) hBq6 (by show (0 ≤ (σ_42 6).toInt ∧ (σ_42 6).toInt ≤ (σ_42 5).toInt ∧ (σ_42 5).toInt ≤ (σ_42 1).toInt ∧ (σ_42 1).toInt ≤ 3000 ∧ 0 ≤ (σ_42 7).toInt ∧ (σ_42 7).toInt ≤ 5 ∧ (¬ (σ_42 7).toInt = 0 → (σ_42 6).toInt < (σ_42 5).toInt)) ∧ (σ 6).toInt ≤ (σ_42 6).toInt ∧ -1 ≤ k.toInt ∧ k.toInt < (σ_42 13).toInt ∧ (σ 13).toInt ≤ (σ_42 13).toInt ∧ (σ 15).toInt ≤ (σ_42 15).toInt ∧ -1 ≤ (σ_42 21).toInt ∧ (σ_42 21).toInt ≤ 100 ∧ (σ_42 13).toInt ≤ (σ 13).toInt + ((σ_42 6).toInt - (σ 6).toInt) ∧ (σ_42 15).toInt ≤ (σ 15).toInt + ((σ_42 6).toInt - (σ 6).toInt) ∧ ¬ (σ_42 9).toInt = 0; omega) hKT hw (lv_sub hl [1, 2, 0, 3] rfl)
            · have ic_15 : ¬ r_14.toInt = (0 : Int) := ti_ne c_15
              refine lv_aload_n hf.1 hf.2.1 dX11_kind_35 rfl (lv_at hl 3 rfl) ?_
              refine lv_bipush (v := 91) hf.1 hf.2.1 dX11_kind_36 (by decide) ?_
              refine gcall_v (As := [.int 91]) (rest := []) hf hw (m_opens l dC dI h0 ad cA σq6 τq6 αq6 βq6 91 H.size (by show 0 ≤ (σq6 6).toInt ∧ (σq6 6).toInt ≤ (σq6 5).toInt ∧ (σq6 5).toInt ≤ (σq6 1).toInt ∧ (σq6 1).toInt ≤ 3000 ∧ 0 ≤ (σq6 7).toInt ∧ (σq6 7).toInt ≤ 5 ∧ (¬ (σq6 7).toInt = 0 → (σq6 6).toInt < (σq6 5).toInt); omega) (by show 0 ≤ (σq6 21).toInt ∧ (σq6 21).toInt ≤ 100; omega)) ka_X11_opens kv_X11_opens rfl k1820 rfl rfl hl.1 rfl rfl ⟨Nat.le_of_ble_eq_true rfl, Nat.le_of_ble_eq_true rfl⟩ (Nat.le_of_ble_eq_true rfl) ⟨Nat.le_refl _, Nat.le_refl _⟩ dX11_kind_38 (fun w_16 hw_16 H locs hw => ?_)
              obtain ⟨σ_16, τ_16, α_16, β_16⟩ := w_16
              obtain ⟨hS_16, hA_16, hB_16, hp_16⟩ := hw_16
              obtain rfl : αq6 = α_16 := (offA_nil hA_16).symm
              obtain rfl : βq6 = β_16 := (offA_nil hB_16).symm
              have hp_16 : (0 ≤ (σ_16 6).toInt ∧ (σ_16 6).toInt ≤ (σ_16 5).toInt ∧ (σ_16 5).toInt ≤ (σ_16 1).toInt ∧ (σ_16 1).toInt ≤ 3000 ∧ 0 ≤ (σ_16 7).toInt ∧ (σ_16 7).toInt ≤ 5 ∧ (¬ (σ_16 7).toInt = 0 → (σ_16 6).toInt < (σ_16 5).toInt)) ∧ (σq6 6).toInt ≤ (σ_16 6).toInt ∧ (σq6 21).toInt ≤ (σ_16 21).toInt ∧ (σ_16 21).toInt ≤ (σq6 21).toInt + 1 ∧ ((σ_16 9).toInt = 0 → (σq6 9).toInt = 0 ∧ (σq6 7).toInt = 4 ∧ (σq6 6).toInt < (σ_16 6).toInt ∧ (σ_16 21).toInt = (σq6 21).toInt + 1 ∧ ¬ (σq6 21).toInt = 40) := hp_16
              have f_16_1 : (σ_16 1).toInt = (σq6 1).toInt := congrArg Int32.toInt (hS_16 1 (by decide))
              have f_16_13 : (σ_16 13).toInt = (σq6 13).toInt := congrArg Int32.toInt (hS_16 13 (by decide))
              have f_16_15 : (σ_16 15).toInt = (σq6 15).toInt := congrArg Int32.toInt (hS_16 15 (by decide))
              have f_16_17 : (σ_16 17).toInt = (σq6 17).toInt := congrArg Int32.toInt (hS_16 17 (by decide))
              have hw : Wd dC dI A (MW h0 ad cA σ_16 τ_16 αq6 βq6) (MT cA) s H locs := hw
              have hKT : KT αq6 (σ_16 13).toInt (σ_16 15).toInt := (show KT αq6 (σq6 13).toInt (σq6 15).toInt from hKT).off (LA := []) offA.rf (by decide) (by decide) (by decide) (by decide) f_16_13 f_16_15
              refine lv_aload_n hf.1 hf.2.1 dX11_kind_41 rfl (lv_at hl 3 rfl) ?_
              refine ggetA hf hw 32 (by decide) k1420 dX11_kind_42 ?_
              refine lv_iload_n hf.1 hf.2.1 dX11_kind_45 rfl (lv_at hl 2 rfl) ?_
              refine lv_iconst (v := 0) hf.1 hf.2.1 dX11_kind_46 (by decide) ?_
              refine gist hf hw 32 (by decide) rfl (n := 100) (f := αq6 32) rfl rfl rfl (ti_in (by omega) (by omega)) dX11_kind_47 (fun H locs hw => ?_)
              have hz1 : wk (upd (αq6 32) op.toNatClampNeg 0) (n + 1) = wk (αq6 32) n + 1 := by rw [en, wk_push]; rfl
              have hz2 : c2 (upd (αq6 32) op.toNatClampNeg 0) (n + 1) = c2 (αq6 32) n := by rw [en, c2_push]; exact Int.add_zero _
              obtain ⟨x_18, ex_18⟩ : ∃ y : Int32, y = op + 1 := ⟨_, rfl⟩
              refine lv_iinc (v := x_18) (lv' := [(1, .int x_18), (3, .int dn), (2, .int k), (0, .ref h0)]) hf.1 hf.2.1 dX11_kind_48 hl (k := 2) rfl (by rw [ex_18]; rfl) (by decide) rfl (fun ls hl => ?_)
              have tx_18 : x_18.toInt = op.toInt + 1 := by rw [ex_18]; exact ti_add (by show _ ≤ op.toInt + 1; omega) (by show op.toInt + 1 ≤ _; omega)
              refine lv_goto (tgt := 11) hf.1 hf.2.1 dX11_kind_51 (by decide) ?_
              by_cases hwz : (σ_16 9).toInt = 0
              · exact ih σ_16 τ_16 (uA αq6 32 (upd (αq6 32) op.toNatClampNeg 0)) βq6 dn k x_18 (n + 1) _ _ _ (by show ((3001 - (σ_16 6).toInt) * 100 + ((n + 1) : Int) + (1 - dn.toInt)).toNat < _; omega) (hSq6.tr hS_16 (by decide)) (hAq6.put 32 (by decide) _) hBq6 (by show (0 ≤ (σ_16 6).toInt ∧ (σ_16 6).toInt ≤ (σ_16 5).toInt ∧ (σ_16 5).toInt ≤ (σ_16 1).toInt ∧ (σ_16 1).toInt ≤ 3000 ∧ 0 ≤ (σ_16 7).toInt ∧ (σ_16 7).toInt ≤ 5 ∧ (¬ (σ_16 7).toInt = 0 → (σ_16 6).toInt < (σ_16 5).toInt)) ∧ (σ 6).toInt ≤ (σ_16 6).toInt ∧ -1 ≤ k.toInt ∧ k.toInt < (σ_16 13).toInt ∧ (σ 13).toInt ≤ (σ_16 13).toInt ∧ (σ 15).toInt ≤ (σ_16 15).toInt ∧ -1 ≤ (σ_16 21).toInt ∧ (σ_16 21).toInt ≤ 100 ∧ (σ_16 13).toInt + c2 (upd (αq6 32) op.toNatClampNeg 0) (n + 1) ≤ (σ 13).toInt + ((σ_16 6).toInt - (σ 6).toInt) ∧ ((k.toInt = -1 ∧ (σ_16 15).toInt + (σ_16 17).toInt + c2 (upd (αq6 32) op.toNatClampNeg 0) (n + 1) ≤ (σ 15).toInt + ((σ_16 6).toInt - (σ 6).toInt)) ∨ (0 ≤ k.toInt ∧ (σ_16 15).toInt + (σ_16 17).toInt + 1 + c2 (upd (αq6 32) op.toNatClampNeg 0) (n + 1) ≤ (σ 15).toInt + ((σ_16 6).toInt - (σ 6).toInt))) ∧ 0 ≤ (σ_16 17).toInt ∧ x_18.toInt = (n + 1) ∧ (σ_16 9).toInt = 0 ∧ (σ 9).toInt = 0 ∧ (0 ≤ k.toInt → (σ 6).toInt < (σ_16 6).toInt) ∧ (dn.toInt = 0 ∨ (dn.toInt = 1 ∧ 0 ≤ k.toInt ∧ (n + 1) = 0)) ∧ (σ_16 21).toInt = (σ 21).toInt + wk (upd (αq6 32) op.toNatClampNeg 0) (n + 1) ∧ (σ_16 21).toInt ≤ 40; omega) hKT (by rw [en]; exact okk_put hO (Or.inl rfl)) (by show frk _ _ _ (σ_16 17).toInt; rw [en]; exact frk_up _ _ _ (by omega) (frk_p0 hF rfl)) (hV.up (by show (σ_16 17).toInt ≤ _; omega) (by show _ ≤ (σ_16 13).toInt; omega)) hw (lv_sub hl [1, 2, 0, 3] rfl)
              · exact Jbad σ_16 τ_16 (uA αq6 32 (upd (αq6 32) op.toNatClampNeg 0)) βq6 dn k x_18 _ _ _ (hSq6.tr hS_16 (by decide)) (hAq6.put 32 (by decide) _) hBq6 (by show (0 ≤ (σ_16 6).toInt ∧ (σ_16 6).toInt ≤ (σ_16 5).toInt ∧ (σ_16 5).toInt ≤ (σ_16 1).toInt ∧ (σ_16 1).toInt ≤ 3000 ∧ 0 ≤ (σ_16 7).toInt ∧ (σ_16 7).toInt ≤ 5 ∧ (¬ (σ_16 7).toInt = 0 → (σ_16 6).toInt < (σ_16 5).toInt)) ∧ (σ 6).toInt ≤ (σ_16 6).toInt ∧ -1 ≤ k.toInt ∧ k.toInt < (σ_16 13).toInt ∧ (σ 13).toInt ≤ (σ_16 13).toInt ∧ (σ 15).toInt ≤ (σ_16 15).toInt ∧ -1 ≤ (σ_16 21).toInt ∧ (σ_16 21).toInt ≤ 100 ∧ (σ_16 13).toInt ≤ (σ 13).toInt + ((σ_16 6).toInt - (σ 6).toInt) ∧ (σ_16 15).toInt ≤ (σ 15).toInt + ((σ_16 6).toInt - (σ 6).toInt) ∧ ¬ (σ_16 9).toInt = 0; omega) hKT hw (lv_sub hl [1, 2, 0, 3] rfl)
  have hz1 : wk (α 32) 0 = 0 := rfl
  have hz2 : c2 (α 32) 0 = 0 := rfl
  by_cases hwz : (σ 9).toInt = 0
  · exact loop (((3001 - (σ 6).toInt) * 100 + ((0 : Nat) : Int) + (1 - (0 : Int))).toNat + 1) (uS σ 17 0) τ α β 0 (-1) 0 0 _ _ _ (Nat.lt_succ_self _) (offS.rf.put 17 (by decide) 0) offA.rf offA.rf (by show (0 ≤ (σ 6).toInt ∧ (σ 6).toInt ≤ (σ 5).toInt ∧ (σ 5).toInt ≤ (σ 1).toInt ∧ (σ 1).toInt ≤ 3000 ∧ 0 ≤ (σ 7).toInt ∧ (σ 7).toInt ≤ 5 ∧ (¬ (σ 7).toInt = 0 → (σ 6).toInt < (σ 5).toInt)) ∧ (σ 6).toInt ≤ (σ 6).toInt ∧ -1 ≤ (-1 : Int) ∧ (-1 : Int) < (σ 13).toInt ∧ (σ 13).toInt ≤ (σ 13).toInt ∧ (σ 15).toInt ≤ (σ 15).toInt ∧ -1 ≤ (σ 21).toInt ∧ (σ 21).toInt ≤ 100 ∧ (σ 13).toInt + c2 (α 32) 0 ≤ (σ 13).toInt + ((σ 6).toInt - (σ 6).toInt) ∧ (((-1 : Int) = -1 ∧ (σ 15).toInt + (0 : Int) + c2 (α 32) 0 ≤ (σ 15).toInt + ((σ 6).toInt - (σ 6).toInt)) ∨ (0 ≤ (-1 : Int) ∧ (σ 15).toInt + (0 : Int) + 1 + c2 (α 32) 0 ≤ (σ 15).toInt + ((σ 6).toInt - (σ 6).toInt))) ∧ 0 ≤ (0 : Int) ∧ (0 : Int) = 0 ∧ (σ 9).toInt = 0 ∧ (σ 9).toInt = 0 ∧ (0 ≤ (-1 : Int) → (σ 6).toInt < (σ 6).toInt) ∧ ((0 : Int) = 0 ∨ ((0 : Int) = 1 ∧ 0 ≤ (-1 : Int) ∧ 0 = 0)) ∧ (σ 21).toInt = (σ 21).toInt + wk (α 32) 0 ∧ (σ 21).toInt ≤ 40; omega) hKT (fun o ho => absurd ho (Nat.not_lt_zero _)) (by show (0 : Int) ≤ _; exact Int.le_refl _) (fun j hj => by have e : (0 : Int32).toInt = 0 := rfl; omega) hw (lv_sub hl [0, 1, 2, 3] rfl)
  · exact Jbad (uS σ 17 0) τ α β 0 (-1) 0 _ _ _ (offS.rf.put 17 (by decide) 0) offA.rf offA.rf (by show (0 ≤ (σ 6).toInt ∧ (σ 6).toInt ≤ (σ 5).toInt ∧ (σ 5).toInt ≤ (σ 1).toInt ∧ (σ 1).toInt ≤ 3000 ∧ 0 ≤ (σ 7).toInt ∧ (σ 7).toInt ≤ 5 ∧ (¬ (σ 7).toInt = 0 → (σ 6).toInt < (σ 5).toInt)) ∧ (σ 6).toInt ≤ (σ 6).toInt ∧ -1 ≤ (-1 : Int) ∧ (-1 : Int) < (σ 13).toInt ∧ (σ 13).toInt ≤ (σ 13).toInt ∧ (σ 15).toInt ≤ (σ 15).toInt ∧ -1 ≤ (σ 21).toInt ∧ (σ 21).toInt ≤ 100 ∧ (σ 13).toInt ≤ (σ 13).toInt + ((σ 6).toInt - (σ 6).toInt) ∧ (σ 15).toInt ≤ (σ 15).toInt + ((σ 6).toInt - (σ 6).toInt) ∧ ¬ (σ 9).toInt = 0; omega) hKT hw (lv_sub hl [0, 1, 2, 3] rfl)
