theorem dX11_elementOf_0 : decode cX11_elementOf 0 = .ok (.aload_n 0, 1) := by decide +kernel
theorem dX11_elementOf_1 : decode cX11_elementOf 1 = .ok (.getfield 43, 3) := by decide +kernel
theorem dX11_elementOf_4 : decode cX11_elementOf 4 = .ok (.aload_n 0, 1) := by decide +kernel
theorem dX11_elementOf_5 : decode cX11_elementOf 5 = .ok (.getfield 33, 3) := by decide +kernel
theorem dX11_elementOf_8 : decode cX11_elementOf 8 = .ok (.iload_n 1, 1) := by decide +kernel
theorem dX11_elementOf_9 : decode cX11_elementOf 9 = .ok (.iaload, 1) := by decide +kernel
theorem dX11_elementOf_10 : decode cX11_elementOf 10 = .ok (.iaload, 1) := by decide +kernel
theorem dX11_elementOf_11 : decode cX11_elementOf 11 = .ok (.ireturn, 1) := by decide +kernel
theorem dX11_kindOf_0 : decode cX11_kindOf 0 = .ok (.iconst 0, 1) := by decide +kernel
theorem dX11_kindOf_1 : decode cX11_kindOf 1 = .ok (.istore 4, 2) := by decide +kernel
theorem dX11_kindOf_3 : decode cX11_kindOf 3 = .ok (.iload 4, 2) := by decide +kernel
theorem dX11_kindOf_5 : decode cX11_kindOf 5 = .ok (.aload_n 0, 1) := by decide +kernel
theorem dX11_kindOf_6 : decode cX11_kindOf 6 = .ok (.getfield 267, 3) := by decide +kernel
theorem dX11_kindOf_9 : decode cX11_kindOf 9 = .ok (.if_icmp .ge 100, 3) := by decide +kernel
theorem dX11_kindOf_12 : decode cX11_kindOf 12 = .ok (.aload_n 0, 1) := by decide +kernel
theorem dX11_kindOf_13 : decode cX11_kindOf 13 = .ok (.getfield 26, 3) := by decide +kernel
theorem dX11_kindOf_16 : decode cX11_kindOf 16 = .ok (.iload 4, 2) := by decide +kernel
theorem dX11_kindOf_18 : decode cX11_kindOf 18 = .ok (.iaload, 1) := by decide +kernel
theorem dX11_kindOf_19 : decode cX11_kindOf 19 = .ok (.iload_n 1, 1) := by decide +kernel
theorem dX11_kindOf_20 : decode cX11_kindOf 20 = .ok (.if_icmp .ne 18, 3) := by decide +kernel
theorem dX11_kindOf_23 : decode cX11_kindOf 23 = .ok (.aload_n 0, 1) := by decide +kernel
theorem dX11_kindOf_24 : decode cX11_kindOf 24 = .ok (.getfield 30, 3) := by decide +kernel
theorem dX11_kindOf_27 : decode cX11_kindOf 27 = .ok (.iload 4, 2) := by decide +kernel
theorem dX11_kindOf_29 : decode cX11_kindOf 29 = .ok (.iaload, 1) := by decide +kernel
theorem dX11_kindOf_30 : decode cX11_kindOf 30 = .ok (.iload_n 3, 1) := by decide +kernel
theorem dX11_kindOf_31 : decode cX11_kindOf 31 = .ok (.if_icmp .ne 7, 3) := by decide +kernel
theorem dX11_kindOf_34 : decode cX11_kindOf 34 = .ok (.iconst 1, 1) := by decide +kernel
theorem dX11_kindOf_35 : decode cX11_kindOf 35 = .ok (.goto 4, 3) := by decide +kernel
theorem dX11_kindOf_38 : decode cX11_kindOf 38 = .ok (.iconst 0, 1) := by decide +kernel
theorem dX11_kindOf_39 : decode cX11_kindOf 39 = .ok (.istore 5, 2) := by decide +kernel
theorem dX11_kindOf_41 : decode cX11_kindOf 41 = .ok (.iconst 0, 1) := by decide +kernel
theorem dX11_kindOf_42 : decode cX11_kindOf 42 = .ok (.istore 6, 2) := by decide +kernel
theorem dX11_kindOf_44 : decode cX11_kindOf 44 = .ok (.iload 6, 2) := by decide +kernel
theorem dX11_kindOf_46 : decode cX11_kindOf 46 = .ok (.iload_n 3, 1) := by decide +kernel
theorem dX11_kindOf_47 : decode cX11_kindOf 47 = .ok (.if_icmp .ge 48, 3) := by decide +kernel
theorem dX11_kindOf_50 : decode cX11_kindOf 50 = .ok (.iload 5, 2) := by decide +kernel
theorem dX11_kindOf_52 : decode cX11_kindOf 52 = .ok (.ifCond .eq 43, 3) := by decide +kernel
theorem dX11_kindOf_55 : decode cX11_kindOf 55 = .ok (.aload_n 0, 1) := by decide +kernel
theorem dX11_kindOf_56 : decode cX11_kindOf 56 = .ok (.getfield 43, 3) := by decide +kernel
theorem dX11_kindOf_59 : decode cX11_kindOf 59 = .ok (.aload_n 0, 1) := by decide +kernel
theorem dX11_kindOf_60 : decode cX11_kindOf 60 = .ok (.getfield 33, 3) := by decide +kernel
theorem dX11_kindOf_63 : decode cX11_kindOf 63 = .ok (.iload 4, 2) := by decide +kernel
theorem dX11_kindOf_65 : decode cX11_kindOf 65 = .ok (.iaload, 1) := by decide +kernel
theorem dX11_kindOf_66 : decode cX11_kindOf 66 = .ok (.iload 6, 2) := by decide +kernel
theorem dX11_kindOf_68 : decode cX11_kindOf 68 = .ok (.iadd, 1) := by decide +kernel
theorem dX11_kindOf_69 : decode cX11_kindOf 69 = .ok (.iaload, 1) := by decide +kernel
theorem dX11_kindOf_70 : decode cX11_kindOf 70 = .ok (.aload_n 0, 1) := by decide +kernel
theorem dX11_kindOf_71 : decode cX11_kindOf 71 = .ok (.getfield 46, 3) := by decide +kernel
theorem dX11_kindOf_74 : decode cX11_kindOf 74 = .ok (.iload_n 2, 1) := by decide +kernel
theorem dX11_kindOf_75 : decode cX11_kindOf 75 = .ok (.iload 6, 2) := by decide +kernel
theorem dX11_kindOf_77 : decode cX11_kindOf 77 = .ok (.iadd, 1) := by decide +kernel
theorem dX11_kindOf_78 : decode cX11_kindOf 78 = .ok (.iaload, 1) := by decide +kernel
theorem dX11_kindOf_79 : decode cX11_kindOf 79 = .ok (.if_icmp .ne 7, 3) := by decide +kernel
theorem dX11_kindOf_82 : decode cX11_kindOf 82 = .ok (.iconst 1, 1) := by decide +kernel
theorem dX11_kindOf_83 : decode cX11_kindOf 83 = .ok (.goto 4, 3) := by decide +kernel
theorem dX11_kindOf_86 : decode cX11_kindOf 86 = .ok (.iconst 0, 1) := by decide +kernel
theorem dX11_kindOf_87 : decode cX11_kindOf 87 = .ok (.istore 5, 2) := by decide +kernel
theorem dX11_kindOf_89 : decode cX11_kindOf 89 = .ok (.iinc 6 1, 3) := by decide +kernel
theorem dX11_kindOf_92 : decode cX11_kindOf 92 = .ok (.goto (-48), 3) := by decide +kernel
theorem dX11_kindOf_95 : decode cX11_kindOf 95 = .ok (.iload 5, 2) := by decide +kernel
theorem dX11_kindOf_97 : decode cX11_kindOf 97 = .ok (.ifCond .eq 6, 3) := by decide +kernel
theorem dX11_kindOf_100 : decode cX11_kindOf 100 = .ok (.iload 4, 2) := by decide +kernel
theorem dX11_kindOf_102 : decode cX11_kindOf 102 = .ok (.ireturn, 1) := by decide +kernel
theorem dX11_kindOf_103 : decode cX11_kindOf 103 = .ok (.iinc 4 1, 3) := by decide +kernel
theorem dX11_kindOf_106 : decode cX11_kindOf 106 = .ok (.goto (-103), 3) := by decide +kernel
theorem dX11_kindOf_109 : decode cX11_kindOf 109 = .ok (.aload_n 0, 1) := by decide +kernel
theorem dX11_kindOf_110 : decode cX11_kindOf 110 = .ok (.getfield 267, 3) := by decide +kernel
theorem dX11_kindOf_113 : decode cX11_kindOf 113 = .ok (.istore 4, 2) := by decide +kernel
theorem dX11_kindOf_115 : decode cX11_kindOf 115 = .ok (.aload_n 0, 1) := by decide +kernel
theorem dX11_kindOf_116 : decode cX11_kindOf 116 = .ok (.dup, 1) := by decide +kernel
theorem dX11_kindOf_117 : decode cX11_kindOf 117 = .ok (.getfield 267, 3) := by decide +kernel
theorem dX11_kindOf_120 : decode cX11_kindOf 120 = .ok (.iconst 1, 1) := by decide +kernel
theorem dX11_kindOf_121 : decode cX11_kindOf 121 = .ok (.iadd, 1) := by decide +kernel
theorem dX11_kindOf_122 : decode cX11_kindOf 122 = .ok (.putfield 267, 3) := by decide +kernel
theorem dX11_kindOf_125 : decode cX11_kindOf 125 = .ok (.aload_n 0, 1) := by decide +kernel
theorem dX11_kindOf_126 : decode cX11_kindOf 126 = .ok (.getfield 26, 3) := by decide +kernel
theorem dX11_kindOf_129 : decode cX11_kindOf 129 = .ok (.iload 4, 2) := by decide +kernel
theorem dX11_kindOf_131 : decode cX11_kindOf 131 = .ok (.iload_n 1, 1) := by decide +kernel
theorem dX11_kindOf_132 : decode cX11_kindOf 132 = .ok (.iastore, 1) := by decide +kernel
theorem dX11_kindOf_133 : decode cX11_kindOf 133 = .ok (.aload_n 0, 1) := by decide +kernel
theorem dX11_kindOf_134 : decode cX11_kindOf 134 = .ok (.getfield 30, 3) := by decide +kernel
theorem dX11_kindOf_137 : decode cX11_kindOf 137 = .ok (.iload 4, 2) := by decide +kernel
theorem dX11_kindOf_139 : decode cX11_kindOf 139 = .ok (.iload_n 3, 1) := by decide +kernel
theorem dX11_kindOf_140 : decode cX11_kindOf 140 = .ok (.iastore, 1) := by decide +kernel
theorem dX11_kindOf_141 : decode cX11_kindOf 141 = .ok (.aload_n 0, 1) := by decide +kernel
theorem dX11_kindOf_142 : decode cX11_kindOf 142 = .ok (.getfield 33, 3) := by decide +kernel
theorem dX11_kindOf_145 : decode cX11_kindOf 145 = .ok (.iload 4, 2) := by decide +kernel
theorem dX11_kindOf_147 : decode cX11_kindOf 147 = .ok (.aload_n 0, 1) := by decide +kernel
theorem dX11_kindOf_148 : decode cX11_kindOf 148 = .ok (.getfield 269, 3) := by decide +kernel
theorem dX11_kindOf_151 : decode cX11_kindOf 151 = .ok (.iastore, 1) := by decide +kernel
theorem dX11_kindOf_152 : decode cX11_kindOf 152 = .ok (.aload_n 0, 1) := by decide +kernel
theorem dX11_kindOf_153 : decode cX11_kindOf 153 = .ok (.getfield 39, 3) := by decide +kernel
theorem dX11_kindOf_156 : decode cX11_kindOf 156 = .ok (.iload 4, 2) := by decide +kernel
theorem dX11_kindOf_158 : decode cX11_kindOf 158 = .ok (.iload_n 1, 1) := by decide +kernel
theorem dX11_kindOf_159 : decode cX11_kindOf 159 = .ok (.iconst 3, 1) := by decide +kernel
theorem dX11_kindOf_160 : decode cX11_kindOf 160 = .ok (.if_icmp .ne 7, 3) := by decide +kernel
theorem dX11_kindOf_163 : decode cX11_kindOf 163 = .ok (.iconst 1, 1) := by decide +kernel
theorem dX11_kindOf_164 : decode cX11_kindOf 164 = .ok (.goto 4, 3) := by decide +kernel
theorem dX11_kindOf_167 : decode cX11_kindOf 167 = .ok (.iconst 0, 1) := by decide +kernel
theorem dX11_kindOf_168 : decode cX11_kindOf 168 = .ok (.bastore, 1) := by decide +kernel
theorem dX11_kindOf_169 : decode cX11_kindOf 169 = .ok (.iload_n 1, 1) := by decide +kernel
theorem dX11_kindOf_170 : decode cX11_kindOf 170 = .ok (.iconst 4, 1) := by decide +kernel
theorem dX11_kindOf_171 : decode cX11_kindOf 171 = .ok (.if_icmp .ne 21, 3) := by decide +kernel
theorem dX11_kindOf_174 : decode cX11_kindOf 174 = .ok (.iconst 5, 1) := by decide +kernel
theorem dX11_kindOf_175 : decode cX11_kindOf 175 = .ok (.aload_n 0, 1) := by decide +kernel
theorem dX11_kindOf_176 : decode cX11_kindOf 176 = .ok (.getfield 36, 3) := by decide +kernel
theorem dX11_kindOf_179 : decode cX11_kindOf 179 = .ok (.aload_n 0, 1) := by decide +kernel
theorem dX11_kindOf_180 : decode cX11_kindOf 180 = .ok (.getfield 46, 3) := by decide +kernel
theorem dX11_kindOf_183 : decode cX11_kindOf 183 = .ok (.iload_n 2, 1) := by decide +kernel
theorem dX11_kindOf_184 : decode cX11_kindOf 184 = .ok (.iaload, 1) := by decide +kernel
theorem dX11_kindOf_185 : decode cX11_kindOf 185 = .ok (.iaload, 1) := by decide +kernel
theorem dX11_kindOf_186 : decode cX11_kindOf 186 = .ok (.imul, 1) := by decide +kernel
theorem dX11_kindOf_187 : decode cX11_kindOf 187 = .ok (.iconst 4, 1) := by decide +kernel
theorem dX11_kindOf_188 : decode cX11_kindOf 188 = .ok (.iadd, 1) := by decide +kernel
theorem dX11_kindOf_189 : decode cX11_kindOf 189 = .ok (.goto 18, 3) := by decide +kernel
theorem dX11_kindOf_192 : decode cX11_kindOf 192 = .ok (.iload_n 1, 1) := by decide +kernel
theorem dX11_kindOf_193 : decode cX11_kindOf 193 = .ok (.iconst 5, 1) := by decide +kernel
theorem dX11_kindOf_194 : decode cX11_kindOf 194 = .ok (.if_icmp .ne 12, 3) := by decide +kernel
theorem dX11_kindOf_197 : decode cX11_kindOf 197 = .ok (.bipush 7, 2) := by decide +kernel
theorem dX11_kindOf_199 : decode cX11_kindOf 199 = .ok (.iload_n 3, 1) := by decide +kernel
theorem dX11_kindOf_200 : decode cX11_kindOf 200 = .ok (.iadd, 1) := by decide +kernel
theorem dX11_kindOf_201 : decode cX11_kindOf 201 = .ok (.iconst 1, 1) := by decide +kernel
theorem dX11_kindOf_202 : decode cX11_kindOf 202 = .ok (.isub, 1) := by decide +kernel
theorem dX11_kindOf_203 : decode cX11_kindOf 203 = .ok (.goto 4, 3) := by decide +kernel
theorem dX11_kindOf_206 : decode cX11_kindOf 206 = .ok (.iload_n 1, 1) := by decide +kernel
theorem dX11_kindOf_207 : decode cX11_kindOf 207 = .ok (.istore 5, 2) := by decide +kernel
theorem dX11_kindOf_209 : decode cX11_kindOf 209 = .ok (.iconst 0, 1) := by decide +kernel
theorem dX11_kindOf_210 : decode cX11_kindOf 210 = .ok (.istore 6, 2) := by decide +kernel
theorem dX11_kindOf_212 : decode cX11_kindOf 212 = .ok (.iload 6, 2) := by decide +kernel
theorem dX11_kindOf_214 : decode cX11_kindOf 214 = .ok (.iload_n 3, 1) := by decide +kernel
theorem dX11_kindOf_215 : decode cX11_kindOf 215 = .ok (.if_icmp .ge 108, 3) := by decide +kernel
theorem dX11_kindOf_218 : decode cX11_kindOf 218 = .ok (.aload_n 0, 1) := by decide +kernel
theorem dX11_kindOf_219 : decode cX11_kindOf 219 = .ok (.getfield 43, 3) := by decide +kernel
theorem dX11_kindOf_222 : decode cX11_kindOf 222 = .ok (.aload_n 0, 1) := by decide +kernel
theorem dX11_kindOf_223 : decode cX11_kindOf 223 = .ok (.getfield 269, 3) := by decide +kernel
theorem dX11_kindOf_226 : decode cX11_kindOf 226 = .ok (.aload_n 0, 1) := by decide +kernel
theorem dX11_kindOf_227 : decode cX11_kindOf 227 = .ok (.getfield 46, 3) := by decide +kernel
theorem dX11_kindOf_230 : decode cX11_kindOf 230 = .ok (.iload_n 2, 1) := by decide +kernel
theorem dX11_kindOf_231 : decode cX11_kindOf 231 = .ok (.iload 6, 2) := by decide +kernel
theorem dX11_kindOf_233 : decode cX11_kindOf 233 = .ok (.iadd, 1) := by decide +kernel
theorem dX11_kindOf_234 : decode cX11_kindOf 234 = .ok (.iaload, 1) := by decide +kernel
theorem dX11_kindOf_235 : decode cX11_kindOf 235 = .ok (.iastore, 1) := by decide +kernel
theorem dX11_kindOf_236 : decode cX11_kindOf 236 = .ok (.aload_n 0, 1) := by decide +kernel
theorem dX11_kindOf_237 : decode cX11_kindOf 237 = .ok (.dup, 1) := by decide +kernel
theorem dX11_kindOf_238 : decode cX11_kindOf 238 = .ok (.getfield 269, 3) := by decide +kernel
theorem dX11_kindOf_241 : decode cX11_kindOf 241 = .ok (.iconst 1, 1) := by decide +kernel
theorem dX11_kindOf_242 : decode cX11_kindOf 242 = .ok (.iadd, 1) := by decide +kernel
theorem dX11_kindOf_243 : decode cX11_kindOf 243 = .ok (.putfield 269, 3) := by decide +kernel
theorem dX11_kindOf_246 : decode cX11_kindOf 246 = .ok (.aload_n 0, 1) := by decide +kernel
theorem dX11_kindOf_247 : decode cX11_kindOf 247 = .ok (.getfield 39, 3) := by decide +kernel
theorem dX11_kindOf_250 : decode cX11_kindOf 250 = .ok (.iload 4, 2) := by decide +kernel
theorem dX11_kindOf_252 : decode cX11_kindOf 252 = .ok (.aload_n 0, 1) := by decide +kernel
theorem dX11_kindOf_253 : decode cX11_kindOf 253 = .ok (.getfield 39, 3) := by decide +kernel
theorem dX11_kindOf_256 : decode cX11_kindOf 256 = .ok (.iload 4, 2) := by decide +kernel
theorem dX11_kindOf_258 : decode cX11_kindOf 258 = .ok (.baload, 1) := by decide +kernel
theorem dX11_kindOf_259 : decode cX11_kindOf 259 = .ok (.ifCond .ne 20, 3) := by decide +kernel
theorem dX11_kindOf_262 : decode cX11_kindOf 262 = .ok (.aload_n 0, 1) := by decide +kernel
theorem dX11_kindOf_263 : decode cX11_kindOf 263 = .ok (.getfield 39, 3) := by decide +kernel
theorem dX11_kindOf_266 : decode cX11_kindOf 266 = .ok (.aload_n 0, 1) := by decide +kernel
theorem dX11_kindOf_267 : decode cX11_kindOf 267 = .ok (.getfield 46, 3) := by decide +kernel
theorem dX11_kindOf_270 : decode cX11_kindOf 270 = .ok (.iload_n 2, 1) := by decide +kernel
theorem dX11_kindOf_271 : decode cX11_kindOf 271 = .ok (.iload 6, 2) := by decide +kernel
theorem dX11_kindOf_273 : decode cX11_kindOf 273 = .ok (.iadd, 1) := by decide +kernel
theorem dX11_kindOf_274 : decode cX11_kindOf 274 = .ok (.iaload, 1) := by decide +kernel
theorem dX11_kindOf_275 : decode cX11_kindOf 275 = .ok (.baload, 1) := by decide +kernel
theorem dX11_kindOf_276 : decode cX11_kindOf 276 = .ok (.ifCond .eq 7, 3) := by decide +kernel
theorem dX11_kindOf_279 : decode cX11_kindOf 279 = .ok (.iconst 1, 1) := by decide +kernel
theorem dX11_kindOf_280 : decode cX11_kindOf 280 = .ok (.goto 4, 3) := by decide +kernel
theorem dX11_kindOf_283 : decode cX11_kindOf 283 = .ok (.iconst 0, 1) := by decide +kernel
theorem dX11_kindOf_284 : decode cX11_kindOf 284 = .ok (.bastore, 1) := by decide +kernel
theorem dX11_kindOf_285 : decode cX11_kindOf 285 = .ok (.iload_n 1, 1) := by decide +kernel
theorem dX11_kindOf_286 : decode cX11_kindOf 286 = .ok (.iconst 5, 1) := by decide +kernel
theorem dX11_kindOf_287 : decode cX11_kindOf 287 = .ok (.if_icmp .ne 26, 3) := by decide +kernel
theorem dX11_kindOf_290 : decode cX11_kindOf 290 = .ok (.bipush 31, 2) := by decide +kernel
theorem dX11_kindOf_292 : decode cX11_kindOf 292 = .ok (.iload 5, 2) := by decide +kernel
theorem dX11_kindOf_294 : decode cX11_kindOf 294 = .ok (.imul, 1) := by decide +kernel
theorem dX11_kindOf_295 : decode cX11_kindOf 295 = .ok (.aload_n 0, 1) := by decide +kernel
theorem dX11_kindOf_296 : decode cX11_kindOf 296 = .ok (.getfield 36, 3) := by decide +kernel
theorem dX11_kindOf_299 : decode cX11_kindOf 299 = .ok (.aload_n 0, 1) := by decide +kernel
theorem dX11_kindOf_300 : decode cX11_kindOf 300 = .ok (.getfield 46, 3) := by decide +kernel
theorem dX11_kindOf_303 : decode cX11_kindOf 303 = .ok (.iload_n 2, 1) := by decide +kernel
theorem dX11_kindOf_304 : decode cX11_kindOf 304 = .ok (.iload 6, 2) := by decide +kernel
theorem dX11_kindOf_306 : decode cX11_kindOf 306 = .ok (.iadd, 1) := by decide +kernel
theorem dX11_kindOf_307 : decode cX11_kindOf 307 = .ok (.iaload, 1) := by decide +kernel
theorem dX11_kindOf_308 : decode cX11_kindOf 308 = .ok (.iaload, 1) := by decide +kernel
theorem dX11_kindOf_309 : decode cX11_kindOf 309 = .ok (.iadd, 1) := by decide +kernel
theorem dX11_kindOf_310 : decode cX11_kindOf 310 = .ok (.goto 5, 3) := by decide +kernel
theorem dX11_kindOf_313 : decode cX11_kindOf 313 = .ok (.iload 5, 2) := by decide +kernel
theorem dX11_kindOf_315 : decode cX11_kindOf 315 = .ok (.istore 5, 2) := by decide +kernel
theorem dX11_kindOf_317 : decode cX11_kindOf 317 = .ok (.iinc 6 1, 3) := by decide +kernel
theorem dX11_kindOf_320 : decode cX11_kindOf 320 = .ok (.goto (-108), 3) := by decide +kernel
theorem dX11_kindOf_323 : decode cX11_kindOf 323 = .ok (.aload_n 0, 1) := by decide +kernel
theorem dX11_kindOf_324 : decode cX11_kindOf 324 = .ok (.getfield 36, 3) := by decide +kernel
theorem dX11_kindOf_327 : decode cX11_kindOf 327 = .ok (.iload 4, 2) := by decide +kernel
theorem dX11_kindOf_329 : decode cX11_kindOf 329 = .ok (.iload 5, 2) := by decide +kernel
theorem dX11_kindOf_331 : decode cX11_kindOf 331 = .ok (.iastore, 1) := by decide +kernel
theorem dX11_kindOf_332 : decode cX11_kindOf 332 = .ok (.iload 4, 2) := by decide +kernel
theorem dX11_kindOf_334 : decode cX11_kindOf 334 = .ok (.ireturn, 1) := by decide +kernel
theorem dX11_kinds_0 : decode cX11_kinds 0 = .ok (.aload_n 0, 1) := by decide +kernel
theorem dX11_kinds_1 : decode cX11_kinds 1 = .ok (.iload_n 1, 1) := by decide +kernel
theorem dX11_kinds_2 : decode cX11_kinds 2 = .ok (.putfield 267, 3) := by decide +kernel
theorem dX11_kinds_5 : decode cX11_kinds 5 = .ok (.aload_n 0, 1) := by decide +kernel
theorem dX11_kinds_6 : decode cX11_kinds 6 = .ok (.iconst 0, 1) := by decide +kernel
theorem dX11_kinds_7 : decode cX11_kinds 7 = .ok (.putfield 269, 3) := by decide +kernel
theorem dX11_kinds_10 : decode cX11_kinds 10 = .ok (.aload_n 0, 1) := by decide +kernel
theorem dX11_kinds_11 : decode cX11_kinds 11 = .ok (.iconst 1, 1) := by decide +kernel
theorem dX11_kinds_12 : decode cX11_kinds 12 = .ok (.iconst 0, 1) := by decide +kernel
theorem dX11_kinds_13 : decode cX11_kinds 13 = .ok (.iconst 0, 1) := by decide +kernel
theorem dX11_kinds_14 : decode cX11_kinds 14 = .ok (.invokevirtual 272, 3) := by decide +kernel
theorem dX11_kinds_17 : decode cX11_kinds 17 = .ok (.pop, 1) := by decide +kernel
theorem dX11_kinds_18 : decode cX11_kinds 18 = .ok (.aload_n 0, 1) := by decide +kernel
theorem dX11_kinds_19 : decode cX11_kinds 19 = .ok (.iconst 2, 1) := by decide +kernel
theorem dX11_kinds_20 : decode cX11_kinds 20 = .ok (.iconst 0, 1) := by decide +kernel
theorem dX11_kinds_21 : decode cX11_kinds 21 = .ok (.iconst 0, 1) := by decide +kernel
theorem dX11_kinds_22 : decode cX11_kinds 22 = .ok (.invokevirtual 272, 3) := by decide +kernel
theorem dX11_kinds_25 : decode cX11_kinds 25 = .ok (.pop, 1) := by decide +kernel
theorem dX11_kinds_26 : decode cX11_kinds 26 = .ok (.aload_n 0, 1) := by decide +kernel
theorem dX11_kinds_27 : decode cX11_kinds 27 = .ok (.iconst 3, 1) := by decide +kernel
theorem dX11_kinds_28 : decode cX11_kinds 28 = .ok (.iconst 0, 1) := by decide +kernel
theorem dX11_kinds_29 : decode cX11_kinds 29 = .ok (.iconst 0, 1) := by decide +kernel
theorem dX11_kinds_30 : decode cX11_kinds 30 = .ok (.invokevirtual 272, 3) := by decide +kernel
theorem dX11_kinds_33 : decode cX11_kinds 33 = .ok (.pop, 1) := by decide +kernel
theorem dX11_kinds_34 : decode cX11_kinds 34 = .ok (.return_, 1) := by decide +kernel
theorem dX11_paramOf_0 : decode cX11_paramOf 0 = .ok (.aload_n 0, 1) := by decide +kernel
theorem dX11_paramOf_1 : decode cX11_paramOf 1 = .ok (.getfield 43, 3) := by decide +kernel
theorem dX11_paramOf_4 : decode cX11_paramOf 4 = .ok (.aload_n 0, 1) := by decide +kernel
theorem dX11_paramOf_5 : decode cX11_paramOf 5 = .ok (.getfield 33, 3) := by decide +kernel
theorem dX11_paramOf_8 : decode cX11_paramOf 8 = .ok (.iload_n 1, 1) := by decide +kernel
theorem dX11_paramOf_9 : decode cX11_paramOf 9 = .ok (.iaload, 1) := by decide +kernel
theorem dX11_paramOf_10 : decode cX11_paramOf 10 = .ok (.iload_n 2, 1) := by decide +kernel
theorem dX11_paramOf_11 : decode cX11_paramOf 11 = .ok (.iadd, 1) := by decide +kernel
theorem dX11_paramOf_12 : decode cX11_paramOf 12 = .ok (.iaload, 1) := by decide +kernel
theorem dX11_paramOf_13 : decode cX11_paramOf 13 = .ok (.ireturn, 1) := by decide +kernel
theorem dX11_resultOf_0 : decode cX11_resultOf 0 = .ok (.aload_n 0, 1) := by decide +kernel
theorem dX11_resultOf_1 : decode cX11_resultOf 1 = .ok (.getfield 43, 3) := by decide +kernel
theorem dX11_resultOf_4 : decode cX11_resultOf 4 = .ok (.aload_n 0, 1) := by decide +kernel
theorem dX11_resultOf_5 : decode cX11_resultOf 5 = .ok (.getfield 33, 3) := by decide +kernel
theorem dX11_resultOf_8 : decode cX11_resultOf 8 = .ok (.iload_n 1, 1) := by decide +kernel
theorem dX11_resultOf_9 : decode cX11_resultOf 9 = .ok (.iaload, 1) := by decide +kernel
theorem dX11_resultOf_10 : decode cX11_resultOf 10 = .ok (.aload_n 0, 1) := by decide +kernel
theorem dX11_resultOf_11 : decode cX11_resultOf 11 = .ok (.getfield 30, 3) := by decide +kernel
theorem dX11_resultOf_14 : decode cX11_resultOf 14 = .ok (.iload_n 1, 1) := by decide +kernel
theorem dX11_resultOf_15 : decode cX11_resultOf 15 = .ok (.iaload, 1) := by decide +kernel
theorem dX11_resultOf_16 : decode cX11_resultOf 16 = .ok (.iadd, 1) := by decide +kernel
theorem dX11_resultOf_17 : decode cX11_resultOf 17 = .ok (.iconst 1, 1) := by decide +kernel
theorem dX11_resultOf_18 : decode cX11_resultOf 18 = .ok (.isub, 1) := by decide +kernel
theorem dX11_resultOf_19 : decode cX11_resultOf 19 = .ok (.iaload, 1) := by decide +kernel
theorem dX11_resultOf_20 : decode cX11_resultOf 20 = .ok (.ireturn, 1) := by decide +kernel
theorem dX11_rowOf_0 : decode cX11_rowOf 0 = .ok (.aload_n 0, 1) := by decide +kernel
theorem dX11_rowOf_1 : decode cX11_rowOf 1 = .ok (.getfield 46, 3) := by decide +kernel
theorem dX11_rowOf_4 : decode cX11_rowOf 4 = .ok (.sipush 3000, 3) := by decide +kernel
theorem dX11_rowOf_7 : decode cX11_rowOf 7 = .ok (.iload_n 1, 1) := by decide +kernel
theorem dX11_rowOf_8 : decode cX11_rowOf 8 = .ok (.iastore, 1) := by decide +kernel
theorem dX11_rowOf_9 : decode cX11_rowOf 9 = .ok (.aload_n 0, 1) := by decide +kernel
theorem dX11_rowOf_10 : decode cX11_rowOf 10 = .ok (.iconst 4, 1) := by decide +kernel
theorem dX11_rowOf_11 : decode cX11_rowOf 11 = .ok (.sipush 3000, 3) := by decide +kernel
theorem dX11_rowOf_14 : decode cX11_rowOf 14 = .ok (.iconst 1, 1) := by decide +kernel
theorem dX11_rowOf_15 : decode cX11_rowOf 15 = .ok (.invokevirtual 272, 3) := by decide +kernel
theorem dX11_rowOf_18 : decode cX11_rowOf 18 = .ok (.ireturn, 1) := by decide +kernel
theorem k1361 : Cond.methodLink "BlameCourtModel" 272 yX11_kindOf ∈ gtb := gtm (in_tables_1_5 (List.mem_of_getElem? (i := 215) rfl)) rfl
theorem k1382 : Cond.fieldLink "BlameCourtModel" 267 "BlameCourtModel" "kinds" "I" ∈ gtb := gtm (in_tables_1_5 (List.mem_of_getElem? (i := 236) rfl)) rfl
theorem k1384 : Cond.fieldLink "BlameCourtModel" 26 "BlameCourtModel" "kSort" "[I" ∈ gtb := gtm (in_tables_1_5 (List.mem_of_getElem? (i := 238) rfl)) rfl
theorem k1385 : Cond.fieldLink "BlameCourtModel" 30 "BlameCourtModel" "kMany" "[I" ∈ gtb := gtm (in_tables_1_5 (List.mem_of_getElem? (i := 239) rfl)) rfl
theorem k1386 : Cond.fieldLink "BlameCourtModel" 33 "BlameCourtModel" "kFirst" "[I" ∈ gtb := gtm (in_tables_1_6 (List.mem_of_getElem? (i := 0) rfl)) rfl
theorem k1387 : Cond.fieldLink "BlameCourtModel" 36 "BlameCourtModel" "kCode" "[I" ∈ gtb := gtm (in_tables_1_6 (List.mem_of_getElem? (i := 1) rfl)) rfl
theorem k1388 : Cond.fieldLink "BlameCourtModel" 39 "BlameCourtModel" "kAny" "[Z" ∈ gtb := gtm (in_tables_1_6 (List.mem_of_getElem? (i := 2) rfl)) rfl
theorem k1389 : Cond.fieldLink "BlameCourtModel" 269 "BlameCourtModel" "listed" "I" ∈ gtb := gtm (in_tables_1_6 (List.mem_of_getElem? (i := 3) rfl)) rfl
theorem k1391 : Cond.fieldLink "BlameCourtModel" 43 "BlameCourtModel" "kList" "[I" ∈ gtb := gtm (in_tables_1_6 (List.mem_of_getElem? (i := 5) rfl)) rfl
theorem k1392 : Cond.fieldLink "BlameCourtModel" 46 "BlameCourtModel" "given" "[I" ∈ gtb := gtm (in_tables_1_6 (List.mem_of_getElem? (i := 6) rfl)) rfl
theorem k2051 : Cond.code yX11_elementOf cX11_elementOf 2 (some .int) ∈ gtb := gtm (in_tables_1_8 (List.mem_of_getElem? (i := 185) rfl)) rfl
theorem ka_X11_elementOf : KA yX11_elementOf cX11_elementOf 2 (some .int) 1 := ⟨k2051, k197, by decide, by decide, by decide +kernel⟩
theorem k2050 : Cond.instanceMethod yX11_elementOf ∈ gtb := gtm (in_tables_1_8 (List.mem_of_getElem? (i := 184) rfl)) rfl
theorem k159 : Cond.selects "BlameCourtModel" yX11_elementOf yX11_elementOf ∈ gtb := gtm (in_lw_privs_10 (q := (yX11_elementOf, 129)) (List.mem_of_getElem? (i := 15) rfl)) rfl
theorem kv_X11_elementOf : KV yX11_elementOf := ⟨k2050, k159⟩
theorem k1364 : Cond.code yX11_kindOf cX11_kindOf 7 (some .int) ∈ gtb := gtm (in_tables_1_5 (List.mem_of_getElem? (i := 218) rfl)) rfl
theorem ka_X11_kindOf : KA yX11_kindOf cX11_kindOf 7 (some .int) 3 := ⟨k1364, k197, by decide, by decide, by decide +kernel⟩
theorem k1363 : Cond.instanceMethod yX11_kindOf ∈ gtb := gtm (in_tables_1_5 (List.mem_of_getElem? (i := 217) rfl)) rfl
theorem k96 : Cond.selects "BlameCourtModel" yX11_kindOf yX11_kindOf ∈ gtb := gtm (in_lw_privs_7 (q := (yX11_kindOf, 129)) (List.mem_of_getElem? (i := 0) rfl)) rfl
theorem kv_X11_kindOf : KV yX11_kindOf := ⟨k1363, k96⟩
theorem k1360 : Cond.code yX11_kinds cX11_kinds 2 none ∈ gtb := gtm (in_tables_1_5 (List.mem_of_getElem? (i := 214) rfl)) rfl
theorem ka_X11_kinds : KA yX11_kinds cX11_kinds 2 none 1 := ⟨k1360, k197, by decide, by decide, by decide +kernel⟩
theorem k1359 : Cond.instanceMethod yX11_kinds ∈ gtb := gtm (in_tables_1_5 (List.mem_of_getElem? (i := 213) rfl)) rfl
theorem k95 : Cond.selects "BlameCourtModel" yX11_kinds yX11_kinds ∈ gtb := gtm (in_lw_privs_6 (q := (yX11_kinds, 129)) (List.mem_of_getElem? (i := 15) rfl)) rfl
theorem kv_X11_kinds : KV yX11_kinds := ⟨k1359, k95⟩
theorem k2047 : Cond.code yX11_paramOf cX11_paramOf 3 (some .int) ∈ gtb := gtm (in_tables_1_8 (List.mem_of_getElem? (i := 181) rfl)) rfl
theorem ka_X11_paramOf : KA yX11_paramOf cX11_paramOf 3 (some .int) 2 := ⟨k2047, k197, by decide, by decide, by decide +kernel⟩
theorem k2046 : Cond.instanceMethod yX11_paramOf ∈ gtb := gtm (in_tables_1_8 (List.mem_of_getElem? (i := 180) rfl)) rfl
theorem k158 : Cond.selects "BlameCourtModel" yX11_paramOf yX11_paramOf ∈ gtb := gtm (in_lw_privs_10 (q := (yX11_paramOf, 129)) (List.mem_of_getElem? (i := 14) rfl)) rfl
theorem kv_X11_paramOf : KV yX11_paramOf := ⟨k2046, k158⟩
theorem k2071 : Cond.code yX11_resultOf cX11_resultOf 2 (some .int) ∈ gtb := gtm (in_tables_1_8 (List.mem_of_getElem? (i := 205) rfl)) rfl
theorem ka_X11_resultOf : KA yX11_resultOf cX11_resultOf 2 (some .int) 1 := ⟨k2071, k197, by decide, by decide, by decide +kernel⟩
theorem k2070 : Cond.instanceMethod yX11_resultOf ∈ gtb := gtm (in_tables_1_8 (List.mem_of_getElem? (i := 204) rfl)) rfl
theorem k164 : Cond.selects "BlameCourtModel" yX11_resultOf yX11_resultOf ∈ gtb := gtm (in_lw_privs_11 (q := (yX11_resultOf, 129)) (List.mem_of_getElem? (i := 4) rfl)) rfl
theorem kv_X11_resultOf : KV yX11_resultOf := ⟨k2070, k164⟩
theorem k1855 : Cond.code yX11_rowOf cX11_rowOf 2 (some .int) ∈ gtb := gtm (in_tables_1_7 (List.mem_of_getElem? (i := 229) rfl)) rfl
theorem ka_X11_rowOf : KA yX11_rowOf cX11_rowOf 2 (some .int) 1 := ⟨k1855, k197, by decide, by decide, by decide +kernel⟩
theorem k1854 : Cond.instanceMethod yX11_rowOf ∈ gtb := gtm (in_tables_1_7 (List.mem_of_getElem? (i := 228) rfl)) rfl
theorem k115 : Cond.selects "BlameCourtModel" yX11_rowOf yX11_rowOf ∈ gtb := gtm (in_lw_privs_8 (q := (yX11_rowOf, 129)) (List.mem_of_getElem? (i := 3) rfl)) rfl
theorem kv_X11_rowOf : KV yX11_rowOf := ⟨k1854, k115⟩
/-- the table of kinds: firsts and lists in their rows, what is listed a kind -/
def KT (α : Nat → Nat → Int32) (K L : Int) : Prop := (∀ k : Nat, (k : Int) < K → 0 ≤ (α 5 k).toInt ∧ 0 ≤ (α 4 k).toInt ∧ (α 4 k).toInt ≤ 3100 ∧ (α 5 k).toInt + (α 4 k).toInt ≤ L ∧ ((α 3 k).toInt = 4 → (α 4 k).toInt = 1) ∧ ((α 3 k).toInt = 5 → 1 ≤ (α 4 k).toInt)) ∧ ∀ j : Nat, (j : Int) < L → 0 ≤ (α 8 j).toInt ∧ (α 8 j).toInt < K
theorem KT.off {α α' : Nat → Nat → Int32} {K L K' L' : Int} {LA : List Nat} (h : KT α K L) (ho : offA LA α α') (h3 : 3 ∉ LA) (h4 : 4 ∉ LA) (h5 : 5 ∉ LA) (h8 : 8 ∉ LA) (hK : K' = K) (hL : L' = L) : KT α' K' L' := by
  subst hK
  subst hL
  unfold KT
  rw [ho 3 h3, ho 4 h4, ho 5 h5, ho 8 h8]
  exact h
theorem tnc {x : Int32} (h : 0 ≤ x.toInt) : (x.toNatClampNeg : Int) = x.toInt := by
  have e : x.toNatClampNeg = x.toInt.toNat := rfl
  omega
theorem updI {f : Nat → Int32} {k j : Nat} {v : Int32} : upd f k v j = if j = k then v else f j := rfl
theorem KT_ins {α α' : Nat → Nat → Int32} {K L : Int} {k s0 n l0 : Int32} (h : KT α K L) (hk0 : 0 ≤ k.toInt) (hk : k.toInt = K) (hl : l0.toInt = L) (hl0 : 0 ≤ L) (hn : 0 ≤ n.toInt) (hn5 : n.toInt ≤ 3100) (hs4 : s0.toInt = 4 → n.toInt = 1) (hs5 : s0.toInt = 5 → 1 ≤ n.toInt)
    (e3 : α' 3 = upd (α 3) k.toNatClampNeg s0) (e4 : α' 4 = upd (α 4) k.toNatClampNeg n) (e5 : α' 5 = upd (α 5) k.toNatClampNeg l0) (e8 : ∀ j : Nat, (j : Int) < L + n.toInt → 0 ≤ (α' 8 j).toInt ∧ (α' 8 j).toInt < K) : KT α' (K + 1) (L + n.toInt) := by
  have hc := tnc hk0
  refine ⟨fun j hj => ?_, fun j hj => ?_⟩
  · rw [e3, e4, e5, updI, updI, updI]
    by_cases hjk : j = k.toNatClampNeg
    · rw [if_pos hjk, if_pos hjk, if_pos hjk]
      refine ⟨by omega, by omega, by omega, by omega, hs4, hs5⟩
    · rw [if_neg hjk, if_neg hjk, if_neg hjk]
      have q := h.1 j (by omega)
      refine ⟨q.1, q.2.1, q.2.2.1, by omega, q.2.2.2.2⟩
  · have q := e8 j hj
    exact ⟨q.1, by omega⟩

set_option maxHeartbeats 4000000 in
set_option maxRecDepth 100000 in
theorem m_kindOf (l : Launch) (dC : Nat → ClassId) (dI : Nat → Nat → Nat) (h0 : Nat) (ad : Nat → Nat) (cA : Nat → ClassId) (σ : Nat → Int32) (τ : Int64) (α : Nat → Nat → Int32) (β : Nat → Nat → Int64) (s0 fr n : Int32) (sz : Nat) (hK : 0 ≤ (σ 13).toInt ∧ (σ 13).toInt ≤ 5999) (hL : 0 ≤ (σ 15).toInt ∧ (σ 15).toInt + n.toInt ≤ 20000) (hn : 0 ≤ n.toInt ∧ n.toInt ≤ 3100) (hfr : 0 ≤ fr.toInt ∧ fr.toInt + n.toInt ≤ 3100) (hs : (s0.toInt = 4 → n.toInt = 1) ∧ (s0.toInt = 5 → 1 ≤ n.toInt)) (hKT : KT α (σ 13).toInt (σ 15).toInt) (hG : ∀ j : Nat, fr.toInt ≤ (j : Int) → (j : Int) < fr.toInt + n.toInt → 0 ≤ (α 9 j).toInt ∧ (α 9 j).toInt < (σ 13).toInt) : MCi l dC dI h0 ad cA yX11_kindOf cX11_kindOf 7 (some .int) ({ frames := 6, cells := 0, slots := 0, locals := 90 } : Room) [.int s0, .int fr, .int n] σ τ α β (fun r x => offS [13, 15] σ x.1 ∧ offA [3, 4, 5, 6, 7, 8] α x.2.2.1 ∧ offA [] β x.2.2.2 ∧ x.2.1 = τ ∧ (0 ≤ r.toInt ∧ r.toInt < (x.1 13).toInt ∧ (σ 13).toInt ≤ (x.1 13).toInt ∧ (x.1 13).toInt ≤ (σ 13).toInt + 1 ∧ (σ 15).toInt ≤ (x.1 15).toInt ∧ (x.1 15).toInt ≤ (σ 15).toInt + n.toInt) ∧ KT x.2.2.1 (x.1 13).toInt (x.1 15).toInt ∧ (((x.1 13).toInt = (σ 13).toInt → x.2.2.1 3 = α 3 ∧ (x.2.2.1 3 r.toNatClampNeg).toInt = s0.toInt) ∧ ((x.1 13).toInt = (σ 13).toInt + 1 → x.2.2.1 3 = upd (α 3) (σ 13).toNatClampNeg s0))) sz := by
  refine gbody_i (by decide) (Nat.le_of_ble_eq_true rfl) ?_
  intro p e s m below meth c ls A H hf hr hlk hw hl
  have hl : lv_has ls 7 [(0, .ref h0), (1, .int s0), (2, .int fr), (3, .int n)] := hl
  refine lv_iconst (v := 0) hf.1 hf.2.1 dX11_kindOf_0 (by decide) ?_
  refine lv_istore (lv' := [(4, .int 0), (0, .ref h0), (1, .int s0), (2, .int fr), (3, .int n)]) hf.1 hf.2.1 dX11_kindOf_1 hl (by decide) rfl (fun ls hl => ?_)
  have loop1 : ∀ (N : Nat) (k : Int32) (H : Heap) (locs : List Loc) (ls : Array Slot), ((σ 13).toInt - k.toInt).toNat < N → (0 ≤ k.toInt ∧ k.toInt ≤ (σ 13).toInt) → Wd dC dI A (MW h0 ad cA σ τ α β) (MT cA) s H locs → lv_has ls 7 [(4, .int k), (0, .ref h0), (1, .int s0), (2, .int fr), (3, .int n)] → W p l e ({ frames := 6, cells := 0, slots := 0, locals := 90 } : Room) s m (.ref h0 :: [.int s0, .int fr, .int n] : List Value).toArray below meth c H locs 0 0 (MZi below (fun r x => offS [13, 15] σ x.1 ∧ offA [3, 4, 5, 6, 7, 8] α x.2.2.1 ∧ offA [] β x.2.2.2 ∧ x.2.1 = τ ∧ (0 ≤ r.toInt ∧ r.toInt < (x.1 13).toInt ∧ (σ 13).toInt ≤ (x.1 13).toInt ∧ (x.1 13).toInt ≤ (σ 13).toInt + 1 ∧ (σ 15).toInt ≤ (x.1 15).toInt ∧ (x.1 15).toInt ≤ (σ 15).toInt + n.toInt) ∧ KT x.2.2.1 (x.1 13).toInt (x.1 15).toInt ∧ (((x.1 13).toInt = (σ 13).toInt → x.2.2.1 3 = α 3 ∧ (x.2.2.1 3 r.toNatClampNeg).toInt = s0.toInt) ∧ ((x.1 13).toInt = (σ 13).toInt + 1 → x.2.2.1 3 = upd (α 3) (σ 13).toNatClampNeg s0))) h0 ad cA dC dI A s (.ref h0 :: [.int s0, .int fr, .int n])) (F0 m 3 ls []) := by
    intro N
    induction N with
    | zero => intro k H locs ls hm; exact absurd hm (Nat.not_lt_zero _)
    | succ N ih1 =>
      intro k H locs ls hm hk hw hl
      refine lv_iload hf.1 hf.2.1 dX11_kindOf_3 (lv_at hl 0 rfl) ?_
      refine lv_aload_n hf.1 hf.2.1 dX11_kindOf_5 rfl (lv_at hl 1 rfl) ?_
      refine gget hf hw 13 (by decide) k1382 (v := σ 13) rfl dX11_kindOf_6 ?_
      refine lv_icmp_ge (tgt := 109) hf.1 hf.2.1 dX11_kindOf_9 (by decide) (fun c_1 => ?_) (fun c_1 => ?_)
      · have ic_1 : (σ 13).toInt ≤ k.toInt := ti_le c_1
        refine lv_aload_n hf.1 hf.2.1 dX11_kindOf_109 rfl (lv_at hl 1 rfl) ?_
        refine gget hf hw 13 (by decide) k1382 (v := σ 13) rfl dX11_kindOf_110 ?_
        refine lv_istore (lv' := [(4, .int (σ 13)), (0, .ref h0), (1, .int s0), (2, .int fr), (3, .int n)]) hf.1 hf.2.1 dX11_kindOf_113 hl (by decide) rfl (fun ls hl => ?_)
        refine lv_aload_n hf.1 hf.2.1 dX11_kindOf_115 rfl (lv_at hl 1 rfl) ?_
        refine lv_dup hf.1 hf.2.1 dX11_kindOf_116 rfl ?_
        refine gget hf hw 13 (by decide) k1382 (v := σ 13) rfl dX11_kindOf_117 ?_
        refine lv_iconst (v := 1) hf.1 hf.2.1 dX11_kindOf_120 (by decide) ?_
        refine lv_iadd hf.1 hf.2.1 dX11_kindOf_121 ?_
        refine lv_topi (fun x_2 ex_2 => ?_)
        have tx_2 : x_2.toInt = (σ 13).toInt + (1 : Int) := by rw [ex_2]; exact ti_add (by show _ ≤ (σ 13).toInt + (1 : Int); omega) (by show (σ 13).toInt + (1 : Int) ≤ _; omega)
        refine gput hf hw 13 (by decide) k1382 rfl rfl rfl dX11_kindOf_122 (fun H locs hw => ?_)
        refine lv_aload_n hf.1 hf.2.1 dX11_kindOf_125 rfl (lv_at hl 1 rfl) ?_
        refine ggetA hf hw 3 (by decide) k1384 dX11_kindOf_126 ?_
        refine lv_iload hf.1 hf.2.1 dX11_kindOf_129 (lv_at hl 0 rfl) ?_
        refine lv_iload_n hf.1 hf.2.1 dX11_kindOf_131 rfl (lv_at hl 2 rfl) ?_
        refine gist hf hw 3 (by decide) rfl (n := 6000) (f := α 3) rfl rfl rfl (ti_in (by omega) (by omega)) dX11_kindOf_132 (fun H locs hw => ?_)
        refine lv_aload_n hf.1 hf.2.1 dX11_kindOf_133 rfl (lv_at hl 1 rfl) ?_
        refine ggetA hf hw 4 (by decide) k1385 dX11_kindOf_134 ?_
        refine lv_iload hf.1 hf.2.1 dX11_kindOf_137 (lv_at hl 0 rfl) ?_
        refine lv_iload_n hf.1 hf.2.1 dX11_kindOf_139 rfl (lv_at hl 4 rfl) ?_
        refine gist hf hw 4 (by decide) rfl (n := 6000) (f := α 4) rfl rfl rfl (ti_in (by omega) (by omega)) dX11_kindOf_140 (fun H locs hw => ?_)
        refine lv_aload_n hf.1 hf.2.1 dX11_kindOf_141 rfl (lv_at hl 1 rfl) ?_
        refine ggetA hf hw 5 (by decide) k1386 dX11_kindOf_142 ?_
        refine lv_iload hf.1 hf.2.1 dX11_kindOf_145 (lv_at hl 0 rfl) ?_
        refine lv_aload_n hf.1 hf.2.1 dX11_kindOf_147 rfl (lv_at hl 1 rfl) ?_
        refine gget hf hw 15 (by decide) k1389 (v := σ 15) rfl dX11_kindOf_148 ?_
        refine gist hf hw 5 (by decide) rfl (n := 6000) (f := α 5) rfl rfl rfl (ti_in (by omega) (by omega)) dX11_kindOf_151 (fun H locs hw => ?_)
        refine lv_aload_n hf.1 hf.2.1 dX11_kindOf_152 rfl (lv_at hl 1 rfl) ?_
        refine ggetA hf hw 7 (by decide) k1388 dX11_kindOf_153 ?_
        refine lv_iload hf.1 hf.2.1 dX11_kindOf_156 (lv_at hl 0 rfl) ?_
        refine lv_iload_n hf.1 hf.2.1 dX11_kindOf_158 rfl (lv_at hl 2 rfl) ?_
        refine lv_iconst (v := 3) hf.1 hf.2.1 dX11_kindOf_159 (by decide) ?_
        have J168 : ∀ (bv : Int32) (H : Heap) (locs : List Loc) (ls : Array Slot), Wd dC dI A (MW h0 ad cA (uS σ 13 x_2) τ (uA (uA (uA α 3 (upd (α 3) (σ 13).toNatClampNeg s0)) 4 (upd (α 4) (σ 13).toNatClampNeg n)) 5 (upd (α 5) (σ 13).toNatClampNeg (σ 15))) β) (MT cA) s H locs → lv_has ls 7 [(4, .int (σ 13)), (0, .ref h0), (1, .int s0), (2, .int fr), (3, .int n)] → W p l e ({ frames := 6, cells := 0, slots := 0, locals := 90 } : Room) s m (.ref h0 :: [.int s0, .int fr, .int n] : List Value).toArray below meth c H locs 0 0 (MZi below (fun r x => offS [13, 15] σ x.1 ∧ offA [3, 4, 5, 6, 7, 8] α x.2.2.1 ∧ offA [] β x.2.2.2 ∧ x.2.1 = τ ∧ (0 ≤ r.toInt ∧ r.toInt < (x.1 13).toInt ∧ (σ 13).toInt ≤ (x.1 13).toInt ∧ (x.1 13).toInt ≤ (σ 13).toInt + 1 ∧ (σ 15).toInt ≤ (x.1 15).toInt ∧ (x.1 15).toInt ≤ (σ 15).toInt + n.toInt) ∧ KT x.2.2.1 (x.1 13).toInt (x.1 15).toInt ∧ (((x.1 13).toInt = (σ 13).toInt → x.2.2.1 3 = α 3 ∧ (x.2.2.1 3 r.toNatClampNeg).toInt = s0.toInt) ∧ ((x.1 13).toInt = (σ 13).toInt + 1 → x.2.2.1 3 = upd (α 3) (σ 13).toNatClampNeg s0))) h0 ad cA dC dI A s (.ref h0 :: [.int s0, .int fr, .int n])) (F0 m 168 ls [.int bv, .int (σ 13), .ref (ad 7)]) := by
          intro bv H locs ls   hw hl
          refine gzst hf hw 7 (by decide) rfl (n := 6000) (f := α 7) rfl rfl rfl (ti_in (by omega) (by omega)) dX11_kindOf_168 (fun H locs hw => ?_)
          have J207 : ∀ (cv : Int32) (H : Heap) (locs : List Loc) (ls : Array Slot), Wd dC dI A (MW h0 ad cA (uS σ 13 x_2) τ (uA (uA (uA (uA α 3 (upd (α 3) (σ 13).toNatClampNeg s0)) 4 (upd (α 4) (σ 13).toNatClampNeg n)) 5 (upd (α 5) (σ 13).toNatClampNeg (σ 15))) 7 (upd (α 7) (σ 13).toNatClampNeg (vp_nar .boolean bv))) β) (MT cA) s H locs → lv_has ls 7 [(4, .int (σ 13)), (0, .ref h0), (1, .int s0), (2, .int fr), (3, .int n)] → W p l e ({ frames := 6, cells := 0, slots := 0, locals := 90 } : Room) s m (.ref h0 :: [.int s0, .int fr, .int n] : List Value).toArray below meth c H locs 0 0 (MZi below (fun r x => offS [13, 15] σ x.1 ∧ offA [3, 4, 5, 6, 7, 8] α x.2.2.1 ∧ offA [] β x.2.2.2 ∧ x.2.1 = τ ∧ (0 ≤ r.toInt ∧ r.toInt < (x.1 13).toInt ∧ (σ 13).toInt ≤ (x.1 13).toInt ∧ (x.1 13).toInt ≤ (σ 13).toInt + 1 ∧ (σ 15).toInt ≤ (x.1 15).toInt ∧ (x.1 15).toInt ≤ (σ 15).toInt + n.toInt) ∧ KT x.2.2.1 (x.1 13).toInt (x.1 15).toInt ∧ (((x.1 13).toInt = (σ 13).toInt → x.2.2.1 3 = α 3 ∧ (x.2.2.1 3 r.toNatClampNeg).toInt = s0.toInt) ∧ ((x.1 13).toInt = (σ 13).toInt + 1 → x.2.2.1 3 = upd (α 3) (σ 13).toNatClampNeg s0))) h0 ad cA dC dI A s (.ref h0 :: [.int s0, .int fr, .int n])) (F0 m 207 ls [.int cv]) := by
            intro cv H locs ls   hw hl
            refine lv_istore (lv' := [(5, .int cv), (4, .int (σ 13)), (0, .ref h0), (1, .int s0), (2, .int fr), (3, .int n)]) hf.1 hf.2.1 dX11_kindOf_207 hl (by decide) rfl (fun ls hl => ?_)
            refine lv_iconst (v := 0) hf.1 hf.2.1 dX11_kindOf_209 (by decide) ?_
            refine lv_istore (lv' := [(6, .int 0), (5, .int cv), (4, .int (σ 13)), (0, .ref h0), (1, .int s0), (2, .int fr), (3, .int n)]) hf.1 hf.2.1 dX11_kindOf_210 hl (by decide) rfl (fun ls hl => ?_)
            have loop3 : ∀ (N : Nat) (σq3 : Nat → Int32) (τq3 : Int64) (αq3 : Nat → Nat → Int32) (βq3 : Nat → Nat → Int64) (i code : Int32) (H : Heap) (locs : List Loc) (ls : Array Slot), (n.toInt - i.toInt).toNat < N → τq3 = τ → offS [13, 15] σ σq3 → offA [3, 4, 5, 6, 7, 8] α αq3 → offA [] β βq3 → ((σq3 13).toInt = (σ 13).toInt + 1 ∧ (σq3 15).toInt = (σ 15).toInt + i.toInt ∧ 0 ≤ i.toInt ∧ i.toInt ≤ n.toInt) → (αq3 3 = (upd (α 3) (σ 13).toNatClampNeg s0) ∧ αq3 4 = (upd (α 4) (σ 13).toNatClampNeg n) ∧ αq3 5 = (upd (α 5) (σ 13).toNatClampNeg (σ 15))) → (∀ j : Nat, (j : Int) < (σ 15).toInt + i.toInt → 0 ≤ (αq3 8 j).toInt ∧ (αq3 8 j).toInt < (σ 13).toInt) → Wd dC dI A (MW h0 ad cA σq3 τq3 αq3 βq3) (MT cA) s H locs → lv_has ls 7 [(6, .int i), (5, .int code), (4, .int (σ 13)), (0, .ref h0), (1, .int s0), (2, .int fr), (3, .int n)] → W p l e ({ frames := 6, cells := 0, slots := 0, locals := 90 } : Room) s m (.ref h0 :: [.int s0, .int fr, .int n] : List Value).toArray below meth c H locs 0 0 (MZi below (fun r x => offS [13, 15] σ x.1 ∧ offA [3, 4, 5, 6, 7, 8] α x.2.2.1 ∧ offA [] β x.2.2.2 ∧ x.2.1 = τ ∧ (0 ≤ r.toInt ∧ r.toInt < (x.1 13).toInt ∧ (σ 13).toInt ≤ (x.1 13).toInt ∧ (x.1 13).toInt ≤ (σ 13).toInt + 1 ∧ (σ 15).toInt ≤ (x.1 15).toInt ∧ (x.1 15).toInt ≤ (σ 15).toInt + n.toInt) ∧ KT x.2.2.1 (x.1 13).toInt (x.1 15).toInt ∧ (((x.1 13).toInt = (σ 13).toInt → x.2.2.1 3 = α 3 ∧ (x.2.2.1 3 r.toNatClampNeg).toInt = s0.toInt) ∧ ((x.1 13).toInt = (σ 13).toInt + 1 → x.2.2.1 3 = upd (α 3) (σ 13).toNatClampNeg s0))) h0 ad cA dC dI A s (.ref h0 :: [.int s0, .int fr, .int n])) (F0 m 212 ls []) := by
              intro N
              induction N with
              | zero => intro σq3 τq3 αq3 βq3 i code H locs ls hm; exact absurd hm (Nat.not_lt_zero _)
              | succ N ih3 =>
                intro σq3 τq3 αq3 βq3 i code H locs ls hm hTq3 hSq3 hAq3 hBq3 hIq3 hE hV hw hl
                have fq3_0 : (σq3 0).toInt = (σ 0).toInt := congrArg Int32.toInt (hSq3 0 (by decide))
                have fq3_1 : (σq3 1).toInt = (σ 1).toInt := congrArg Int32.toInt (hSq3 1 (by decide))
                have fq3_5 : (σq3 5).toInt = (σ 5).toInt := congrArg Int32.toInt (hSq3 5 (by decide))
                have fq3_6 : (σq3 6).toInt = (σ 6).toInt := congrArg Int32.toInt (hSq3 6 (by decide))
                have fq3_7 : (σq3 7).toInt = (σ 7).toInt := congrArg Int32.toInt (hSq3 7 (by decide))
                have fq3_9 : (σq3 9).toInt = (σ 9).toInt := congrArg Int32.toInt (hSq3 9 (by decide))
                have fq3_17 : (σq3 17).toInt = (σ 17).toInt := congrArg Int32.toInt (hSq3 17 (by decide))
                have fq3_18 : (σq3 18).toInt = (σ 18).toInt := congrArg Int32.toInt (hSq3 18 (by decide))
                have fq3_19 : (σq3 19).toInt = (σ 19).toInt := congrArg Int32.toInt (hSq3 19 (by decide))
                have fq3_20 : (σq3 20).toInt = (σ 20).toInt := congrArg Int32.toInt (hSq3 20 (by decide))
                have fq3_21 : (σq3 21).toInt = (σ 21).toInt := congrArg Int32.toInt (hSq3 21 (by decide))
                have fq3_22 : (σq3 22).toInt = (σ 22).toInt := congrArg Int32.toInt (hSq3 22 (by decide))
                refine lv_iload hf.1 hf.2.1 dX11_kindOf_212 (lv_at hl 0 rfl) ?_
                refine lv_iload_n hf.1 hf.2.1 dX11_kindOf_214 rfl (lv_at hl 6 rfl) ?_
                refine lv_icmp_ge (tgt := 323) hf.1 hf.2.1 dX11_kindOf_215 (by decide) (fun c_4 => ?_) (fun c_4 => ?_)
                · have ic_4 : n.toInt ≤ i.toInt := ti_le c_4
                  refine lv_aload_n hf.1 hf.2.1 dX11_kindOf_323 rfl (lv_at hl 3 rfl) ?_
                  refine ggetA hf hw 6 (by decide) k1387 dX11_kindOf_324 ?_
                  refine lv_iload hf.1 hf.2.1 dX11_kindOf_327 (lv_at hl 2 rfl) ?_
                  refine lv_iload hf.1 hf.2.1 dX11_kindOf_329 (lv_at hl 1 rfl) ?_
                  refine gist hf hw 6 (by decide) rfl (n := 6000) (f := αq3 6) rfl rfl rfl (ti_in (by omega) (by omega)) dX11_kindOf_331 (fun H locs hw => ?_)
                  refine lv_iload hf.1 hf.2.1 dX11_kindOf_332 (lv_at hl 2 rfl) ?_
                  exact gret_i (v := (σ 13)) hf hr hlk hw ⟨hSq3, (hAq3.put 6 (by decide) _), hBq3, hTq3, (by show 0 ≤ (σ 13).toInt ∧ (σ 13).toInt < (σq3 13).toInt ∧ (σ 13).toInt ≤ (σq3 13).toInt ∧ (σq3 13).toInt ≤ (σ 13).toInt + 1 ∧ (σ 15).toInt ≤ (σq3 15).toInt ∧ (σq3 15).toInt ≤ (σ 15).toInt + n.toInt; omega), (by
                      have hz := KT_ins (α' := uA αq3 6 (upd (αq3 6) (σ 13).toNatClampNeg code)) hKT hK.1 rfl rfl hL.1 hn.1 hn.2 hs.1 hs.2 hE.1 hE.2.1 hE.2.2 (fun j hj => hV j (by omega))
                      have e1 : (σq3 13).toInt = (σ 13).toInt + 1 := by show (σq3 13).toInt = _; omega
                      have e2 : (σq3 15).toInt = (σ 15).toInt + n.toInt := by show (σq3 15).toInt = _; omega
                      show KT _ (σq3 13).toInt (σq3 15).toInt
                      rw [e1, e2]
                      exact hz), ⟨fun q => absurd (show (σq3 13).toInt = (σ 13).toInt from q) (by omega), fun _ => hE.1⟩⟩ dX11_kindOf_334
                · have ic_4 : i.toInt < n.toInt := ti_nle c_4
                  refine lv_aload_n hf.1 hf.2.1 dX11_kindOf_218 rfl (lv_at hl 3 rfl) ?_
                  refine ggetA hf hw 8 (by decide) k1391 dX11_kindOf_219 ?_
                  refine lv_aload_n hf.1 hf.2.1 dX11_kindOf_222 rfl (lv_at hl 3 rfl) ?_
                  refine gget hf hw 15 (by decide) k1389 (v := σq3 15) rfl dX11_kindOf_223 ?_
                  refine lv_aload_n hf.1 hf.2.1 dX11_kindOf_226 rfl (lv_at hl 3 rfl) ?_
                  refine ggetA hf hw 9 (by decide) k1392 dX11_kindOf_227 ?_
                  refine lv_iload_n hf.1 hf.2.1 dX11_kindOf_230 rfl (lv_at hl 5 rfl) ?_
                  refine lv_iload hf.1 hf.2.1 dX11_kindOf_231 (lv_at hl 0 rfl) ?_
                  refine lv_iadd hf.1 hf.2.1 dX11_kindOf_233 ?_
                  refine lv_topi (fun x_5 ex_5 => ?_)
                  have tx_5 : x_5.toInt = fr.toInt + i.toInt := by rw [ex_5]; exact ti_add (by show _ ≤ fr.toInt + i.toInt; omega) (by show fr.toInt + i.toInt ≤ _; omega)
                  refine gild hf hw 9 (by decide) rfl (n := 3100) (f := αq3 9) rfl (ti_in (by omega) (by omega)) dX11_kindOf_234 ?_
                  refine lv_topi (fun x_6 ex_6 => ?_)
                  have vx_6 : 0 ≤ x_6.toInt ∧ x_6.toInt < (σ 13).toInt := by
                    have q1 := tnc (show 0 ≤ x_5.toInt by omega)
                    have q2 := hG x_5.toNatClampNeg (by omega) (by omega)
                    rw [ex_6, hAq3 9 (by decide)]; exact q2
                  refine gist hf hw 8 (by decide) rfl (n := 20000) (f := αq3 8) rfl rfl rfl (ti_in (by omega) (by omega)) dX11_kindOf_235 (fun H locs hw => ?_)
                  refine lv_aload_n hf.1 hf.2.1 dX11_kindOf_236 rfl (lv_at hl 3 rfl) ?_
                  refine lv_dup hf.1 hf.2.1 dX11_kindOf_237 rfl ?_
                  refine gget hf hw 15 (by decide) k1389 (v := σq3 15) rfl dX11_kindOf_238 ?_
                  refine lv_iconst (v := 1) hf.1 hf.2.1 dX11_kindOf_241 (by decide) ?_
                  refine lv_iadd hf.1 hf.2.1 dX11_kindOf_242 ?_
                  refine lv_topi (fun x_7 ex_7 => ?_)
                  have tx_7 : x_7.toInt = (σq3 15).toInt + (1 : Int) := by rw [ex_7]; exact ti_add (by show _ ≤ (σq3 15).toInt + (1 : Int); omega) (by show (σq3 15).toInt + (1 : Int) ≤ _; omega)
                  refine gput hf hw 15 (by decide) k1389 rfl rfl rfl dX11_kindOf_243 (fun H locs hw => ?_)
                  have J284 : ∀ (bv : Int32) (H : Heap) (locs : List Loc) (ls : Array Slot), Wd dC dI A (MW h0 ad cA (uS σq3 15 x_7) τq3 (uA αq3 8 (upd (αq3 8) (σq3 15).toNatClampNeg x_6)) βq3) (MT cA) s H locs → lv_has ls 7 [(6, .int i), (5, .int code), (4, .int (σ 13)), (0, .ref h0), (1, .int s0), (2, .int fr), (3, .int n)] → W p l e ({ frames := 6, cells := 0, slots := 0, locals := 90 } : Room) s m (.ref h0 :: [.int s0, .int fr, .int n] : List Value).toArray below meth c H locs 0 0 (MZi below (fun r x => offS [13, 15] σ x.1 ∧ offA [3, 4, 5, 6, 7, 8] α x.2.2.1 ∧ offA [] β x.2.2.2 ∧ x.2.1 = τ ∧ (0 ≤ r.toInt ∧ r.toInt < (x.1 13).toInt ∧ (σ 13).toInt ≤ (x.1 13).toInt ∧ (x.1 13).toInt ≤ (σ 13).toInt + 1 ∧ (σ 15).toInt ≤ (x.1 15).toInt ∧ (x.1 15).toInt ≤ (σ 15).toInt + n.toInt) ∧ KT x.2.2.1 (x.1 13).toInt (x.1 15).toInt ∧ (((x.1 13).toInt = (σ 13).toInt → x.2.2.1 3 = α 3 ∧ (x.2.2.1 3 r.toNatClampNeg).toInt = s0.toInt) ∧ ((x.1 13).toInt = (σ 13).toInt + 1 → x.2.2.1 3 = upd (α 3) (σ 13).toNatClampNeg s0))) h0 ad cA dC dI A s (.ref h0 :: [.int s0, .int fr, .int n])) (F0 m 284 ls [.int bv, .int (σ 13), .ref (ad 7)]) := by
                    intro bv H locs ls   hw hl
                    refine gzst hf hw 7 (by decide) rfl (n := 6000) (f := αq3 7) rfl rfl rfl (ti_in (by omega) (by omega)) dX11_kindOf_284 (fun H locs hw => ?_)
                    refine lv_iload_n hf.1 hf.2.1 dX11_kindOf_285 rfl (lv_at hl 4 rfl) ?_
                    refine lv_iconst (v := 5) hf.1 hf.2.1 dX11_kindOf_286 (by decide) ?_
                    refine lv_icmp_ne (tgt := 313) hf.1 hf.2.1 dX11_kindOf_287 (by decide) (fun c_8 => ?_) (fun c_8 => ?_)
                    · have ic_8 : ¬ s0.toInt = (5 : Int) := ti_ne c_8
                      refine lv_iload hf.1 hf.2.1 dX11_kindOf_313 (lv_at hl 1 rfl) ?_
                      refine lv_istore (lv' := [(5, .int code), (6, .int i), (4, .int (σ 13)), (0, .ref h0), (1, .int s0), (2, .int fr), (3, .int n)]) hf.1 hf.2.1 dX11_kindOf_315 hl (by decide) rfl (fun ls hl => ?_)
                      obtain ⟨x_9, ex_9⟩ : ∃ y : Int32, y = i + 1 := ⟨_, rfl⟩
                      refine lv_iinc (v := x_9) (lv' := [(6, .int x_9), (5, .int code), (4, .int (σ 13)), (0, .ref h0), (1, .int s0), (2, .int fr), (3, .int n)]) hf.1 hf.2.1 dX11_kindOf_317 hl (k := 1) rfl (by rw [ex_9]; rfl) (by decide) rfl (fun ls hl => ?_)
                      have tx_9 : x_9.toInt = i.toInt + 1 := by rw [ex_9]; exact ti_add (by show _ ≤ i.toInt + 1; omega) (by show i.toInt + 1 ≤ _; omega)
                      refine lv_goto (tgt := 212) hf.1 hf.2.1 dX11_kindOf_320 (by decide) ?_
                      exact ih3 (uS σq3 15 x_7) τq3 (uA (uA αq3 8 (upd (αq3 8) (σq3 15).toNatClampNeg x_6)) 7 (upd (αq3 7) (σ 13).toNatClampNeg (vp_nar .boolean bv))) βq3 x_9 code _ _ _ (by show (n.toInt - x_9.toInt).toNat < _; omega) hTq3 (hSq3.put 15 (by decide) x_7) ((hAq3.put 8 (by decide) _).put 7 (by decide) _) hBq3 (by show (σq3 13).toInt = (σ 13).toInt + 1 ∧ x_7.toInt = (σ 15).toInt + x_9.toInt ∧ 0 ≤ x_9.toInt ∧ x_9.toInt ≤ n.toInt; omega) hE (by
                          intro j hj
                          show 0 ≤ (upd (αq3 8) (σq3 15).toNatClampNeg x_6 j).toInt ∧ (upd (αq3 8) (σq3 15).toNatClampNeg x_6 j).toInt < _
                          rw [updI]
                          have q1 := tnc (show 0 ≤ (σq3 15).toInt by omega)
                          split
                          · exact vx_6
                          · exact hV j (by omega)) hw (lv_sub hl [0, 1, 2, 3, 4, 5, 6] rfl)
                    · have ic_8 : s0.toInt = (5 : Int) := ti_eq c_8
                      refine lv_bipush (v := 31) hf.1 hf.2.1 dX11_kindOf_290 (by decide) ?_
                      refine lv_iload hf.1 hf.2.1 dX11_kindOf_292 (lv_at hl 1 rfl) ?_
                      refine lv_imul hf.1 hf.2.1 dX11_kindOf_294 ?_
                      refine lv_topi (fun x_10 ex_10 => ?_)
                      refine lv_aload_n hf.1 hf.2.1 dX11_kindOf_295 rfl (lv_at hl 3 rfl) ?_
                      refine ggetA hf hw 6 (by decide) k1387 dX11_kindOf_296 ?_
                      refine lv_aload_n hf.1 hf.2.1 dX11_kindOf_299 rfl (lv_at hl 3 rfl) ?_
                      refine ggetA hf hw 9 (by decide) k1392 dX11_kindOf_300 ?_
                      refine lv_iload_n hf.1 hf.2.1 dX11_kindOf_303 rfl (lv_at hl 5 rfl) ?_
                      refine lv_iload hf.1 hf.2.1 dX11_kindOf_304 (lv_at hl 0 rfl) ?_
                      refine lv_iadd hf.1 hf.2.1 dX11_kindOf_306 ?_
                      refine lv_topi (fun x_11 ex_11 => ?_)
                      have tx_11 : x_11.toInt = fr.toInt + i.toInt := by rw [ex_11]; exact ti_add (by show _ ≤ fr.toInt + i.toInt; omega) (by show fr.toInt + i.toInt ≤ _; omega)
                      refine gild hf hw 9 (by decide) rfl (n := 3100) (f := αq3 9) rfl (ti_in (by omega) (by omega)) dX11_kindOf_307 ?_
                      refine lv_topi (fun x_12 ex_12 => ?_)
                      have vx_12 : 0 ≤ x_12.toInt ∧ x_12.toInt < (σ 13).toInt := by
                        have q1 := tnc (show 0 ≤ x_11.toInt by omega)
                        have q2 := hG x_11.toNatClampNeg (by omega) (by omega)
                        rw [ex_12, hAq3 9 (by decide)]; exact q2
                      refine gild hf hw 6 (by decide) rfl (n := 6000) (f := αq3 6) rfl (ti_in (by omega) (by omega)) dX11_kindOf_308 ?_
                      refine lv_topi (fun x_13 ex_13 => ?_)
                      refine lv_iadd hf.1 hf.2.1 dX11_kindOf_309 ?_
                      refine lv_topi (fun x_14 ex_14 => ?_)
                      refine lv_goto (tgt := 315) hf.1 hf.2.1 dX11_kindOf_310 (by decide) ?_
                      refine lv_istore (lv' := [(5, .int x_14), (6, .int i), (4, .int (σ 13)), (0, .ref h0), (1, .int s0), (2, .int fr), (3, .int n)]) hf.1 hf.2.1 dX11_kindOf_315 hl (by decide) rfl (fun ls hl => ?_)
                      obtain ⟨x_15, ex_15⟩ : ∃ y : Int32, y = i + 1 := ⟨_, rfl⟩
                      refine lv_iinc (v := x_15) (lv' := [(6, .int x_15), (5, .int x_14), (4, .int (σ 13)), (0, .ref h0), (1, .int s0), (2, .int fr), (3, .int n)]) hf.1 hf.2.1 dX11_kindOf_317 hl (k := 1) rfl (by rw [ex_15]; rfl) (by decide) rfl (fun ls hl => ?_)
                      have tx_15 : x_15.toInt = i.toInt + 1 := by rw [ex_15]; exact ti_add (by show _ ≤ i.toInt + 1; omega) (by show i.toInt + 1 ≤ _; omega)
                      refine lv_goto (tgt := 212) hf.1 hf.2.1 dX11_kindOf_320 (by decide) ?_
                      exact ih3 (uS σq3 15 x_7) τq3 (uA (uA αq3 8 (upd (αq3 8) (σq3 15).toNatClampNeg x_6)) 7 (upd (αq3 7) (σ 13).toNatClampNeg (vp_nar .boolean bv))) βq3 x_15 x_14 _ _ _ (by show (n.toInt - x_15.toInt).toNat < _; omega) hTq3 (hSq3.put 15 (by decide) x_7) ((hAq3.put 8 (by decide) _).put 7 (by decide) _) hBq3 (by show (σq3 13).toInt = (σ 13).toInt + 1 ∧ x_7.toInt = (σ 15).toInt + x_15.toInt ∧ 0 ≤ x_15.toInt ∧ x_15.toInt ≤ n.toInt; omega) hE (by
                          intro j hj
                          show 0 ≤ (upd (αq3 8) (σq3 15).toNatClampNeg x_6 j).toInt ∧ (upd (αq3 8) (σq3 15).toNatClampNeg x_6 j).toInt < _
                          rw [updI]
                          have q1 := tnc (show 0 ≤ (σq3 15).toInt by omega)
                          split
                          · exact vx_6
                          · exact hV j (by omega)) hw (lv_sub hl [0, 1, 2, 3, 4, 5, 6] rfl)
                  refine lv_aload_n hf.1 hf.2.1 dX11_kindOf_246 rfl (lv_at hl 3 rfl) ?_
                  refine ggetA hf hw 7 (by decide) k1388 dX11_kindOf_247 ?_
                  refine lv_iload hf.1 hf.2.1 dX11_kindOf_250 (lv_at hl 2 rfl) ?_
                  refine lv_aload_n hf.1 hf.2.1 dX11_kindOf_252 rfl (lv_at hl 3 rfl) ?_
                  refine ggetA hf hw 7 (by decide) k1388 dX11_kindOf_253 ?_
                  refine lv_iload hf.1 hf.2.1 dX11_kindOf_256 (lv_at hl 2 rfl) ?_
                  refine gzld hf hw 7 (by decide) rfl (n := 6000) (f := αq3 7) rfl (ti_in (by omega) (by omega)) dX11_kindOf_258 ?_
                  refine lv_topi (fun x_16 ex_16 => ?_)
                  refine lv_if_ne (tgt := 279) hf.1 hf.2.1 dX11_kindOf_259 (by decide) (fun c_17 => ?_) (fun c_17 => ?_)
                  · have ic_17 : ¬ x_16.toInt = (0 : Int) := ti_ne c_17
                    refine lv_iconst (v := 1) hf.1 hf.2.1 dX11_kindOf_279 (by decide) ?_
                    refine lv_goto (tgt := 284) hf.1 hf.2.1 dX11_kindOf_280 (by decide) ?_
                    exact J284 1 _ _ _  hw (lv_sub hl [0, 1, 2, 3, 4, 5, 6] rfl)
                  · have ic_17 : x_16.toInt = (0 : Int) := ti_eq c_17
                    refine lv_aload_n hf.1 hf.2.1 dX11_kindOf_262 rfl (lv_at hl 3 rfl) ?_
                    refine ggetA hf hw 7 (by decide) k1388 dX11_kindOf_263 ?_
                    refine lv_aload_n hf.1 hf.2.1 dX11_kindOf_266 rfl (lv_at hl 3 rfl) ?_
                    refine ggetA hf hw 9 (by decide) k1392 dX11_kindOf_267 ?_
                    refine lv_iload_n hf.1 hf.2.1 dX11_kindOf_270 rfl (lv_at hl 5 rfl) ?_
                    refine lv_iload hf.1 hf.2.1 dX11_kindOf_271 (lv_at hl 0 rfl) ?_
                    refine lv_iadd hf.1 hf.2.1 dX11_kindOf_273 ?_
                    refine lv_topi (fun x_18 ex_18 => ?_)
                    have tx_18 : x_18.toInt = fr.toInt + i.toInt := by rw [ex_18]; exact ti_add (by show _ ≤ fr.toInt + i.toInt; omega) (by show fr.toInt + i.toInt ≤ _; omega)
                    refine gild hf hw 9 (by decide) rfl (n := 3100) (f := αq3 9) rfl (ti_in (by omega) (by omega)) dX11_kindOf_274 ?_
                    refine lv_topi (fun x_19 ex_19 => ?_)
                    have vx_19 : 0 ≤ x_19.toInt ∧ x_19.toInt < (σ 13).toInt := by
                      have q1 := tnc (show 0 ≤ x_18.toInt by omega)
                      have q2 := hG x_18.toNatClampNeg (by omega) (by omega)
                      rw [ex_19, hAq3 9 (by decide)]; exact q2
                    refine gzld hf hw 7 (by decide) rfl (n := 6000) (f := αq3 7) rfl (ti_in (by omega) (by omega)) dX11_kindOf_275 ?_
                    refine lv_topi (fun x_20 ex_20 => ?_)
                    refine lv_if_eq (tgt := 283) hf.1 hf.2.1 dX11_kindOf_276 (by decide) (fun c_21 => ?_) (fun c_21 => ?_)
                    · have ic_21 : x_20.toInt = (0 : Int) := ti_eq c_21
                      refine lv_iconst (v := 0) hf.1 hf.2.1 dX11_kindOf_283 (by decide) ?_
                      exact J284 0 _ _ _  hw (lv_sub hl [0, 1, 2, 3, 4, 5, 6] rfl)
                    · have ic_21 : ¬ x_20.toInt = (0 : Int) := ti_ne c_21
                      refine lv_iconst (v := 1) hf.1 hf.2.1 dX11_kindOf_279 (by decide) ?_
                      refine lv_goto (tgt := 284) hf.1 hf.2.1 dX11_kindOf_280 (by decide) ?_
                      exact J284 1 _ _ _  hw (lv_sub hl [0, 1, 2, 3, 4, 5, 6] rfl)
            exact loop3 ((n.toInt - 0).toNat + 1) (uS σ 13 x_2) τ (uA (uA (uA (uA α 3 (upd (α 3) (σ 13).toNatClampNeg s0)) 4 (upd (α 4) (σ 13).toNatClampNeg n)) 5 (upd (α 5) (σ 13).toNatClampNeg (σ 15))) 7 (upd (α 7) (σ 13).toNatClampNeg (vp_nar .boolean bv))) β 0 cv _ _ _ (Nat.lt_succ_self _) rfl (offS.rf.put 13 (by decide) x_2) ((((offA.rf.put 3 (by decide) _).put 4 (by decide) _).put 5 (by decide) _).put 7 (by decide) _) offA.rf (by show x_2.toInt = (σ 13).toInt + 1 ∧ (σ 15).toInt = (σ 15).toInt + (0 : Int) ∧ 0 ≤ (0 : Int) ∧ (0 : Int) ≤ n.toInt; omega) ⟨rfl, rfl, rfl⟩ (fun j hj => hKT.2 j (by have e : (0 : Int32).toInt = 0 := rfl; omega)) hw (lv_sub hl [0, 1, 2, 3, 4, 5, 6] rfl)
          refine lv_iload_n hf.1 hf.2.1 dX11_kindOf_169 rfl (lv_at hl 2 rfl) ?_
          refine lv_iconst (v := 4) hf.1 hf.2.1 dX11_kindOf_170 (by decide) ?_
          refine lv_icmp_ne (tgt := 192) hf.1 hf.2.1 dX11_kindOf_171 (by decide) (fun c_22 => ?_) (fun c_22 => ?_)
          · have ic_22 : ¬ s0.toInt = (4 : Int) := ti_ne c_22
            refine lv_iload_n hf.1 hf.2.1 dX11_kindOf_192 rfl (lv_at hl 2 rfl) ?_
            refine lv_iconst (v := 5) hf.1 hf.2.1 dX11_kindOf_193 (by decide) ?_
            refine lv_icmp_ne (tgt := 206) hf.1 hf.2.1 dX11_kindOf_194 (by decide) (fun c_27 => ?_) (fun c_27 => ?_)
            · have ic_27 : ¬ s0.toInt = (5 : Int) := ti_ne c_27
              refine lv_iload_n hf.1 hf.2.1 dX11_kindOf_206 rfl (lv_at hl 2 rfl) ?_
              exact J207 s0 _ _ _  hw (lv_sub hl [0, 1, 2, 3, 4] rfl)
            · have ic_27 : s0.toInt = (5 : Int) := ti_eq c_27
              refine lv_bipush (v := 7) hf.1 hf.2.1 dX11_kindOf_197 (by decide) ?_
              refine lv_iload_n hf.1 hf.2.1 dX11_kindOf_199 rfl (lv_at hl 4 rfl) ?_
              refine lv_iadd hf.1 hf.2.1 dX11_kindOf_200 ?_
              refine lv_topi (fun x_28 ex_28 => ?_)
              have tx_28 : x_28.toInt = (7 : Int) + n.toInt := by rw [ex_28]; exact ti_add (by show _ ≤ (7 : Int) + n.toInt; omega) (by show (7 : Int) + n.toInt ≤ _; omega)
              refine lv_iconst (v := 1) hf.1 hf.2.1 dX11_kindOf_201 (by decide) ?_
              refine lv_isub hf.1 hf.2.1 dX11_kindOf_202 ?_
              refine lv_topi (fun x_29 ex_29 => ?_)
              have tx_29 : x_29.toInt = x_28.toInt - (1 : Int) := by rw [ex_29]; exact ti_sub (by show _ ≤ x_28.toInt - (1 : Int); omega) (by show x_28.toInt - (1 : Int) ≤ _; omega)
              refine lv_goto (tgt := 207) hf.1 hf.2.1 dX11_kindOf_203 (by decide) ?_
              exact J207 x_29 _ _ _  hw (lv_sub hl [0, 1, 2, 3, 4] rfl)
          · have ic_22 : s0.toInt = (4 : Int) := ti_eq c_22
            refine lv_iconst (v := 5) hf.1 hf.2.1 dX11_kindOf_174 (by decide) ?_
            refine lv_aload_n hf.1 hf.2.1 dX11_kindOf_175 rfl (lv_at hl 1 rfl) ?_
            refine ggetA hf hw 6 (by decide) k1387 dX11_kindOf_176 ?_
            refine lv_aload_n hf.1 hf.2.1 dX11_kindOf_179 rfl (lv_at hl 1 rfl) ?_
            refine ggetA hf hw 9 (by decide) k1392 dX11_kindOf_180 ?_
            refine lv_iload_n hf.1 hf.2.1 dX11_kindOf_183 rfl (lv_at hl 3 rfl) ?_
            refine gild hf hw 9 (by decide) rfl (n := 3100) (f := α 9) rfl (ti_in (by omega) (by omega)) dX11_kindOf_184 ?_
            refine lv_topi (fun x_23 ex_23 => ?_)
            have vx_23 : 0 ≤ x_23.toInt ∧ x_23.toInt < (σ 13).toInt := by
              have q1 := tnc (show 0 ≤ fr.toInt by omega)
              have q2 := hG fr.toNatClampNeg (by omega) (by omega)
              rw [ex_23]; exact q2
            refine gild hf hw 6 (by decide) rfl (n := 6000) (f := α 6) rfl (ti_in (by omega) (by omega)) dX11_kindOf_185 ?_
            refine lv_topi (fun x_24 ex_24 => ?_)
            refine lv_imul hf.1 hf.2.1 dX11_kindOf_186 ?_
            refine lv_topi (fun x_25 ex_25 => ?_)
            refine lv_iconst (v := 4) hf.1 hf.2.1 dX11_kindOf_187 (by decide) ?_
            refine lv_iadd hf.1 hf.2.1 dX11_kindOf_188 ?_
            refine lv_topi (fun x_26 ex_26 => ?_)
            refine lv_goto (tgt := 207) hf.1 hf.2.1 dX11_kindOf_189 (by decide) ?_
            exact J207 x_26 _ _ _  hw (lv_sub hl [0, 1, 2, 3, 4] rfl)
        refine lv_icmp_ne (tgt := 167) hf.1 hf.2.1 dX11_kindOf_160 (by decide) (fun c_30 => ?_) (fun c_30 => ?_)
        · have ic_30 : ¬ s0.toInt = (3 : Int) := ti_ne c_30
          refine lv_iconst (v := 0) hf.1 hf.2.1 dX11_kindOf_167 (by decide) ?_
          exact J168 0 _ _ _  hw (lv_sub hl [0, 1, 2, 3, 4] rfl)
        · have ic_30 : s0.toInt = (3 : Int) := ti_eq c_30
          refine lv_iconst (v := 1) hf.1 hf.2.1 dX11_kindOf_163 (by decide) ?_
          refine lv_goto (tgt := 168) hf.1 hf.2.1 dX11_kindOf_164 (by decide) ?_
          exact J168 1 _ _ _  hw (lv_sub hl [0, 1, 2, 3, 4] rfl)
      · have ic_1 : k.toInt < (σ 13).toInt := ti_nle c_1
        have qk := tnc (show 0 ≤ k.toInt by omega)
        have kt := hKT.1 k.toNatClampNeg (by omega)
        have J39 : ∀ (same : Int32) (H : Heap) (locs : List Loc) (ls : Array Slot), (¬ same.toInt = 0 → (α 4 k.toNatClampNeg).toInt = n.toInt ∧ (α 3 k.toNatClampNeg).toInt = s0.toInt) → Wd dC dI A (MW h0 ad cA σ τ α β) (MT cA) s H locs → lv_has ls 7 [(4, .int k), (0, .ref h0), (1, .int s0), (2, .int fr), (3, .int n)] → W p l e ({ frames := 6, cells := 0, slots := 0, locals := 90 } : Room) s m (.ref h0 :: [.int s0, .int fr, .int n] : List Value).toArray below meth c H locs 0 0 (MZi below (fun r x => offS [13, 15] σ x.1 ∧ offA [3, 4, 5, 6, 7, 8] α x.2.2.1 ∧ offA [] β x.2.2.2 ∧ x.2.1 = τ ∧ (0 ≤ r.toInt ∧ r.toInt < (x.1 13).toInt ∧ (σ 13).toInt ≤ (x.1 13).toInt ∧ (x.1 13).toInt ≤ (σ 13).toInt + 1 ∧ (σ 15).toInt ≤ (x.1 15).toInt ∧ (x.1 15).toInt ≤ (σ 15).toInt + n.toInt) ∧ KT x.2.2.1 (x.1 13).toInt (x.1 15).toInt ∧ (((x.1 13).toInt = (σ 13).toInt → x.2.2.1 3 = α 3 ∧ (x.2.2.1 3 r.toNatClampNeg).toInt = s0.toInt) ∧ ((x.1 13).toInt = (σ 13).toInt + 1 → x.2.2.1 3 = upd (α 3) (σ 13).toNatClampNeg s0))) h0 ad cA dC dI A s (.ref h0 :: [.int s0, .int fr, .int n])) (F0 m 39 ls [.int same]) := by
          intro same H locs ls  hsk hw hl
          refine lv_istore (lv' := [(5, .int same), (4, .int k), (0, .ref h0), (1, .int s0), (2, .int fr), (3, .int n)]) hf.1 hf.2.1 dX11_kindOf_39 hl (by decide) rfl (fun ls hl => ?_)
          refine lv_iconst (v := 0) hf.1 hf.2.1 dX11_kindOf_41 (by decide) ?_
          refine lv_istore (lv' := [(6, .int 0), (5, .int same), (4, .int k), (0, .ref h0), (1, .int s0), (2, .int fr), (3, .int n)]) hf.1 hf.2.1 dX11_kindOf_42 hl (by decide) rfl (fun ls hl => ?_)
          have loop2 : ∀ (N : Nat) (i same : Int32) (H : Heap) (locs : List Loc) (ls : Array Slot), (n.toInt - i.toInt).toNat < N → (0 ≤ i.toInt ∧ i.toInt ≤ n.toInt) → (¬ same.toInt = 0 → (α 4 k.toNatClampNeg).toInt = n.toInt ∧ (α 3 k.toNatClampNeg).toInt = s0.toInt) → Wd dC dI A (MW h0 ad cA σ τ α β) (MT cA) s H locs → lv_has ls 7 [(6, .int i), (5, .int same), (4, .int k), (0, .ref h0), (1, .int s0), (2, .int fr), (3, .int n)] → W p l e ({ frames := 6, cells := 0, slots := 0, locals := 90 } : Room) s m (.ref h0 :: [.int s0, .int fr, .int n] : List Value).toArray below meth c H locs 0 0 (MZi below (fun r x => offS [13, 15] σ x.1 ∧ offA [3, 4, 5, 6, 7, 8] α x.2.2.1 ∧ offA [] β x.2.2.2 ∧ x.2.1 = τ ∧ (0 ≤ r.toInt ∧ r.toInt < (x.1 13).toInt ∧ (σ 13).toInt ≤ (x.1 13).toInt ∧ (x.1 13).toInt ≤ (σ 13).toInt + 1 ∧ (σ 15).toInt ≤ (x.1 15).toInt ∧ (x.1 15).toInt ≤ (σ 15).toInt + n.toInt) ∧ KT x.2.2.1 (x.1 13).toInt (x.1 15).toInt ∧ (((x.1 13).toInt = (σ 13).toInt → x.2.2.1 3 = α 3 ∧ (x.2.2.1 3 r.toNatClampNeg).toInt = s0.toInt) ∧ ((x.1 13).toInt = (σ 13).toInt + 1 → x.2.2.1 3 = upd (α 3) (σ 13).toNatClampNeg s0))) h0 ad cA dC dI A s (.ref h0 :: [.int s0, .int fr, .int n])) (F0 m 44 ls []) := by
            intro N
            induction N with
            | zero => intro i same H locs ls hm; exact absurd hm (Nat.not_lt_zero _)
            | succ N ih2 =>
              intro i same H locs ls hm hi hsk hw hl
              refine lv_iload hf.1 hf.2.1 dX11_kindOf_44 (lv_at hl 0 rfl) ?_
              refine lv_iload_n hf.1 hf.2.1 dX11_kindOf_46 rfl (lv_at hl 6 rfl) ?_
              refine lv_icmp_ge (tgt := 95) hf.1 hf.2.1 dX11_kindOf_47 (by decide) (fun c_31 => ?_) (fun c_31 => ?_)
              · have ic_31 : n.toInt ≤ i.toInt := ti_le c_31
                refine lv_iload hf.1 hf.2.1 dX11_kindOf_95 (lv_at hl 1 rfl) ?_
                refine lv_if_eq (tgt := 103) hf.1 hf.2.1 dX11_kindOf_97 (by decide) (fun c_32 => ?_) (fun c_32 => ?_)
                · have ic_32 : same.toInt = (0 : Int) := ti_eq c_32
                  obtain ⟨x_33, ex_33⟩ : ∃ y : Int32, y = k + 1 := ⟨_, rfl⟩
                  refine lv_iinc (v := x_33) (lv' := [(4, .int x_33), (6, .int i), (5, .int same), (0, .ref h0), (1, .int s0), (2, .int fr), (3, .int n)]) hf.1 hf.2.1 dX11_kindOf_103 hl (k := 2) rfl (by rw [ex_33]; rfl) (by decide) rfl (fun ls hl => ?_)
                  have tx_33 : x_33.toInt = k.toInt + 1 := by rw [ex_33]; exact ti_add (by show _ ≤ k.toInt + 1; omega) (by show k.toInt + 1 ≤ _; omega)
                  refine lv_goto (tgt := 3) hf.1 hf.2.1 dX11_kindOf_106 (by decide) ?_
                  exact ih1 x_33 _ _ _ (by show ((σ 13).toInt - x_33.toInt).toNat < _; omega) (by omega) hw (lv_sub hl [0, 3, 4, 5, 6] rfl)
                · have ic_32 : ¬ same.toInt = (0 : Int) := ti_ne c_32
                  refine lv_iload hf.1 hf.2.1 dX11_kindOf_100 (lv_at hl 2 rfl) ?_
                  exact gret_i (v := k) hf hr hlk hw ⟨offS.rf, offA.rf, offA.rf, rfl, (by show 0 ≤ k.toInt ∧ k.toInt < (σ 13).toInt ∧ (σ 13).toInt ≤ (σ 13).toInt ∧ (σ 13).toInt ≤ (σ 13).toInt + 1 ∧ (σ 15).toInt ≤ (σ 15).toInt ∧ (σ 15).toInt ≤ (σ 15).toInt + n.toInt; omega), hKT, ⟨fun _ => ⟨rfl, (hsk (by omega)).2⟩, fun q => absurd (show (σ 13).toInt = (σ 13).toInt + 1 from q) (by omega)⟩⟩ dX11_kindOf_102
              · have ic_31 : i.toInt < n.toInt := ti_nle c_31
                refine lv_iload hf.1 hf.2.1 dX11_kindOf_50 (lv_at hl 1 rfl) ?_
                refine lv_if_eq (tgt := 95) hf.1 hf.2.1 dX11_kindOf_52 (by decide) (fun c_34 => ?_) (fun c_34 => ?_)
                · have ic_34 : same.toInt = (0 : Int) := ti_eq c_34
                  refine lv_iload hf.1 hf.2.1 dX11_kindOf_95 (lv_at hl 1 rfl) ?_
                  refine lv_if_eq (tgt := 103) hf.1 hf.2.1 dX11_kindOf_97 (by decide) (fun c_35 => ?_) (fun c_35 => ?_)
                  · have ic_35 : same.toInt = (0 : Int) := ti_eq c_35
                    obtain ⟨x_36, ex_36⟩ : ∃ y : Int32, y = k + 1 := ⟨_, rfl⟩
                    refine lv_iinc (v := x_36) (lv' := [(4, .int x_36), (6, .int i), (5, .int same), (0, .ref h0), (1, .int s0), (2, .int fr), (3, .int n)]) hf.1 hf.2.1 dX11_kindOf_103 hl (k := 2) rfl (by rw [ex_36]; rfl) (by decide) rfl (fun ls hl => ?_)
                    have tx_36 : x_36.toInt = k.toInt + 1 := by rw [ex_36]; exact ti_add (by show _ ≤ k.toInt + 1; omega) (by show k.toInt + 1 ≤ _; omega)
                    refine lv_goto (tgt := 3) hf.1 hf.2.1 dX11_kindOf_106 (by decide) ?_
                    exact ih1 x_36 _ _ _ (by show ((σ 13).toInt - x_36.toInt).toNat < _; omega) (by omega) hw (lv_sub hl [0, 3, 4, 5, 6] rfl)
                  · have ic_35 : ¬ same.toInt = (0 : Int) := ti_ne c_35
                    refine lv_iload hf.1 hf.2.1 dX11_kindOf_100 (lv_at hl 2 rfl) ?_
                    exact gret_i (v := k) hf hr hlk hw ⟨offS.rf, offA.rf, offA.rf, rfl, (by show 0 ≤ k.toInt ∧ k.toInt < (σ 13).toInt ∧ (σ 13).toInt ≤ (σ 13).toInt ∧ (σ 13).toInt ≤ (σ 13).toInt + 1 ∧ (σ 15).toInt ≤ (σ 15).toInt ∧ (σ 15).toInt ≤ (σ 15).toInt + n.toInt; omega), hKT, ⟨fun _ => ⟨rfl, (hsk (by omega)).2⟩, fun q => absurd (show (σ 13).toInt = (σ 13).toInt + 1 from q) (by omega)⟩⟩ dX11_kindOf_102
                · have ic_34 : ¬ same.toInt = (0 : Int) := ti_ne c_34
                  refine lv_aload_n hf.1 hf.2.1 dX11_kindOf_55 rfl (lv_at hl 3 rfl) ?_
                  refine ggetA hf hw 8 (by decide) k1391 dX11_kindOf_56 ?_
                  refine lv_aload_n hf.1 hf.2.1 dX11_kindOf_59 rfl (lv_at hl 3 rfl) ?_
                  refine ggetA hf hw 5 (by decide) k1386 dX11_kindOf_60 ?_
                  refine lv_iload hf.1 hf.2.1 dX11_kindOf_63 (lv_at hl 2 rfl) ?_
                  refine gild hf hw 5 (by decide) rfl (n := 6000) (f := α 5) rfl (ti_in (by omega) (by omega)) dX11_kindOf_65 ?_
                  refine lv_topi (fun x_37 ex_37 => ?_)
                  have lx_37 : 0 ≤ x_37.toInt ∧ x_37.toInt + n.toInt ≤ (σ 15).toInt := by have q := (hsk (by omega)).1; rw [ex_37]; omega
                  refine lv_iload hf.1 hf.2.1 dX11_kindOf_66 (lv_at hl 0 rfl) ?_
                  refine lv_iadd hf.1 hf.2.1 dX11_kindOf_68 ?_
                  refine lv_topi (fun x_38 ex_38 => ?_)
                  have tx_38 : x_38.toInt = x_37.toInt + i.toInt := by rw [ex_38]; exact ti_add (by show _ ≤ x_37.toInt + i.toInt; omega) (by show x_37.toInt + i.toInt ≤ _; omega)
                  refine gild hf hw 8 (by decide) rfl (n := 20000) (f := α 8) rfl (ti_in (by omega) (by omega)) dX11_kindOf_69 ?_
                  refine lv_topi (fun x_39 ex_39 => ?_)
                  refine lv_aload_n hf.1 hf.2.1 dX11_kindOf_70 rfl (lv_at hl 3 rfl) ?_
                  refine ggetA hf hw 9 (by decide) k1392 dX11_kindOf_71 ?_
                  refine lv_iload_n hf.1 hf.2.1 dX11_kindOf_74 rfl (lv_at hl 5 rfl) ?_
                  refine lv_iload hf.1 hf.2.1 dX11_kindOf_75 (lv_at hl 0 rfl) ?_
                  refine lv_iadd hf.1 hf.2.1 dX11_kindOf_77 ?_
                  refine lv_topi (fun x_40 ex_40 => ?_)
                  have tx_40 : x_40.toInt = fr.toInt + i.toInt := by rw [ex_40]; exact ti_add (by show _ ≤ fr.toInt + i.toInt; omega) (by show fr.toInt + i.toInt ≤ _; omega)
                  refine gild hf hw 9 (by decide) rfl (n := 3100) (f := α 9) rfl (ti_in (by omega) (by omega)) dX11_kindOf_78 ?_
                  refine lv_topi (fun x_41 ex_41 => ?_)
                  refine lv_icmp_ne (tgt := 86) hf.1 hf.2.1 dX11_kindOf_79 (by decide) (fun c_42 => ?_) (fun c_42 => ?_)
                  · have ic_42 : ¬ x_39.toInt = x_41.toInt := ti_ne c_42
                    refine lv_iconst (v := 0) hf.1 hf.2.1 dX11_kindOf_86 (by decide) ?_
                    refine lv_istore (lv' := [(5, .int 0), (6, .int i), (4, .int k), (0, .ref h0), (1, .int s0), (2, .int fr), (3, .int n)]) hf.1 hf.2.1 dX11_kindOf_87 hl (by decide) rfl (fun ls hl => ?_)
                    obtain ⟨x_43, ex_43⟩ : ∃ y : Int32, y = i + 1 := ⟨_, rfl⟩
                    refine lv_iinc (v := x_43) (lv' := [(6, .int x_43), (5, .int 0), (4, .int k), (0, .ref h0), (1, .int s0), (2, .int fr), (3, .int n)]) hf.1 hf.2.1 dX11_kindOf_89 hl (k := 1) rfl (by rw [ex_43]; rfl) (by decide) rfl (fun ls hl => ?_)
                    have tx_43 : x_43.toInt = i.toInt + 1 := by rw [ex_43]; exact ti_add (by show _ ≤ i.toInt + 1; omega) (by show i.toInt + 1 ≤ _; omega)
                    refine lv_goto (tgt := 44) hf.1 hf.2.1 dX11_kindOf_92 (by decide) ?_
                    exact ih2 x_43 0 _ _ _ (by show (n.toInt - x_43.toInt).toNat < _; omega) (by omega) (fun _ => hsk (by omega)) hw (lv_sub hl [0, 1, 2, 3, 4, 5, 6] rfl)
                  · have ic_42 : x_39.toInt = x_41.toInt := ti_eq c_42
                    refine lv_iconst (v := 1) hf.1 hf.2.1 dX11_kindOf_82 (by decide) ?_
                    refine lv_goto (tgt := 87) hf.1 hf.2.1 dX11_kindOf_83 (by decide) ?_
                    refine lv_istore (lv' := [(5, .int 1), (6, .int i), (4, .int k), (0, .ref h0), (1, .int s0), (2, .int fr), (3, .int n)]) hf.1 hf.2.1 dX11_kindOf_87 hl (by decide) rfl (fun ls hl => ?_)
                    obtain ⟨x_44, ex_44⟩ : ∃ y : Int32, y = i + 1 := ⟨_, rfl⟩
                    refine lv_iinc (v := x_44) (lv' := [(6, .int x_44), (5, .int 1), (4, .int k), (0, .ref h0), (1, .int s0), (2, .int fr), (3, .int n)]) hf.1 hf.2.1 dX11_kindOf_89 hl (k := 1) rfl (by rw [ex_44]; rfl) (by decide) rfl (fun ls hl => ?_)
                    have tx_44 : x_44.toInt = i.toInt + 1 := by rw [ex_44]; exact ti_add (by show _ ≤ i.toInt + 1; omega) (by show i.toInt + 1 ≤ _; omega)
                    refine lv_goto (tgt := 44) hf.1 hf.2.1 dX11_kindOf_92 (by decide) ?_
                    exact ih2 x_44 1 _ _ _ (by show (n.toInt - x_44.toInt).toNat < _; omega) (by omega) (fun _ => hsk (by omega)) hw (lv_sub hl [0, 1, 2, 3, 4, 5, 6] rfl)
          exact loop2 ((n.toInt - (0 : Int32).toInt).toNat + 1) 0 same _ _ _ (Nat.lt_succ_self _) ⟨by decide, hn.1⟩ hsk hw (lv_sub hl [0, 1, 2, 3, 4, 5, 6] rfl)
        refine lv_aload_n hf.1 hf.2.1 dX11_kindOf_12 rfl (lv_at hl 1 rfl) ?_
        refine ggetA hf hw 3 (by decide) k1384 dX11_kindOf_13 ?_
        refine lv_iload hf.1 hf.2.1 dX11_kindOf_16 (lv_at hl 0 rfl) ?_
        refine gild hf hw 3 (by decide) rfl (n := 6000) (f := α 3) rfl (ti_in (by omega) (by omega)) dX11_kindOf_18 ?_
        refine lv_topi (fun x_45 ex_45 => ?_)
        refine lv_iload_n hf.1 hf.2.1 dX11_kindOf_19 rfl (lv_at hl 2 rfl) ?_
        refine lv_icmp_ne (tgt := 38) hf.1 hf.2.1 dX11_kindOf_20 (by decide) (fun c_46 => ?_) (fun c_46 => ?_)
        · have ic_46 : ¬ x_45.toInt = s0.toInt := ti_ne c_46
          refine lv_iconst (v := 0) hf.1 hf.2.1 dX11_kindOf_38 (by decide) ?_
          exact J39 0 _ _ _ (fun q => absurd rfl q) hw (lv_sub hl [0, 1, 2, 3, 4] rfl)
        · have ic_46 : x_45.toInt = s0.toInt := ti_eq c_46
          refine lv_aload_n hf.1 hf.2.1 dX11_kindOf_23 rfl (lv_at hl 1 rfl) ?_
          refine ggetA hf hw 4 (by decide) k1385 dX11_kindOf_24 ?_
          refine lv_iload hf.1 hf.2.1 dX11_kindOf_27 (lv_at hl 0 rfl) ?_
          refine gild hf hw 4 (by decide) rfl (n := 6000) (f := α 4) rfl (ti_in (by omega) (by omega)) dX11_kindOf_29 ?_
          refine lv_topi (fun x_47 ex_47 => ?_)
          refine lv_iload_n hf.1 hf.2.1 dX11_kindOf_30 rfl (lv_at hl 4 rfl) ?_
          refine lv_icmp_ne (tgt := 38) hf.1 hf.2.1 dX11_kindOf_31 (by decide) (fun c_48 => ?_) (fun c_48 => ?_)
          · have ic_48 : ¬ x_47.toInt = n.toInt := ti_ne c_48
            refine lv_iconst (v := 0) hf.1 hf.2.1 dX11_kindOf_38 (by decide) ?_
            exact J39 0 _ _ _ (fun q => absurd rfl q) hw (lv_sub hl [0, 1, 2, 3, 4] rfl)
          · have ic_48 : x_47.toInt = n.toInt := ti_eq c_48
            refine lv_iconst (v := 1) hf.1 hf.2.1 dX11_kindOf_34 (by decide) ?_
            refine lv_goto (tgt := 39) hf.1 hf.2.1 dX11_kindOf_35 (by decide) ?_
            exact J39 1 _ _ _ (fun _ => ⟨by rw [← ex_47]; omega, by rw [← ex_45]; omega⟩) hw (lv_sub hl [0, 1, 2, 3, 4] rfl)
  exact loop1 (((σ 13).toInt - (0 : Int32).toInt).toNat + 1) 0 _ _ _ (Nat.lt_succ_self _) ⟨by decide, hK.1⟩ hw (lv_sub hl [0, 1, 2, 3, 4] rfl)

set_option maxHeartbeats 4000000 in
set_option maxRecDepth 100000 in
theorem m_rowOf (l : Launch) (dC : Nat → ClassId) (dI : Nat → Nat → Nat) (h0 : Nat) (ad : Nat → Nat) (cA : Nat → ClassId) (σ : Nat → Int32) (τ : Int64) (α : Nat → Nat → Int32) (β : Nat → Nat → Int64) (kd : Int32) (sz : Nat) (hK : 3 ≤ (σ 13).toInt ∧ (σ 13).toInt ≤ 5999) (hL : 0 ≤ (σ 15).toInt ∧ (σ 15).toInt + 1 ≤ 20000) (hkd : 0 ≤ kd.toInt ∧ kd.toInt < (σ 13).toInt) (hKT : KT α (σ 13).toInt (σ 15).toInt) : MCi l dC dI h0 ad cA yX11_rowOf cX11_rowOf 2 (some .int) ({ frames := 10, cells := 0, slots := 0, locals := 150 } : Room) [.int kd] σ τ α β (fun r x => offS [13, 15] σ x.1 ∧ offA [3, 4, 5, 6, 7, 8, 9] α x.2.2.1 ∧ offA [] β x.2.2.2 ∧ x.2.1 = τ ∧ (0 ≤ r.toInt ∧ r.toInt < (x.1 13).toInt ∧ (σ 13).toInt ≤ (x.1 13).toInt ∧ (x.1 13).toInt ≤ (σ 13).toInt + 1 ∧ (σ 15).toInt ≤ (x.1 15).toInt ∧ (x.1 15).toInt ≤ (σ 15).toInt + 1) ∧ KT x.2.2.1 (x.1 13).toInt (x.1 15).toInt ∧ (∀ j : Nat, j ≠ 3000 → x.2.2.1 9 j = α 9 j)) sz := by
  refine gbody_i (by decide) (Nat.le_of_ble_eq_true rfl) ?_
  intro p e s m below meth c ls A H hf hr hlk hw hl
  have hl : lv_has ls 2 [(0, .ref h0), (1, .int kd)] := hl
  refine lv_aload_n hf.1 hf.2.1 dX11_rowOf_0 rfl (lv_at hl 0 rfl) ?_
  refine ggetA hf hw 9 (by decide) k1392 dX11_rowOf_1 ?_
  refine lv_sipush (v := 3000) hf.1 hf.2.1 dX11_rowOf_4 (by decide) ?_
  refine lv_iload_n hf.1 hf.2.1 dX11_rowOf_7 rfl (lv_at hl 1 rfl) ?_
  refine gist hf hw 9 (by decide) rfl (n := 3100) (f := α 9) rfl rfl rfl (by unfold vp_in; decide) dX11_rowOf_8 (fun H locs hw => ?_)
  refine lv_aload_n hf.1 hf.2.1 dX11_rowOf_9 rfl (lv_at hl 0 rfl) ?_
  refine lv_iconst (v := 4) hf.1 hf.2.1 dX11_rowOf_10 (by decide) ?_
  refine lv_sipush (v := 3000) hf.1 hf.2.1 dX11_rowOf_11 (by decide) ?_
  refine lv_iconst (v := 1) hf.1 hf.2.1 dX11_rowOf_14 (by decide) ?_
  refine gcall_i (As := [.int 4, .int 3000, .int 1]) (rest := []) hf hw (m_kindOf l dC dI h0 ad cA σ τ (uA α 9 (upd (α 9) (3000 : Int32).toNatClampNeg kd)) β 4 3000 1 H.size (by show 0 ≤ (σ 13).toInt ∧ (σ 13).toInt ≤ 5999; omega) (by show 0 ≤ (σ 15).toInt ∧ (σ 15).toInt + (1 : Int) ≤ 20000; omega) (by show 0 ≤ (1 : Int) ∧ (1 : Int) ≤ 3100; omega) (by show 0 ≤ (3000 : Int) ∧ (3000 : Int) + (1 : Int) ≤ 3100; omega) (by show ((4 : Int) = 4 → (1 : Int) = 1) ∧ ((4 : Int) = 5 → 1 ≤ (1 : Int)); omega) hKT (fun j h1 h2 => by show 0 ≤ (upd (α 9) (3000 : Int32).toNatClampNeg kd j).toInt ∧ (upd (α 9) (3000 : Int32).toNatClampNeg kd j).toInt < _; have e3 : (3000 : Int32).toNatClampNeg = 3000 := rfl; have e4 : (3000 : Int32).toInt = 3000 := rfl; have e5 : (1 : Int32).toInt = 1 := rfl; rw [updI, if_pos (by omega)]; exact hkd)) ka_X11_kindOf kv_X11_kindOf rfl k1361 rfl rfl hl.1 rfl rfl ⟨Nat.le_of_ble_eq_true rfl, Nat.le_of_ble_eq_true rfl⟩ (Nat.le_of_ble_eq_true rfl) ⟨Nat.le_refl _, Nat.le_refl _⟩ dX11_rowOf_15 (fun r_2 w_1 hw_1 H locs hw => ?_)
  obtain ⟨σ_1, τ_1, α_1, β_1⟩ := w_1
  obtain ⟨hS_1, hA_1, hB_1, hT_1, hp_1, hnKT, hx_1⟩ := hw_1
  obtain rfl : τ = τ_1 := hT_1.symm
  obtain rfl : β = β_1 := (offA_nil hB_1).symm
  have hp_1 : 0 ≤ r_2.toInt ∧ r_2.toInt < (σ_1 13).toInt ∧ (σ 13).toInt ≤ (σ_1 13).toInt ∧ (σ_1 13).toInt ≤ (σ 13).toInt + 1 ∧ (σ 15).toInt ≤ (σ_1 15).toInt ∧ (σ_1 15).toInt ≤ (σ 15).toInt + (1 : Int) := hp_1
  have f_1_0 : (σ_1 0).toInt = (σ 0).toInt := congrArg Int32.toInt (hS_1 0 (by decide))
  have f_1_1 : (σ_1 1).toInt = (σ 1).toInt := congrArg Int32.toInt (hS_1 1 (by decide))
  have f_1_5 : (σ_1 5).toInt = (σ 5).toInt := congrArg Int32.toInt (hS_1 5 (by decide))
  have f_1_6 : (σ_1 6).toInt = (σ 6).toInt := congrArg Int32.toInt (hS_1 6 (by decide))
  have f_1_7 : (σ_1 7).toInt = (σ 7).toInt := congrArg Int32.toInt (hS_1 7 (by decide))
  have f_1_9 : (σ_1 9).toInt = (σ 9).toInt := congrArg Int32.toInt (hS_1 9 (by decide))
  have f_1_17 : (σ_1 17).toInt = (σ 17).toInt := congrArg Int32.toInt (hS_1 17 (by decide))
  have f_1_18 : (σ_1 18).toInt = (σ 18).toInt := congrArg Int32.toInt (hS_1 18 (by decide))
  have f_1_19 : (σ_1 19).toInt = (σ 19).toInt := congrArg Int32.toInt (hS_1 19 (by decide))
  have f_1_20 : (σ_1 20).toInt = (σ 20).toInt := congrArg Int32.toInt (hS_1 20 (by decide))
  have f_1_21 : (σ_1 21).toInt = (σ 21).toInt := congrArg Int32.toInt (hS_1 21 (by decide))
  have f_1_22 : (σ_1 22).toInt = (σ 22).toInt := congrArg Int32.toInt (hS_1 22 (by decide))
  have hx_1 : ((σ_1 13).toInt = (σ 13).toInt → α_1 3 = (uA α 9 (upd (α 9) (3000 : Int32).toNatClampNeg kd)) 3 ∧ (α_1 3 r_2.toNatClampNeg).toInt = (4 : Int)) ∧ ((σ_1 13).toInt = (σ 13).toInt + 1 → α_1 3 = upd ((uA α 9 (upd (α 9) (3000 : Int32).toNatClampNeg kd)) 3) (σ 13).toNatClampNeg 4) := hx_1
  have hw : Wd dC dI A (MW h0 ad cA σ_1 τ α_1 β) (MT cA) s H locs := hw
  have hKT : KT α_1 (σ_1 13).toInt (σ_1 15).toInt := hnKT
  exact gret_i (v := r_2) hf hr hlk hw ⟨(offS.rf.tr hS_1 (by decide)), ((offA.rf.put 9 (by decide) _).tr hA_1 (by decide)), offA.rf, rfl, (by show 0 ≤ r_2.toInt ∧ r_2.toInt < (σ_1 13).toInt ∧ (σ 13).toInt ≤ (σ_1 13).toInt ∧ (σ_1 13).toInt ≤ (σ 13).toInt + 1 ∧ (σ 15).toInt ≤ (σ_1 15).toInt ∧ (σ_1 15).toInt ≤ (σ 15).toInt + 1; omega), hKT, (fun j hj => by rw [hA_1 9 (by decide)]; show upd (α 9) (3000 : Int32).toNatClampNeg kd j = _; unfold upd; rw [if_neg (show ¬ j = (3000 : Int32).toNatClampNeg from hj)])⟩ dX11_rowOf_18

set_option maxHeartbeats 4000000 in
set_option maxRecDepth 100000 in
theorem m_elementOf (l : Launch) (dC : Nat → ClassId) (dI : Nat → Nat → Nat) (h0 : Nat) (ad : Nat → Nat) (cA : Nat → ClassId) (σ : Nat → Int32) (τ : Int64) (α : Nat → Nat → Int32) (β : Nat → Nat → Int64) (kd : Int32) (sz : Nat) (hK : 0 ≤ (σ 13).toInt ∧ (σ 13).toInt ≤ 6000 ∧ (σ 15).toInt ≤ 20000) (hkd : 0 ≤ kd.toInt ∧ kd.toInt < (σ 13).toInt) (hKT : KT α (σ 13).toInt (σ 15).toInt) (hm : 1 ≤ (α 4 kd.toNatClampNeg).toInt) : MCi l dC dI h0 ad cA yX11_elementOf cX11_elementOf 2 (some .int) ({ frames := 6, cells := 0, slots := 0, locals := 90 } : Room) [.int kd] σ τ α β (fun r x => offS [] σ x.1 ∧ offA [] α x.2.2.1 ∧ offA [] β x.2.2.2 ∧ x.2.1 = τ ∧ (0 ≤ r.toInt ∧ r.toInt < (x.1 13).toInt)) sz := by
  refine gbody_i (by decide) (Nat.le_of_ble_eq_true rfl) ?_
  intro p e s m below meth c ls A H hf hr hlk hw hl
  have hl : lv_has ls 2 [(0, .ref h0), (1, .int kd)] := hl
  have qk := tnc hkd.1
  have kt := hKT.1 kd.toNatClampNeg (by omega)
  refine lv_aload_n hf.1 hf.2.1 dX11_elementOf_0 rfl (lv_at hl 0 rfl) ?_
  refine ggetA hf hw 8 (by decide) k1391 dX11_elementOf_1 ?_
  refine lv_aload_n hf.1 hf.2.1 dX11_elementOf_4 rfl (lv_at hl 0 rfl) ?_
  refine ggetA hf hw 5 (by decide) k1386 dX11_elementOf_5 ?_
  refine lv_iload_n hf.1 hf.2.1 dX11_elementOf_8 rfl (lv_at hl 1 rfl) ?_
  refine gild hf hw 5 (by decide) rfl (n := 6000) (f := α 5) rfl (ti_in (by omega) (by omega)) dX11_elementOf_9 ?_
  refine lv_topi (fun x_1 ex_1 => ?_)
  have lx_1 : 0 ≤ x_1.toInt ∧ x_1.toInt + (α 4 kd.toNatClampNeg).toInt ≤ (σ 15).toInt := by rw [ex_1]; omega
  refine gild hf hw 8 (by decide) rfl (n := 20000) (f := α 8) rfl (ti_in (by omega) (by omega)) dX11_elementOf_10 ?_
  refine lv_topi (fun x_2 ex_2 => ?_)
  have lx_2 : 0 ≤ x_2.toInt ∧ x_2.toInt < (σ 13).toInt := by
    have q1 := tnc (show 0 ≤ x_1.toInt by omega)
    have q2 := hKT.2 x_1.toNatClampNeg (by omega)
    rw [ex_2]; exact q2
  exact gret_i (v := x_2) hf hr hlk hw ⟨offS.rf, offA.rf, offA.rf, rfl, (by show 0 ≤ x_2.toInt ∧ x_2.toInt < (σ 13).toInt; omega)⟩ dX11_elementOf_11

set_option maxHeartbeats 4000000 in
set_option maxRecDepth 100000 in
theorem m_resultOf (l : Launch) (dC : Nat → ClassId) (dI : Nat → Nat → Nat) (h0 : Nat) (ad : Nat → Nat) (cA : Nat → ClassId) (σ : Nat → Int32) (τ : Int64) (α : Nat → Nat → Int32) (β : Nat → Nat → Int64) (kd : Int32) (sz : Nat) (hK : 0 ≤ (σ 13).toInt ∧ (σ 13).toInt ≤ 6000 ∧ (σ 15).toInt ≤ 20000) (hkd : 0 ≤ kd.toInt ∧ kd.toInt < (σ 13).toInt) (hKT : KT α (σ 13).toInt (σ 15).toInt) (hm : 1 ≤ (α 4 kd.toNatClampNeg).toInt) : MCi l dC dI h0 ad cA yX11_resultOf cX11_resultOf 2 (some .int) ({ frames := 6, cells := 0, slots := 0, locals := 90 } : Room) [.int kd] σ τ α β (fun r x => offS [] σ x.1 ∧ offA [] α x.2.2.1 ∧ offA [] β x.2.2.2 ∧ x.2.1 = τ ∧ (0 ≤ r.toInt ∧ r.toInt < (x.1 13).toInt)) sz := by
  refine gbody_i (by decide) (Nat.le_of_ble_eq_true rfl) ?_
  intro p e s m below meth c ls A H hf hr hlk hw hl
  have hl : lv_has ls 2 [(0, .ref h0), (1, .int kd)] := hl
  have qk := tnc hkd.1
  have kt := hKT.1 kd.toNatClampNeg (by omega)
  refine lv_aload_n hf.1 hf.2.1 dX11_resultOf_0 rfl (lv_at hl 0 rfl) ?_
  refine ggetA hf hw 8 (by decide) k1391 dX11_resultOf_1 ?_
  refine lv_aload_n hf.1 hf.2.1 dX11_resultOf_4 rfl (lv_at hl 0 rfl) ?_
  refine ggetA hf hw 5 (by decide) k1386 dX11_resultOf_5 ?_
  refine lv_iload_n hf.1 hf.2.1 dX11_resultOf_8 rfl (lv_at hl 1 rfl) ?_
  refine gild hf hw 5 (by decide) rfl (n := 6000) (f := α 5) rfl (ti_in (by omega) (by omega)) dX11_resultOf_9 ?_
  refine lv_topi (fun x_1 ex_1 => ?_)
  have lx_1 : 0 ≤ x_1.toInt ∧ x_1.toInt + (α 4 kd.toNatClampNeg).toInt ≤ (σ 15).toInt := by rw [ex_1]; omega
  refine lv_aload_n hf.1 hf.2.1 dX11_resultOf_10 rfl (lv_at hl 0 rfl) ?_
  refine ggetA hf hw 4 (by decide) k1385 dX11_resultOf_11 ?_
  refine lv_iload_n hf.1 hf.2.1 dX11_resultOf_14 rfl (lv_at hl 1 rfl) ?_
  refine gild hf hw 4 (by decide) rfl (n := 6000) (f := α 4) rfl (ti_in (by omega) (by omega)) dX11_resultOf_15 ?_
  refine lv_topi (fun x_2 ex_2 => ?_)
  have lx_2 : x_2.toInt = (α 4 kd.toNatClampNeg).toInt := by rw [ex_2]
  refine lv_iadd hf.1 hf.2.1 dX11_resultOf_16 ?_
  refine lv_topi (fun x_3 ex_3 => ?_)
  have tx_3 : x_3.toInt = x_1.toInt + x_2.toInt := by rw [ex_3]; exact ti_add (by show _ ≤ x_1.toInt + x_2.toInt; omega) (by show x_1.toInt + x_2.toInt ≤ _; omega)
  refine lv_iconst (v := 1) hf.1 hf.2.1 dX11_resultOf_17 (by decide) ?_
  refine lv_isub hf.1 hf.2.1 dX11_resultOf_18 ?_
  refine lv_topi (fun x_4 ex_4 => ?_)
  have tx_4 : x_4.toInt = x_3.toInt - (1 : Int) := by rw [ex_4]; exact ti_sub (by show _ ≤ x_3.toInt - (1 : Int); omega) (by show x_3.toInt - (1 : Int) ≤ _; omega)
  refine gild hf hw 8 (by decide) rfl (n := 20000) (f := α 8) rfl (ti_in (by omega) (by omega)) dX11_resultOf_19 ?_
  refine lv_topi (fun x_5 ex_5 => ?_)
  have lx_5 : 0 ≤ x_5.toInt ∧ x_5.toInt < (σ 13).toInt := by
    have q1 := tnc (show 0 ≤ x_4.toInt by omega)
    have q2 := hKT.2 x_4.toNatClampNeg (by omega)
    rw [ex_5]; exact q2
  exact gret_i (v := x_5) hf hr hlk hw ⟨offS.rf, offA.rf, offA.rf, rfl, (by show 0 ≤ x_5.toInt ∧ x_5.toInt < (σ 13).toInt; omega)⟩ dX11_resultOf_20

set_option maxHeartbeats 4000000 in
set_option maxRecDepth 100000 in
theorem m_paramOf (l : Launch) (dC : Nat → ClassId) (dI : Nat → Nat → Nat) (h0 : Nat) (ad : Nat → Nat) (cA : Nat → ClassId) (σ : Nat → Int32) (τ : Int64) (α : Nat → Nat → Int32) (β : Nat → Nat → Int64) (kd i : Int32) (sz : Nat) (hK : 0 ≤ (σ 13).toInt ∧ (σ 13).toInt ≤ 6000 ∧ (σ 15).toInt ≤ 20000) (hkd : 0 ≤ kd.toInt ∧ kd.toInt < (σ 13).toInt) (hKT : KT α (σ 13).toInt (σ 15).toInt) (hm : 0 ≤ i.toInt ∧ i.toInt < (α 4 kd.toNatClampNeg).toInt) : MCi l dC dI h0 ad cA yX11_paramOf cX11_paramOf 3 (some .int) ({ frames := 6, cells := 0, slots := 0, locals := 90 } : Room) [.int kd, .int i] σ τ α β (fun r x => offS [] σ x.1 ∧ offA [] α x.2.2.1 ∧ offA [] β x.2.2.2 ∧ x.2.1 = τ ∧ (0 ≤ r.toInt ∧ r.toInt < (x.1 13).toInt)) sz := by
  refine gbody_i (by decide) (Nat.le_of_ble_eq_true rfl) ?_
  intro p e s m below meth c ls A H hf hr hlk hw hl
  have hl : lv_has ls 3 [(0, .ref h0), (1, .int kd), (2, .int i)] := hl
  have qk := tnc hkd.1
  have kt := hKT.1 kd.toNatClampNeg (by omega)
  refine lv_aload_n hf.1 hf.2.1 dX11_paramOf_0 rfl (lv_at hl 0 rfl) ?_
  refine ggetA hf hw 8 (by decide) k1391 dX11_paramOf_1 ?_
  refine lv_aload_n hf.1 hf.2.1 dX11_paramOf_4 rfl (lv_at hl 0 rfl) ?_
  refine ggetA hf hw 5 (by decide) k1386 dX11_paramOf_5 ?_
  refine lv_iload_n hf.1 hf.2.1 dX11_paramOf_8 rfl (lv_at hl 1 rfl) ?_
  refine gild hf hw 5 (by decide) rfl (n := 6000) (f := α 5) rfl (ti_in (by omega) (by omega)) dX11_paramOf_9 ?_
  refine lv_topi (fun x_1 ex_1 => ?_)
  have lx_1 : 0 ≤ x_1.toInt ∧ x_1.toInt + (α 4 kd.toNatClampNeg).toInt ≤ (σ 15).toInt := by rw [ex_1]; omega
  refine lv_iload_n hf.1 hf.2.1 dX11_paramOf_10 rfl (lv_at hl 2 rfl) ?_
  refine lv_iadd hf.1 hf.2.1 dX11_paramOf_11 ?_
  refine lv_topi (fun x_2 ex_2 => ?_)
  have tx_2 : x_2.toInt = x_1.toInt + i.toInt := by rw [ex_2]; exact ti_add (by show _ ≤ x_1.toInt + i.toInt; omega) (by show x_1.toInt + i.toInt ≤ _; omega)
  refine gild hf hw 8 (by decide) rfl (n := 20000) (f := α 8) rfl (ti_in (by omega) (by omega)) dX11_paramOf_12 ?_
  refine lv_topi (fun x_3 ex_3 => ?_)
  have lx_3 : 0 ≤ x_3.toInt ∧ x_3.toInt < (σ 13).toInt := by
    have q1 := tnc (show 0 ≤ x_2.toInt by omega)
    have q2 := hKT.2 x_2.toNatClampNeg (by omega)
    rw [ex_3]; exact q2
  exact gret_i (v := x_3) hf hr hlk hw ⟨offS.rf, offA.rf, offA.rf, rfl, (by show 0 ≤ x_3.toInt ∧ x_3.toInt < (σ 13).toInt; omega)⟩ dX11_paramOf_13

set_option maxHeartbeats 4000000 in
set_option maxRecDepth 100000 in
theorem m_kinds (l : Launch) (dC : Nat → ClassId) (dI : Nat → Nat → Nat) (h0 : Nat) (ad : Nat → Nat) (cA : Nat → ClassId) (σ : Nat → Int32) (τ : Int64) (α : Nat → Nat → Int32) (β : Nat → Nat → Int64) (sz : Nat) : MCv l dC dI h0 ad cA yX11_kinds cX11_kinds 2 ({ frames := 10, cells := 0, slots := 0, locals := 150 } : Room) [.int 0] σ τ α β (fun x => offS [13, 15] σ x.1 ∧ offA [3, 4, 5, 6, 7, 8] α x.2.2.1 ∧ offA [] β x.2.2.2 ∧ x.2.1 = τ ∧ ((x.1 13).toInt = 3 ∧ 0 ≤ (x.1 15).toInt ∧ (x.1 15).toInt ≤ 0) ∧ KT x.2.2.1 (x.1 13).toInt (x.1 15).toInt) sz := by
  refine gbody_v (by decide) (Nat.le_of_ble_eq_true rfl) ?_
  intro p e s m below meth c ls A H hf hr hlk hw hl
  have hl : lv_has ls 2 [(0, .ref h0), (1, .int 0)] := hl
  refine lv_aload_n hf.1 hf.2.1 dX11_kinds_0 rfl (lv_at hl 0 rfl) ?_
  refine lv_iload_n hf.1 hf.2.1 dX11_kinds_1 rfl (lv_at hl 1 rfl) ?_
  refine gput hf hw 13 (by decide) k1382 rfl rfl rfl dX11_kinds_2 (fun H locs hw => ?_)
  refine lv_aload_n hf.1 hf.2.1 dX11_kinds_5 rfl (lv_at hl 0 rfl) ?_
  refine lv_iconst (v := 0) hf.1 hf.2.1 dX11_kinds_6 (by decide) ?_
  refine gput hf hw 15 (by decide) k1389 rfl rfl rfl dX11_kinds_7 (fun H locs hw => ?_)
  refine lv_aload_n hf.1 hf.2.1 dX11_kinds_10 rfl (lv_at hl 0 rfl) ?_
  refine lv_iconst (v := 1) hf.1 hf.2.1 dX11_kinds_11 (by decide) ?_
  refine lv_iconst (v := 0) hf.1 hf.2.1 dX11_kinds_12 (by decide) ?_
  refine lv_iconst (v := 0) hf.1 hf.2.1 dX11_kinds_13 (by decide) ?_
  have hKT : KT α (0 : Int) (0 : Int) := ⟨fun k h => by omega, fun j h => by omega⟩
  refine gcall_i (As := [.int 1, .int 0, .int 0]) (rest := []) hf hw (m_kindOf l dC dI h0 ad cA (uS (uS σ 13 0) 15 0) τ α β 1 0 0 H.size (by show 0 ≤ (0 : Int) ∧ (0 : Int) ≤ 5999; omega) (by show 0 ≤ (0 : Int) ∧ (0 : Int) + (0 : Int) ≤ 20000; omega) (by show 0 ≤ (0 : Int) ∧ (0 : Int) ≤ 3100; omega) (by show 0 ≤ (0 : Int) ∧ (0 : Int) + (0 : Int) ≤ 3100; omega) (by show ((1 : Int) = 4 → (0 : Int) = 1) ∧ ((1 : Int) = 5 → 1 ≤ (0 : Int)); omega) hKT (fun j h1 h2 => by have e5 : (0 : Int32).toInt = 0 := rfl; omega)) ka_X11_kindOf kv_X11_kindOf rfl k1361 rfl rfl hl.1 rfl rfl ⟨Nat.le_of_ble_eq_true rfl, Nat.le_of_ble_eq_true rfl⟩ (Nat.le_of_ble_eq_true rfl) ⟨Nat.le_refl _, Nat.le_refl _⟩ dX11_kinds_14 (fun r_2 w_1 hw_1 H locs hw => ?_)
  obtain ⟨σ_1, τ_1, α_1, β_1⟩ := w_1
  obtain ⟨hS_1, hA_1, hB_1, hT_1, hp_1, hnKT, hx_1⟩ := hw_1
  obtain rfl : τ = τ_1 := hT_1.symm
  obtain rfl : β = β_1 := (offA_nil hB_1).symm
  have hp_1 : 0 ≤ r_2.toInt ∧ r_2.toInt < (σ_1 13).toInt ∧ (0 : Int) ≤ (σ_1 13).toInt ∧ (σ_1 13).toInt ≤ (0 : Int) + 1 ∧ (0 : Int) ≤ (σ_1 15).toInt ∧ (σ_1 15).toInt ≤ (0 : Int) + (0 : Int) := hp_1
  have f_1_0 : (σ_1 0).toInt = (σ 0).toInt := congrArg Int32.toInt (hS_1 0 (by decide))
  have f_1_1 : (σ_1 1).toInt = (σ 1).toInt := congrArg Int32.toInt (hS_1 1 (by decide))
  have f_1_5 : (σ_1 5).toInt = (σ 5).toInt := congrArg Int32.toInt (hS_1 5 (by decide))
  have f_1_6 : (σ_1 6).toInt = (σ 6).toInt := congrArg Int32.toInt (hS_1 6 (by decide))
  have f_1_7 : (σ_1 7).toInt = (σ 7).toInt := congrArg Int32.toInt (hS_1 7 (by decide))
  have f_1_9 : (σ_1 9).toInt = (σ 9).toInt := congrArg Int32.toInt (hS_1 9 (by decide))
  have f_1_17 : (σ_1 17).toInt = (σ 17).toInt := congrArg Int32.toInt (hS_1 17 (by decide))
  have f_1_18 : (σ_1 18).toInt = (σ 18).toInt := congrArg Int32.toInt (hS_1 18 (by decide))
  have f_1_19 : (σ_1 19).toInt = (σ 19).toInt := congrArg Int32.toInt (hS_1 19 (by decide))
  have f_1_20 : (σ_1 20).toInt = (σ 20).toInt := congrArg Int32.toInt (hS_1 20 (by decide))
  have f_1_21 : (σ_1 21).toInt = (σ 21).toInt := congrArg Int32.toInt (hS_1 21 (by decide))
  have f_1_22 : (σ_1 22).toInt = (σ 22).toInt := congrArg Int32.toInt (hS_1 22 (by decide))
  have hx_1 : ((σ_1 13).toInt = (0 : Int) → α_1 3 = α 3 ∧ (α_1 3 r_2.toNatClampNeg).toInt = (1 : Int)) ∧ ((σ_1 13).toInt = (0 : Int) + 1 → α_1 3 = upd (α 3) (0 : Int32).toNatClampNeg 1) := hx_1
  have hw : Wd dC dI A (MW h0 ad cA σ_1 τ α_1 β) (MT cA) s H locs := hw
  have hKT : KT α_1 (σ_1 13).toInt (σ_1 15).toInt := hnKT
  refine lv_pop hf.1 hf.2.1 dX11_kinds_17 rfl ?_
  refine lv_aload_n hf.1 hf.2.1 dX11_kinds_18 rfl (lv_at hl 0 rfl) ?_
  refine lv_iconst (v := 2) hf.1 hf.2.1 dX11_kinds_19 (by decide) ?_
  refine lv_iconst (v := 0) hf.1 hf.2.1 dX11_kinds_20 (by decide) ?_
  refine lv_iconst (v := 0) hf.1 hf.2.1 dX11_kinds_21 (by decide) ?_
  have a0 : (σ_1 13).toInt = 1 ∧ (α_1 3 0).toInt = 1 := by
    have q : (σ_1 13).toInt = 1 := by omega
    refine ⟨q, ?_⟩
    rw [hx_1.2 q]; rfl
  refine gcall_i (As := [.int 2, .int 0, .int 0]) (rest := []) hf hw (m_kindOf l dC dI h0 ad cA σ_1 τ α_1 β 2 0 0 H.size (by show 0 ≤ (σ_1 13).toInt ∧ (σ_1 13).toInt ≤ 5999; omega) (by show 0 ≤ (σ_1 15).toInt ∧ (σ_1 15).toInt + (0 : Int) ≤ 20000; omega) (by show 0 ≤ (0 : Int) ∧ (0 : Int) ≤ 3100; omega) (by show 0 ≤ (0 : Int) ∧ (0 : Int) + (0 : Int) ≤ 3100; omega) (by show ((2 : Int) = 4 → (0 : Int) = 1) ∧ ((2 : Int) = 5 → 1 ≤ (0 : Int)); omega) hKT (fun j h1 h2 => by have e5 : (0 : Int32).toInt = 0 := rfl; omega)) ka_X11_kindOf kv_X11_kindOf rfl k1361 rfl rfl hl.1 rfl rfl ⟨Nat.le_of_ble_eq_true rfl, Nat.le_of_ble_eq_true rfl⟩ (Nat.le_of_ble_eq_true rfl) ⟨Nat.le_refl _, Nat.le_refl _⟩ dX11_kinds_22 (fun r_4 w_3 hw_3 H locs hw => ?_)
  obtain ⟨σ_3, τ_3, α_3, β_3⟩ := w_3
  obtain ⟨hS_3, hA_3, hB_3, hT_3, hp_3, hnKT, hx_3⟩ := hw_3
  obtain rfl : τ = τ_3 := hT_3.symm
  obtain rfl : β = β_3 := (offA_nil hB_3).symm
  have hp_3 : 0 ≤ r_4.toInt ∧ r_4.toInt < (σ_3 13).toInt ∧ (σ_1 13).toInt ≤ (σ_3 13).toInt ∧ (σ_3 13).toInt ≤ (σ_1 13).toInt + 1 ∧ (σ_1 15).toInt ≤ (σ_3 15).toInt ∧ (σ_3 15).toInt ≤ (σ_1 15).toInt + (0 : Int) := hp_3
  have f_3_0 : (σ_3 0).toInt = (σ_1 0).toInt := congrArg Int32.toInt (hS_3 0 (by decide))
  have f_3_1 : (σ_3 1).toInt = (σ_1 1).toInt := congrArg Int32.toInt (hS_3 1 (by decide))
  have f_3_5 : (σ_3 5).toInt = (σ_1 5).toInt := congrArg Int32.toInt (hS_3 5 (by decide))
  have f_3_6 : (σ_3 6).toInt = (σ_1 6).toInt := congrArg Int32.toInt (hS_3 6 (by decide))
  have f_3_7 : (σ_3 7).toInt = (σ_1 7).toInt := congrArg Int32.toInt (hS_3 7 (by decide))
  have f_3_9 : (σ_3 9).toInt = (σ_1 9).toInt := congrArg Int32.toInt (hS_3 9 (by decide))
  have f_3_17 : (σ_3 17).toInt = (σ_1 17).toInt := congrArg Int32.toInt (hS_3 17 (by decide))
  have f_3_18 : (σ_3 18).toInt = (σ_1 18).toInt := congrArg Int32.toInt (hS_3 18 (by decide))
  have f_3_19 : (σ_3 19).toInt = (σ_1 19).toInt := congrArg Int32.toInt (hS_3 19 (by decide))
  have f_3_20 : (σ_3 20).toInt = (σ_1 20).toInt := congrArg Int32.toInt (hS_3 20 (by decide))
  have f_3_21 : (σ_3 21).toInt = (σ_1 21).toInt := congrArg Int32.toInt (hS_3 21 (by decide))
  have f_3_22 : (σ_3 22).toInt = (σ_1 22).toInt := congrArg Int32.toInt (hS_3 22 (by decide))
  have hx_3 : ((σ_3 13).toInt = (σ_1 13).toInt → α_3 3 = α_1 3 ∧ (α_3 3 r_4.toNatClampNeg).toInt = (2 : Int)) ∧ ((σ_3 13).toInt = (σ_1 13).toInt + 1 → α_3 3 = upd (α_1 3) (σ_1 13).toNatClampNeg 2) := hx_3
  have hw : Wd dC dI A (MW h0 ad cA σ_3 τ α_3 β) (MT cA) s H locs := hw
  have hKT : KT α_3 (σ_3 13).toInt (σ_3 15).toInt := hnKT
  refine lv_pop hf.1 hf.2.1 dX11_kinds_25 rfl ?_
  refine lv_aload_n hf.1 hf.2.1 dX11_kinds_26 rfl (lv_at hl 0 rfl) ?_
  refine lv_iconst (v := 3) hf.1 hf.2.1 dX11_kinds_27 (by decide) ?_
  refine lv_iconst (v := 0) hf.1 hf.2.1 dX11_kinds_28 (by decide) ?_
  refine lv_iconst (v := 0) hf.1 hf.2.1 dX11_kinds_29 (by decide) ?_
  have a1 : (σ_3 13).toInt = 2 ∧ (α_3 3 0).toInt = 1 ∧ (α_3 3 1).toInt = 2 := by
    by_cases q : (σ_3 13).toInt = 2
    · refine ⟨q, ?_, ?_⟩
      · rw [hx_3.2 (by omega), updI, if_neg (by have := tnc (show 0 ≤ (σ_1 13).toInt by omega); omega)]; exact a0.2
      · rw [hx_3.2 (by omega), updI, if_pos (by have := tnc (show 0 ≤ (σ_1 13).toInt by omega); omega)]; rfl
    · exfalso
      have z := hx_3.1 (by omega)
      have e0 : r_4.toNatClampNeg = 0 := by have := tnc (show 0 ≤ r_4.toInt by omega); omega
      have z2 := z.2
      rw [e0, z.1] at z2
      have e2 : (2 : Int32).toInt = 2 := rfl
      omega
  refine gcall_i (As := [.int 3, .int 0, .int 0]) (rest := []) hf hw (m_kindOf l dC dI h0 ad cA σ_3 τ α_3 β 3 0 0 H.size (by show 0 ≤ (σ_3 13).toInt ∧ (σ_3 13).toInt ≤ 5999; omega) (by show 0 ≤ (σ_3 15).toInt ∧ (σ_3 15).toInt + (0 : Int) ≤ 20000; omega) (by show 0 ≤ (0 : Int) ∧ (0 : Int) ≤ 3100; omega) (by show 0 ≤ (0 : Int) ∧ (0 : Int) + (0 : Int) ≤ 3100; omega) (by show ((3 : Int) = 4 → (0 : Int) = 1) ∧ ((3 : Int) = 5 → 1 ≤ (0 : Int)); omega) hKT (fun j h1 h2 => by have e5 : (0 : Int32).toInt = 0 := rfl; omega)) ka_X11_kindOf kv_X11_kindOf rfl k1361 rfl rfl hl.1 rfl rfl ⟨Nat.le_of_ble_eq_true rfl, Nat.le_of_ble_eq_true rfl⟩ (Nat.le_of_ble_eq_true rfl) ⟨Nat.le_refl _, Nat.le_refl _⟩ dX11_kinds_30 (fun r_6 w_5 hw_5 H locs hw => ?_)
  obtain ⟨σ_5, τ_5, α_5, β_5⟩ := w_5
  obtain ⟨hS_5, hA_5, hB_5, hT_5, hp_5, hnKT, hx_5⟩ := hw_5
  obtain rfl : τ = τ_5 := hT_5.symm
  obtain rfl : β = β_5 := (offA_nil hB_5).symm
  have hp_5 : 0 ≤ r_6.toInt ∧ r_6.toInt < (σ_5 13).toInt ∧ (σ_3 13).toInt ≤ (σ_5 13).toInt ∧ (σ_5 13).toInt ≤ (σ_3 13).toInt + 1 ∧ (σ_3 15).toInt ≤ (σ_5 15).toInt ∧ (σ_5 15).toInt ≤ (σ_3 15).toInt + (0 : Int) := hp_5
  have f_5_0 : (σ_5 0).toInt = (σ_3 0).toInt := congrArg Int32.toInt (hS_5 0 (by decide))
  have f_5_1 : (σ_5 1).toInt = (σ_3 1).toInt := congrArg Int32.toInt (hS_5 1 (by decide))
  have f_5_5 : (σ_5 5).toInt = (σ_3 5).toInt := congrArg Int32.toInt (hS_5 5 (by decide))
  have f_5_6 : (σ_5 6).toInt = (σ_3 6).toInt := congrArg Int32.toInt (hS_5 6 (by decide))
  have f_5_7 : (σ_5 7).toInt = (σ_3 7).toInt := congrArg Int32.toInt (hS_5 7 (by decide))
  have f_5_9 : (σ_5 9).toInt = (σ_3 9).toInt := congrArg Int32.toInt (hS_5 9 (by decide))
  have f_5_17 : (σ_5 17).toInt = (σ_3 17).toInt := congrArg Int32.toInt (hS_5 17 (by decide))
  have f_5_18 : (σ_5 18).toInt = (σ_3 18).toInt := congrArg Int32.toInt (hS_5 18 (by decide))
  have f_5_19 : (σ_5 19).toInt = (σ_3 19).toInt := congrArg Int32.toInt (hS_5 19 (by decide))
  have f_5_20 : (σ_5 20).toInt = (σ_3 20).toInt := congrArg Int32.toInt (hS_5 20 (by decide))
  have f_5_21 : (σ_5 21).toInt = (σ_3 21).toInt := congrArg Int32.toInt (hS_5 21 (by decide))
  have f_5_22 : (σ_5 22).toInt = (σ_3 22).toInt := congrArg Int32.toInt (hS_5 22 (by decide))
  have hx_5 : ((σ_5 13).toInt = (σ_3 13).toInt → α_5 3 = α_3 3 ∧ (α_5 3 r_6.toNatClampNeg).toInt = (3 : Int)) ∧ ((σ_5 13).toInt = (σ_3 13).toInt + 1 → α_5 3 = upd (α_3 3) (σ_3 13).toNatClampNeg 3) := hx_5
  have hw : Wd dC dI A (MW h0 ad cA σ_5 τ α_5 β) (MT cA) s H locs := hw
  have hKT : KT α_5 (σ_5 13).toInt (σ_5 15).toInt := hnKT
  refine lv_pop hf.1 hf.2.1 dX11_kinds_33 rfl ?_
  have a2 : (σ_5 13).toInt = 3 := by
    by_cases q : (σ_5 13).toInt = 3
    · exact q
    · exfalso
      have z := hx_5.1 (by omega)
      have z2 := z.2
      rw [z.1] at z2
      have e3 : (3 : Int32).toInt = 3 := rfl
      have hc : r_6.toNatClampNeg = 0 ∨ r_6.toNatClampNeg = 1 := by have := tnc (show 0 ≤ r_6.toInt by omega); omega
      rcases hc with e0 | e0 <;> rw [e0] at z2 <;> omega
  exact gret_v hf hr hlk hw ⟨(((((offS.rf.put 13 (by decide) 0).put 15 (by decide) 0).tr hS_1 (by decide)).tr hS_3 (by decide)).tr hS_5 (by decide)), (((offA.rf.tr hA_1 (by decide)).tr hA_3 (by decide)).tr hA_5 (by decide)), offA.rf, rfl, (by show (σ_5 13).toInt = 3 ∧ 0 ≤ (σ_5 15).toInt ∧ (σ_5 15).toInt ≤ 0; omega), hKT⟩ dX11_kinds_34
