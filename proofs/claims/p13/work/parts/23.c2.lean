theorem dX2_bind_0 : decode cX2_bind 0 = .ok (.aload_n 0, 1) := by decide +kernel
theorem dX2_bind_1 : decode cX2_bind 1 = .ok (.invokevirtual 143, 3) := by decide +kernel
theorem dX2_bind_4 : decode cX2_bind 4 = .ok (.istore_n 2, 1) := by decide +kernel
theorem dX2_bind_5 : decode cX2_bind 5 = .ok (.iload_n 1, 1) := by decide +kernel
theorem dX2_bind_6 : decode cX2_bind 6 = .ok (.ifCond .lt 16, 3) := by decide +kernel
theorem dX2_bind_9 : decode cX2_bind 9 = .ok (.iload_n 1, 1) := by decide +kernel
theorem dX2_bind_10 : decode cX2_bind 10 = .ok (.bipush 44, 2) := by decide +kernel
theorem dX2_bind_12 : decode cX2_bind 12 = .ok (.if_icmp .ge 10, 3) := by decide +kernel
theorem dX2_bind_15 : decode cX2_bind 15 = .ok (.aload_n 0, 1) := by decide +kernel
theorem dX2_bind_16 : decode cX2_bind 16 = .ok (.getfield 47, 3) := by decide +kernel
theorem dX2_bind_19 : decode cX2_bind 19 = .ok (.iload_n 1, 1) := by decide +kernel
theorem dX2_bind_20 : decode cX2_bind 20 = .ok (.iload_n 2, 1) := by decide +kernel
theorem dX2_bind_21 : decode cX2_bind 21 = .ok (.iastore, 1) := by decide +kernel
theorem dX2_bind_22 : decode cX2_bind 22 = .ok (.return_, 1) := by decide +kernel
theorem dX2_judgeAsking_0 : decode cX2_judgeAsking 0 = .ok (.aload_n 0, 1) := by decide +kernel
theorem dX2_judgeAsking_1 : decode cX2_judgeAsking 1 = .ok (.getfield 15, 3) := by decide +kernel
theorem dX2_judgeAsking_4 : decode cX2_judgeAsking 4 = .ok (.getfield 122, 3) := by decide +kernel
theorem dX2_judgeAsking_7 : decode cX2_judgeAsking 7 = .ok (.iload_n 1, 1) := by decide +kernel
theorem dX2_judgeAsking_8 : decode cX2_judgeAsking 8 = .ok (.iaload, 1) := by decide +kernel
theorem dX2_judgeAsking_9 : decode cX2_judgeAsking 9 = .ok (.istore_n 2, 1) := by decide +kernel
theorem dX2_judgeAsking_10 : decode cX2_judgeAsking 10 = .ok (.aload_n 0, 1) := by decide +kernel
theorem dX2_judgeAsking_11 : decode cX2_judgeAsking 11 = .ok (.getfield 15, 3) := by decide +kernel
theorem dX2_judgeAsking_14 : decode cX2_judgeAsking 14 = .ok (.getfield 111, 3) := by decide +kernel
theorem dX2_judgeAsking_17 : decode cX2_judgeAsking 17 = .ok (.iload_n 1, 1) := by decide +kernel
theorem dX2_judgeAsking_18 : decode cX2_judgeAsking 18 = .ok (.iaload, 1) := by decide +kernel
theorem dX2_judgeAsking_19 : decode cX2_judgeAsking 19 = .ok (.tableswitch 235 27 35 #[49, 62, 75, 85, 85, 94, 124, 148, 214], 49) := by decide +kernel
theorem dX2_judgeAsking_68 : decode cX2_judgeAsking 68 = .ok (.aload_n 0, 1) := by decide +kernel
theorem dX2_judgeAsking_69 : decode cX2_judgeAsking 69 = .ok (.iload_n 1, 1) := by decide +kernel
theorem dX2_judgeAsking_70 : decode cX2_judgeAsking 70 = .ok (.iconst 0, 1) := by decide +kernel
theorem dX2_judgeAsking_71 : decode cX2_judgeAsking 71 = .ok (.aload_n 0, 1) := by decide +kernel
theorem dX2_judgeAsking_72 : decode cX2_judgeAsking 72 = .ok (.getfield 23, 3) := by decide +kernel
theorem dX2_judgeAsking_75 : decode cX2_judgeAsking 75 = .ok (.invokevirtual 174, 3) := by decide +kernel
theorem dX2_judgeAsking_78 : decode cX2_judgeAsking 78 = .ok (.goto 192, 3) := by decide +kernel
theorem dX2_judgeAsking_81 : decode cX2_judgeAsking 81 = .ok (.aload_n 0, 1) := by decide +kernel
theorem dX2_judgeAsking_82 : decode cX2_judgeAsking 82 = .ok (.iload_n 1, 1) := by decide +kernel
theorem dX2_judgeAsking_83 : decode cX2_judgeAsking 83 = .ok (.iconst 1, 1) := by decide +kernel
theorem dX2_judgeAsking_84 : decode cX2_judgeAsking 84 = .ok (.aload_n 0, 1) := by decide +kernel
theorem dX2_judgeAsking_85 : decode cX2_judgeAsking 85 = .ok (.getfield 23, 3) := by decide +kernel
theorem dX2_judgeAsking_88 : decode cX2_judgeAsking 88 = .ok (.invokevirtual 174, 3) := by decide +kernel
theorem dX2_judgeAsking_91 : decode cX2_judgeAsking 91 = .ok (.goto 179, 3) := by decide +kernel
theorem dX2_judgeAsking_94 : decode cX2_judgeAsking 94 = .ok (.aload_n 0, 1) := by decide +kernel
theorem dX2_judgeAsking_95 : decode cX2_judgeAsking 95 = .ok (.iload_n 1, 1) := by decide +kernel
theorem dX2_judgeAsking_96 : decode cX2_judgeAsking 96 = .ok (.iconst 3, 1) := by decide +kernel
theorem dX2_judgeAsking_97 : decode cX2_judgeAsking 97 = .ok (.iconst 3, 1) := by decide +kernel
theorem dX2_judgeAsking_98 : decode cX2_judgeAsking 98 = .ok (.invokevirtual 178, 3) := by decide +kernel
theorem dX2_judgeAsking_101 : decode cX2_judgeAsking 101 = .ok (.goto 169, 3) := by decide +kernel
theorem dX2_judgeAsking_104 : decode cX2_judgeAsking 104 = .ok (.aload_n 0, 1) := by decide +kernel
theorem dX2_judgeAsking_105 : decode cX2_judgeAsking 105 = .ok (.iload_n 1, 1) := by decide +kernel
theorem dX2_judgeAsking_106 : decode cX2_judgeAsking 106 = .ok (.iload_n 2, 1) := by decide +kernel
theorem dX2_judgeAsking_107 : decode cX2_judgeAsking 107 = .ok (.invokevirtual 181, 3) := by decide +kernel
theorem dX2_judgeAsking_110 : decode cX2_judgeAsking 110 = .ok (.goto 160, 3) := by decide +kernel
theorem dX2_judgeAsking_113 : decode cX2_judgeAsking 113 = .ok (.aload_n 0, 1) := by decide +kernel
theorem dX2_judgeAsking_114 : decode cX2_judgeAsking 114 = .ok (.iload_n 1, 1) := by decide +kernel
theorem dX2_judgeAsking_115 : decode cX2_judgeAsking 115 = .ok (.aload_n 0, 1) := by decide +kernel
theorem dX2_judgeAsking_116 : decode cX2_judgeAsking 116 = .ok (.getfield 19, 3) := by decide +kernel
theorem dX2_judgeAsking_119 : decode cX2_judgeAsking 119 = .ok (.aload_n 0, 1) := by decide +kernel
theorem dX2_judgeAsking_120 : decode cX2_judgeAsking 120 = .ok (.iload_n 2, 1) := by decide +kernel
theorem dX2_judgeAsking_121 : decode cX2_judgeAsking 121 = .ok (.iconst 1, 1) := by decide +kernel
theorem dX2_judgeAsking_122 : decode cX2_judgeAsking 122 = .ok (.iadd, 1) := by decide +kernel
theorem dX2_judgeAsking_123 : decode cX2_judgeAsking 123 = .ok (.invokevirtual 154, 3) := by decide +kernel
theorem dX2_judgeAsking_126 : decode cX2_judgeAsking 126 = .ok (.iload_n 2, 1) := by decide +kernel
theorem dX2_judgeAsking_127 : decode cX2_judgeAsking 127 = .ok (.invokevirtual 184, 3) := by decide +kernel
theorem dX2_judgeAsking_130 : decode cX2_judgeAsking 130 = .ok (.aload_n 0, 1) := by decide +kernel
theorem dX2_judgeAsking_131 : decode cX2_judgeAsking 131 = .ok (.iload_n 2, 1) := by decide +kernel
theorem dX2_judgeAsking_132 : decode cX2_judgeAsking 132 = .ok (.iconst 1, 1) := by decide +kernel
theorem dX2_judgeAsking_133 : decode cX2_judgeAsking 133 = .ok (.iadd, 1) := by decide +kernel
theorem dX2_judgeAsking_134 : decode cX2_judgeAsking 134 = .ok (.invokevirtual 187, 3) := by decide +kernel
theorem dX2_judgeAsking_137 : decode cX2_judgeAsking 137 = .ok (.invokevirtual 174, 3) := by decide +kernel
theorem dX2_judgeAsking_140 : decode cX2_judgeAsking 140 = .ok (.goto 130, 3) := by decide +kernel
theorem dX2_judgeAsking_143 : decode cX2_judgeAsking 143 = .ok (.aload_n 0, 1) := by decide +kernel
theorem dX2_judgeAsking_144 : decode cX2_judgeAsking 144 = .ok (.iload_n 1, 1) := by decide +kernel
theorem dX2_judgeAsking_145 : decode cX2_judgeAsking 145 = .ok (.aload_n 0, 1) := by decide +kernel
theorem dX2_judgeAsking_146 : decode cX2_judgeAsking 146 = .ok (.getfield 19, 3) := by decide +kernel
theorem dX2_judgeAsking_149 : decode cX2_judgeAsking 149 = .ok (.aload_n 0, 1) := by decide +kernel
theorem dX2_judgeAsking_150 : decode cX2_judgeAsking 150 = .ok (.iconst 2, 1) := by decide +kernel
theorem dX2_judgeAsking_151 : decode cX2_judgeAsking 151 = .ok (.invokevirtual 154, 3) := by decide +kernel
theorem dX2_judgeAsking_154 : decode cX2_judgeAsking 154 = .ok (.invokevirtual 160, 3) := by decide +kernel
theorem dX2_judgeAsking_157 : decode cX2_judgeAsking 157 = .ok (.aload_n 0, 1) := by decide +kernel
theorem dX2_judgeAsking_158 : decode cX2_judgeAsking 158 = .ok (.getfield 23, 3) := by decide +kernel
theorem dX2_judgeAsking_161 : decode cX2_judgeAsking 161 = .ok (.invokevirtual 174, 3) := by decide +kernel
theorem dX2_judgeAsking_164 : decode cX2_judgeAsking 164 = .ok (.goto 106, 3) := by decide +kernel
theorem dX2_judgeAsking_167 : decode cX2_judgeAsking 167 = .ok (.aload_n 0, 1) := by decide +kernel
theorem dX2_judgeAsking_168 : decode cX2_judgeAsking 168 = .ok (.getfield 33, 3) := by decide +kernel
theorem dX2_judgeAsking_171 : decode cX2_judgeAsking 171 = .ok (.aload_n 0, 1) := by decide +kernel
theorem dX2_judgeAsking_172 : decode cX2_judgeAsking 172 = .ok (.getfield 23, 3) := by decide +kernel
theorem dX2_judgeAsking_175 : decode cX2_judgeAsking 175 = .ok (.aload_n 0, 1) := by decide +kernel
theorem dX2_judgeAsking_176 : decode cX2_judgeAsking 176 = .ok (.getfield 33, 3) := by decide +kernel
theorem dX2_judgeAsking_179 : decode cX2_judgeAsking 179 = .ok (.aload_n 0, 1) := by decide +kernel
theorem dX2_judgeAsking_180 : decode cX2_judgeAsking 180 = .ok (.getfield 23, 3) := by decide +kernel
theorem dX2_judgeAsking_183 : decode cX2_judgeAsking 183 = .ok (.baload, 1) := by decide +kernel
theorem dX2_judgeAsking_184 : decode cX2_judgeAsking 184 = .ok (.ifCond .ne 22, 3) := by decide +kernel
theorem dX2_judgeAsking_187 : decode cX2_judgeAsking 187 = .ok (.aload_n 0, 1) := by decide +kernel
theorem dX2_judgeAsking_188 : decode cX2_judgeAsking 188 = .ok (.getfield 19, 3) := by decide +kernel
theorem dX2_judgeAsking_191 : decode cX2_judgeAsking 191 = .ok (.aload_n 0, 1) := by decide +kernel
theorem dX2_judgeAsking_192 : decode cX2_judgeAsking 192 = .ok (.aload_n 0, 1) := by decide +kernel
theorem dX2_judgeAsking_193 : decode cX2_judgeAsking 193 = .ok (.getfield 23, 3) := by decide +kernel
theorem dX2_judgeAsking_196 : decode cX2_judgeAsking 196 = .ok (.iload_n 2, 1) := by decide +kernel
theorem dX2_judgeAsking_197 : decode cX2_judgeAsking 197 = .ok (.invokevirtual 92, 3) := by decide +kernel
theorem dX2_judgeAsking_200 : decode cX2_judgeAsking 200 = .ok (.invokevirtual 101, 3) := by decide +kernel
theorem dX2_judgeAsking_203 : decode cX2_judgeAsking 203 = .ok (.ifCond .eq 7, 3) := by decide +kernel
theorem dX2_judgeAsking_206 : decode cX2_judgeAsking 206 = .ok (.iconst 1, 1) := by decide +kernel
theorem dX2_judgeAsking_207 : decode cX2_judgeAsking 207 = .ok (.goto 4, 3) := by decide +kernel
theorem dX2_judgeAsking_210 : decode cX2_judgeAsking 210 = .ok (.iconst 0, 1) := by decide +kernel
theorem dX2_judgeAsking_211 : decode cX2_judgeAsking 211 = .ok (.bastore, 1) := by decide +kernel
theorem dX2_judgeAsking_212 : decode cX2_judgeAsking 212 = .ok (.aload_n 0, 1) := by decide +kernel
theorem dX2_judgeAsking_213 : decode cX2_judgeAsking 213 = .ok (.iload_n 1, 1) := by decide +kernel
theorem dX2_judgeAsking_214 : decode cX2_judgeAsking 214 = .ok (.aload_n 0, 1) := by decide +kernel
theorem dX2_judgeAsking_215 : decode cX2_judgeAsking 215 = .ok (.aload_n 0, 1) := by decide +kernel
theorem dX2_judgeAsking_216 : decode cX2_judgeAsking 216 = .ok (.getfield 23, 3) := by decide +kernel
theorem dX2_judgeAsking_219 : decode cX2_judgeAsking 219 = .ok (.iload_n 2, 1) := by decide +kernel
theorem dX2_judgeAsking_220 : decode cX2_judgeAsking 220 = .ok (.invokevirtual 92, 3) := by decide +kernel
theorem dX2_judgeAsking_223 : decode cX2_judgeAsking 223 = .ok (.aload_n 0, 1) := by decide +kernel
theorem dX2_judgeAsking_224 : decode cX2_judgeAsking 224 = .ok (.getfield 23, 3) := by decide +kernel
theorem dX2_judgeAsking_227 : decode cX2_judgeAsking 227 = .ok (.invokevirtual 174, 3) := by decide +kernel
theorem dX2_judgeAsking_230 : decode cX2_judgeAsking 230 = .ok (.goto 40, 3) := by decide +kernel
theorem dX2_judgeAsking_233 : decode cX2_judgeAsking 233 = .ok (.aload_n 0, 1) := by decide +kernel
theorem dX2_judgeAsking_234 : decode cX2_judgeAsking 234 = .ok (.iload_n 1, 1) := by decide +kernel
theorem dX2_judgeAsking_235 : decode cX2_judgeAsking 235 = .ok (.aload_n 0, 1) := by decide +kernel
theorem dX2_judgeAsking_236 : decode cX2_judgeAsking 236 = .ok (.getfield 41, 3) := by decide +kernel
theorem dX2_judgeAsking_239 : decode cX2_judgeAsking 239 = .ok (.aload_n 0, 1) := by decide +kernel
theorem dX2_judgeAsking_240 : decode cX2_judgeAsking 240 = .ok (.getfield 23, 3) := by decide +kernel
theorem dX2_judgeAsking_243 : decode cX2_judgeAsking 243 = .ok (.iaload, 1) := by decide +kernel
theorem dX2_judgeAsking_244 : decode cX2_judgeAsking 244 = .ok (.aload_n 0, 1) := by decide +kernel
theorem dX2_judgeAsking_245 : decode cX2_judgeAsking 245 = .ok (.getfield 23, 3) := by decide +kernel
theorem dX2_judgeAsking_248 : decode cX2_judgeAsking 248 = .ok (.invokevirtual 174, 3) := by decide +kernel
theorem dX2_judgeAsking_251 : decode cX2_judgeAsking 251 = .ok (.goto 19, 3) := by decide +kernel
theorem dX2_judgeAsking_254 : decode cX2_judgeAsking 254 = .ok (.aload_n 0, 1) := by decide +kernel
theorem dX2_judgeAsking_255 : decode cX2_judgeAsking 255 = .ok (.getfield 53, 3) := by decide +kernel
theorem dX2_judgeAsking_258 : decode cX2_judgeAsking 258 = .ok (.iconst 0, 1) := by decide +kernel
theorem dX2_judgeAsking_259 : decode cX2_judgeAsking 259 = .ok (.aload_n 0, 1) := by decide +kernel
theorem dX2_judgeAsking_260 : decode cX2_judgeAsking 260 = .ok (.getfield 59, 3) := by decide +kernel
theorem dX2_judgeAsking_263 : decode cX2_judgeAsking 263 = .ok (.iconst 1, 1) := by decide +kernel
theorem dX2_judgeAsking_264 : decode cX2_judgeAsking 264 = .ok (.isub, 1) := by decide +kernel
theorem dX2_judgeAsking_265 : decode cX2_judgeAsking 265 = .ok (.invokestatic 132, 3) := by decide +kernel
theorem dX2_judgeAsking_268 : decode cX2_judgeAsking 268 = .ok (.iload_n 1, 1) := by decide +kernel
theorem dX2_judgeAsking_269 : decode cX2_judgeAsking 269 = .ok (.iastore, 1) := by decide +kernel
theorem dX2_judgeAsking_270 : decode cX2_judgeAsking 270 = .ok (.return_, 1) := by decide +kernel
theorem dX2_judgePlain_0 : decode cX2_judgePlain 0 = .ok (.iload_n 1, 1) := by decide +kernel
theorem dX2_judgePlain_1 : decode cX2_judgePlain 1 = .ok (.tableswitch 156 0 9 #[55, 58, 66, 74, 101, 128, 136, 55, 144, 136], 55) := by decide +kernel
theorem dX2_judgePlain_56 : decode cX2_judgePlain 56 = .ok (.goto 117, 3) := by decide +kernel
theorem dX2_judgePlain_59 : decode cX2_judgePlain 59 = .ok (.aload_n 0, 1) := by decide +kernel
theorem dX2_judgePlain_60 : decode cX2_judgePlain 60 = .ok (.iconst 0, 1) := by decide +kernel
theorem dX2_judgePlain_61 : decode cX2_judgePlain 61 = .ok (.invokevirtual 137, 3) := by decide +kernel
theorem dX2_judgePlain_64 : decode cX2_judgePlain 64 = .ok (.goto 109, 3) := by decide +kernel
theorem dX2_judgePlain_67 : decode cX2_judgePlain 67 = .ok (.aload_n 0, 1) := by decide +kernel
theorem dX2_judgePlain_68 : decode cX2_judgePlain 68 = .ok (.iconst 1, 1) := by decide +kernel
theorem dX2_judgePlain_69 : decode cX2_judgePlain 69 = .ok (.invokevirtual 137, 3) := by decide +kernel
theorem dX2_judgePlain_72 : decode cX2_judgePlain 72 = .ok (.goto 101, 3) := by decide +kernel
theorem dX2_judgePlain_75 : decode cX2_judgePlain 75 = .ok (.aload_n 0, 1) := by decide +kernel
theorem dX2_judgePlain_76 : decode cX2_judgePlain 76 = .ok (.iload_n 2, 1) := by decide +kernel
theorem dX2_judgePlain_77 : decode cX2_judgePlain 77 = .ok (.ifCond .lt 18, 3) := by decide +kernel
theorem dX2_judgePlain_80 : decode cX2_judgePlain 80 = .ok (.iload_n 2, 1) := by decide +kernel
theorem dX2_judgePlain_81 : decode cX2_judgePlain 81 = .ok (.bipush 44, 2) := by decide +kernel
theorem dX2_judgePlain_83 : decode cX2_judgePlain 83 = .ok (.if_icmp .ge 12, 3) := by decide +kernel
theorem dX2_judgePlain_86 : decode cX2_judgePlain 86 = .ok (.aload_n 0, 1) := by decide +kernel
theorem dX2_judgePlain_87 : decode cX2_judgePlain 87 = .ok (.getfield 47, 3) := by decide +kernel
theorem dX2_judgePlain_90 : decode cX2_judgePlain 90 = .ok (.iload_n 2, 1) := by decide +kernel
theorem dX2_judgePlain_91 : decode cX2_judgePlain 91 = .ok (.iaload, 1) := by decide +kernel
theorem dX2_judgePlain_92 : decode cX2_judgePlain 92 = .ok (.goto 4, 3) := by decide +kernel
theorem dX2_judgePlain_95 : decode cX2_judgePlain 95 = .ok (.iconst 2, 1) := by decide +kernel
theorem dX2_judgePlain_96 : decode cX2_judgePlain 96 = .ok (.invokevirtual 137, 3) := by decide +kernel
theorem dX2_judgePlain_99 : decode cX2_judgePlain 99 = .ok (.goto 74, 3) := by decide +kernel
theorem dX2_judgePlain_102 : decode cX2_judgePlain 102 = .ok (.aload_n 0, 1) := by decide +kernel
theorem dX2_judgePlain_103 : decode cX2_judgePlain 103 = .ok (.iload_n 2, 1) := by decide +kernel
theorem dX2_judgePlain_104 : decode cX2_judgePlain 104 = .ok (.ifCond .lt 18, 3) := by decide +kernel
theorem dX2_judgePlain_107 : decode cX2_judgePlain 107 = .ok (.iload_n 2, 1) := by decide +kernel
theorem dX2_judgePlain_108 : decode cX2_judgePlain 108 = .ok (.bipush 40, 2) := by decide +kernel
theorem dX2_judgePlain_110 : decode cX2_judgePlain 110 = .ok (.if_icmp .ge 12, 3) := by decide +kernel
theorem dX2_judgePlain_113 : decode cX2_judgePlain 113 = .ok (.aload_n 0, 1) := by decide +kernel
theorem dX2_judgePlain_114 : decode cX2_judgePlain 114 = .ok (.getfield 44, 3) := by decide +kernel
theorem dX2_judgePlain_117 : decode cX2_judgePlain 117 = .ok (.iload_n 2, 1) := by decide +kernel
theorem dX2_judgePlain_118 : decode cX2_judgePlain 118 = .ok (.iaload, 1) := by decide +kernel
theorem dX2_judgePlain_119 : decode cX2_judgePlain 119 = .ok (.goto 4, 3) := by decide +kernel
theorem dX2_judgePlain_122 : decode cX2_judgePlain 122 = .ok (.iconst 2, 1) := by decide +kernel
theorem dX2_judgePlain_123 : decode cX2_judgePlain 123 = .ok (.invokevirtual 137, 3) := by decide +kernel
theorem dX2_judgePlain_126 : decode cX2_judgePlain 126 = .ok (.goto 47, 3) := by decide +kernel
theorem dX2_judgePlain_129 : decode cX2_judgePlain 129 = .ok (.aload_n 0, 1) := by decide +kernel
theorem dX2_judgePlain_130 : decode cX2_judgePlain 130 = .ok (.iload_n 2, 1) := by decide +kernel
theorem dX2_judgePlain_131 : decode cX2_judgePlain 131 = .ok (.invokevirtual 140, 3) := by decide +kernel
theorem dX2_judgePlain_134 : decode cX2_judgePlain 134 = .ok (.goto 39, 3) := by decide +kernel
theorem dX2_judgePlain_137 : decode cX2_judgePlain 137 = .ok (.aload_n 0, 1) := by decide +kernel
theorem dX2_judgePlain_138 : decode cX2_judgePlain 138 = .ok (.invokevirtual 143, 3) := by decide +kernel
theorem dX2_judgePlain_141 : decode cX2_judgePlain 141 = .ok (.pop, 1) := by decide +kernel
theorem dX2_judgePlain_142 : decode cX2_judgePlain 142 = .ok (.goto 31, 3) := by decide +kernel
theorem dX2_judgePlain_145 : decode cX2_judgePlain 145 = .ok (.aload_n 0, 1) := by decide +kernel
theorem dX2_judgePlain_146 : decode cX2_judgePlain 146 = .ok (.aload_n 0, 1) := by decide +kernel
theorem dX2_judgePlain_147 : decode cX2_judgePlain 147 = .ok (.iconst 2, 1) := by decide +kernel
theorem dX2_judgePlain_148 : decode cX2_judgePlain 148 = .ok (.invokevirtual 147, 3) := by decide +kernel
theorem dX2_judgePlain_151 : decode cX2_judgePlain 151 = .ok (.invokevirtual 137, 3) := by decide +kernel
theorem dX2_judgePlain_154 : decode cX2_judgePlain 154 = .ok (.goto 19, 3) := by decide +kernel
theorem dX2_judgePlain_157 : decode cX2_judgePlain 157 = .ok (.aload_n 0, 1) := by decide +kernel
theorem dX2_judgePlain_158 : decode cX2_judgePlain 158 = .ok (.aload_n 0, 1) := by decide +kernel
theorem dX2_judgePlain_159 : decode cX2_judgePlain 159 = .ok (.getfield 19, 3) := by decide +kernel
theorem dX2_judgePlain_162 : decode cX2_judgePlain 162 = .ok (.aload_n 0, 1) := by decide +kernel
theorem dX2_judgePlain_163 : decode cX2_judgePlain 163 = .ok (.iload_n 2, 1) := by decide +kernel
theorem dX2_judgePlain_164 : decode cX2_judgePlain 164 = .ok (.invokevirtual 147, 3) := by decide +kernel
theorem dX2_judgePlain_167 : decode cX2_judgePlain 167 = .ok (.invokevirtual 151, 3) := by decide +kernel
theorem dX2_judgePlain_170 : decode cX2_judgePlain 170 = .ok (.invokevirtual 137, 3) := by decide +kernel
theorem dX2_judgePlain_173 : decode cX2_judgePlain 173 = .ok (.return_, 1) := by decide +kernel
theorem dX2_judgeWork_0 : decode cX2_judgeWork 0 = .ok (.iload_n 1, 1) := by decide +kernel
theorem dX2_judgeWork_1 : decode cX2_judgeWork 1 = .ok (.tableswitch 176 11 21 #[59, 149, 149, 79, 99, 119, 141, 149, 158, 167, 167], 59) := by decide +kernel
theorem dX2_judgeWork_60 : decode cX2_judgeWork 60 = .ok (.aload_n 0, 1) := by decide +kernel
theorem dX2_judgeWork_61 : decode cX2_judgeWork 61 = .ok (.iconst 2, 1) := by decide +kernel
theorem dX2_judgeWork_62 : decode cX2_judgeWork 62 = .ok (.aload_n 0, 1) := by decide +kernel
theorem dX2_judgeWork_63 : decode cX2_judgeWork 63 = .ok (.getfield 19, 3) := by decide +kernel
theorem dX2_judgeWork_66 : decode cX2_judgeWork 66 = .ok (.aload_n 0, 1) := by decide +kernel
theorem dX2_judgeWork_67 : decode cX2_judgeWork 67 = .ok (.iconst 0, 1) := by decide +kernel
theorem dX2_judgeWork_68 : decode cX2_judgeWork 68 = .ok (.invokevirtual 154, 3) := by decide +kernel
theorem dX2_judgeWork_71 : decode cX2_judgeWork 71 = .ok (.invokevirtual 151, 3) := by decide +kernel
theorem dX2_judgeWork_74 : decode cX2_judgeWork 74 = .ok (.invokevirtual 157, 3) := by decide +kernel
theorem dX2_judgeWork_77 : decode cX2_judgeWork 77 = .ok (.goto 106, 3) := by decide +kernel
theorem dX2_judgeWork_80 : decode cX2_judgeWork 80 = .ok (.aload_n 0, 1) := by decide +kernel
theorem dX2_judgeWork_81 : decode cX2_judgeWork 81 = .ok (.iconst 2, 1) := by decide +kernel
theorem dX2_judgeWork_82 : decode cX2_judgeWork 82 = .ok (.aload_n 0, 1) := by decide +kernel
theorem dX2_judgeWork_83 : decode cX2_judgeWork 83 = .ok (.getfield 19, 3) := by decide +kernel
theorem dX2_judgeWork_86 : decode cX2_judgeWork 86 = .ok (.aload_n 0, 1) := by decide +kernel
theorem dX2_judgeWork_87 : decode cX2_judgeWork 87 = .ok (.iconst 1, 1) := by decide +kernel
theorem dX2_judgeWork_88 : decode cX2_judgeWork 88 = .ok (.invokevirtual 154, 3) := by decide +kernel
theorem dX2_judgeWork_91 : decode cX2_judgeWork 91 = .ok (.invokevirtual 160, 3) := by decide +kernel
theorem dX2_judgeWork_94 : decode cX2_judgeWork 94 = .ok (.invokevirtual 157, 3) := by decide +kernel
theorem dX2_judgeWork_97 : decode cX2_judgeWork 97 = .ok (.goto 86, 3) := by decide +kernel
theorem dX2_judgeWork_100 : decode cX2_judgeWork 100 = .ok (.aload_n 0, 1) := by decide +kernel
theorem dX2_judgeWork_101 : decode cX2_judgeWork 101 = .ok (.iconst 3, 1) := by decide +kernel
theorem dX2_judgeWork_102 : decode cX2_judgeWork 102 = .ok (.aload_n 0, 1) := by decide +kernel
theorem dX2_judgeWork_103 : decode cX2_judgeWork 103 = .ok (.getfield 19, 3) := by decide +kernel
theorem dX2_judgeWork_106 : decode cX2_judgeWork 106 = .ok (.aload_n 0, 1) := by decide +kernel
theorem dX2_judgeWork_107 : decode cX2_judgeWork 107 = .ok (.iconst 2, 1) := by decide +kernel
theorem dX2_judgeWork_108 : decode cX2_judgeWork 108 = .ok (.invokevirtual 154, 3) := by decide +kernel
theorem dX2_judgeWork_111 : decode cX2_judgeWork 111 = .ok (.invokevirtual 160, 3) := by decide +kernel
theorem dX2_judgeWork_114 : decode cX2_judgeWork 114 = .ok (.invokevirtual 157, 3) := by decide +kernel
theorem dX2_judgeWork_117 : decode cX2_judgeWork 117 = .ok (.goto 66, 3) := by decide +kernel
theorem dX2_judgeWork_120 : decode cX2_judgeWork 120 = .ok (.aload_n 0, 1) := by decide +kernel
theorem dX2_judgeWork_121 : decode cX2_judgeWork 121 = .ok (.iload_n 2, 1) := by decide +kernel
theorem dX2_judgeWork_122 : decode cX2_judgeWork 122 = .ok (.iconst 1, 1) := by decide +kernel
theorem dX2_judgeWork_123 : decode cX2_judgeWork 123 = .ok (.iadd, 1) := by decide +kernel
theorem dX2_judgeWork_124 : decode cX2_judgeWork 124 = .ok (.aload_n 0, 1) := by decide +kernel
theorem dX2_judgeWork_125 : decode cX2_judgeWork 125 = .ok (.getfield 19, 3) := by decide +kernel
theorem dX2_judgeWork_128 : decode cX2_judgeWork 128 = .ok (.aload_n 0, 1) := by decide +kernel
theorem dX2_judgeWork_129 : decode cX2_judgeWork 129 = .ok (.iload_n 2, 1) := by decide +kernel
theorem dX2_judgeWork_130 : decode cX2_judgeWork 130 = .ok (.invokevirtual 154, 3) := by decide +kernel
theorem dX2_judgeWork_133 : decode cX2_judgeWork 133 = .ok (.invokevirtual 160, 3) := by decide +kernel
theorem dX2_judgeWork_136 : decode cX2_judgeWork 136 = .ok (.invokevirtual 157, 3) := by decide +kernel
theorem dX2_judgeWork_139 : decode cX2_judgeWork 139 = .ok (.goto 44, 3) := by decide +kernel
theorem dX2_judgeWork_142 : decode cX2_judgeWork 142 = .ok (.aload_n 0, 1) := by decide +kernel
theorem dX2_judgeWork_143 : decode cX2_judgeWork 143 = .ok (.invokevirtual 143, 3) := by decide +kernel
theorem dX2_judgeWork_146 : decode cX2_judgeWork 146 = .ok (.pop, 1) := by decide +kernel
theorem dX2_judgeWork_147 : decode cX2_judgeWork 147 = .ok (.goto 36, 3) := by decide +kernel
theorem dX2_judgeWork_150 : decode cX2_judgeWork 150 = .ok (.aload_n 0, 1) := by decide +kernel
theorem dX2_judgeWork_151 : decode cX2_judgeWork 151 = .ok (.iconst 1, 1) := by decide +kernel
theorem dX2_judgeWork_152 : decode cX2_judgeWork 152 = .ok (.iconst 0, 1) := by decide +kernel
theorem dX2_judgeWork_153 : decode cX2_judgeWork 153 = .ok (.invokevirtual 157, 3) := by decide +kernel
theorem dX2_judgeWork_156 : decode cX2_judgeWork 156 = .ok (.goto 27, 3) := by decide +kernel
theorem dX2_judgeWork_159 : decode cX2_judgeWork 159 = .ok (.aload_n 0, 1) := by decide +kernel
theorem dX2_judgeWork_160 : decode cX2_judgeWork 160 = .ok (.iconst 1, 1) := by decide +kernel
theorem dX2_judgeWork_161 : decode cX2_judgeWork 161 = .ok (.iconst 1, 1) := by decide +kernel
theorem dX2_judgeWork_162 : decode cX2_judgeWork 162 = .ok (.invokevirtual 157, 3) := by decide +kernel
theorem dX2_judgeWork_165 : decode cX2_judgeWork 165 = .ok (.goto 18, 3) := by decide +kernel
theorem dX2_judgeWork_168 : decode cX2_judgeWork 168 = .ok (.aload_n 0, 1) := by decide +kernel
theorem dX2_judgeWork_169 : decode cX2_judgeWork 169 = .ok (.iconst 2, 1) := by decide +kernel
theorem dX2_judgeWork_170 : decode cX2_judgeWork 170 = .ok (.iconst 1, 1) := by decide +kernel
theorem dX2_judgeWork_171 : decode cX2_judgeWork 171 = .ok (.invokevirtual 157, 3) := by decide +kernel
theorem dX2_judgeWork_174 : decode cX2_judgeWork 174 = .ok (.goto 9, 3) := by decide +kernel
theorem dX2_judgeWork_177 : decode cX2_judgeWork 177 = .ok (.aload_n 0, 1) := by decide +kernel
theorem dX2_judgeWork_178 : decode cX2_judgeWork 178 = .ok (.iconst 2, 1) := by decide +kernel
theorem dX2_judgeWork_179 : decode cX2_judgeWork 179 = .ok (.iconst 0, 1) := by decide +kernel
theorem dX2_judgeWork_180 : decode cX2_judgeWork 180 = .ok (.invokevirtual 157, 3) := by decide +kernel
theorem dX2_judgeWork_183 : decode cX2_judgeWork 183 = .ok (.return_, 1) := by decide +kernel
theorem dX2_layGuard_0 : decode cX2_layGuard 0 = .ok (.aload_n 0, 1) := by decide +kernel
theorem dX2_layGuard_1 : decode cX2_layGuard 1 = .ok (.getfield 15, 3) := by decide +kernel
theorem dX2_layGuard_4 : decode cX2_layGuard 4 = .ok (.getfield 116, 3) := by decide +kernel
theorem dX2_layGuard_7 : decode cX2_layGuard 7 = .ok (.iload_n 1, 1) := by decide +kernel
theorem dX2_layGuard_8 : decode cX2_layGuard 8 = .ok (.aload_n 0, 1) := by decide +kernel
theorem dX2_layGuard_9 : decode cX2_layGuard 9 = .ok (.getfield 9, 3) := by decide +kernel
theorem dX2_layGuard_12 : decode cX2_layGuard 12 = .ok (.aload_n 0, 1) := by decide +kernel
theorem dX2_layGuard_13 : decode cX2_layGuard 13 = .ok (.getfield 15, 3) := by decide +kernel
theorem dX2_layGuard_16 : decode cX2_layGuard 16 = .ok (.getfield 167, 3) := by decide +kernel
theorem dX2_layGuard_19 : decode cX2_layGuard 19 = .ok (.iload_n 1, 1) := by decide +kernel
theorem dX2_layGuard_20 : decode cX2_layGuard 20 = .ok (.iaload, 1) := by decide +kernel
theorem dX2_layGuard_21 : decode cX2_layGuard 21 = .ok (.aload_n 0, 1) := by decide +kernel
theorem dX2_layGuard_22 : decode cX2_layGuard 22 = .ok (.getfield 23, 3) := by decide +kernel
theorem dX2_layGuard_25 : decode cX2_layGuard 25 = .ok (.iload 4, 2) := by decide +kernel
theorem dX2_layGuard_27 : decode cX2_layGuard 27 = .ok (.iload_n 2, 1) := by decide +kernel
theorem dX2_layGuard_28 : decode cX2_layGuard 28 = .ok (.iload_n 3, 1) := by decide +kernel
theorem dX2_layGuard_29 : decode cX2_layGuard 29 = .ok (.invokevirtual 170, 3) := by decide +kernel
theorem dX2_layGuard_32 : decode cX2_layGuard 32 = .ok (.iastore, 1) := by decide +kernel
theorem dX2_layGuard_33 : decode cX2_layGuard 33 = .ok (.return_, 1) := by decide +kernel
theorem dX2_meet_0 : decode cX2_meet 0 = .ok (.aload_n 0, 1) := by decide +kernel
theorem dX2_meet_1 : decode cX2_meet 1 = .ok (.iconst 0, 1) := by decide +kernel
theorem dX2_meet_2 : decode cX2_meet 2 = .ok (.invokevirtual 154, 3) := by decide +kernel
theorem dX2_meet_5 : decode cX2_meet 5 = .ok (.istore 4, 2) := by decide +kernel
theorem dX2_meet_7 : decode cX2_meet 7 = .ok (.aload_n 0, 1) := by decide +kernel
theorem dX2_meet_8 : decode cX2_meet 8 = .ok (.getfield 19, 3) := by decide +kernel
theorem dX2_meet_11 : decode cX2_meet 11 = .ok (.iload 4, 2) := by decide +kernel
theorem dX2_meet_13 : decode cX2_meet 13 = .ok (.iload_n 2, 1) := by decide +kernel
theorem dX2_meet_14 : decode cX2_meet 14 = .ok (.iconst 0, 1) := by decide +kernel
theorem dX2_meet_15 : decode cX2_meet 15 = .ok (.invokevirtual 190, 3) := by decide +kernel
theorem dX2_meet_18 : decode cX2_meet 18 = .ok (.ifCond .ne 13, 3) := by decide +kernel
theorem dX2_meet_21 : decode cX2_meet 21 = .ok (.aload_n 0, 1) := by decide +kernel
theorem dX2_meet_22 : decode cX2_meet 22 = .ok (.bipush 9, 2) := by decide +kernel
theorem dX2_meet_24 : decode cX2_meet 24 = .ok (.iload_n 1, 1) := by decide +kernel
theorem dX2_meet_25 : decode cX2_meet 25 = .ok (.invokevirtual 194, 3) := by decide +kernel
theorem dX2_meet_28 : decode cX2_meet 28 = .ok (.goto 23, 3) := by decide +kernel
theorem dX2_meet_31 : decode cX2_meet 31 = .ok (.iload 4, 2) := by decide +kernel
theorem dX2_meet_33 : decode cX2_meet 33 = .ok (.iload_n 2, 1) := by decide +kernel
theorem dX2_meet_34 : decode cX2_meet 34 = .ok (.if_icmp .eq 17, 3) := by decide +kernel
theorem dX2_meet_37 : decode cX2_meet 37 = .ok (.aload_n 0, 1) := by decide +kernel
theorem dX2_meet_38 : decode cX2_meet 38 = .ok (.iload_n 1, 1) := by decide +kernel
theorem dX2_meet_39 : decode cX2_meet 39 = .ok (.iload 4, 2) := by decide +kernel
theorem dX2_meet_41 : decode cX2_meet 41 = .ok (.iload_n 2, 1) := by decide +kernel
theorem dX2_meet_42 : decode cX2_meet 42 = .ok (.iload_n 3, 1) := by decide +kernel
theorem dX2_meet_43 : decode cX2_meet 43 = .ok (.invokevirtual 163, 3) := by decide +kernel
theorem dX2_meet_46 : decode cX2_meet 46 = .ok (.aload_n 0, 1) := by decide +kernel
theorem dX2_meet_47 : decode cX2_meet 47 = .ok (.iload_n 2, 1) := by decide +kernel
theorem dX2_meet_48 : decode cX2_meet 48 = .ok (.invokevirtual 197, 3) := by decide +kernel
theorem dX2_meet_51 : decode cX2_meet 51 = .ok (.return_, 1) := by decide +kernel
theorem dX2_meetCalled_0 : decode cX2_meetCalled 0 = .ok (.aload_n 0, 1) := by decide +kernel
theorem dX2_meetCalled_1 : decode cX2_meetCalled 1 = .ok (.iload_n 1, 1) := by decide +kernel
theorem dX2_meetCalled_2 : decode cX2_meetCalled 2 = .ok (.iconst 4, 1) := by decide +kernel
theorem dX2_meetCalled_3 : decode cX2_meetCalled 3 = .ok (.iconst 4, 1) := by decide +kernel
theorem dX2_meetCalled_4 : decode cX2_meetCalled 4 = .ok (.iload_n 2, 1) := by decide +kernel
theorem dX2_meetCalled_5 : decode cX2_meetCalled 5 = .ok (.iadd, 1) := by decide +kernel
theorem dX2_meetCalled_6 : decode cX2_meetCalled 6 = .ok (.invokevirtual 178, 3) := by decide +kernel
theorem dX2_meetCalled_9 : decode cX2_meetCalled 9 = .ok (.aload_n 0, 1) := by decide +kernel
theorem dX2_meetCalled_10 : decode cX2_meetCalled 10 = .ok (.getfield 27, 3) := by decide +kernel
theorem dX2_meetCalled_13 : decode cX2_meetCalled 13 = .ok (.ifCond .ne 26, 3) := by decide +kernel
theorem dX2_meetCalled_16 : decode cX2_meetCalled 16 = .ok (.aload_n 0, 1) := by decide +kernel
theorem dX2_meetCalled_17 : decode cX2_meetCalled 17 = .ok (.getfield 19, 3) := by decide +kernel
theorem dX2_meetCalled_20 : decode cX2_meetCalled 20 = .ok (.aload_n 0, 1) := by decide +kernel
theorem dX2_meetCalled_21 : decode cX2_meetCalled 21 = .ok (.iconst 0, 1) := by decide +kernel
theorem dX2_meetCalled_22 : decode cX2_meetCalled 22 = .ok (.invokevirtual 154, 3) := by decide +kernel
theorem dX2_meetCalled_25 : decode cX2_meetCalled 25 = .ok (.invokevirtual 203, 3) := by decide +kernel
theorem dX2_meetCalled_28 : decode cX2_meetCalled 28 = .ok (.iload_n 2, 1) := by decide +kernel
theorem dX2_meetCalled_29 : decode cX2_meetCalled 29 = .ok (.if_icmp .eq 10, 3) := by decide +kernel
theorem dX2_meetCalled_32 : decode cX2_meetCalled 32 = .ok (.aload_n 0, 1) := by decide +kernel
theorem dX2_meetCalled_33 : decode cX2_meetCalled 33 = .ok (.bipush 8, 2) := by decide +kernel
theorem dX2_meetCalled_35 : decode cX2_meetCalled 35 = .ok (.iload_n 1, 1) := by decide +kernel
theorem dX2_meetCalled_36 : decode cX2_meetCalled 36 = .ok (.invokevirtual 194, 3) := by decide +kernel
theorem dX2_meetCalled_39 : decode cX2_meetCalled 39 = .ok (.aload_n 0, 1) := by decide +kernel
theorem dX2_meetCalled_40 : decode cX2_meetCalled 40 = .ok (.getfield 15, 3) := by decide +kernel
theorem dX2_meetCalled_43 : decode cX2_meetCalled 43 = .ok (.getfield 111, 3) := by decide +kernel
theorem dX2_meetCalled_46 : decode cX2_meetCalled 46 = .ok (.iload_n 1, 1) := by decide +kernel
theorem dX2_meetCalled_47 : decode cX2_meetCalled 47 = .ok (.iaload, 1) := by decide +kernel
theorem dX2_meetCalled_48 : decode cX2_meetCalled 48 = .ok (.bipush 31, 2) := by decide +kernel
theorem dX2_meetCalled_50 : decode cX2_meetCalled 50 = .ok (.if_icmp .ne 11, 3) := by decide +kernel
theorem dX2_meetCalled_53 : decode cX2_meetCalled 53 = .ok (.iload_n 1, 1) := by decide +kernel
theorem dX2_meetCalled_54 : decode cX2_meetCalled 54 = .ok (.ifCond .le 7, 3) := by decide +kernel
theorem dX2_meetCalled_57 : decode cX2_meetCalled 57 = .ok (.iconst 1, 1) := by decide +kernel
theorem dX2_meetCalled_58 : decode cX2_meetCalled 58 = .ok (.goto 4, 3) := by decide +kernel
theorem dX2_meetCalled_61 : decode cX2_meetCalled 61 = .ok (.iconst 0, 1) := by decide +kernel
theorem dX2_meetCalled_62 : decode cX2_meetCalled 62 = .ok (.istore_n 3, 1) := by decide +kernel
theorem dX2_meetCalled_63 : decode cX2_meetCalled 63 = .ok (.aload_n 0, 1) := by decide +kernel
theorem dX2_meetCalled_64 : decode cX2_meetCalled 64 = .ok (.getfield 56, 3) := by decide +kernel
theorem dX2_meetCalled_67 : decode cX2_meetCalled 67 = .ok (.iconst 0, 1) := by decide +kernel
theorem dX2_meetCalled_68 : decode cX2_meetCalled 68 = .ok (.aload_n 0, 1) := by decide +kernel
theorem dX2_meetCalled_69 : decode cX2_meetCalled 69 = .ok (.getfield 59, 3) := by decide +kernel
theorem dX2_meetCalled_72 : decode cX2_meetCalled 72 = .ok (.iconst 1, 1) := by decide +kernel
theorem dX2_meetCalled_73 : decode cX2_meetCalled 73 = .ok (.isub, 1) := by decide +kernel
theorem dX2_meetCalled_74 : decode cX2_meetCalled 74 = .ok (.invokestatic 132, 3) := by decide +kernel
theorem dX2_meetCalled_77 : decode cX2_meetCalled 77 = .ok (.iload_n 3, 1) := by decide +kernel
theorem dX2_meetCalled_78 : decode cX2_meetCalled 78 = .ok (.ifCond .eq 17, 3) := by decide +kernel
theorem dX2_meetCalled_81 : decode cX2_meetCalled 81 = .ok (.aload_n 0, 1) := by decide +kernel
theorem dX2_meetCalled_82 : decode cX2_meetCalled 82 = .ok (.getfield 15, 3) := by decide +kernel
theorem dX2_meetCalled_85 : decode cX2_meetCalled 85 = .ok (.getfield 122, 3) := by decide +kernel
theorem dX2_meetCalled_88 : decode cX2_meetCalled 88 = .ok (.iload_n 1, 1) := by decide +kernel
theorem dX2_meetCalled_89 : decode cX2_meetCalled 89 = .ok (.iconst 1, 1) := by decide +kernel
theorem dX2_meetCalled_90 : decode cX2_meetCalled 90 = .ok (.isub, 1) := by decide +kernel
theorem dX2_meetCalled_91 : decode cX2_meetCalled 91 = .ok (.iaload, 1) := by decide +kernel
theorem dX2_meetCalled_92 : decode cX2_meetCalled 92 = .ok (.goto 7, 3) := by decide +kernel
theorem dX2_meetCalled_95 : decode cX2_meetCalled 95 = .ok (.aload_n 0, 1) := by decide +kernel
theorem dX2_meetCalled_96 : decode cX2_meetCalled 96 = .ok (.getfield 23, 3) := by decide +kernel
theorem dX2_meetCalled_99 : decode cX2_meetCalled 99 = .ok (.iastore, 1) := by decide +kernel
theorem dX2_meetCalled_100 : decode cX2_meetCalled 100 = .ok (.return_, 1) := by decide +kernel
theorem dX2_meetForm_0 : decode cX2_meetForm 0 = .ok (.aload_n 0, 1) := by decide +kernel
theorem dX2_meetForm_1 : decode cX2_meetForm 1 = .ok (.iconst 0, 1) := by decide +kernel
theorem dX2_meetForm_2 : decode cX2_meetForm 2 = .ok (.invokevirtual 154, 3) := by decide +kernel
theorem dX2_meetForm_5 : decode cX2_meetForm 5 = .ok (.istore 4, 2) := by decide +kernel
theorem dX2_meetForm_7 : decode cX2_meetForm 7 = .ok (.iload 4, 2) := by decide +kernel
theorem dX2_meetForm_9 : decode cX2_meetForm 9 = .ok (.iconst 2, 1) := by decide +kernel
theorem dX2_meetForm_10 : decode cX2_meetForm 10 = .ok (.if_icmp .ne 23, 3) := by decide +kernel
theorem dX2_meetForm_13 : decode cX2_meetForm 13 = .ok (.aload_n 0, 1) := by decide +kernel
theorem dX2_meetForm_14 : decode cX2_meetForm 14 = .ok (.iload_n 1, 1) := by decide +kernel
theorem dX2_meetForm_15 : decode cX2_meetForm 15 = .ok (.iload 4, 2) := by decide +kernel
theorem dX2_meetForm_17 : decode cX2_meetForm 17 = .ok (.iload_n 3, 1) := by decide +kernel
theorem dX2_meetForm_18 : decode cX2_meetForm 18 = .ok (.aload_n 0, 1) := by decide +kernel
theorem dX2_meetForm_19 : decode cX2_meetForm 19 = .ok (.getfield 23, 3) := by decide +kernel
theorem dX2_meetForm_22 : decode cX2_meetForm 22 = .ok (.invokevirtual 163, 3) := by decide +kernel
theorem dX2_meetForm_25 : decode cX2_meetForm 25 = .ok (.aload_n 0, 1) := by decide +kernel
theorem dX2_meetForm_26 : decode cX2_meetForm 26 = .ok (.iload_n 3, 1) := by decide +kernel
theorem dX2_meetForm_27 : decode cX2_meetForm 27 = .ok (.invokevirtual 197, 3) := by decide +kernel
theorem dX2_meetForm_30 : decode cX2_meetForm 30 = .ok (.goto 23, 3) := by decide +kernel
theorem dX2_meetForm_33 : decode cX2_meetForm 33 = .ok (.aload_n 0, 1) := by decide +kernel
theorem dX2_meetForm_34 : decode cX2_meetForm 34 = .ok (.getfield 19, 3) := by decide +kernel
theorem dX2_meetForm_37 : decode cX2_meetForm 37 = .ok (.iload 4, 2) := by decide +kernel
theorem dX2_meetForm_39 : decode cX2_meetForm 39 = .ok (.invokevirtual 200, 3) := by decide +kernel
theorem dX2_meetForm_42 : decode cX2_meetForm 42 = .ok (.iload_n 2, 1) := by decide +kernel
theorem dX2_meetForm_43 : decode cX2_meetForm 43 = .ok (.if_icmp .eq 10, 3) := by decide +kernel
theorem dX2_meetForm_46 : decode cX2_meetForm 46 = .ok (.aload_n 0, 1) := by decide +kernel
theorem dX2_meetForm_47 : decode cX2_meetForm 47 = .ok (.bipush 9, 2) := by decide +kernel
theorem dX2_meetForm_49 : decode cX2_meetForm 49 = .ok (.iload_n 1, 1) := by decide +kernel
theorem dX2_meetForm_50 : decode cX2_meetForm 50 = .ok (.invokevirtual 194, 3) := by decide +kernel
theorem dX2_meetForm_53 : decode cX2_meetForm 53 = .ok (.return_, 1) := by decide +kernel
theorem dX2_mix_0 : decode cX2_mix 0 = .ok (.iconst 0, 1) := by decide +kernel
theorem dX2_mix_1 : decode cX2_mix 1 = .ok (.aload_n 0, 1) := by decide +kernel
theorem dX2_mix_2 : decode cX2_mix 2 = .ok (.getfield 59, 3) := by decide +kernel
theorem dX2_mix_5 : decode cX2_mix 5 = .ok (.iload_n 1, 1) := by decide +kernel
theorem dX2_mix_6 : decode cX2_mix 6 = .ok (.isub, 1) := by decide +kernel
theorem dX2_mix_7 : decode cX2_mix 7 = .ok (.invokestatic 132, 3) := by decide +kernel
theorem dX2_mix_10 : decode cX2_mix 10 = .ok (.istore_n 2, 1) := by decide +kernel
theorem dX2_mix_11 : decode cX2_mix 11 = .ok (.iload_n 2, 1) := by decide +kernel
theorem dX2_mix_12 : decode cX2_mix 12 = .ok (.aload_n 0, 1) := by decide +kernel
theorem dX2_mix_13 : decode cX2_mix 13 = .ok (.getfield 59, 3) := by decide +kernel
theorem dX2_mix_16 : decode cX2_mix 16 = .ok (.if_icmp .ge 12, 3) := by decide +kernel
theorem dX2_mix_19 : decode cX2_mix 19 = .ok (.aload_n 0, 1) := by decide +kernel
theorem dX2_mix_20 : decode cX2_mix 20 = .ok (.getfield 50, 3) := by decide +kernel
theorem dX2_mix_23 : decode cX2_mix 23 = .ok (.iload_n 2, 1) := by decide +kernel
theorem dX2_mix_24 : decode cX2_mix 24 = .ok (.iaload, 1) := by decide +kernel
theorem dX2_mix_25 : decode cX2_mix 25 = .ok (.goto 4, 3) := by decide +kernel
theorem dX2_mix_28 : decode cX2_mix 28 = .ok (.iconst 2, 1) := by decide +kernel
theorem dX2_mix_29 : decode cX2_mix 29 = .ok (.istore_n 3, 1) := by decide +kernel
theorem dX2_mix_30 : decode cX2_mix 30 = .ok (.iconst 1, 1) := by decide +kernel
theorem dX2_mix_31 : decode cX2_mix 31 = .ok (.istore 4, 2) := by decide +kernel
theorem dX2_mix_33 : decode cX2_mix 33 = .ok (.iload_n 2, 1) := by decide +kernel
theorem dX2_mix_34 : decode cX2_mix 34 = .ok (.istore 5, 2) := by decide +kernel
theorem dX2_mix_36 : decode cX2_mix 36 = .ok (.iload 5, 2) := by decide +kernel
theorem dX2_mix_38 : decode cX2_mix 38 = .ok (.aload_n 0, 1) := by decide +kernel
theorem dX2_mix_39 : decode cX2_mix 39 = .ok (.getfield 59, 3) := by decide +kernel
theorem dX2_mix_42 : decode cX2_mix 42 = .ok (.if_icmp .ge 32, 3) := by decide +kernel
theorem dX2_mix_45 : decode cX2_mix 45 = .ok (.iload 4, 2) := by decide +kernel
theorem dX2_mix_47 : decode cX2_mix 47 = .ok (.ifCond .eq 18, 3) := by decide +kernel
theorem dX2_mix_50 : decode cX2_mix 50 = .ok (.aload_n 0, 1) := by decide +kernel
theorem dX2_mix_51 : decode cX2_mix 51 = .ok (.getfield 50, 3) := by decide +kernel
theorem dX2_mix_54 : decode cX2_mix 54 = .ok (.iload 5, 2) := by decide +kernel
theorem dX2_mix_56 : decode cX2_mix 56 = .ok (.iaload, 1) := by decide +kernel
theorem dX2_mix_57 : decode cX2_mix 57 = .ok (.iload_n 3, 1) := by decide +kernel
theorem dX2_mix_58 : decode cX2_mix 58 = .ok (.if_icmp .ne 7, 3) := by decide +kernel
theorem dX2_mix_61 : decode cX2_mix 61 = .ok (.iconst 1, 1) := by decide +kernel
theorem dX2_mix_62 : decode cX2_mix 62 = .ok (.goto 4, 3) := by decide +kernel
theorem dX2_mix_65 : decode cX2_mix 65 = .ok (.iconst 0, 1) := by decide +kernel
theorem dX2_mix_66 : decode cX2_mix 66 = .ok (.istore 4, 2) := by decide +kernel
theorem dX2_mix_68 : decode cX2_mix 68 = .ok (.iinc 5 1, 3) := by decide +kernel
theorem dX2_mix_71 : decode cX2_mix 71 = .ok (.goto (-35), 3) := by decide +kernel
theorem dX2_mix_74 : decode cX2_mix 74 = .ok (.iload_n 2, 1) := by decide +kernel
theorem dX2_mix_75 : decode cX2_mix 75 = .ok (.istore 5, 2) := by decide +kernel
theorem dX2_mix_77 : decode cX2_mix 77 = .ok (.iload 5, 2) := by decide +kernel
theorem dX2_mix_79 : decode cX2_mix 79 = .ok (.aload_n 0, 1) := by decide +kernel
theorem dX2_mix_80 : decode cX2_mix 80 = .ok (.getfield 59, 3) := by decide +kernel
theorem dX2_mix_83 : decode cX2_mix 83 = .ok (.if_icmp .ge 48, 3) := by decide +kernel
theorem dX2_mix_86 : decode cX2_mix 86 = .ok (.iload 4, 2) := by decide +kernel
theorem dX2_mix_88 : decode cX2_mix 88 = .ok (.ifCond .ne 43, 3) := by decide +kernel
theorem dX2_mix_91 : decode cX2_mix 91 = .ok (.aload_n 0, 1) := by decide +kernel
theorem dX2_mix_92 : decode cX2_mix 92 = .ok (.getfield 50, 3) := by decide +kernel
theorem dX2_mix_95 : decode cX2_mix 95 = .ok (.iload 5, 2) := by decide +kernel
theorem dX2_mix_97 : decode cX2_mix 97 = .ok (.iaload, 1) := by decide +kernel
theorem dX2_mix_98 : decode cX2_mix 98 = .ok (.iconst 2, 1) := by decide +kernel
theorem dX2_mix_99 : decode cX2_mix 99 = .ok (.if_icmp .eq 26, 3) := by decide +kernel
theorem dX2_mix_102 : decode cX2_mix 102 = .ok (.aload_n 0, 1) := by decide +kernel
theorem dX2_mix_103 : decode cX2_mix 103 = .ok (.aload_n 0, 1) := by decide +kernel
theorem dX2_mix_104 : decode cX2_mix 104 = .ok (.getfield 53, 3) := by decide +kernel
theorem dX2_mix_107 : decode cX2_mix 107 = .ok (.iload 5, 2) := by decide +kernel
theorem dX2_mix_109 : decode cX2_mix 109 = .ok (.iaload, 1) := by decide +kernel
theorem dX2_mix_110 : decode cX2_mix 110 = .ok (.aload_n 0, 1) := by decide +kernel
theorem dX2_mix_111 : decode cX2_mix 111 = .ok (.getfield 50, 3) := by decide +kernel
theorem dX2_mix_114 : decode cX2_mix 114 = .ok (.iload 5, 2) := by decide +kernel
theorem dX2_mix_116 : decode cX2_mix 116 = .ok (.iaload, 1) := by decide +kernel
theorem dX2_mix_117 : decode cX2_mix 117 = .ok (.iconst 2, 1) := by decide +kernel
theorem dX2_mix_118 : decode cX2_mix 118 = .ok (.aload_n 0, 1) := by decide +kernel
theorem dX2_mix_119 : decode cX2_mix 119 = .ok (.getfield 23, 3) := by decide +kernel
theorem dX2_mix_122 : decode cX2_mix 122 = .ok (.invokevirtual 163, 3) := by decide +kernel
theorem dX2_mix_125 : decode cX2_mix 125 = .ok (.iinc 5 1, 3) := by decide +kernel
theorem dX2_mix_128 : decode cX2_mix 128 = .ok (.goto (-51), 3) := by decide +kernel
theorem dX2_mix_131 : decode cX2_mix 131 = .ok (.aload_n 0, 1) := by decide +kernel
theorem dX2_mix_132 : decode cX2_mix 132 = .ok (.iload_n 2, 1) := by decide +kernel
theorem dX2_mix_133 : decode cX2_mix 133 = .ok (.putfield 59, 3) := by decide +kernel
theorem dX2_mix_136 : decode cX2_mix 136 = .ok (.iload 4, 2) := by decide +kernel
theorem dX2_mix_138 : decode cX2_mix 138 = .ok (.ifCond .eq 7, 3) := by decide +kernel
theorem dX2_mix_141 : decode cX2_mix 141 = .ok (.iload_n 3, 1) := by decide +kernel
theorem dX2_mix_142 : decode cX2_mix 142 = .ok (.goto 4, 3) := by decide +kernel
theorem dX2_mix_145 : decode cX2_mix 145 = .ok (.iconst 2, 1) := by decide +kernel
theorem dX2_mix_146 : decode cX2_mix 146 = .ok (.ireturn, 1) := by decide +kernel
theorem dX2_pop_0 : decode cX2_pop 0 = .ok (.aload_n 0, 1) := by decide +kernel
theorem dX2_pop_1 : decode cX2_pop 1 = .ok (.getfield 59, 3) := by decide +kernel
theorem dX2_pop_4 : decode cX2_pop 4 = .ok (.ifCond .gt 5, 3) := by decide +kernel
theorem dX2_pop_7 : decode cX2_pop 7 = .ok (.iconst 2, 1) := by decide +kernel
theorem dX2_pop_8 : decode cX2_pop 8 = .ok (.ireturn, 1) := by decide +kernel
theorem dX2_pop_9 : decode cX2_pop 9 = .ok (.aload_n 0, 1) := by decide +kernel
theorem dX2_pop_10 : decode cX2_pop 10 = .ok (.dup, 1) := by decide +kernel
theorem dX2_pop_11 : decode cX2_pop 11 = .ok (.getfield 59, 3) := by decide +kernel
theorem dX2_pop_14 : decode cX2_pop 14 = .ok (.iconst 1, 1) := by decide +kernel
theorem dX2_pop_15 : decode cX2_pop 15 = .ok (.isub, 1) := by decide +kernel
theorem dX2_pop_16 : decode cX2_pop 16 = .ok (.putfield 59, 3) := by decide +kernel
theorem dX2_pop_19 : decode cX2_pop 19 = .ok (.aload_n 0, 1) := by decide +kernel
theorem dX2_pop_20 : decode cX2_pop 20 = .ok (.getfield 50, 3) := by decide +kernel
theorem dX2_pop_23 : decode cX2_pop 23 = .ok (.aload_n 0, 1) := by decide +kernel
theorem dX2_pop_24 : decode cX2_pop 24 = .ok (.getfield 59, 3) := by decide +kernel
theorem dX2_pop_27 : decode cX2_pop 27 = .ok (.iaload, 1) := by decide +kernel
theorem dX2_pop_28 : decode cX2_pop 28 = .ok (.ireturn, 1) := by decide +kernel
theorem dX2_push_0 : decode cX2_push 0 = .ok (.aload_n 0, 1) := by decide +kernel
theorem dX2_push_1 : decode cX2_push 1 = .ok (.getfield 59, 3) := by decide +kernel
theorem dX2_push_4 : decode cX2_push 4 = .ok (.sipush 3000, 3) := by decide +kernel
theorem dX2_push_7 : decode cX2_push 7 = .ok (.if_icmp .ge 23, 3) := by decide +kernel
theorem dX2_push_10 : decode cX2_push 10 = .ok (.aload_n 0, 1) := by decide +kernel
theorem dX2_push_11 : decode cX2_push 11 = .ok (.getfield 50, 3) := by decide +kernel
theorem dX2_push_14 : decode cX2_push 14 = .ok (.aload_n 0, 1) := by decide +kernel
theorem dX2_push_15 : decode cX2_push 15 = .ok (.getfield 59, 3) := by decide +kernel
theorem dX2_push_18 : decode cX2_push 18 = .ok (.iload_n 1, 1) := by decide +kernel
theorem dX2_push_19 : decode cX2_push 19 = .ok (.iastore, 1) := by decide +kernel
theorem dX2_push_20 : decode cX2_push 20 = .ok (.aload_n 0, 1) := by decide +kernel
theorem dX2_push_21 : decode cX2_push 21 = .ok (.dup, 1) := by decide +kernel
theorem dX2_push_22 : decode cX2_push 22 = .ok (.getfield 59, 3) := by decide +kernel
theorem dX2_push_25 : decode cX2_push 25 = .ok (.iconst 1, 1) := by decide +kernel
theorem dX2_push_26 : decode cX2_push 26 = .ok (.iadd, 1) := by decide +kernel
theorem dX2_push_27 : decode cX2_push 27 = .ok (.putfield 59, 3) := by decide +kernel
theorem dX2_push_30 : decode cX2_push 30 = .ok (.aload_n 0, 1) := by decide +kernel
theorem dX2_push_31 : decode cX2_push 31 = .ok (.getfield 33, 3) := by decide +kernel
theorem dX2_push_34 : decode cX2_push 34 = .ok (.aload_n 0, 1) := by decide +kernel
theorem dX2_push_35 : decode cX2_push 35 = .ok (.getfield 23, 3) := by decide +kernel
theorem dX2_push_38 : decode cX2_push 38 = .ok (.aload_n 0, 1) := by decide +kernel
theorem dX2_push_39 : decode cX2_push 39 = .ok (.getfield 33, 3) := by decide +kernel
theorem dX2_push_42 : decode cX2_push 42 = .ok (.aload_n 0, 1) := by decide +kernel
theorem dX2_push_43 : decode cX2_push 43 = .ok (.getfield 23, 3) := by decide +kernel
theorem dX2_push_46 : decode cX2_push 46 = .ok (.baload, 1) := by decide +kernel
theorem dX2_push_47 : decode cX2_push 47 = .ok (.ifCond .ne 14, 3) := by decide +kernel
theorem dX2_push_50 : decode cX2_push 50 = .ok (.aload_n 0, 1) := by decide +kernel
theorem dX2_push_51 : decode cX2_push 51 = .ok (.getfield 19, 3) := by decide +kernel
theorem dX2_push_54 : decode cX2_push 54 = .ok (.iload_n 1, 1) := by decide +kernel
theorem dX2_push_55 : decode cX2_push 55 = .ok (.invokevirtual 101, 3) := by decide +kernel
theorem dX2_push_58 : decode cX2_push 58 = .ok (.ifCond .eq 7, 3) := by decide +kernel
theorem dX2_push_61 : decode cX2_push 61 = .ok (.iconst 1, 1) := by decide +kernel
theorem dX2_push_62 : decode cX2_push 62 = .ok (.goto 4, 3) := by decide +kernel
theorem dX2_push_65 : decode cX2_push 65 = .ok (.iconst 0, 1) := by decide +kernel
theorem dX2_push_66 : decode cX2_push 66 = .ok (.bastore, 1) := by decide +kernel
theorem dX2_push_67 : decode cX2_push 67 = .ok (.return_, 1) := by decide +kernel
theorem dX2_refuse_0 : decode cX2_refuse 0 = .ok (.aload_n 0, 1) := by decide +kernel
theorem dX2_refuse_1 : decode cX2_refuse 1 = .ok (.iload_n 1, 1) := by decide +kernel
theorem dX2_refuse_2 : decode cX2_refuse 2 = .ok (.putfield 27, 3) := by decide +kernel
theorem dX2_refuse_5 : decode cX2_refuse 5 = .ok (.aload_n 0, 1) := by decide +kernel
theorem dX2_refuse_6 : decode cX2_refuse 6 = .ok (.aload_n 0, 1) := by decide +kernel
theorem dX2_refuse_7 : decode cX2_refuse 7 = .ok (.getfield 15, 3) := by decide +kernel
theorem dX2_refuse_10 : decode cX2_refuse 10 = .ok (.getfield 167, 3) := by decide +kernel
theorem dX2_refuse_13 : decode cX2_refuse 13 = .ok (.iload_n 2, 1) := by decide +kernel
theorem dX2_refuse_14 : decode cX2_refuse 14 = .ok (.iaload, 1) := by decide +kernel
theorem dX2_refuse_15 : decode cX2_refuse 15 = .ok (.putfield 30, 3) := by decide +kernel
theorem dX2_refuse_18 : decode cX2_refuse 18 = .ok (.return_, 1) := by decide +kernel
theorem dX2_replace_0 : decode cX2_replace 0 = .ok (.aload_n 0, 1) := by decide +kernel
theorem dX2_replace_1 : decode cX2_replace 1 = .ok (.iconst 0, 1) := by decide +kernel
theorem dX2_replace_2 : decode cX2_replace 2 = .ok (.aload_n 0, 1) := by decide +kernel
theorem dX2_replace_3 : decode cX2_replace 3 = .ok (.getfield 59, 3) := by decide +kernel
theorem dX2_replace_6 : decode cX2_replace 6 = .ok (.iload_n 1, 1) := by decide +kernel
theorem dX2_replace_7 : decode cX2_replace 7 = .ok (.isub, 1) := by decide +kernel
theorem dX2_replace_8 : decode cX2_replace 8 = .ok (.invokestatic 132, 3) := by decide +kernel
theorem dX2_replace_11 : decode cX2_replace 11 = .ok (.putfield 59, 3) := by decide +kernel
theorem dX2_replace_14 : decode cX2_replace 14 = .ok (.aload_n 0, 1) := by decide +kernel
theorem dX2_replace_15 : decode cX2_replace 15 = .ok (.iload_n 2, 1) := by decide +kernel
theorem dX2_replace_16 : decode cX2_replace 16 = .ok (.invokevirtual 137, 3) := by decide +kernel
theorem dX2_replace_19 : decode cX2_replace 19 = .ok (.return_, 1) := by decide +kernel
theorem dX2_setTop_0 : decode cX2_setTop 0 = .ok (.aload_n 0, 1) := by decide +kernel
theorem dX2_setTop_1 : decode cX2_setTop 1 = .ok (.getfield 50, 3) := by decide +kernel
theorem dX2_setTop_4 : decode cX2_setTop 4 = .ok (.iconst 0, 1) := by decide +kernel
theorem dX2_setTop_5 : decode cX2_setTop 5 = .ok (.aload_n 0, 1) := by decide +kernel
theorem dX2_setTop_6 : decode cX2_setTop 6 = .ok (.getfield 59, 3) := by decide +kernel
theorem dX2_setTop_9 : decode cX2_setTop 9 = .ok (.iconst 1, 1) := by decide +kernel
theorem dX2_setTop_10 : decode cX2_setTop 10 = .ok (.isub, 1) := by decide +kernel
theorem dX2_setTop_11 : decode cX2_setTop 11 = .ok (.invokestatic 132, 3) := by decide +kernel
theorem dX2_setTop_14 : decode cX2_setTop 14 = .ok (.iload_n 1, 1) := by decide +kernel
theorem dX2_setTop_15 : decode cX2_setTop 15 = .ok (.iastore, 1) := by decide +kernel
theorem dX2_setTop_16 : decode cX2_setTop 16 = .ok (.return_, 1) := by decide +kernel
theorem dX2_takerBelow_0 : decode cX2_takerBelow 0 = .ok (.aload_n 0, 1) := by decide +kernel
theorem dX2_takerBelow_1 : decode cX2_takerBelow 1 = .ok (.getfield 59, 3) := by decide +kernel
theorem dX2_takerBelow_4 : decode cX2_takerBelow 4 = .ok (.iconst 1, 1) := by decide +kernel
theorem dX2_takerBelow_5 : decode cX2_takerBelow 5 = .ok (.isub, 1) := by decide +kernel
theorem dX2_takerBelow_6 : decode cX2_takerBelow 6 = .ok (.iload_n 1, 1) := by decide +kernel
theorem dX2_takerBelow_7 : decode cX2_takerBelow 7 = .ok (.isub, 1) := by decide +kernel
theorem dX2_takerBelow_8 : decode cX2_takerBelow 8 = .ok (.istore_n 2, 1) := by decide +kernel
theorem dX2_takerBelow_9 : decode cX2_takerBelow 9 = .ok (.iload_n 2, 1) := by decide +kernel
theorem dX2_takerBelow_10 : decode cX2_takerBelow 10 = .ok (.ifCond .lt 12, 3) := by decide +kernel
theorem dX2_takerBelow_13 : decode cX2_takerBelow 13 = .ok (.aload_n 0, 1) := by decide +kernel
theorem dX2_takerBelow_14 : decode cX2_takerBelow 14 = .ok (.getfield 56, 3) := by decide +kernel
theorem dX2_takerBelow_17 : decode cX2_takerBelow 17 = .ok (.iload_n 2, 1) := by decide +kernel
theorem dX2_takerBelow_18 : decode cX2_takerBelow 18 = .ok (.iaload, 1) := by decide +kernel
theorem dX2_takerBelow_19 : decode cX2_takerBelow 19 = .ok (.goto 7, 3) := by decide +kernel
theorem dX2_takerBelow_22 : decode cX2_takerBelow 22 = .ok (.aload_n 0, 1) := by decide +kernel
theorem dX2_takerBelow_23 : decode cX2_takerBelow 23 = .ok (.getfield 23, 3) := by decide +kernel
theorem dX2_takerBelow_26 : decode cX2_takerBelow 26 = .ok (.ireturn, 1) := by decide +kernel
theorem dX3_fit_0 : decode cX3_fit 0 = .ok (.iload_n 1, 1) := by decide +kernel
theorem dX3_fit_1 : decode cX3_fit 1 = .ok (.istore 4, 2) := by decide +kernel
theorem dX3_fit_3 : decode cX3_fit 3 = .ok (.iload_n 2, 1) := by decide +kernel
theorem dX3_fit_4 : decode cX3_fit 4 = .ok (.istore 5, 2) := by decide +kernel
theorem dX3_fit_6 : decode cX3_fit 6 = .ok (.iconst 0, 1) := by decide +kernel
theorem dX3_fit_7 : decode cX3_fit 7 = .ok (.istore 6, 2) := by decide +kernel
theorem dX3_fit_9 : decode cX3_fit 9 = .ok (.iload 6, 2) := by decide +kernel
theorem dX3_fit_11 : decode cX3_fit 11 = .ok (.sipush 1549, 3) := by decide +kernel
theorem dX3_fit_14 : decode cX3_fit 14 = .ok (.if_icmp .ge 132, 3) := by decide +kernel
theorem dX3_fit_17 : decode cX3_fit 17 = .ok (.iload 4, 2) := by decide +kernel
theorem dX3_fit_19 : decode cX3_fit 19 = .ok (.iload 5, 2) := by decide +kernel
theorem dX3_fit_21 : decode cX3_fit 21 = .ok (.if_icmp .eq 15, 3) := by decide +kernel
theorem dX3_fit_24 : decode cX3_fit 24 = .ok (.iload 4, 2) := by decide +kernel
theorem dX3_fit_26 : decode cX3_fit 26 = .ok (.iconst 2, 1) := by decide +kernel
theorem dX3_fit_27 : decode cX3_fit 27 = .ok (.if_icmp .eq 9, 3) := by decide +kernel
theorem dX3_fit_30 : decode cX3_fit 30 = .ok (.iload 5, 2) := by decide +kernel
theorem dX3_fit_32 : decode cX3_fit 32 = .ok (.iconst 2, 1) := by decide +kernel
theorem dX3_fit_33 : decode cX3_fit 33 = .ok (.if_icmp .ne 5, 3) := by decide +kernel
theorem dX3_fit_36 : decode cX3_fit 36 = .ok (.iconst 1, 1) := by decide +kernel
theorem dX3_fit_37 : decode cX3_fit 37 = .ok (.ireturn, 1) := by decide +kernel
theorem dX3_fit_38 : decode cX3_fit 38 = .ok (.aload_n 0, 1) := by decide +kernel
theorem dX3_fit_39 : decode cX3_fit 39 = .ok (.iload 4, 2) := by decide +kernel
theorem dX3_fit_41 : decode cX3_fit 41 = .ok (.invokevirtual 73, 3) := by decide +kernel
theorem dX3_fit_44 : decode cX3_fit 44 = .ok (.aload_n 0, 1) := by decide +kernel
theorem dX3_fit_45 : decode cX3_fit 45 = .ok (.iload 5, 2) := by decide +kernel
theorem dX3_fit_47 : decode cX3_fit 47 = .ok (.invokevirtual 73, 3) := by decide +kernel
theorem dX3_fit_50 : decode cX3_fit 50 = .ok (.if_icmp .ne 24, 3) := by decide +kernel
theorem dX3_fit_53 : decode cX3_fit 53 = .ok (.aload_n 0, 1) := by decide +kernel
theorem dX3_fit_54 : decode cX3_fit 54 = .ok (.iload 4, 2) := by decide +kernel
theorem dX3_fit_56 : decode cX3_fit 56 = .ok (.invokevirtual 76, 3) := by decide +kernel
theorem dX3_fit_59 : decode cX3_fit 59 = .ok (.aload_n 0, 1) := by decide +kernel
theorem dX3_fit_60 : decode cX3_fit 60 = .ok (.iload 5, 2) := by decide +kernel
theorem dX3_fit_62 : decode cX3_fit 62 = .ok (.invokevirtual 76, 3) := by decide +kernel
theorem dX3_fit_65 : decode cX3_fit 65 = .ok (.if_icmp .ne 9, 3) := by decide +kernel
theorem dX3_fit_68 : decode cX3_fit 68 = .ok (.iload_n 3, 1) := by decide +kernel
theorem dX3_fit_69 : decode cX3_fit 69 = .ok (.bipush 40, 2) := by decide +kernel
theorem dX3_fit_71 : decode cX3_fit 71 = .ok (.if_icmp .le 5, 3) := by decide +kernel
theorem dX3_fit_74 : decode cX3_fit 74 = .ok (.iconst 0, 1) := by decide +kernel
theorem dX3_fit_75 : decode cX3_fit 75 = .ok (.ireturn, 1) := by decide +kernel
theorem dX3_fit_76 : decode cX3_fit 76 = .ok (.iconst 0, 1) := by decide +kernel
theorem dX3_fit_77 : decode cX3_fit 77 = .ok (.istore 7, 2) := by decide +kernel
theorem dX3_fit_79 : decode cX3_fit 79 = .ok (.iload 7, 2) := by decide +kernel
theorem dX3_fit_81 : decode cX3_fit 81 = .ok (.aload_n 0, 1) := by decide +kernel
theorem dX3_fit_82 : decode cX3_fit 82 = .ok (.iload 4, 2) := by decide +kernel
theorem dX3_fit_84 : decode cX3_fit 84 = .ok (.invokevirtual 76, 3) := by decide +kernel
theorem dX3_fit_87 : decode cX3_fit 87 = .ok (.if_icmp .ge 37, 3) := by decide +kernel
theorem dX3_fit_90 : decode cX3_fit 90 = .ok (.aload_n 0, 1) := by decide +kernel
theorem dX3_fit_91 : decode cX3_fit 91 = .ok (.aload_n 0, 1) := by decide +kernel
theorem dX3_fit_92 : decode cX3_fit 92 = .ok (.iload 4, 2) := by decide +kernel
theorem dX3_fit_94 : decode cX3_fit 94 = .ok (.iload 7, 2) := by decide +kernel
theorem dX3_fit_96 : decode cX3_fit 96 = .ok (.invokevirtual 79, 3) := by decide +kernel
theorem dX3_fit_99 : decode cX3_fit 99 = .ok (.aload_n 0, 1) := by decide +kernel
theorem dX3_fit_100 : decode cX3_fit 100 = .ok (.iload 5, 2) := by decide +kernel
theorem dX3_fit_102 : decode cX3_fit 102 = .ok (.iload 7, 2) := by decide +kernel
theorem dX3_fit_104 : decode cX3_fit 104 = .ok (.invokevirtual 79, 3) := by decide +kernel
theorem dX3_fit_107 : decode cX3_fit 107 = .ok (.iload_n 3, 1) := by decide +kernel
theorem dX3_fit_108 : decode cX3_fit 108 = .ok (.iconst 1, 1) := by decide +kernel
theorem dX3_fit_109 : decode cX3_fit 109 = .ok (.iadd, 1) := by decide +kernel
theorem dX3_fit_110 : decode cX3_fit 110 = .ok (.invokevirtual 83, 3) := by decide +kernel
theorem dX3_fit_113 : decode cX3_fit 113 = .ok (.ifCond .ne 5, 3) := by decide +kernel
theorem dX3_fit_116 : decode cX3_fit 116 = .ok (.iconst 0, 1) := by decide +kernel
theorem dX3_fit_117 : decode cX3_fit 117 = .ok (.ireturn, 1) := by decide +kernel
theorem dX3_fit_118 : decode cX3_fit 118 = .ok (.iinc 7 1, 3) := by decide +kernel
theorem dX3_fit_121 : decode cX3_fit 121 = .ok (.goto (-42), 3) := by decide +kernel
theorem dX3_fit_124 : decode cX3_fit 124 = .ok (.aload_n 0, 1) := by decide +kernel
theorem dX3_fit_125 : decode cX3_fit 125 = .ok (.iload 4, 2) := by decide +kernel
theorem dX3_fit_127 : decode cX3_fit 127 = .ok (.invokevirtual 87, 3) := by decide +kernel
theorem dX3_fit_130 : decode cX3_fit 130 = .ok (.istore 4, 2) := by decide +kernel
theorem dX3_fit_132 : decode cX3_fit 132 = .ok (.aload_n 0, 1) := by decide +kernel
theorem dX3_fit_133 : decode cX3_fit 133 = .ok (.iload 5, 2) := by decide +kernel
theorem dX3_fit_135 : decode cX3_fit 135 = .ok (.invokevirtual 87, 3) := by decide +kernel
theorem dX3_fit_138 : decode cX3_fit 138 = .ok (.istore 5, 2) := by decide +kernel
theorem dX3_fit_140 : decode cX3_fit 140 = .ok (.iinc 6 1, 3) := by decide +kernel
theorem dX3_fit_143 : decode cX3_fit 143 = .ok (.goto (-134), 3) := by decide +kernel
theorem dX3_fit_146 : decode cX3_fit 146 = .ok (.iconst 0, 1) := by decide +kernel
theorem dX3_fit_147 : decode cX3_fit 147 = .ok (.ireturn, 1) := by decide +kernel
theorem dX3_givesOf_0 : decode cX3_givesOf 0 = .ok (.iload_n 1, 1) := by decide +kernel
theorem dX3_givesOf_1 : decode cX3_givesOf 1 = .ok (.ifCond .lt 24, 3) := by decide +kernel
theorem dX3_givesOf_4 : decode cX3_givesOf 4 = .ok (.iload_n 1, 1) := by decide +kernel
theorem dX3_givesOf_5 : decode cX3_givesOf 5 = .ok (.aload_n 0, 1) := by decide +kernel
theorem dX3_givesOf_6 : decode cX3_givesOf 6 = .ok (.getfield 34, 3) := by decide +kernel
theorem dX3_givesOf_9 : decode cX3_givesOf 9 = .ok (.if_icmp .ge 16, 3) := by decide +kernel
theorem dX3_givesOf_12 : decode cX3_givesOf 12 = .ok (.aload_n 0, 1) := by decide +kernel
theorem dX3_givesOf_13 : decode cX3_givesOf 13 = .ok (.getfield 18, 3) := by decide +kernel
theorem dX3_givesOf_16 : decode cX3_givesOf 16 = .ok (.iload_n 1, 1) := by decide +kernel
theorem dX3_givesOf_17 : decode cX3_givesOf 17 = .ok (.iconst 5, 1) := by decide +kernel
theorem dX3_givesOf_18 : decode cX3_givesOf 18 = .ok (.imul, 1) := by decide +kernel
theorem dX3_givesOf_19 : decode cX3_givesOf 19 = .ok (.iconst 4, 1) := by decide +kernel
theorem dX3_givesOf_20 : decode cX3_givesOf 20 = .ok (.iadd, 1) := by decide +kernel
theorem dX3_givesOf_21 : decode cX3_givesOf 21 = .ok (.iaload, 1) := by decide +kernel
theorem dX3_givesOf_22 : decode cX3_givesOf 22 = .ok (.goto 4, 3) := by decide +kernel
theorem dX3_givesOf_25 : decode cX3_givesOf 25 = .ok (.iconst 2, 1) := by decide +kernel
theorem dX3_givesOf_26 : decode cX3_givesOf 26 = .ok (.ireturn, 1) := by decide +kernel
theorem dX3_paramOf_0 : decode cX3_paramOf 0 = .ok (.iload_n 1, 1) := by decide +kernel
theorem dX3_paramOf_1 : decode cX3_paramOf 1 = .ok (.ifCond .lt 38, 3) := by decide +kernel
theorem dX3_paramOf_4 : decode cX3_paramOf 4 = .ok (.iload_n 1, 1) := by decide +kernel
theorem dX3_paramOf_5 : decode cX3_paramOf 5 = .ok (.aload_n 0, 1) := by decide +kernel
theorem dX3_paramOf_6 : decode cX3_paramOf 6 = .ok (.getfield 34, 3) := by decide +kernel
theorem dX3_paramOf_9 : decode cX3_paramOf 9 = .ok (.if_icmp .ge 30, 3) := by decide +kernel
theorem dX3_paramOf_12 : decode cX3_paramOf 12 = .ok (.iload_n 2, 1) := by decide +kernel
theorem dX3_paramOf_13 : decode cX3_paramOf 13 = .ok (.ifCond .lt 26, 3) := by decide +kernel
theorem dX3_paramOf_16 : decode cX3_paramOf 16 = .ok (.iload_n 2, 1) := by decide +kernel
theorem dX3_paramOf_17 : decode cX3_paramOf 17 = .ok (.aload_n 0, 1) := by decide +kernel
theorem dX3_paramOf_18 : decode cX3_paramOf 18 = .ok (.getfield 15, 3) := by decide +kernel
theorem dX3_paramOf_21 : decode cX3_paramOf 21 = .ok (.iload_n 1, 1) := by decide +kernel
theorem dX3_paramOf_22 : decode cX3_paramOf 22 = .ok (.iaload, 1) := by decide +kernel
theorem dX3_paramOf_23 : decode cX3_paramOf 23 = .ok (.if_icmp .ge 16, 3) := by decide +kernel
theorem dX3_paramOf_26 : decode cX3_paramOf 26 = .ok (.aload_n 0, 1) := by decide +kernel
theorem dX3_paramOf_27 : decode cX3_paramOf 27 = .ok (.getfield 18, 3) := by decide +kernel
theorem dX3_paramOf_30 : decode cX3_paramOf 30 = .ok (.iload_n 1, 1) := by decide +kernel
theorem dX3_paramOf_31 : decode cX3_paramOf 31 = .ok (.iconst 5, 1) := by decide +kernel
theorem dX3_paramOf_32 : decode cX3_paramOf 32 = .ok (.imul, 1) := by decide +kernel
theorem dX3_paramOf_33 : decode cX3_paramOf 33 = .ok (.iload_n 2, 1) := by decide +kernel
theorem dX3_paramOf_34 : decode cX3_paramOf 34 = .ok (.iadd, 1) := by decide +kernel
theorem dX3_paramOf_35 : decode cX3_paramOf 35 = .ok (.iaload, 1) := by decide +kernel
theorem dX3_paramOf_36 : decode cX3_paramOf 36 = .ok (.goto 4, 3) := by decide +kernel
theorem dX3_paramOf_39 : decode cX3_paramOf 39 = .ok (.iconst 2, 1) := by decide +kernel
theorem dX3_paramOf_40 : decode cX3_paramOf 40 = .ok (.ireturn, 1) := by decide +kernel
theorem dX3_rowOf_0 : decode cX3_rowOf 0 = .ok (.iconst 5, 1) := by decide +kernel
theorem dX3_rowOf_1 : decode cX3_rowOf 1 = .ok (.aload_n 0, 1) := by decide +kernel
theorem dX3_rowOf_2 : decode cX3_rowOf 2 = .ok (.iload_n 1, 1) := by decide +kernel
theorem dX3_rowOf_3 : decode cX3_rowOf 3 = .ok (.invokevirtual 63, 3) := by decide +kernel
theorem dX3_rowOf_6 : decode cX3_rowOf 6 = .ok (.imul, 1) := by decide +kernel
theorem dX3_rowOf_7 : decode cX3_rowOf 7 = .ok (.iconst 4, 1) := by decide +kernel
theorem dX3_rowOf_8 : decode cX3_rowOf 8 = .ok (.iadd, 1) := by decide +kernel
theorem dX3_rowOf_9 : decode cX3_rowOf 9 = .ok (.istore_n 2, 1) := by decide +kernel
theorem dX3_rowOf_10 : decode cX3_rowOf 10 = .ok (.aload_n 0, 1) := by decide +kernel
theorem dX3_rowOf_11 : decode cX3_rowOf 11 = .ok (.iconst 3, 1) := by decide +kernel
theorem dX3_rowOf_12 : decode cX3_rowOf 12 = .ok (.iconst 0, 1) := by decide +kernel
theorem dX3_rowOf_13 : decode cX3_rowOf 13 = .ok (.aload_n 0, 1) := by decide +kernel
theorem dX3_rowOf_14 : decode cX3_rowOf 14 = .ok (.getfield 18, 3) := by decide +kernel
theorem dX3_rowOf_17 : decode cX3_rowOf 17 = .ok (.iconst 0, 1) := by decide +kernel
theorem dX3_rowOf_18 : decode cX3_rowOf 18 = .ok (.iload_n 1, 1) := by decide +kernel
theorem dX3_rowOf_19 : decode cX3_rowOf 19 = .ok (.iload_n 2, 1) := by decide +kernel
theorem dX3_rowOf_20 : decode cX3_rowOf 20 = .ok (.invokevirtual 44, 3) := by decide +kernel
theorem dX3_rowOf_23 : decode cX3_rowOf 23 = .ok (.ireturn, 1) := by decide +kernel
theorem k198 : Cond.initialized "java/lang/Math" ∈ gtb := gtm (in_tables_1_1 (List.mem_of_getElem? (i := 12) rfl)) rfl
theorem k322 : Cond.fieldLink "BlameCourt$Judging" 111 "BlameCourt$Program" "op" "[I" ∈ gtb := gtm (in_tables_1_1 (List.mem_of_getElem? (i := 136) rfl)) rfl
theorem k326 : Cond.fieldLink "BlameCourt$Judging" 122 "BlameCourt$Program" "x" "[I" ∈ gtb := gtm (in_tables_1_1 (List.mem_of_getElem? (i := 140) rfl)) rfl
theorem k329 : Cond.fieldLink "BlameCourt$Judging" 116 "BlameCourt$Program" "y" "[I" ∈ gtb := gtm (in_tables_1_1 (List.mem_of_getElem? (i := 143) rfl)) rfl
theorem k333 : Cond.fieldLink "BlameCourt$Judging" 167 "BlameCourt$Program" "place" "[I" ∈ gtb := gtm (in_tables_1_1 (List.mem_of_getElem? (i := 147) rfl)) rfl
theorem k505 : Cond.fieldLink "BlameCourt$Judging" 9 "BlameCourt$Judging" "guards" "LBlameCourt$Guards;" ∈ gtb := gtm (in_tables_1_2 (List.mem_of_getElem? (i := 79) rfl)) rfl
theorem k508 : Cond.fieldLink "BlameCourt$Judging" 23 "BlameCourt$Judging" "inPart" "I" ∈ gtb := gtm (in_tables_1_2 (List.mem_of_getElem? (i := 82) rfl)) rfl
theorem k509 : Cond.fieldLink "BlameCourt$Judging" 27 "BlameCourt$Judging" "fault" "I" ∈ gtb := gtm (in_tables_1_2 (List.mem_of_getElem? (i := 83) rfl)) rfl
theorem k511 : Cond.fieldLink "BlameCourt$Judging" 30 "BlameCourt$Judging" "faultPlace" "I" ∈ gtb := gtm (in_tables_1_2 (List.mem_of_getElem? (i := 85) rfl)) rfl
theorem k518 : Cond.fieldLink "BlameCourt$Judging" 47 "BlameCourt$Judging" "localKind" "[I" ∈ gtb := gtm (in_tables_1_2 (List.mem_of_getElem? (i := 92) rfl)) rfl
theorem k520 : Cond.fieldLink "BlameCourt$Judging" 53 "BlameCourt$Judging" "askedAt" "[I" ∈ gtb := gtm (in_tables_1_2 (List.mem_of_getElem? (i := 94) rfl)) rfl
theorem k521 : Cond.fieldLink "BlameCourt$Judging" 56 "BlameCourt$Judging" "takerOf" "[I" ∈ gtb := gtm (in_tables_1_2 (List.mem_of_getElem? (i := 95) rfl)) rfl
theorem k1019 : Cond.methodLink "BlameCourt$Judging" 174 yX2_meet ∈ gtb := gtm (in_tables_1_4 (List.mem_of_getElem? (i := 113) rfl)) rfl
theorem k1023 : Cond.methodLink "BlameCourt$Judging" 154 yX2_below ∈ gtb := gtm (in_tables_1_4 (List.mem_of_getElem? (i := 117) rfl)) rfl
theorem k1027 : Cond.methodLink "BlameCourt$Judging" 190 yX3_fit ∈ gtb := gtm (in_tables_1_4 (List.mem_of_getElem? (i := 121) rfl)) rfl
theorem k1031 : Cond.methodLink "BlameCourt$Kinds" 73 yX3_sortOf ∈ gtb := gtm (in_tables_1_4 (List.mem_of_getElem? (i := 125) rfl)) rfl
theorem k1035 : Cond.methodLink "BlameCourt$Kinds" 76 yX3_takenBy ∈ gtb := gtm (in_tables_1_4 (List.mem_of_getElem? (i := 129) rfl)) rfl
theorem k1039 : Cond.methodLink "BlameCourt$Kinds" 79 yX3_paramOf ∈ gtb := gtm (in_tables_1_4 (List.mem_of_getElem? (i := 133) rfl)) rfl
theorem k1043 : Cond.methodLink "BlameCourt$Kinds" 83 yX3_fit ∈ gtb := gtm (in_tables_1_4 (List.mem_of_getElem? (i := 137) rfl)) rfl
theorem k1044 : Cond.methodLink "BlameCourt$Kinds" 87 yX3_givesOf ∈ gtb := gtm (in_tables_1_4 (List.mem_of_getElem? (i := 138) rfl)) rfl
theorem k1048 : Cond.methodLink "BlameCourt$Judging" 194 yX2_refuse ∈ gtb := gtm (in_tables_1_4 (List.mem_of_getElem? (i := 142) rfl)) rfl
theorem k1052 : Cond.methodLink "BlameCourt$Judging" 163 yX2_layGuard ∈ gtb := gtm (in_tables_1_4 (List.mem_of_getElem? (i := 146) rfl)) rfl
theorem k1056 : Cond.methodLink "BlameCourt$Judging" 170 yX0_lay ∈ gtb := gtm (in_tables_1_4 (List.mem_of_getElem? (i := 150) rfl)) rfl
theorem k1060 : Cond.methodLink "BlameCourt$Judging" 197 yX2_setTop ∈ gtb := gtm (in_tables_1_4 (List.mem_of_getElem? (i := 154) rfl)) rfl
theorem k1064 : Cond.methodLink "BlameCourt$Judging" 132 yJ9_max_7cf53 ∈ gtb := gtm (in_tables_1_4 (List.mem_of_getElem? (i := 158) rfl)) rfl
theorem k1065 : Cond.static yJ9_max_7cf53 ∈ gtb := gtm (in_tables_1_4 (List.mem_of_getElem? (i := 159) rfl)) rfl
theorem k1066 : Cond.code yJ9_max_7cf53 prog_14_method_65_code 2 (some .int) ∈ gtb := gtm (in_tables_1_4 (List.mem_of_getElem? (i := 160) rfl)) rfl
theorem k1067 : Cond.methodLink "BlameCourt$Judging" 178 yX2_meetForm ∈ gtb := gtm (in_tables_1_4 (List.mem_of_getElem? (i := 161) rfl)) rfl
theorem k1071 : Cond.methodLink "BlameCourt$Judging" 200 yX3_sortOf ∈ gtb := gtm (in_tables_1_4 (List.mem_of_getElem? (i := 165) rfl)) rfl
theorem k1072 : Cond.methodLink "BlameCourt$Judging" 181 yX2_meetCalled ∈ gtb := gtm (in_tables_1_4 (List.mem_of_getElem? (i := 166) rfl)) rfl
theorem k1076 : Cond.methodLink "BlameCourt$Judging" 203 yX3_takenBy ∈ gtb := gtm (in_tables_1_4 (List.mem_of_getElem? (i := 170) rfl)) rfl
theorem k1077 : Cond.methodLink "BlameCourt$Judging" 184 yX3_paramOf ∈ gtb := gtm (in_tables_1_4 (List.mem_of_getElem? (i := 171) rfl)) rfl
theorem k1078 : Cond.methodLink "BlameCourt$Judging" 187 yX2_takerBelow ∈ gtb := gtm (in_tables_1_4 (List.mem_of_getElem? (i := 172) rfl)) rfl
theorem k1082 : Cond.methodLink "BlameCourt$Judging" 160 yX3_givesOf ∈ gtb := gtm (in_tables_1_4 (List.mem_of_getElem? (i := 176) rfl)) rfl
theorem k1087 : Cond.methodLink "BlameCourt$Judging" 151 yX3_rowOf ∈ gtb := gtm (in_tables_1_4 (List.mem_of_getElem? (i := 181) rfl)) rfl
theorem k1088 : Cond.methodLink "BlameCourt$Judging" 157 yX2_replace ∈ gtb := gtm (in_tables_1_4 (List.mem_of_getElem? (i := 182) rfl)) rfl
theorem k1092 : Cond.methodLink "BlameCourt$Judging" 137 yX2_push ∈ gtb := gtm (in_tables_1_4 (List.mem_of_getElem? (i := 186) rfl)) rfl
theorem k1096 : Cond.methodLink "BlameCourt$Judging" 143 yX2_pop ∈ gtb := gtm (in_tables_1_4 (List.mem_of_getElem? (i := 190) rfl)) rfl
theorem k1104 : Cond.methodLink "BlameCourt$Judging" 140 yX2_bind ∈ gtb := gtm (in_tables_1_4 (List.mem_of_getElem? (i := 198) rfl)) rfl
theorem k1108 : Cond.methodLink "BlameCourt$Judging" 147 yX2_mix ∈ gtb := gtm (in_tables_1_4 (List.mem_of_getElem? (i := 202) rfl)) rfl
theorem k1107 : Cond.code yX2_bind cX2_bind 3 none ∈ gtb := gtm (in_tables_1_4 (List.mem_of_getElem? (i := 201) rfl)) rfl
theorem ka_X2_bind : KA yX2_bind cX2_bind 3 none 1 := ⟨k1107, k194, by decide, by decide, by decide +kernel⟩
theorem k1106 : Cond.instanceMethod yX2_bind ∈ gtb := gtm (in_tables_1_4 (List.mem_of_getElem? (i := 200) rfl)) rfl
theorem k64 : Cond.selects "BlameCourt$Judging" yX2_bind yX2_bind ∈ gtb := gtm (in_lw_privs_5 (q := (yX2_bind, 15)) (List.mem_of_getElem? (i := 0) rfl)) rfl
theorem kv_X2_bind : KV yX2_bind := ⟨k1106, k64⟩
theorem k1018 : Cond.code yX2_judgeAsking cX2_judgeAsking 3 none ∈ gtb := gtm (in_tables_1_4 (List.mem_of_getElem? (i := 112) rfl)) rfl
theorem ka_X2_judgeAsking : KA yX2_judgeAsking cX2_judgeAsking 3 none 1 := ⟨k1018, k194, by decide, by decide, by decide +kernel⟩
theorem k1017 : Cond.instanceMethod yX2_judgeAsking ∈ gtb := gtm (in_tables_1_4 (List.mem_of_getElem? (i := 111) rfl)) rfl
theorem k50 : Cond.selects "BlameCourt$Judging" yX2_judgeAsking yX2_judgeAsking ∈ gtb := gtm (in_lw_privs_4 (q := (yX2_judgeAsking, 15)) (List.mem_of_getElem? (i := 2) rfl)) rfl
theorem kv_X2_judgeAsking : KV yX2_judgeAsking := ⟨k1017, k50⟩
theorem k1103 : Cond.code yX2_judgePlain cX2_judgePlain 3 none ∈ gtb := gtm (in_tables_1_4 (List.mem_of_getElem? (i := 197) rfl)) rfl
theorem ka_X2_judgePlain : KA yX2_judgePlain cX2_judgePlain 3 none 2 := ⟨k1103, k194, by decide, by decide, by decide +kernel⟩
theorem k1102 : Cond.instanceMethod yX2_judgePlain ∈ gtb := gtm (in_tables_1_4 (List.mem_of_getElem? (i := 196) rfl)) rfl
theorem k63 : Cond.selects "BlameCourt$Judging" yX2_judgePlain yX2_judgePlain ∈ gtb := gtm (in_lw_privs_4 (q := (yX2_judgePlain, 15)) (List.mem_of_getElem? (i := 15) rfl)) rfl
theorem kv_X2_judgePlain : KV yX2_judgePlain := ⟨k1102, k63⟩
theorem k1086 : Cond.code yX2_judgeWork cX2_judgeWork 3 none ∈ gtb := gtm (in_tables_1_4 (List.mem_of_getElem? (i := 180) rfl)) rfl
theorem ka_X2_judgeWork : KA yX2_judgeWork cX2_judgeWork 3 none 2 := ⟨k1086, k194, by decide, by decide, by decide +kernel⟩
theorem k1085 : Cond.instanceMethod yX2_judgeWork ∈ gtb := gtm (in_tables_1_4 (List.mem_of_getElem? (i := 179) rfl)) rfl
theorem k59 : Cond.selects "BlameCourt$Judging" yX2_judgeWork yX2_judgeWork ∈ gtb := gtm (in_lw_privs_4 (q := (yX2_judgeWork, 15)) (List.mem_of_getElem? (i := 11) rfl)) rfl
theorem kv_X2_judgeWork : KV yX2_judgeWork := ⟨k1085, k59⟩
theorem k1055 : Cond.code yX2_layGuard cX2_layGuard 5 none ∈ gtb := gtm (in_tables_1_4 (List.mem_of_getElem? (i := 149) rfl)) rfl
theorem ka_X2_layGuard : KA yX2_layGuard cX2_layGuard 5 none 4 := ⟨k1055, k194, by decide, by decide, by decide +kernel⟩
theorem k1054 : Cond.instanceMethod yX2_layGuard ∈ gtb := gtm (in_tables_1_4 (List.mem_of_getElem? (i := 148) rfl)) rfl
theorem k54 : Cond.selects "BlameCourt$Judging" yX2_layGuard yX2_layGuard ∈ gtb := gtm (in_lw_privs_4 (q := (yX2_layGuard, 15)) (List.mem_of_getElem? (i := 6) rfl)) rfl
theorem kv_X2_layGuard : KV yX2_layGuard := ⟨k1054, k54⟩
theorem k1022 : Cond.code yX2_meet cX2_meet 5 none ∈ gtb := gtm (in_tables_1_4 (List.mem_of_getElem? (i := 116) rfl)) rfl
theorem ka_X2_meet : KA yX2_meet cX2_meet 5 none 3 := ⟨k1022, k194, by decide, by decide, by decide +kernel⟩
theorem k1021 : Cond.instanceMethod yX2_meet ∈ gtb := gtm (in_tables_1_4 (List.mem_of_getElem? (i := 115) rfl)) rfl
theorem k51 : Cond.selects "BlameCourt$Judging" yX2_meet yX2_meet ∈ gtb := gtm (in_lw_privs_4 (q := (yX2_meet, 15)) (List.mem_of_getElem? (i := 3) rfl)) rfl
theorem kv_X2_meet : KV yX2_meet := ⟨k1021, k51⟩
theorem k1075 : Cond.code yX2_meetCalled cX2_meetCalled 4 none ∈ gtb := gtm (in_tables_1_4 (List.mem_of_getElem? (i := 169) rfl)) rfl
theorem ka_X2_meetCalled : KA yX2_meetCalled cX2_meetCalled 4 none 2 := ⟨k1075, k194, by decide, by decide, by decide +kernel⟩
theorem k1074 : Cond.instanceMethod yX2_meetCalled ∈ gtb := gtm (in_tables_1_4 (List.mem_of_getElem? (i := 168) rfl)) rfl
theorem k57 : Cond.selects "BlameCourt$Judging" yX2_meetCalled yX2_meetCalled ∈ gtb := gtm (in_lw_privs_4 (q := (yX2_meetCalled, 15)) (List.mem_of_getElem? (i := 9) rfl)) rfl
theorem kv_X2_meetCalled : KV yX2_meetCalled := ⟨k1074, k57⟩
theorem k1070 : Cond.code yX2_meetForm cX2_meetForm 5 none ∈ gtb := gtm (in_tables_1_4 (List.mem_of_getElem? (i := 164) rfl)) rfl
theorem ka_X2_meetForm : KA yX2_meetForm cX2_meetForm 5 none 3 := ⟨k1070, k194, by decide, by decide, by decide +kernel⟩
theorem k1069 : Cond.instanceMethod yX2_meetForm ∈ gtb := gtm (in_tables_1_4 (List.mem_of_getElem? (i := 163) rfl)) rfl
theorem k56 : Cond.selects "BlameCourt$Judging" yX2_meetForm yX2_meetForm ∈ gtb := gtm (in_lw_privs_4 (q := (yX2_meetForm, 15)) (List.mem_of_getElem? (i := 8) rfl)) rfl
theorem kv_X2_meetForm : KV yX2_meetForm := ⟨k1069, k56⟩
theorem k1111 : Cond.code yX2_mix cX2_mix 6 (some .int) ∈ gtb := gtm (in_tables_1_4 (List.mem_of_getElem? (i := 205) rfl)) rfl
theorem ka_X2_mix : KA yX2_mix cX2_mix 6 (some .int) 1 := ⟨k1111, k194, by decide, by decide, by decide +kernel⟩
theorem k1110 : Cond.instanceMethod yX2_mix ∈ gtb := gtm (in_tables_1_4 (List.mem_of_getElem? (i := 204) rfl)) rfl
theorem k65 : Cond.selects "BlameCourt$Judging" yX2_mix yX2_mix ∈ gtb := gtm (in_lw_privs_5 (q := (yX2_mix, 15)) (List.mem_of_getElem? (i := 1) rfl)) rfl
theorem kv_X2_mix : KV yX2_mix := ⟨k1110, k65⟩
theorem k1099 : Cond.code yX2_pop cX2_pop 1 (some .int) ∈ gtb := gtm (in_tables_1_4 (List.mem_of_getElem? (i := 193) rfl)) rfl
theorem ka_X2_pop : KA yX2_pop cX2_pop 1 (some .int) 0 := ⟨k1099, k194, by decide, by decide, by decide +kernel⟩
theorem k1098 : Cond.instanceMethod yX2_pop ∈ gtb := gtm (in_tables_1_4 (List.mem_of_getElem? (i := 192) rfl)) rfl
theorem k62 : Cond.selects "BlameCourt$Judging" yX2_pop yX2_pop ∈ gtb := gtm (in_lw_privs_4 (q := (yX2_pop, 15)) (List.mem_of_getElem? (i := 14) rfl)) rfl
theorem kv_X2_pop : KV yX2_pop := ⟨k1098, k62⟩
theorem k1095 : Cond.code yX2_push cX2_push 2 none ∈ gtb := gtm (in_tables_1_4 (List.mem_of_getElem? (i := 189) rfl)) rfl
theorem ka_X2_push : KA yX2_push cX2_push 2 none 1 := ⟨k1095, k194, by decide, by decide, by decide +kernel⟩
theorem k1094 : Cond.instanceMethod yX2_push ∈ gtb := gtm (in_tables_1_4 (List.mem_of_getElem? (i := 188) rfl)) rfl
theorem k61 : Cond.selects "BlameCourt$Judging" yX2_push yX2_push ∈ gtb := gtm (in_lw_privs_4 (q := (yX2_push, 15)) (List.mem_of_getElem? (i := 13) rfl)) rfl
theorem kv_X2_push : KV yX2_push := ⟨k1094, k61⟩
theorem k1051 : Cond.code yX2_refuse cX2_refuse 3 none ∈ gtb := gtm (in_tables_1_4 (List.mem_of_getElem? (i := 145) rfl)) rfl
theorem ka_X2_refuse : KA yX2_refuse cX2_refuse 3 none 2 := ⟨k1051, k194, by decide, by decide, by decide +kernel⟩
theorem k1050 : Cond.instanceMethod yX2_refuse ∈ gtb := gtm (in_tables_1_4 (List.mem_of_getElem? (i := 144) rfl)) rfl
theorem k53 : Cond.selects "BlameCourt$Judging" yX2_refuse yX2_refuse ∈ gtb := gtm (in_lw_privs_4 (q := (yX2_refuse, 15)) (List.mem_of_getElem? (i := 5) rfl)) rfl
theorem kv_X2_refuse : KV yX2_refuse := ⟨k1050, k53⟩
theorem k1091 : Cond.code yX2_replace cX2_replace 3 none ∈ gtb := gtm (in_tables_1_4 (List.mem_of_getElem? (i := 185) rfl)) rfl
theorem ka_X2_replace : KA yX2_replace cX2_replace 3 none 2 := ⟨k1091, k194, by decide, by decide, by decide +kernel⟩
theorem k1090 : Cond.instanceMethod yX2_replace ∈ gtb := gtm (in_tables_1_4 (List.mem_of_getElem? (i := 184) rfl)) rfl
theorem k60 : Cond.selects "BlameCourt$Judging" yX2_replace yX2_replace ∈ gtb := gtm (in_lw_privs_4 (q := (yX2_replace, 15)) (List.mem_of_getElem? (i := 12) rfl)) rfl
theorem kv_X2_replace : KV yX2_replace := ⟨k1090, k60⟩
theorem k1063 : Cond.code yX2_setTop cX2_setTop 2 none ∈ gtb := gtm (in_tables_1_4 (List.mem_of_getElem? (i := 157) rfl)) rfl
theorem ka_X2_setTop : KA yX2_setTop cX2_setTop 2 none 1 := ⟨k1063, k194, by decide, by decide, by decide +kernel⟩
theorem k1062 : Cond.instanceMethod yX2_setTop ∈ gtb := gtm (in_tables_1_4 (List.mem_of_getElem? (i := 156) rfl)) rfl
theorem k55 : Cond.selects "BlameCourt$Judging" yX2_setTop yX2_setTop ∈ gtb := gtm (in_lw_privs_4 (q := (yX2_setTop, 15)) (List.mem_of_getElem? (i := 7) rfl)) rfl
theorem kv_X2_setTop : KV yX2_setTop := ⟨k1062, k55⟩
theorem k1081 : Cond.code yX2_takerBelow cX2_takerBelow 3 (some .int) ∈ gtb := gtm (in_tables_1_4 (List.mem_of_getElem? (i := 175) rfl)) rfl
theorem ka_X2_takerBelow : KA yX2_takerBelow cX2_takerBelow 3 (some .int) 1 := ⟨k1081, k194, by decide, by decide, by decide +kernel⟩
theorem k1080 : Cond.instanceMethod yX2_takerBelow ∈ gtb := gtm (in_tables_1_4 (List.mem_of_getElem? (i := 174) rfl)) rfl
theorem k58 : Cond.selects "BlameCourt$Judging" yX2_takerBelow yX2_takerBelow ∈ gtb := gtm (in_lw_privs_4 (q := (yX2_takerBelow, 15)) (List.mem_of_getElem? (i := 10) rfl)) rfl
theorem kv_X2_takerBelow : KV yX2_takerBelow := ⟨k1080, k58⟩
theorem k1030 : Cond.code yX3_fit cX3_fit 8 (some .boolean) ∈ gtb := gtm (in_tables_1_4 (List.mem_of_getElem? (i := 124) rfl)) rfl
theorem ka_X3_fit : KA yX3_fit cX3_fit 8 (some .boolean) 3 := ⟨k1030, k189, by decide, by decide, by decide +kernel⟩
theorem k1028 : Cond.instanceMethod yX3_fit ∈ gtb := gtm (in_tables_1_4 (List.mem_of_getElem? (i := 122) rfl)) rfl
theorem k1029 : Cond.selects "BlameCourt$Kinds" yX3_fit yX3_fit ∈ gtb := gtm (in_tables_1_4 (List.mem_of_getElem? (i := 123) rfl)) rfl
theorem kv_X3_fit : KV yX3_fit := ⟨k1028, k1029⟩
theorem k1047 : Cond.code yX3_givesOf cX3_givesOf 2 (some .int) ∈ gtb := gtm (in_tables_1_4 (List.mem_of_getElem? (i := 141) rfl)) rfl
theorem ka_X3_givesOf : KA yX3_givesOf cX3_givesOf 2 (some .int) 1 := ⟨k1047, k189, by decide, by decide, by decide +kernel⟩
theorem k1045 : Cond.instanceMethod yX3_givesOf ∈ gtb := gtm (in_tables_1_4 (List.mem_of_getElem? (i := 139) rfl)) rfl
theorem k1046 : Cond.selects "BlameCourt$Kinds" yX3_givesOf yX3_givesOf ∈ gtb := gtm (in_tables_1_4 (List.mem_of_getElem? (i := 140) rfl)) rfl
theorem kv_X3_givesOf : KV yX3_givesOf := ⟨k1045, k1046⟩
theorem k1042 : Cond.code yX3_paramOf cX3_paramOf 3 (some .int) ∈ gtb := gtm (in_tables_1_4 (List.mem_of_getElem? (i := 136) rfl)) rfl
theorem ka_X3_paramOf : KA yX3_paramOf cX3_paramOf 3 (some .int) 2 := ⟨k1042, k189, by decide, by decide, by decide +kernel⟩
theorem k1040 : Cond.instanceMethod yX3_paramOf ∈ gtb := gtm (in_tables_1_4 (List.mem_of_getElem? (i := 134) rfl)) rfl
theorem k1041 : Cond.selects "BlameCourt$Kinds" yX3_paramOf yX3_paramOf ∈ gtb := gtm (in_tables_1_4 (List.mem_of_getElem? (i := 135) rfl)) rfl
theorem kv_X3_paramOf : KV yX3_paramOf := ⟨k1040, k1041⟩
theorem k241 : Cond.code yX3_rowOf cX3_rowOf 3 (some .int) ∈ gtb := gtm (in_tables_1_1 (List.mem_of_getElem? (i := 55) rfl)) rfl
theorem ka_X3_rowOf : KA yX3_rowOf cX3_rowOf 3 (some .int) 1 := ⟨k241, k189, by decide, by decide, by decide +kernel⟩
theorem k239 : Cond.instanceMethod yX3_rowOf ∈ gtb := gtm (in_tables_1_1 (List.mem_of_getElem? (i := 53) rfl)) rfl
theorem k240 : Cond.selects "BlameCourt$Kinds" yX3_rowOf yX3_rowOf ∈ gtb := gtm (in_tables_1_1 (List.mem_of_getElem? (i := 54) rfl)) rfl
theorem kv_X3_rowOf : KV yX3_rowOf := ⟨k239, k240⟩
noncomputable def g_Kinds_paramOf (o0 : Nat) (p1 : Int32) (p2 : Int32) (X : St) : Option (Int32 × St) :=
  if p1.toInt < 0 then
    some (2, X)
  else
    letV (X.1 o0 0) fun x1 =>
    if x1.toInt ≤ p1.toInt then
      some (2, X)
    else
      if p2.toInt < 0 then
        some (2, X)
      else
        letV (kY YC o0 2 - 3) fun e2 =>
        chk (inR p1 1549) (letV (X.1 e2 (ix p1)) fun x3 =>
        if x3.toInt ≤ p2.toInt then
          some (2, X)
        else
          letV (kY YC o0 3 - 3) fun e4 =>
          letV (p1 * (5 : Int32)) fun x5 =>
          letV (x5 + p2) fun x6 =>
          chk (inR x6 7745) (letV (X.1 e4 (ix x6)) fun x7 =>
          some (x7, X)))
set_option maxHeartbeats 4000000 in
set_option maxRecDepth 100000 in
theorem k_Kinds_paramOf (Γ : GxC) (o0 : Nat) (ho0 : isO YC o0 3 8) (p1 : Int32) (p2 : Int32) (X : St) : TCI YC Γ yX3_paramOf cX3_paramOf 3 "BlameCourt$Kinds" (some .int) { frames := 2, cells := 0, slots := 0, locals := 70 } [.ref (Γ.2.2.2.1 o0), .int p1, .int p2] X (g_Kinds_paramOf o0 p1 p2 X) := by
  refine TCI.of (by decide) (Nat.le_of_ble_eq_true rfl) rfl ?_
  show TC YC Γ cX3_paramOf 3 "BlameCourt$Kinds" (some .int) { frames := 2, cells := 0, slots := 0, locals := 70 } _ kI 0 [(0, .ref (Γ.2.2.2.1 o0)), (1, .int p1), (2, .int p2)] [] X (g_Kinds_paramOf o0 p1 p2 X)
  unfold g_Kinds_paramOf
  refine TC.iload_n dX3_paramOf_0 rfl 1 rfl ?_
  refine TC.if_lt (pc1 := 39) dX3_paramOf_1 (by decide) ?_ ?_
  · refine TC.iconst (w := 2) dX3_paramOf_39 (by decide) ?_
    exact TC.ret_i rfl dX3_paramOf_40
  · refine TC.iload_n dX3_paramOf_4 rfl 1 rfl ?_
    refine TC.aload_n dX3_paramOf_5 rfl 0 rfl ?_
    refine gC3_0 o0 ho0 k257 dX3_paramOf_6 (fun x1 => ?_)
    refine TC.icmp_ge (pc1 := 39) dX3_paramOf_9 (by decide) rfl ?_ ?_
    · refine TC.iconst (w := 2) dX3_paramOf_39 (by decide) ?_
      exact TC.ret_i rfl dX3_paramOf_40
    · refine TC.iload_n dX3_paramOf_12 rfl 2 rfl ?_
      refine TC.if_lt (pc1 := 39) dX3_paramOf_13 (by decide) ?_ ?_
      · refine TC.iconst (w := 2) dX3_paramOf_39 (by decide) ?_
        exact TC.ret_i rfl dX3_paramOf_40
      · refine TC.iload_n dX3_paramOf_16 rfl 2 rfl ?_
        refine TC.aload_n dX3_paramOf_17 rfl 0 rfl ?_
        refine vC3_2 o0 ho0 k251 dX3_paramOf_18 (fun e2 he2 => ?_)
        refine TC.iload_n dX3_paramOf_21 rfl 1 rfl ?_
        refine TC.iald e2 he2 dX3_paramOf_22 (fun x3 => ?_)
        refine TC.icmp_ge (pc1 := 39) dX3_paramOf_23 (by decide) rfl ?_ ?_
        · refine TC.iconst (w := 2) dX3_paramOf_39 (by decide) ?_
          exact TC.ret_i rfl dX3_paramOf_40
        · refine TC.aload_n dX3_paramOf_26 rfl 0 rfl ?_
          refine vC3_3 o0 ho0 k252 dX3_paramOf_27 (fun e4 he4 => ?_)
          refine TC.iload_n dX3_paramOf_30 rfl 1 rfl ?_
          refine TC.iconst (w := 5) dX3_paramOf_31 (by decide) ?_
          refine TC.imul dX3_paramOf_32 (fun x5 => ?_)
          refine TC.iload_n dX3_paramOf_33 rfl 2 rfl ?_
          refine TC.iadd dX3_paramOf_34 (fun x6 => ?_)
          refine TC.iald e4 he4 dX3_paramOf_35 (fun x7 => ?_)
          refine TC.goto (pc1 := 40) dX3_paramOf_36 (by decide) ?_
          exact TC.ret_i rfl dX3_paramOf_40
noncomputable def g_Kinds_givesOf (o0 : Nat) (p1 : Int32) (X : St) : Option (Int32 × St) :=
  if p1.toInt < 0 then
    some (2, X)
  else
    letV (X.1 o0 0) fun x1 =>
    if x1.toInt ≤ p1.toInt then
      some (2, X)
    else
      letV (kY YC o0 3 - 3) fun e2 =>
      letV (p1 * (5 : Int32)) fun x3 =>
      letV (x3 + (4 : Int32)) fun x4 =>
      chk (inR x4 7745) (letV (X.1 e2 (ix x4)) fun x5 =>
      some (x5, X))
set_option maxHeartbeats 4000000 in
set_option maxRecDepth 100000 in
theorem k_Kinds_givesOf (Γ : GxC) (o0 : Nat) (ho0 : isO YC o0 3 8) (p1 : Int32) (X : St) : TCI YC Γ yX3_givesOf cX3_givesOf 2 "BlameCourt$Kinds" (some .int) { frames := 2, cells := 0, slots := 0, locals := 70 } [.ref (Γ.2.2.2.1 o0), .int p1] X (g_Kinds_givesOf o0 p1 X) := by
  refine TCI.of (by decide) (Nat.le_of_ble_eq_true rfl) rfl ?_
  show TC YC Γ cX3_givesOf 2 "BlameCourt$Kinds" (some .int) { frames := 2, cells := 0, slots := 0, locals := 70 } _ kI 0 [(0, .ref (Γ.2.2.2.1 o0)), (1, .int p1)] [] X (g_Kinds_givesOf o0 p1 X)
  unfold g_Kinds_givesOf
  refine TC.iload_n dX3_givesOf_0 rfl 1 rfl ?_
  refine TC.if_lt (pc1 := 25) dX3_givesOf_1 (by decide) ?_ ?_
  · refine TC.iconst (w := 2) dX3_givesOf_25 (by decide) ?_
    exact TC.ret_i rfl dX3_givesOf_26
  · refine TC.iload_n dX3_givesOf_4 rfl 1 rfl ?_
    refine TC.aload_n dX3_givesOf_5 rfl 0 rfl ?_
    refine gC3_0 o0 ho0 k257 dX3_givesOf_6 (fun x1 => ?_)
    refine TC.icmp_ge (pc1 := 25) dX3_givesOf_9 (by decide) rfl ?_ ?_
    · refine TC.iconst (w := 2) dX3_givesOf_25 (by decide) ?_
      exact TC.ret_i rfl dX3_givesOf_26
    · refine TC.aload_n dX3_givesOf_12 rfl 0 rfl ?_
      refine vC3_3 o0 ho0 k252 dX3_givesOf_13 (fun e2 he2 => ?_)
      refine TC.iload_n dX3_givesOf_16 rfl 1 rfl ?_
      refine TC.iconst (w := 5) dX3_givesOf_17 (by decide) ?_
      refine TC.imul dX3_givesOf_18 (fun x3 => ?_)
      refine TC.iconst (w := 4) dX3_givesOf_19 (by decide) ?_
      refine TC.iadd dX3_givesOf_20 (fun x4 => ?_)
      refine TC.iald e2 he2 dX3_givesOf_21 (fun x5 => ?_)
      refine TC.goto (pc1 := 26) dX3_givesOf_22 (by decide) ?_
      exact TC.ret_i rfl dX3_givesOf_26
noncomputable def g_Kinds_fit_79_s (v_fit : Nat → Int32 → Int32 → Int32 → St → Option (Int32 × St)) (r9 : Nat → Int32 → Int32 → Int32 → Int32 → St → Option (Int32 × St)) (r79 : Nat → Int32 → Int32 → Int32 → Int32 → Int32 → St → Option (Int32 × St)) (e_0 : Nat) (a_3 : Int32) (a_4 : Int32) (a_5 : Int32) (a_6 : Int32) (a_7 : Int32) (X : St) : Option (Int32 × St) :=
  bnd (g_Kinds_takenBy e_0 a_4 X) fun x9 X10 =>
  if x9.toInt ≤ a_7.toInt then
    bnd (g_Kinds_givesOf e_0 a_4 X10) fun x11 X12 =>
    bnd (g_Kinds_givesOf e_0 a_5 X12) fun x13 X14 =>
    letV (a_6 + Int32.ofInt (1)) fun x15 =>
    r9 e_0 a_3 x11 x13 x15 X14
  else
    bnd (g_Kinds_paramOf e_0 a_4 a_7 X10) fun x16 X17 =>
    bnd (g_Kinds_paramOf e_0 a_5 a_7 X17) fun x18 X19 =>
    letV (a_3 + (1 : Int32)) fun x20 =>
    bnd (v_fit e_0 x16 x18 x20 X19) fun x21 X22 =>
    if x21.toInt = 0 then
      some (0, X22)
    else
      letV (a_7 + Int32.ofInt (1)) fun x23 =>
      r79 e_0 a_3 a_4 a_5 a_6 x23 X22
noncomputable def g_Kinds_fit_79 (v_fit : Nat → Int32 → Int32 → Int32 → St → Option (Int32 × St)) (r9 : Nat → Int32 → Int32 → Int32 → Int32 → St → Option (Int32 × St)) (n : Nat) : Nat → Int32 → Int32 → Int32 → Int32 → Int32 → St → Option (Int32 × St) := lp (fun _ _ _ _ _ _ _ => none) (g_Kinds_fit_79_s v_fit r9) n
set_option maxHeartbeats 4000000 in
set_option maxRecDepth 100000 in
theorem k_Kinds_fit_79 (Γ : GxC) (d : Nat) (As : List Value) (v_fit : Nat → Int32 → Int32 → Int32 → St → Option (Int32 × St)) (hv_fit : ∀ (o0 : Nat) (ho0 : isO YC o0 3 8) (p1 : Int32) (p2 : Int32) (p3 : Int32) (X : St), TCI YC Γ yX3_fit cX3_fit 8 "BlameCourt$Kinds" (some .boolean) { frames := (3 + 1 * d), cells := 0, slots := 0, locals := (110 + 40 * d) } [.ref (Γ.2.2.2.1 o0), .int p1, .int p2, .int p3] X (v_fit o0 p1 p2 p3 X)) (r9 : Nat → Int32 → Int32 → Int32 → Int32 → St → Option (Int32 × St)) (hr9 : ∀ (e_0 : Nat) (he_0 : isO YC e_0 3 8) (a_3 : Int32) (a_4 : Int32) (a_5 : Int32) (a_6 : Int32) (X : St), TC YC Γ cX3_fit 8 "BlameCourt$Kinds" (some .boolean) { frames := (3 + 1 * (d + 1)), cells := 0, slots := 0, locals := (110 + 40 * (d + 1)) } As kI 9 [(0, .ref (Γ.2.2.2.1 e_0)), (3, .int a_3), (4, .int a_4), (5, .int a_5), (6, .int a_6)] [] X (r9 e_0 a_3 a_4 a_5 a_6 X)) (n : Nat) : ∀ (e_0 : Nat) (he_0 : isO YC e_0 3 8) (a_3 : Int32) (a_4 : Int32) (a_5 : Int32) (a_6 : Int32) (a_7 : Int32) (X : St), TC YC Γ cX3_fit 8 "BlameCourt$Kinds" (some .boolean) { frames := (3 + 1 * (d + 1)), cells := 0, slots := 0, locals := (110 + 40 * (d + 1)) } As kI 79 [(0, .ref (Γ.2.2.2.1 e_0)), (3, .int a_3), (4, .int a_4), (5, .int a_5), (6, .int a_6), (7, .int a_7)] [] X (g_Kinds_fit_79 v_fit r9 n e_0 a_3 a_4 a_5 a_6 a_7 X) := by
  unfold g_Kinds_fit_79
  refine lp_ind (P := fun (r79 : Nat → Int32 → Int32 → Int32 → Int32 → Int32 → St → Option (Int32 × St)) => ∀ (e_0 : Nat) (he_0 : isO YC e_0 3 8) (a_3 : Int32) (a_4 : Int32) (a_5 : Int32) (a_6 : Int32) (a_7 : Int32) (X : St), TC YC Γ cX3_fit 8 "BlameCourt$Kinds" (some .boolean) { frames := (3 + 1 * (d + 1)), cells := 0, slots := 0, locals := (110 + 40 * (d + 1)) } As kI 79 [(0, .ref (Γ.2.2.2.1 e_0)), (3, .int a_3), (4, .int a_4), (5, .int a_5), (6, .int a_6), (7, .int a_7)] [] X (r79 e_0 a_3 a_4 a_5 a_6 a_7 X)) (fun _ _ _ _ _ _ _ _ => TC.no) ?_ n
  intro r79 hr79 e_0 he_0 a_3 a_4 a_5 a_6 a_7 X
  unfold g_Kinds_fit_79_s
  refine TC.iload dX3_fit_79 5 rfl ?_
  refine TC.aload_n dX3_fit_81 rfl 0 rfl ?_
  refine TC.iload dX3_fit_82 2 rfl ?_
  refine TC.callV_i e_0 (As1 := [.int a_4]) (rest := [.int a_7]) (k_Kinds_takenBy Γ e_0 he_0 a_4 X) ka_X3_takenBy kv_X3_takenBy he_0 rfl k1035 rfl rfl rfl rfl (show 2 + 1 ≤ (3 + 1 * (d + 1)) ∧ 8 + (2 + 11) + 70 ≤ (110 + 40 * (d + 1)) from ⟨by omega, by omega⟩) (Nat.le_of_ble_eq_true rfl) dX3_fit_84 (fun x9 X10 => ?_)
  refine TC.icmp_ge (pc1 := 124) dX3_fit_87 (by decide) rfl ?_ ?_
  · refine TC.aload_n dX3_fit_124 rfl 0 rfl ?_
    refine TC.iload dX3_fit_125 2 rfl ?_
    refine TC.callV_i e_0 (As1 := [.int a_4]) (rest := []) (k_Kinds_givesOf Γ e_0 he_0 a_4 X10) ka_X3_givesOf kv_X3_givesOf he_0 rfl k1044 rfl rfl rfl rfl (show 2 + 1 ≤ (3 + 1 * (d + 1)) ∧ 8 + (2 + 11) + 70 ≤ (110 + 40 * (d + 1)) from ⟨by omega, by omega⟩) (Nat.le_of_ble_eq_true rfl) dX3_fit_127 (fun x11 X12 => ?_)
    refine TC.istore (lv1 := [(4, .int x11), (0, .ref (Γ.2.2.2.1 e_0)), (3, .int a_3), (5, .int a_5), (6, .int a_6), (7, .int a_7)]) dX3_fit_130 (by decide) rfl ?_
    refine TC.aload_n dX3_fit_132 rfl 1 rfl ?_
    refine TC.iload dX3_fit_133 3 rfl ?_
    refine TC.callV_i e_0 (As1 := [.int a_5]) (rest := []) (k_Kinds_givesOf Γ e_0 he_0 a_5 X12) ka_X3_givesOf kv_X3_givesOf he_0 rfl k1044 rfl rfl rfl rfl (show 2 + 1 ≤ (3 + 1 * (d + 1)) ∧ 8 + (2 + 11) + 70 ≤ (110 + 40 * (d + 1)) from ⟨by omega, by omega⟩) (Nat.le_of_ble_eq_true rfl) dX3_fit_135 (fun x13 X14 => ?_)
    refine TC.istore (lv1 := [(5, .int x13), (4, .int x11), (0, .ref (Γ.2.2.2.1 e_0)), (3, .int a_3), (6, .int a_6), (7, .int a_7)]) dX3_fit_138 (by decide) rfl ?_
    refine TC.iinc dX3_fit_140 4 rfl (by decide) (lvf := fun x15 => [(6, .int x15), (5, .int x13), (4, .int x11), (0, .ref (Γ.2.2.2.1 e_0)), (3, .int a_3), (7, .int a_7)]) (fun _ => rfl) (fun x15 => ?_)
    refine TC.goto (pc1 := 9) dX3_fit_143 (by decide) ?_
    refine TC.sub [3, 4, 2, 1, 0] rfl ?_
    exact hr9 e_0 he_0 a_3 x11 x13 x15 X14
  · refine TC.aload_n dX3_fit_90 rfl 0 rfl ?_
    refine TC.aload_n dX3_fit_91 rfl 0 rfl ?_
    refine TC.iload dX3_fit_92 2 rfl ?_
    refine TC.iload dX3_fit_94 5 rfl ?_
    refine TC.callV_i e_0 (As1 := [.int a_4, .int a_7]) (rest := [.ref (Γ.2.2.2.1 e_0)]) (k_Kinds_paramOf Γ e_0 he_0 a_4 a_7 X10) ka_X3_paramOf kv_X3_paramOf he_0 rfl k1039 rfl rfl rfl rfl (show 2 + 1 ≤ (3 + 1 * (d + 1)) ∧ 8 + (3 + 11) + 70 ≤ (110 + 40 * (d + 1)) from ⟨by omega, by omega⟩) (Nat.le_of_ble_eq_true rfl) dX3_fit_96 (fun x16 X17 => ?_)
    refine TC.aload_n dX3_fit_99 rfl 0 rfl ?_
    refine TC.iload dX3_fit_100 3 rfl ?_
    refine TC.iload dX3_fit_102 5 rfl ?_
    refine TC.callV_i e_0 (As1 := [.int a_5, .int a_7]) (rest := [.int x16, .ref (Γ.2.2.2.1 e_0)]) (k_Kinds_paramOf Γ e_0 he_0 a_5 a_7 X17) ka_X3_paramOf kv_X3_paramOf he_0 rfl k1039 rfl rfl rfl rfl (show 2 + 1 ≤ (3 + 1 * (d + 1)) ∧ 8 + (3 + 11) + 70 ≤ (110 + 40 * (d + 1)) from ⟨by omega, by omega⟩) (Nat.le_of_ble_eq_true rfl) dX3_fit_104 (fun x18 X19 => ?_)
    refine TC.iload_n dX3_fit_107 rfl 1 rfl ?_
    refine TC.iconst (w := 1) dX3_fit_108 (by decide) ?_
    refine TC.iadd dX3_fit_109 (fun x20 => ?_)
    refine TC.callV_i e_0 (As1 := [.int x16, .int x18, .int x20]) (rest := []) (hv_fit e_0 he_0 x16 x18 x20 X19) ka_X3_fit kv_X3_fit he_0 rfl k1043 rfl rfl rfl rfl (show (3 + 1 * d) + 1 ≤ (3 + 1 * (d + 1)) ∧ 8 + (8 + 11) + (110 + 40 * d) ≤ (110 + 40 * (d + 1)) from ⟨by omega, by omega⟩) (Nat.le_of_ble_eq_true rfl) dX3_fit_110 (fun x21 X22 => ?_)
    refine TC.if_ne (pc1 := 118) dX3_fit_113 (by decide) ?_ ?_
    · refine TC.iinc dX3_fit_118 5 rfl (by decide) (lvf := fun x23 => [(7, .int x23), (0, .ref (Γ.2.2.2.1 e_0)), (3, .int a_3), (4, .int a_4), (5, .int a_5), (6, .int a_6)]) (fun _ => rfl) (fun x23 => ?_)
      refine TC.goto (pc1 := 79) dX3_fit_121 (by decide) ?_
      refine TC.sub [1, 2, 3, 4, 5, 0] rfl ?_
      exact hr79 e_0 he_0 a_3 a_4 a_5 a_6 x23 X22
    · refine TC.iconst (w := 0) dX3_fit_116 (by decide) ?_
      exact TC.ret_z rfl dX3_fit_117 rfl
noncomputable def g_Kinds_fit_9_s (v_fit : Nat → Int32 → Int32 → Int32 → St → Option (Int32 × St)) (r9 : Nat → Int32 → Int32 → Int32 → Int32 → St → Option (Int32 × St)) (e_0 : Nat) (a_3 : Int32) (a_4 : Int32) (a_5 : Int32) (a_6 : Int32) (X : St) : Option (Int32 × St) :=
  if 1549 ≤ a_6.toInt then
    some (0, X)
  else
    if a_4.toInt = a_5.toInt then
      some (1, X)
    else
      if a_4.toInt = 2 then
        some (1, X)
      else
        if a_5.toInt = 2 then
          some (1, X)
        else
          bnd (g_Kinds_sortOf e_0 a_4 X) fun x1 X2 =>
          bnd (g_Kinds_sortOf e_0 a_5 X2) fun x3 X4 =>
          if x1.toInt = x3.toInt then
            bnd (g_Kinds_takenBy e_0 a_4 X4) fun x5 X6 =>
            bnd (g_Kinds_takenBy e_0 a_5 X6) fun x7 X8 =>
            if x5.toInt = x7.toInt then
              if a_3.toInt ≤ 40 then
                g_Kinds_fit_79 v_fit r9 BIG e_0 a_3 a_4 a_5 a_6 (0 : Int32) X8
              else
                some (0, X8)
            else
              some (0, X8)
          else
            some (0, X4)
noncomputable def g_Kinds_fit_9 (v_fit : Nat → Int32 → Int32 → Int32 → St → Option (Int32 × St)) (n : Nat) : Nat → Int32 → Int32 → Int32 → Int32 → St → Option (Int32 × St) := lp (fun _ _ _ _ _ _ => none) (g_Kinds_fit_9_s v_fit) n
set_option maxHeartbeats 4000000 in
set_option maxRecDepth 100000 in
theorem k_Kinds_fit_9 (Γ : GxC) (d : Nat) (As : List Value) (v_fit : Nat → Int32 → Int32 → Int32 → St → Option (Int32 × St)) (hv_fit : ∀ (o0 : Nat) (ho0 : isO YC o0 3 8) (p1 : Int32) (p2 : Int32) (p3 : Int32) (X : St), TCI YC Γ yX3_fit cX3_fit 8 "BlameCourt$Kinds" (some .boolean) { frames := (3 + 1 * d), cells := 0, slots := 0, locals := (110 + 40 * d) } [.ref (Γ.2.2.2.1 o0), .int p1, .int p2, .int p3] X (v_fit o0 p1 p2 p3 X)) (n : Nat) : ∀ (e_0 : Nat) (he_0 : isO YC e_0 3 8) (a_3 : Int32) (a_4 : Int32) (a_5 : Int32) (a_6 : Int32) (X : St), TC YC Γ cX3_fit 8 "BlameCourt$Kinds" (some .boolean) { frames := (3 + 1 * (d + 1)), cells := 0, slots := 0, locals := (110 + 40 * (d + 1)) } As kI 9 [(0, .ref (Γ.2.2.2.1 e_0)), (3, .int a_3), (4, .int a_4), (5, .int a_5), (6, .int a_6)] [] X (g_Kinds_fit_9 v_fit n e_0 a_3 a_4 a_5 a_6 X) := by
  unfold g_Kinds_fit_9
  refine lp_ind (P := fun (r9 : Nat → Int32 → Int32 → Int32 → Int32 → St → Option (Int32 × St)) => ∀ (e_0 : Nat) (he_0 : isO YC e_0 3 8) (a_3 : Int32) (a_4 : Int32) (a_5 : Int32) (a_6 : Int32) (X : St), TC YC Γ cX3_fit 8 "BlameCourt$Kinds" (some .boolean) { frames := (3 + 1 * (d + 1)), cells := 0, slots := 0, locals := (110 + 40 * (d + 1)) } As kI 9 [(0, .ref (Γ.2.2.2.1 e_0)), (3, .int a_3), (4, .int a_4), (5, .int a_5), (6, .int a_6)] [] X (r9 e_0 a_3 a_4 a_5 a_6 X)) (fun _ _ _ _ _ _ _ => TC.no) ?_ n
  intro r9 hr9 e_0 he_0 a_3 a_4 a_5 a_6 X
  unfold g_Kinds_fit_9_s
  refine TC.iload dX3_fit_9 4 rfl ?_
  refine TC.sipush (w := 1549) dX3_fit_11 (by decide) ?_
  refine TC.icmp_ge (pc1 := 146) dX3_fit_14 (by decide) rfl ?_ ?_
  · refine TC.iconst (w := 0) dX3_fit_146 (by decide) ?_
    exact TC.ret_z rfl dX3_fit_147 rfl
  · refine TC.iload dX3_fit_17 2 rfl ?_
    refine TC.iload dX3_fit_19 3 rfl ?_
    refine TC.icmp_eq (pc1 := 36) dX3_fit_21 (by decide) rfl ?_ ?_
    · refine TC.iconst (w := 1) dX3_fit_36 (by decide) ?_
      exact TC.ret_z rfl dX3_fit_37 rfl
    · refine TC.iload dX3_fit_24 2 rfl ?_
      refine TC.iconst (w := 2) dX3_fit_26 (by decide) ?_
      refine TC.icmp_eq (pc1 := 36) dX3_fit_27 (by decide) rfl ?_ ?_
      · refine TC.iconst (w := 1) dX3_fit_36 (by decide) ?_
        exact TC.ret_z rfl dX3_fit_37 rfl
      · refine TC.iload dX3_fit_30 3 rfl ?_
        refine TC.iconst (w := 2) dX3_fit_32 (by decide) ?_
        refine TC.icmp_ne (pc1 := 38) dX3_fit_33 (by decide) rfl ?_ ?_
        · refine TC.aload_n dX3_fit_38 rfl 0 rfl ?_
          refine TC.iload dX3_fit_39 2 rfl ?_
          refine TC.callV_i e_0 (As1 := [.int a_4]) (rest := []) (k_Kinds_sortOf Γ e_0 he_0 a_4 X) ka_X3_sortOf kv_X3_sortOf he_0 rfl k1031 rfl rfl rfl rfl (show 2 + 1 ≤ (3 + 1 * (d + 1)) ∧ 8 + (2 + 11) + 70 ≤ (110 + 40 * (d + 1)) from ⟨by omega, by omega⟩) (Nat.le_of_ble_eq_true rfl) dX3_fit_41 (fun x1 X2 => ?_)
          refine TC.aload_n dX3_fit_44 rfl 0 rfl ?_
          refine TC.iload dX3_fit_45 3 rfl ?_
          refine TC.callV_i e_0 (As1 := [.int a_5]) (rest := [.int x1]) (k_Kinds_sortOf Γ e_0 he_0 a_5 X2) ka_X3_sortOf kv_X3_sortOf he_0 rfl k1031 rfl rfl rfl rfl (show 2 + 1 ≤ (3 + 1 * (d + 1)) ∧ 8 + (2 + 11) + 70 ≤ (110 + 40 * (d + 1)) from ⟨by omega, by omega⟩) (Nat.le_of_ble_eq_true rfl) dX3_fit_47 (fun x3 X4 => ?_)
          refine TC.icmp_ne (pc1 := 74) dX3_fit_50 (by decide) rfl ?_ ?_
          · refine TC.iconst (w := 0) dX3_fit_74 (by decide) ?_
            exact TC.ret_z rfl dX3_fit_75 rfl
          · refine TC.aload_n dX3_fit_53 rfl 0 rfl ?_
            refine TC.iload dX3_fit_54 2 rfl ?_
            refine TC.callV_i e_0 (As1 := [.int a_4]) (rest := []) (k_Kinds_takenBy Γ e_0 he_0 a_4 X4) ka_X3_takenBy kv_X3_takenBy he_0 rfl k1035 rfl rfl rfl rfl (show 2 + 1 ≤ (3 + 1 * (d + 1)) ∧ 8 + (2 + 11) + 70 ≤ (110 + 40 * (d + 1)) from ⟨by omega, by omega⟩) (Nat.le_of_ble_eq_true rfl) dX3_fit_56 (fun x5 X6 => ?_)
            refine TC.aload_n dX3_fit_59 rfl 0 rfl ?_
            refine TC.iload dX3_fit_60 3 rfl ?_
            refine TC.callV_i e_0 (As1 := [.int a_5]) (rest := [.int x5]) (k_Kinds_takenBy Γ e_0 he_0 a_5 X6) ka_X3_takenBy kv_X3_takenBy he_0 rfl k1035 rfl rfl rfl rfl (show 2 + 1 ≤ (3 + 1 * (d + 1)) ∧ 8 + (2 + 11) + 70 ≤ (110 + 40 * (d + 1)) from ⟨by omega, by omega⟩) (Nat.le_of_ble_eq_true rfl) dX3_fit_62 (fun x7 X8 => ?_)
            refine TC.icmp_ne (pc1 := 74) dX3_fit_65 (by decide) rfl ?_ ?_
            · refine TC.iconst (w := 0) dX3_fit_74 (by decide) ?_
              exact TC.ret_z rfl dX3_fit_75 rfl
            · refine TC.iload_n dX3_fit_68 rfl 1 rfl ?_
              refine TC.bipush (w := 40) dX3_fit_69 (by decide) ?_
              refine TC.icmp_le (pc1 := 76) dX3_fit_71 (by decide) rfl ?_ ?_
              · refine TC.iconst (w := 0) dX3_fit_76 (by decide) ?_
                refine TC.istore (lv1 := [(7, .int 0), (0, .ref (Γ.2.2.2.1 e_0)), (3, .int a_3), (4, .int a_4), (5, .int a_5), (6, .int a_6)]) dX3_fit_77 (by decide) rfl ?_
                refine TC.sub [1, 2, 3, 4, 5, 0] rfl ?_
                exact k_Kinds_fit_79 Γ d _ v_fit hv_fit r9 hr9 BIG e_0 he_0 a_3 a_4 a_5 a_6 (0 : Int32) X8
              · refine TC.iconst (w := 0) dX3_fit_74 (by decide) ?_
                exact TC.ret_z rfl dX3_fit_75 rfl
        · refine TC.iconst (w := 1) dX3_fit_36 (by decide) ?_
          exact TC.ret_z rfl dX3_fit_37 rfl
noncomputable def g_Kinds_fit_b (v_fit : Nat → Int32 → Int32 → Int32 → St → Option (Int32 × St)) (o0 : Nat) (p1 : Int32) (p2 : Int32) (p3 : Int32) (X : St) : Option (Int32 × St) :=
  g_Kinds_fit_9 v_fit BIG o0 p3 p1 p2 (0 : Int32) X
set_option maxHeartbeats 4000000 in
set_option maxRecDepth 100000 in
theorem k_Kinds_fit_b (Γ : GxC) (d : Nat) (v_fit : Nat → Int32 → Int32 → Int32 → St → Option (Int32 × St)) (hv_fit : ∀ (o0 : Nat) (ho0 : isO YC o0 3 8) (p1 : Int32) (p2 : Int32) (p3 : Int32) (X : St), TCI YC Γ yX3_fit cX3_fit 8 "BlameCourt$Kinds" (some .boolean) { frames := (3 + 1 * d), cells := 0, slots := 0, locals := (110 + 40 * d) } [.ref (Γ.2.2.2.1 o0), .int p1, .int p2, .int p3] X (v_fit o0 p1 p2 p3 X)) (o0 : Nat) (ho0 : isO YC o0 3 8) (p1 : Int32) (p2 : Int32) (p3 : Int32) (X : St) : TCI YC Γ yX3_fit cX3_fit 8 "BlameCourt$Kinds" (some .boolean) { frames := (3 + 1 * (d + 1)), cells := 0, slots := 0, locals := (110 + 40 * (d + 1)) } [.ref (Γ.2.2.2.1 o0), .int p1, .int p2, .int p3] X (g_Kinds_fit_b v_fit o0 p1 p2 p3 X) := by
  refine TCI.of (by decide) (Nat.le_of_ble_eq_true rfl) rfl ?_
  show TC YC Γ cX3_fit 8 "BlameCourt$Kinds" (some .boolean) { frames := (3 + 1 * (d + 1)), cells := 0, slots := 0, locals := (110 + 40 * (d + 1)) } _ kI 0 [(0, .ref (Γ.2.2.2.1 o0)), (1, .int p1), (2, .int p2), (3, .int p3)] [] X (g_Kinds_fit_b v_fit o0 p1 p2 p3 X)
  unfold g_Kinds_fit_b
  refine TC.iload_n dX3_fit_0 rfl 1 rfl ?_
  refine TC.istore (lv1 := [(4, .int p1), (0, .ref (Γ.2.2.2.1 o0)), (1, .int p1), (2, .int p2), (3, .int p3)]) dX3_fit_1 (by decide) rfl ?_
  refine TC.iload_n dX3_fit_3 rfl 3 rfl ?_
  refine TC.istore (lv1 := [(5, .int p2), (4, .int p1), (0, .ref (Γ.2.2.2.1 o0)), (1, .int p1), (2, .int p2), (3, .int p3)]) dX3_fit_4 (by decide) rfl ?_
  refine TC.iconst (w := 0) dX3_fit_6 (by decide) ?_
  refine TC.istore (lv1 := [(6, .int 0), (5, .int p2), (4, .int p1), (0, .ref (Γ.2.2.2.1 o0)), (1, .int p1), (2, .int p2), (3, .int p3)]) dX3_fit_7 (by decide) rfl ?_
  refine TC.sub [3, 6, 2, 1, 0] rfl ?_
  exact k_Kinds_fit_9 Γ d _ v_fit hv_fit BIG o0 ho0 p3 p1 p2 (0 : Int32) X
noncomputable def rec_fit (n : Nat) : (Nat → Int32 → Int32 → Int32 → St → Option (Int32 × St)) := lp (γ := (Nat → Int32 → Int32 → Int32 → St → Option (Int32 × St))) (fun _ _ _ _ _ => none) (fun z => g_Kinds_fit_b z) n
set_option maxHeartbeats 4000000 in
theorem krec_fit (Γ : GxC) : ∀ n, (∀ (o0 : Nat) (ho0 : isO YC o0 3 8) (p1 : Int32) (p2 : Int32) (p3 : Int32) (X : St), TCI YC Γ yX3_fit cX3_fit 8 "BlameCourt$Kinds" (some .boolean) { frames := (3 + 1 * n), cells := 0, slots := 0, locals := (110 + 40 * n) } [.ref (Γ.2.2.2.1 o0), .int p1, .int p2, .int p3] X ((rec_fit n) o0 p1 p2 p3 X)) := by
  intro n
  unfold rec_fit
  refine lp_indN (γ := (Nat → Int32 → Int32 → Int32 → St → Option (Int32 × St))) (P := fun (n : Nat) (z : (Nat → Int32 → Int32 → Int32 → St → Option (Int32 × St))) => (∀ (o0 : Nat) (ho0 : isO YC o0 3 8) (p1 : Int32) (p2 : Int32) (p3 : Int32) (X : St), TCI YC Γ yX3_fit cX3_fit 8 "BlameCourt$Kinds" (some .boolean) { frames := (3 + 1 * n), cells := 0, slots := 0, locals := (110 + 40 * n) } [.ref (Γ.2.2.2.1 o0), .int p1, .int p2, .int p3] X (z o0 p1 p2 p3 X))) (fun _ _ _ _ _ _ => TCI.no) ?_ n
  intro n z hz
  exact fun o0 ho0 p1 p2 p3 X => k_Kinds_fit_b Γ n z hz o0 ho0 p1 p2 p3 X
noncomputable def g_Kinds_fit : Nat → Int32 → Int32 → Int32 → St → Option (Int32 × St) := (rec_fit 64)
theorem k_Kinds_fit (Γ : GxC) : ∀ (o0 : Nat) (ho0 : isO YC o0 3 8) (p1 : Int32) (p2 : Int32) (p3 : Int32) (X : St), TCI YC Γ yX3_fit cX3_fit 8 "BlameCourt$Kinds" (some .boolean) { frames := 67, cells := 0, slots := 0, locals := 2670 } [.ref (Γ.2.2.2.1 o0), .int p1, .int p2, .int p3] X (g_Kinds_fit o0 p1 p2 p3 X) := (krec_fit Γ 64)
noncomputable def g_Judging_refuse (p1 : Int32) (p2 : Int32) (X : St) : Option (Int32 × St) :=
  letV (wI X 61 4 p1) fun X1 =>
  chk (refO YC (X1.2.2 61 1) 4 17 = true) (letV (X1.2.2 61 1 - 1) fun e2 =>
  letV (kY YC e2 16 - 3) fun e3 =>
  chk (inR p2 9080) (letV (X1.1 e3 (ix p2)) fun x4 =>
  letV (wI X1 61 5 x4) fun X5 =>
  some (0, X5)))
set_option maxHeartbeats 4000000 in
set_option maxRecDepth 100000 in
theorem k_Judging_refuse (Γ : GxC) (p1 : Int32) (p2 : Int32) (X : St) : TCV YC Γ yX2_refuse cX2_refuse 3 "BlameCourt$Judging" none { frames := 2, cells := 0, slots := 0, locals := 70 } [.ref (Γ.2.2.2.1 61), .int p1, .int p2] X (g_Judging_refuse p1 p2 X) := by
  refine TCV.of (by decide) (Nat.le_of_ble_eq_true rfl) rfl ?_
  show TC YC Γ cX2_refuse 3 "BlameCourt$Judging" none { frames := 2, cells := 0, slots := 0, locals := 70 } _ kV 0 [(0, .ref (Γ.2.2.2.1 61)), (1, .int p1), (2, .int p2)] [] X (g_Judging_refuse p1 p2 X)
  unfold g_Judging_refuse
  refine TC.aload_n dX2_refuse_0 rfl 0 rfl ?_
  refine TC.iload_n dX2_refuse_1 rfl 1 rfl ?_
  refine pC2_4 k509 dX2_refuse_2 (fun X1 => ?_)
  refine TC.aload_n dX2_refuse_5 rfl 0 rfl ?_
  refine TC.aload_n dX2_refuse_6 rfl 0 rfl ?_
  refine mC2_1 k506 dX2_refuse_7 (fun e2 he2 => ?_)
  refine vC4_16 e2 he2 k333 dX2_refuse_10 (fun e3 he3 => ?_)
  refine TC.iload_n dX2_refuse_13 rfl 2 rfl ?_
  refine TC.iald e3 he3 dX2_refuse_14 (fun x4 => ?_)
  refine pC2_5 k511 dX2_refuse_15 (fun X5 => ?_)
  exact TC.ret_v rfl dX2_refuse_18
noncomputable def g_Judging_layGuard (p1 : Int32) (p2 : Int32) (p3 : Int32) (p4 : Int32) (X : St) : Option (Int32 × St) :=
  chk (refO YC (X.2.2 61 1) 4 17 = true) (letV (X.2.2 61 1 - 1) fun e1 =>
  letV (kY YC e1 15 - 3) fun e2 =>
  chk (X.2.2 61 0 = 56) (
  chk (refO YC (X.2.2 61 1) 4 17 = true) (letV (X.2.2 61 1 - 1) fun e3 =>
  letV (kY YC e3 16 - 3) fun e4 =>
  chk (inR p1 9080) (letV (X.1 e4 (ix p1)) fun x5 =>
  letV (X.1 61 3) fun x6 =>
  bnd (g_Guards_lay x5 x6 p4 p2 p3 X) fun x7 X8 =>
  chk (inR p1 9080) (letV (wI X8 e2 (ix p1) x7) fun X9 =>
  some (0, X9))))))
set_option maxHeartbeats 4000000 in
set_option maxRecDepth 100000 in
theorem k_Judging_layGuard (Γ : GxC) (p1 : Int32) (p2 : Int32) (p3 : Int32) (p4 : Int32) (X : St) : TCV YC Γ yX2_layGuard cX2_layGuard 5 "BlameCourt$Judging" none { frames := 3, cells := 0, slots := 0, locals := 110 } [.ref (Γ.2.2.2.1 61), .int p1, .int p2, .int p3, .int p4] X (g_Judging_layGuard p1 p2 p3 p4 X) := by
  refine TCV.of (by decide) (Nat.le_of_ble_eq_true rfl) rfl ?_
  show TC YC Γ cX2_layGuard 5 "BlameCourt$Judging" none { frames := 3, cells := 0, slots := 0, locals := 110 } _ kV 0 [(0, .ref (Γ.2.2.2.1 61)), (1, .int p1), (2, .int p2), (3, .int p3), (4, .int p4)] [] X (g_Judging_layGuard p1 p2 p3 p4 X)
  unfold g_Judging_layGuard
  refine TC.aload_n dX2_layGuard_0 rfl 0 rfl ?_
  refine mC2_1 k506 dX2_layGuard_1 (fun e1 he1 => ?_)
  refine vC4_15 e1 he1 k329 dX2_layGuard_4 (fun e2 he2 => ?_)
  refine TC.iload_n dX2_layGuard_7 rfl 1 rfl ?_
  refine TC.aload_n dX2_layGuard_8 rfl 0 rfl ?_
  refine mC2_0 k505 dX2_layGuard_9 ?_
  refine TC.aload_n dX2_layGuard_12 rfl 0 rfl ?_
  refine mC2_1 k506 dX2_layGuard_13 (fun e3 he3 => ?_)
  refine vC4_16 e3 he3 k333 dX2_layGuard_16 (fun e4 he4 => ?_)
  refine TC.iload_n dX2_layGuard_19 rfl 1 rfl ?_
  refine TC.iald e4 he4 dX2_layGuard_20 (fun x5 => ?_)
  refine TC.aload_n dX2_layGuard_21 rfl 0 rfl ?_
  refine gC2_3 k508 dX2_layGuard_22 (fun x6 => ?_)
  refine TC.iload dX2_layGuard_25 4 rfl ?_
  refine TC.iload_n dX2_layGuard_27 rfl 2 rfl ?_
  refine TC.iload_n dX2_layGuard_28 rfl 3 rfl ?_
  refine TC.callV_i 55 (As1 := [.int x5, .int x6, .int p4, .int p2, .int p3]) (rest := [.int p1, .ref (Γ.2.2.2.1 e2)]) (k_Guards_lay Γ x5 x6 p4 p2 p3 X) ka_X0_lay kv_X0_lay oC_55 rfl k1056 rfl rfl rfl rfl (show 2 + 1 ≤ 3 ∧ 8 + (6 + 11) + 70 ≤ 110 from ⟨by omega, by omega⟩) (Nat.le_of_ble_eq_true rfl) dX2_layGuard_29 (fun x7 X8 => ?_)
  refine TC.iast e2 he2 dX2_layGuard_32 (fun X9 => ?_)
  exact TC.ret_v rfl dX2_layGuard_33
noncomputable def g_Judging_setTop (p1 : Int32) (X : St) : Option (Int32 × St) :=
  letV (X.1 61 14) fun x1 =>
  letV (x1 - (1 : Int32)) fun x2 =>
  letV (if (0 : Int32) < x2 then x2 else (0 : Int32)) fun x3 =>
  chk (inR x3 3000) (letV (wI X 67 (ix x3) p1) fun X4 =>
  some (0, X4))
set_option maxHeartbeats 4000000 in
set_option maxRecDepth 100000 in
theorem k_Judging_setTop (Γ : GxC) (p1 : Int32) (X : St) : TCV YC Γ yX2_setTop cX2_setTop 2 "BlameCourt$Judging" none { frames := 2, cells := 0, slots := 0, locals := 70 } [.ref (Γ.2.2.2.1 61), .int p1] X (g_Judging_setTop p1 X) := by
  refine TCV.of (by decide) (Nat.le_of_ble_eq_true rfl) rfl ?_
  show TC YC Γ cX2_setTop 2 "BlameCourt$Judging" none { frames := 2, cells := 0, slots := 0, locals := 70 } _ kV 0 [(0, .ref (Γ.2.2.2.1 61)), (1, .int p1)] [] X (g_Judging_setTop p1 X)
  unfold g_Judging_setTop
  refine TC.aload_n dX2_setTop_0 rfl 0 rfl ?_
  refine cC2_11 k519 dX2_setTop_1 ?_
  refine TC.iconst (w := 0) dX2_setTop_4 (by decide) ?_
  refine TC.aload_n dX2_setTop_5 rfl 0 rfl ?_
  refine gC2_14 k522 dX2_setTop_6 (fun x1 => ?_)
  refine TC.iconst (w := 1) dX2_setTop_9 (by decide) ?_
  refine TC.isub dX2_setTop_10 (fun x2 => ?_)
  refine TC.mmax k1064 k1065 k198 k1066 rfl dX2_setTop_11 (show 1 ≤ 2 ∧ 8 + 13 ≤ 70 from ⟨by omega, by omega⟩) (Nat.le_of_ble_eq_true rfl) (fun x3 => ?_)
  refine TC.iload_n dX2_setTop_14 rfl 1 rfl ?_
  refine asC67 dX2_setTop_15 (fun X4 => ?_)
  exact TC.ret_v rfl dX2_setTop_16
noncomputable def g_Judging_meet (p1 : Int32) (p2 : Int32) (p3 : Int32) (X : St) : Option (Int32 × St) :=
  bnd (g_Judging_below (0 : Int32) X) fun x1 X2 =>
  chk (refO YC (X2.2.2 61 2) 3 8 = true) (letV (X2.2.2 61 2 - 1) fun e3 =>
  bnd (g_Kinds_fit e3 x1 p2 (0 : Int32) X2) fun x4 X5 =>
  if x4.toInt = 0 then
    bnd (g_Judging_refuse (9 : Int32) p1 X5) fun _ X8 =>
    some (0, X8)
  else
    if x1.toInt = p2.toInt then
      some (0, X5)
    else
      bnd (g_Judging_layGuard p1 x1 p2 p3 X5) fun _ X6 =>
      bnd (g_Judging_setTop p2 X6) fun _ X7 =>
      some (0, X7))
set_option maxHeartbeats 4000000 in
set_option maxRecDepth 100000 in
theorem k_Judging_meet (Γ : GxC) (p1 : Int32) (p2 : Int32) (p3 : Int32) (X : St) : TCV YC Γ yX2_meet cX2_meet 5 "BlameCourt$Judging" none { frames := 69, cells := 0, slots := 0, locals := 2750 } [.ref (Γ.2.2.2.1 61), .int p1, .int p2, .int p3] X (g_Judging_meet p1 p2 p3 X) := by
  refine TCV.of (by decide) (Nat.le_of_ble_eq_true rfl) rfl ?_
  show TC YC Γ cX2_meet 5 "BlameCourt$Judging" none { frames := 69, cells := 0, slots := 0, locals := 2750 } _ kV 0 [(0, .ref (Γ.2.2.2.1 61)), (1, .int p1), (2, .int p2), (3, .int p3)] [] X (g_Judging_meet p1 p2 p3 X)
  unfold g_Judging_meet
  refine TC.aload_n dX2_meet_0 rfl 0 rfl ?_
  refine TC.iconst (w := 0) dX2_meet_1 (by decide) ?_
  refine TC.callV_i 61 (As1 := [.int 0]) (rest := []) (k_Judging_below Γ (0 : Int32) X) ka_X2_below kv_X2_below oC_61 rfl k1023 rfl rfl rfl rfl (show 2 + 1 ≤ 69 ∧ 8 + (3 + 11) + 70 ≤ 2750 from ⟨by omega, by omega⟩) (Nat.le_of_ble_eq_true rfl) dX2_meet_2 (fun x1 X2 => ?_)
  refine TC.istore (lv1 := [(4, .int x1), (0, .ref (Γ.2.2.2.1 61)), (1, .int p1), (2, .int p2), (3, .int p3)]) dX2_meet_5 (by decide) rfl ?_
  refine TC.aload_n dX2_meet_7 rfl 1 rfl ?_
  refine mC2_2 k507 dX2_meet_8 (fun e3 he3 => ?_)
  refine TC.iload dX2_meet_11 0 rfl ?_
  refine TC.iload_n dX2_meet_13 rfl 3 rfl ?_
  refine TC.iconst (w := 0) dX2_meet_14 (by decide) ?_
  refine TC.callV_i e3 (As1 := [.int x1, .int p2, .int 0]) (rest := []) (k_Kinds_fit Γ e3 he3 x1 p2 (0 : Int32) X2) ka_X3_fit kv_X3_fit he3 rfl k1027 rfl rfl rfl rfl (show 67 + 1 ≤ 69 ∧ 8 + (8 + 11) + 2670 ≤ 2750 from ⟨by omega, by omega⟩) (Nat.le_of_ble_eq_true rfl) dX2_meet_15 (fun x4 X5 => ?_)
  refine TC.if_ne (pc1 := 31) dX2_meet_18 (by decide) ?_ ?_
  · refine TC.iload dX2_meet_31 0 rfl ?_
    refine TC.iload_n dX2_meet_33 rfl 3 rfl ?_
    refine TC.icmp_eq (pc1 := 51) dX2_meet_34 (by decide) rfl ?_ ?_
    · exact TC.ret_v rfl dX2_meet_51
    · refine TC.aload_n dX2_meet_37 rfl 1 rfl ?_
      refine TC.iload_n dX2_meet_38 rfl 2 rfl ?_
      refine TC.iload dX2_meet_39 0 rfl ?_
      refine TC.iload_n dX2_meet_41 rfl 3 rfl ?_
      refine TC.iload_n dX2_meet_42 rfl 4 rfl ?_
      refine TC.callV_v 61 (As1 := [.int p1, .int x1, .int p2, .int p3]) (rest := []) (k_Judging_layGuard Γ p1 x1 p2 p3 X5) ka_X2_layGuard kv_X2_layGuard oC_61 rfl k1052 rfl rfl rfl rfl (show 3 + 1 ≤ 69 ∧ 8 + (5 + 11) + 110 ≤ 2750 from ⟨by omega, by omega⟩) (Nat.le_of_ble_eq_true rfl) dX2_meet_43 (fun _ X6 => ?_)
      refine TC.aload_n dX2_meet_46 rfl 1 rfl ?_
      refine TC.iload_n dX2_meet_47 rfl 3 rfl ?_
      refine TC.callV_v 61 (As1 := [.int p2]) (rest := []) (k_Judging_setTop Γ p2 X6) ka_X2_setTop kv_X2_setTop oC_61 rfl k1060 rfl rfl rfl rfl (show 2 + 1 ≤ 69 ∧ 8 + (2 + 11) + 70 ≤ 2750 from ⟨by omega, by omega⟩) (Nat.le_of_ble_eq_true rfl) dX2_meet_48 (fun _ X7 => ?_)
      exact TC.ret_v rfl dX2_meet_51
  · refine TC.aload_n dX2_meet_21 rfl 1 rfl ?_
    refine TC.bipush (w := 9) dX2_meet_22 (by decide) ?_
    refine TC.iload_n dX2_meet_24 rfl 2 rfl ?_
    refine TC.callV_v 61 (As1 := [.int 9, .int p1]) (rest := []) (k_Judging_refuse Γ (9 : Int32) p1 X5) ka_X2_refuse kv_X2_refuse oC_61 rfl k1048 rfl rfl rfl rfl (show 2 + 1 ≤ 69 ∧ 8 + (3 + 11) + 70 ≤ 2750 from ⟨by omega, by omega⟩) (Nat.le_of_ble_eq_true rfl) dX2_meet_25 (fun _ X8 => ?_)
    refine TC.goto (pc1 := 51) dX2_meet_28 (by decide) ?_
    exact TC.ret_v rfl dX2_meet_51
noncomputable def g_Judging_meetForm (p1 : Int32) (p2 : Int32) (p3 : Int32) (X : St) : Option (Int32 × St) :=
  bnd (g_Judging_below (0 : Int32) X) fun x1 X2 =>
  if x1.toInt = 2 then
    letV (X2.1 61 3) fun x7 =>
    bnd (g_Judging_layGuard p1 x1 p3 x7 X2) fun _ X8 =>
    bnd (g_Judging_setTop p3 X8) fun _ X9 =>
    some (0, X9)
  else
    chk (refO YC (X2.2.2 61 2) 3 8 = true) (letV (X2.2.2 61 2 - 1) fun e3 =>
    bnd (g_Kinds_sortOf e3 x1 X2) fun x4 X5 =>
    if x4.toInt = p2.toInt then
      some (0, X5)
    else
      bnd (g_Judging_refuse (9 : Int32) p1 X5) fun _ X6 =>
      some (0, X6))
set_option maxHeartbeats 4000000 in
set_option maxRecDepth 100000 in
theorem k_Judging_meetForm (Γ : GxC) (p1 : Int32) (p2 : Int32) (p3 : Int32) (X : St) : TCV YC Γ yX2_meetForm cX2_meetForm 5 "BlameCourt$Judging" none { frames := 4, cells := 0, slots := 0, locals := 150 } [.ref (Γ.2.2.2.1 61), .int p1, .int p2, .int p3] X (g_Judging_meetForm p1 p2 p3 X) := by
  refine TCV.of (by decide) (Nat.le_of_ble_eq_true rfl) rfl ?_
  show TC YC Γ cX2_meetForm 5 "BlameCourt$Judging" none { frames := 4, cells := 0, slots := 0, locals := 150 } _ kV 0 [(0, .ref (Γ.2.2.2.1 61)), (1, .int p1), (2, .int p2), (3, .int p3)] [] X (g_Judging_meetForm p1 p2 p3 X)
  unfold g_Judging_meetForm
  refine TC.aload_n dX2_meetForm_0 rfl 0 rfl ?_
  refine TC.iconst (w := 0) dX2_meetForm_1 (by decide) ?_
  refine TC.callV_i 61 (As1 := [.int 0]) (rest := []) (k_Judging_below Γ (0 : Int32) X) ka_X2_below kv_X2_below oC_61 rfl k1023 rfl rfl rfl rfl (show 2 + 1 ≤ 4 ∧ 8 + (3 + 11) + 70 ≤ 150 from ⟨by omega, by omega⟩) (Nat.le_of_ble_eq_true rfl) dX2_meetForm_2 (fun x1 X2 => ?_)
  refine TC.istore (lv1 := [(4, .int x1), (0, .ref (Γ.2.2.2.1 61)), (1, .int p1), (2, .int p2), (3, .int p3)]) dX2_meetForm_5 (by decide) rfl ?_
  refine TC.iload dX2_meetForm_7 0 rfl ?_
  refine TC.iconst (w := 2) dX2_meetForm_9 (by decide) ?_
  refine TC.icmp_ne (pc1 := 33) dX2_meetForm_10 (by decide) rfl ?_ ?_
  · refine TC.aload_n dX2_meetForm_33 rfl 1 rfl ?_
    refine mC2_2 k507 dX2_meetForm_34 (fun e3 he3 => ?_)
    refine TC.iload dX2_meetForm_37 0 rfl ?_
    refine TC.callV_i e3 (As1 := [.int x1]) (rest := []) (k_Kinds_sortOf Γ e3 he3 x1 X2) ka_X3_sortOf kv_X3_sortOf he3 rfl k1071 rfl rfl rfl rfl (show 2 + 1 ≤ 4 ∧ 8 + (2 + 11) + 70 ≤ 150 from ⟨by omega, by omega⟩) (Nat.le_of_ble_eq_true rfl) dX2_meetForm_39 (fun x4 X5 => ?_)
    refine TC.iload_n dX2_meetForm_42 rfl 3 rfl ?_
    refine TC.icmp_eq (pc1 := 53) dX2_meetForm_43 (by decide) rfl ?_ ?_
    · exact TC.ret_v rfl dX2_meetForm_53
    · refine TC.aload_n dX2_meetForm_46 rfl 1 rfl ?_
      refine TC.bipush (w := 9) dX2_meetForm_47 (by decide) ?_
      refine TC.iload_n dX2_meetForm_49 rfl 2 rfl ?_
      refine TC.callV_v 61 (As1 := [.int 9, .int p1]) (rest := []) (k_Judging_refuse Γ (9 : Int32) p1 X5) ka_X2_refuse kv_X2_refuse oC_61 rfl k1048 rfl rfl rfl rfl (show 2 + 1 ≤ 4 ∧ 8 + (3 + 11) + 70 ≤ 150 from ⟨by omega, by omega⟩) (Nat.le_of_ble_eq_true rfl) dX2_meetForm_50 (fun _ X6 => ?_)
      exact TC.ret_v rfl dX2_meetForm_53
  · refine TC.aload_n dX2_meetForm_13 rfl 1 rfl ?_
    refine TC.iload_n dX2_meetForm_14 rfl 2 rfl ?_
    refine TC.iload dX2_meetForm_15 0 rfl ?_
    refine TC.iload_n dX2_meetForm_17 rfl 4 rfl ?_
    refine TC.aload_n dX2_meetForm_18 rfl 1 rfl ?_
    refine gC2_3 k508 dX2_meetForm_19 (fun x7 => ?_)
    refine TC.callV_v 61 (As1 := [.int p1, .int x1, .int p3, .int x7]) (rest := []) (k_Judging_layGuard Γ p1 x1 p3 x7 X2) ka_X2_layGuard kv_X2_layGuard oC_61 rfl k1052 rfl rfl rfl rfl (show 3 + 1 ≤ 4 ∧ 8 + (5 + 11) + 110 ≤ 150 from ⟨by omega, by omega⟩) (Nat.le_of_ble_eq_true rfl) dX2_meetForm_22 (fun _ X8 => ?_)
    refine TC.aload_n dX2_meetForm_25 rfl 1 rfl ?_
    refine TC.iload_n dX2_meetForm_26 rfl 4 rfl ?_
    refine TC.callV_v 61 (As1 := [.int p3]) (rest := []) (k_Judging_setTop Γ p3 X8) ka_X2_setTop kv_X2_setTop oC_61 rfl k1060 rfl rfl rfl rfl (show 2 + 1 ≤ 4 ∧ 8 + (2 + 11) + 70 ≤ 150 from ⟨by omega, by omega⟩) (Nat.le_of_ble_eq_true rfl) dX2_meetForm_27 (fun _ X9 => ?_)
    refine TC.goto (pc1 := 53) dX2_meetForm_30 (by decide) ?_
    exact TC.ret_v rfl dX2_meetForm_53
noncomputable def g_Judging_meetCalled_99 (b_0 : Int32) (b_1 : Int32) (X : St) : Option (Int32 × St) :=
  chk (inR b_1 3000) (letV (wI X 69 (ix b_1) b_0) fun X11 =>
  some (0, X11))
set_option maxHeartbeats 4000000 in
set_option maxRecDepth 100000 in
theorem k_Judging_meetCalled_99 (Γ : GxC) (As : List Value) (b_0 : Int32) (b_1 : Int32) (X : St) : TC YC Γ cX2_meetCalled 4 "BlameCourt$Judging" none { frames := 5, cells := 0, slots := 0, locals := 190 } As kV 99 [] [.int b_0, .int b_1, .ref (Γ.2.2.2.1 69)] X (g_Judging_meetCalled_99 b_0 b_1 X) := by
  unfold g_Judging_meetCalled_99
  refine asC69 dX2_meetCalled_99 (fun X11 => ?_)
  exact TC.ret_v rfl dX2_meetCalled_100
noncomputable def g_Judging_meetCalled_62 (a_1 : Int32) (b_0 : Int32) (X : St) : Option (Int32 × St) :=
  letV (X.1 61 14) fun x7 =>
  letV (x7 - (1 : Int32)) fun x8 =>
  letV (if (0 : Int32) < x8 then x8 else (0 : Int32)) fun x9 =>
  if b_0.toInt = 0 then
    letV (X.1 61 3) fun x10 =>
    g_Judging_meetCalled_99 x10 x9 X
  else
    chk (refO YC (X.2.2 61 1) 4 17 = true) (letV (X.2.2 61 1 - 1) fun e12 =>
    letV (kY YC e12 14 - 3) fun e13 =>
    letV (a_1 - (1 : Int32)) fun x14 =>
    chk (inR x14 9080) (letV (X.1 e13 (ix x14)) fun x15 =>
    g_Judging_meetCalled_99 x15 x9 X))
set_option maxHeartbeats 4000000 in
set_option maxRecDepth 100000 in
theorem k_Judging_meetCalled_62 (Γ : GxC) (As : List Value) (a_1 : Int32) (b_0 : Int32) (X : St) : TC YC Γ cX2_meetCalled 4 "BlameCourt$Judging" none { frames := 5, cells := 0, slots := 0, locals := 190 } As kV 62 [(0, .ref (Γ.2.2.2.1 61)), (1, .int a_1)] [.int b_0] X (g_Judging_meetCalled_62 a_1 b_0 X) := by
  unfold g_Judging_meetCalled_62
  refine TC.istore_n (lv1 := [(3, .int b_0), (0, .ref (Γ.2.2.2.1 61)), (1, .int a_1)]) dX2_meetCalled_62 rfl (by decide) rfl ?_
  refine TC.aload_n dX2_meetCalled_63 rfl 1 rfl ?_
  refine cC2_13 k521 dX2_meetCalled_64 ?_
  refine TC.iconst (w := 0) dX2_meetCalled_67 (by decide) ?_
  refine TC.aload_n dX2_meetCalled_68 rfl 1 rfl ?_
  refine gC2_14 k522 dX2_meetCalled_69 (fun x7 => ?_)
  refine TC.iconst (w := 1) dX2_meetCalled_72 (by decide) ?_
  refine TC.isub dX2_meetCalled_73 (fun x8 => ?_)
  refine TC.mmax k1064 k1065 k198 k1066 rfl dX2_meetCalled_74 (show 1 ≤ 5 ∧ 8 + 13 ≤ 190 from ⟨by omega, by omega⟩) (Nat.le_of_ble_eq_true rfl) (fun x9 => ?_)
  refine TC.iload_n dX2_meetCalled_77 rfl 0 rfl ?_
  refine TC.if_eq (pc1 := 95) dX2_meetCalled_78 (by decide) ?_ ?_
  · refine TC.aload_n dX2_meetCalled_95 rfl 1 rfl ?_
    refine gC2_3 k508 dX2_meetCalled_96 (fun x10 => ?_)
    refine TC.sub [] rfl ?_
    exact k_Judging_meetCalled_99 Γ _ x10 x9 X
  · refine TC.aload_n dX2_meetCalled_81 rfl 1 rfl ?_
    refine mC2_1 k506 dX2_meetCalled_82 (fun e12 he12 => ?_)
    refine vC4_14 e12 he12 k326 dX2_meetCalled_85 (fun e13 he13 => ?_)
    refine TC.iload_n dX2_meetCalled_88 rfl 2 rfl ?_
    refine TC.iconst (w := 1) dX2_meetCalled_89 (by decide) ?_
    refine TC.isub dX2_meetCalled_90 (fun x14 => ?_)
    refine TC.iald e13 he13 dX2_meetCalled_91 (fun x15 => ?_)
    refine TC.goto (pc1 := 99) dX2_meetCalled_92 (by decide) ?_
    refine TC.sub [] rfl ?_
    exact k_Judging_meetCalled_99 Γ _ x15 x9 X
noncomputable def g_Judging_meetCalled_61 (a_1 : Int32) (X : St) : Option (Int32 × St) :=
  g_Judging_meetCalled_62 a_1 (0 : Int32) X
set_option maxHeartbeats 4000000 in
set_option maxRecDepth 100000 in
theorem k_Judging_meetCalled_61 (Γ : GxC) (As : List Value) (a_1 : Int32) (X : St) : TC YC Γ cX2_meetCalled 4 "BlameCourt$Judging" none { frames := 5, cells := 0, slots := 0, locals := 190 } As kV 61 [(0, .ref (Γ.2.2.2.1 61)), (1, .int a_1)] [] X (g_Judging_meetCalled_61 a_1 X) := by
  unfold g_Judging_meetCalled_61
  refine TC.iconst (w := 0) dX2_meetCalled_61 (by decide) ?_
  exact k_Judging_meetCalled_62 Γ _ a_1 (0 : Int32) X
noncomputable def g_Judging_meetCalled_39 (a_1 : Int32) (X : St) : Option (Int32 × St) :=
  chk (refO YC (X.2.2 61 1) 4 17 = true) (letV (X.2.2 61 1 - 1) fun e4 =>
  letV (kY YC e4 13 - 3) fun e5 =>
  chk (inR a_1 9080) (letV (X.1 e5 (ix a_1)) fun x6 =>
  if x6.toInt = 31 then
    if a_1.toInt ≤ 0 then
      g_Judging_meetCalled_61 a_1 X
    else
      g_Judging_meetCalled_62 a_1 (1 : Int32) X
  else
    g_Judging_meetCalled_61 a_1 X))
set_option maxHeartbeats 4000000 in
set_option maxRecDepth 100000 in
theorem k_Judging_meetCalled_39 (Γ : GxC) (As : List Value) (a_1 : Int32) (X : St) : TC YC Γ cX2_meetCalled 4 "BlameCourt$Judging" none { frames := 5, cells := 0, slots := 0, locals := 190 } As kV 39 [(0, .ref (Γ.2.2.2.1 61)), (1, .int a_1)] [] X (g_Judging_meetCalled_39 a_1 X) := by
  unfold g_Judging_meetCalled_39
  refine TC.aload_n dX2_meetCalled_39 rfl 0 rfl ?_
  refine mC2_1 k506 dX2_meetCalled_40 (fun e4 he4 => ?_)
  refine vC4_13 e4 he4 k322 dX2_meetCalled_43 (fun e5 he5 => ?_)
  refine TC.iload_n dX2_meetCalled_46 rfl 1 rfl ?_
  refine TC.iald e5 he5 dX2_meetCalled_47 (fun x6 => ?_)
  refine TC.bipush (w := 31) dX2_meetCalled_48 (by decide) ?_
  refine TC.icmp_ne (pc1 := 61) dX2_meetCalled_50 (by decide) rfl ?_ ?_
  · exact k_Judging_meetCalled_61 Γ _ a_1 X
  · refine TC.iload_n dX2_meetCalled_53 rfl 1 rfl ?_
    refine TC.if_le (pc1 := 61) dX2_meetCalled_54 (by decide) ?_ ?_
    · exact k_Judging_meetCalled_61 Γ _ a_1 X
    · refine TC.iconst (w := 1) dX2_meetCalled_57 (by decide) ?_
      refine TC.goto (pc1 := 62) dX2_meetCalled_58 (by decide) ?_
      exact k_Judging_meetCalled_62 Γ _ a_1 (1 : Int32) X
noncomputable def g_Judging_meetCalled (p1 : Int32) (p2 : Int32) (X : St) : Option (Int32 × St) :=
  letV ((4 : Int32) + p2) fun x1 =>
  bnd (g_Judging_meetForm p1 (4 : Int32) x1 X) fun _ X2 =>
  letV (X2.1 61 4) fun x3 =>
  if x3.toInt = 0 then
    chk (refO YC (X2.2.2 61 2) 3 8 = true) (letV (X2.2.2 61 2 - 1) fun e16 =>
    bnd (g_Judging_below (0 : Int32) X2) fun x17 X18 =>
    bnd (g_Kinds_takenBy e16 x17 X18) fun x19 X20 =>
    if x19.toInt = p2.toInt then
      g_Judging_meetCalled_39 p1 X20
    else
      bnd (g_Judging_refuse (8 : Int32) p1 X20) fun _ X21 =>
      g_Judging_meetCalled_39 p1 X21)
  else
    g_Judging_meetCalled_39 p1 X2
set_option maxHeartbeats 4000000 in
set_option maxRecDepth 100000 in
theorem k_Judging_meetCalled (Γ : GxC) (p1 : Int32) (p2 : Int32) (X : St) : TCV YC Γ yX2_meetCalled cX2_meetCalled 4 "BlameCourt$Judging" none { frames := 5, cells := 0, slots := 0, locals := 190 } [.ref (Γ.2.2.2.1 61), .int p1, .int p2] X (g_Judging_meetCalled p1 p2 X) := by
  refine TCV.of (by decide) (Nat.le_of_ble_eq_true rfl) rfl ?_
  show TC YC Γ cX2_meetCalled 4 "BlameCourt$Judging" none { frames := 5, cells := 0, slots := 0, locals := 190 } _ kV 0 [(0, .ref (Γ.2.2.2.1 61)), (1, .int p1), (2, .int p2)] [] X (g_Judging_meetCalled p1 p2 X)
  unfold g_Judging_meetCalled
  refine TC.aload_n dX2_meetCalled_0 rfl 0 rfl ?_
  refine TC.iload_n dX2_meetCalled_1 rfl 1 rfl ?_
  refine TC.iconst (w := 4) dX2_meetCalled_2 (by decide) ?_
  refine TC.iconst (w := 4) dX2_meetCalled_3 (by decide) ?_
  refine TC.iload_n dX2_meetCalled_4 rfl 2 rfl ?_
  refine TC.iadd dX2_meetCalled_5 (fun x1 => ?_)
  refine TC.callV_v 61 (As1 := [.int p1, .int 4, .int x1]) (rest := []) (k_Judging_meetForm Γ p1 (4 : Int32) x1 X) ka_X2_meetForm kv_X2_meetForm oC_61 rfl k1067 rfl rfl rfl rfl (show 4 + 1 ≤ 5 ∧ 8 + (5 + 11) + 150 ≤ 190 from ⟨by omega, by omega⟩) (Nat.le_of_ble_eq_true rfl) dX2_meetCalled_6 (fun _ X2 => ?_)
  refine TC.aload_n dX2_meetCalled_9 rfl 0 rfl ?_
  refine gC2_4 k509 dX2_meetCalled_10 (fun x3 => ?_)
  refine TC.if_ne (pc1 := 39) dX2_meetCalled_13 (by decide) ?_ ?_
  · refine TC.sub [0, 1] rfl ?_
    exact k_Judging_meetCalled_39 Γ _ p1 X2
  · refine TC.aload_n dX2_meetCalled_16 rfl 0 rfl ?_
    refine mC2_2 k507 dX2_meetCalled_17 (fun e16 he16 => ?_)
    refine TC.aload_n dX2_meetCalled_20 rfl 0 rfl ?_
    refine TC.iconst (w := 0) dX2_meetCalled_21 (by decide) ?_
    refine TC.callV_i 61 (As1 := [.int 0]) (rest := [.ref (Γ.2.2.2.1 e16)]) (k_Judging_below Γ (0 : Int32) X2) ka_X2_below kv_X2_below oC_61 rfl k1023 rfl rfl rfl rfl (show 2 + 1 ≤ 5 ∧ 8 + (3 + 11) + 70 ≤ 190 from ⟨by omega, by omega⟩) (Nat.le_of_ble_eq_true rfl) dX2_meetCalled_22 (fun x17 X18 => ?_)
    refine TC.callV_i e16 (As1 := [.int x17]) (rest := []) (k_Kinds_takenBy Γ e16 he16 x17 X18) ka_X3_takenBy kv_X3_takenBy he16 rfl k1076 rfl rfl rfl rfl (show 2 + 1 ≤ 5 ∧ 8 + (2 + 11) + 70 ≤ 190 from ⟨by omega, by omega⟩) (Nat.le_of_ble_eq_true rfl) dX2_meetCalled_25 (fun x19 X20 => ?_)
    refine TC.iload_n dX2_meetCalled_28 rfl 2 rfl ?_
    refine TC.icmp_eq (pc1 := 39) dX2_meetCalled_29 (by decide) rfl ?_ ?_
    · refine TC.sub [0, 1] rfl ?_
      exact k_Judging_meetCalled_39 Γ _ p1 X20
    · refine TC.aload_n dX2_meetCalled_32 rfl 0 rfl ?_
      refine TC.bipush (w := 8) dX2_meetCalled_33 (by decide) ?_
      refine TC.iload_n dX2_meetCalled_35 rfl 1 rfl ?_
      refine TC.callV_v 61 (As1 := [.int 8, .int p1]) (rest := []) (k_Judging_refuse Γ (8 : Int32) p1 X20) ka_X2_refuse kv_X2_refuse oC_61 rfl k1048 rfl rfl rfl rfl (show 2 + 1 ≤ 5 ∧ 8 + (3 + 11) + 70 ≤ 190 from ⟨by omega, by omega⟩) (Nat.le_of_ble_eq_true rfl) dX2_meetCalled_36 (fun _ X21 => ?_)
      refine TC.sub [0, 1] rfl ?_
      exact k_Judging_meetCalled_39 Γ _ p1 X21
noncomputable def g_Judging_takerBelow (p1 : Int32) (X : St) : Option (Int32 × St) :=
  letV (X.1 61 14) fun x1 =>
  letV (x1 - (1 : Int32)) fun x2 =>
  letV (x2 - p1) fun x3 =>
  if x3.toInt < 0 then
    letV (X.1 61 3) fun x4 =>
    some (x4, X)
  else
    chk (inR x3 3000) (letV (X.1 69 (ix x3)) fun x5 =>
    some (x5, X))
set_option maxHeartbeats 4000000 in
set_option maxRecDepth 100000 in
theorem k_Judging_takerBelow (Γ : GxC) (p1 : Int32) (X : St) : TCI YC Γ yX2_takerBelow cX2_takerBelow 3 "BlameCourt$Judging" (some .int) { frames := 2, cells := 0, slots := 0, locals := 70 } [.ref (Γ.2.2.2.1 61), .int p1] X (g_Judging_takerBelow p1 X) := by
  refine TCI.of (by decide) (Nat.le_of_ble_eq_true rfl) rfl ?_
  show TC YC Γ cX2_takerBelow 3 "BlameCourt$Judging" (some .int) { frames := 2, cells := 0, slots := 0, locals := 70 } _ kI 0 [(0, .ref (Γ.2.2.2.1 61)), (1, .int p1)] [] X (g_Judging_takerBelow p1 X)
  unfold g_Judging_takerBelow
  refine TC.aload_n dX2_takerBelow_0 rfl 0 rfl ?_
  refine gC2_14 k522 dX2_takerBelow_1 (fun x1 => ?_)
  refine TC.iconst (w := 1) dX2_takerBelow_4 (by decide) ?_
  refine TC.isub dX2_takerBelow_5 (fun x2 => ?_)
  refine TC.iload_n dX2_takerBelow_6 rfl 1 rfl ?_
  refine TC.isub dX2_takerBelow_7 (fun x3 => ?_)
  refine TC.istore_n (lv1 := [(2, .int x3), (0, .ref (Γ.2.2.2.1 61)), (1, .int p1)]) dX2_takerBelow_8 rfl (by decide) rfl ?_
  refine TC.iload_n dX2_takerBelow_9 rfl 0 rfl ?_
  refine TC.if_lt (pc1 := 22) dX2_takerBelow_10 (by decide) ?_ ?_
  · refine TC.aload_n dX2_takerBelow_22 rfl 1 rfl ?_
    refine gC2_3 k508 dX2_takerBelow_23 (fun x4 => ?_)
    exact TC.ret_i rfl dX2_takerBelow_26
  · refine TC.aload_n dX2_takerBelow_13 rfl 1 rfl ?_
    refine cC2_13 k521 dX2_takerBelow_14 ?_
    refine TC.iload_n dX2_takerBelow_17 rfl 0 rfl ?_
    refine alC69 dX2_takerBelow_18 (fun x5 => ?_)
    refine TC.goto (pc1 := 26) dX2_takerBelow_19 (by decide) ?_
    exact TC.ret_i rfl dX2_takerBelow_26
noncomputable def g_Judging_judgeAsking_211 (a_1 : Int32) (a_2 : Int32) (b_0 : Int32) (b_1 : Int32) (X : St) : Option (Int32 × St) :=
  chk (inR b_1 40) (letV (wI X 62 (ix b_1) (vp_nar .boolean b_0)) fun X42 =>
  letV (X42.1 61 3) fun x43 =>
  bnd (g_Judging_asTold x43 a_2 X42) fun x44 X45 =>
  letV (X45.1 61 3) fun x46 =>
  bnd (g_Judging_meet a_1 x44 x46 X45) fun _ X47 =>
  some (0, X47))
set_option maxHeartbeats 4000000 in
set_option maxRecDepth 100000 in
theorem k_Judging_judgeAsking_211 (Γ : GxC) (As : List Value) (a_1 : Int32) (a_2 : Int32) (b_0 : Int32) (b_1 : Int32) (X : St) : TC YC Γ cX2_judgeAsking 3 "BlameCourt$Judging" none { frames := 70, cells := 0, slots := 0, locals := 2790 } As kV 211 [(0, .ref (Γ.2.2.2.1 61)), (1, .int a_1), (2, .int a_2)] [.int b_0, .int b_1, .ref (Γ.2.2.2.1 62)] X (g_Judging_judgeAsking_211 a_1 a_2 b_0 b_1 X) := by
  unfold g_Judging_judgeAsking_211
  refine asC62 dX2_judgeAsking_211 (fun X42 => ?_)
  refine TC.aload_n dX2_judgeAsking_212 rfl 0 rfl ?_
  refine TC.iload_n dX2_judgeAsking_213 rfl 1 rfl ?_
  refine TC.aload_n dX2_judgeAsking_214 rfl 0 rfl ?_
  refine TC.aload_n dX2_judgeAsking_215 rfl 0 rfl ?_
  refine gC2_3 k508 dX2_judgeAsking_216 (fun x43 => ?_)
  refine TC.iload_n dX2_judgeAsking_219 rfl 2 rfl ?_
  refine TC.callV_i 61 (As1 := [.int x43, .int a_2]) (rest := [.int a_1, .ref (Γ.2.2.2.1 61)]) (k_Judging_asTold Γ x43 a_2 X42) ka_X2_asTold kv_X2_asTold oC_61 rfl k1005 rfl rfl rfl rfl (show 2 + 1 ≤ 70 ∧ 8 + (3 + 11) + 70 ≤ 2790 from ⟨by omega, by omega⟩) (Nat.le_of_ble_eq_true rfl) dX2_judgeAsking_220 (fun x44 X45 => ?_)
  refine TC.aload_n dX2_judgeAsking_223 rfl 0 rfl ?_
  refine gC2_3 k508 dX2_judgeAsking_224 (fun x46 => ?_)
  refine TC.callV_v 61 (As1 := [.int a_1, .int x44, .int x46]) (rest := []) (k_Judging_meet Γ a_1 x44 x46 X45) ka_X2_meet kv_X2_meet oC_61 rfl k1019 rfl rfl rfl rfl (show 69 + 1 ≤ 70 ∧ 8 + (5 + 11) + 2750 ≤ 2790 from ⟨by omega, by omega⟩) (Nat.le_of_ble_eq_true rfl) dX2_judgeAsking_227 (fun _ X47 => ?_)
  refine TC.goto (pc1 := 270) dX2_judgeAsking_230 (by decide) ?_
  exact TC.ret_v rfl dX2_judgeAsking_270
noncomputable def g_Judging_judgeAsking_206 (a_1 : Int32) (a_2 : Int32) (b_0 : Int32) (X : St) : Option (Int32 × St) :=
  g_Judging_judgeAsking_211 a_1 a_2 (1 : Int32) b_0 X
set_option maxHeartbeats 4000000 in
set_option maxRecDepth 100000 in
theorem k_Judging_judgeAsking_206 (Γ : GxC) (As : List Value) (a_1 : Int32) (a_2 : Int32) (b_0 : Int32) (X : St) : TC YC Γ cX2_judgeAsking 3 "BlameCourt$Judging" none { frames := 70, cells := 0, slots := 0, locals := 2790 } As kV 206 [(0, .ref (Γ.2.2.2.1 61)), (1, .int a_1), (2, .int a_2)] [.int b_0, .ref (Γ.2.2.2.1 62)] X (g_Judging_judgeAsking_206 a_1 a_2 b_0 X) := by
  unfold g_Judging_judgeAsking_206
  refine TC.iconst (w := 1) dX2_judgeAsking_206 (by decide) ?_
  refine TC.goto (pc1 := 211) dX2_judgeAsking_207 (by decide) ?_
  exact k_Judging_judgeAsking_211 Γ _ a_1 a_2 (1 : Int32) b_0 X
noncomputable def g_Judging_judgeAsking (p1 : Int32) (X : St) : Option (Int32 × St) :=
  chk (refO YC (X.2.2 61 1) 4 17 = true) (letV (X.2.2 61 1 - 1) fun e1 =>
  letV (kY YC e1 14 - 3) fun e2 =>
  chk (inR p1 9080) (letV (X.1 e2 (ix p1)) fun x3 =>
  chk (refO YC (X.2.2 61 1) 4 17 = true) (letV (X.2.2 61 1 - 1) fun e4 =>
  letV (kY YC e4 13 - 3) fun e5 =>
  chk (inR p1 9080) (letV (X.1 e5 (ix p1)) fun x6 =>
  if x6.toInt = 27 then
    letV (X.1 61 3) fun x8 =>
    bnd (g_Judging_meet p1 (0 : Int32) x8 X) fun _ X9 =>
    some (0, X9)
  else if x6.toInt = 28 then
    letV (X.1 61 3) fun x11 =>
    bnd (g_Judging_meet p1 (1 : Int32) x11 X) fun _ X12 =>
    some (0, X12)
  else if x6.toInt = 29 then
    bnd (g_Judging_meetForm p1 (3 : Int32) (3 : Int32) X) fun _ X14 =>
    some (0, X14)
  else if x6.toInt = 30 then
    bnd (g_Judging_meetCalled p1 x3 X) fun _ X16 =>
    some (0, X16)
  else if x6.toInt = 31 then
    bnd (g_Judging_meetCalled p1 x3 X) fun _ X18 =>
    some (0, X18)
  else if x6.toInt = 32 then
    chk (refO YC (X.2.2 61 2) 3 8 = true) (letV (X.2.2 61 2 - 1) fun e20 =>
    letV (x3 + (1 : Int32)) fun x21 =>
    bnd (g_Judging_below x21 X) fun x22 X23 =>
    bnd (g_Kinds_paramOf e20 x22 x3 X23) fun x24 X25 =>
    letV (x3 + (1 : Int32)) fun x26 =>
    bnd (g_Judging_takerBelow x26 X25) fun x27 X28 =>
    bnd (g_Judging_meet p1 x24 x27 X28) fun _ X29 =>
    some (0, X29))
  else if x6.toInt = 33 then
    chk (refO YC (X.2.2 61 2) 3 8 = true) (letV (X.2.2 61 2 - 1) fun e31 =>
    bnd (g_Judging_below (2 : Int32) X) fun x32 X33 =>
    bnd (g_Kinds_givesOf e31 x32 X33) fun x34 X35 =>
    letV (X35.1 61 3) fun x36 =>
    bnd (g_Judging_meet p1 x34 x36 X35) fun _ X37 =>
    some (0, X37))
  else if x6.toInt = 34 then
    letV (X.1 61 3) fun x39 =>
    letV (X.1 61 3) fun x40 =>
    chk (inR x40 40) (letV (X.1 62 (ix x40)) fun x41 =>
    if x41.toInt = 0 then
      chk (refO YC (X.2.2 61 2) 3 8 = true) (letV (X.2.2 61 2 - 1) fun e48 =>
      letV (X.1 61 3) fun x49 =>
      bnd (g_Judging_asTold x49 x3 X) fun x50 X51 =>
      bnd (g_Kinds_hasAny e48 x50 X51) fun x52 X53 =>
      if x52.toInt = 0 then
        g_Judging_judgeAsking_211 p1 x3 (0 : Int32) x39 X53
      else
        g_Judging_judgeAsking_206 p1 x3 x39 X53)
    else
      g_Judging_judgeAsking_206 p1 x3 x39 X)
  else if x6.toInt = 35 then
    letV (X.1 61 3) fun x55 =>
    chk (inR x55 40) (letV (X.1 64 (ix x55)) fun x56 =>
    letV (X.1 61 3) fun x57 =>
    bnd (g_Judging_meet p1 x56 x57 X) fun _ X58 =>
    some (0, X58))
  else letV (X.1 61 14) fun x59 =>
  letV (x59 - (1 : Int32)) fun x60 =>
  letV (if (0 : Int32) < x60 then x60 else (0 : Int32)) fun x61 =>
  chk (inR x61 3000) (letV (wI X 68 (ix x61) p1) fun X62 =>
  some (0, X62))))))
set_option maxHeartbeats 4000000 in
set_option maxRecDepth 100000 in
theorem k_Judging_judgeAsking (Γ : GxC) (p1 : Int32) (X : St) : TCV YC Γ yX2_judgeAsking cX2_judgeAsking 3 "BlameCourt$Judging" none { frames := 70, cells := 0, slots := 0, locals := 2790 } [.ref (Γ.2.2.2.1 61), .int p1] X (g_Judging_judgeAsking p1 X) := by
  refine TCV.of (by decide) (Nat.le_of_ble_eq_true rfl) rfl ?_
  show TC YC Γ cX2_judgeAsking 3 "BlameCourt$Judging" none { frames := 70, cells := 0, slots := 0, locals := 2790 } _ kV 0 [(0, .ref (Γ.2.2.2.1 61)), (1, .int p1)] [] X (g_Judging_judgeAsking p1 X)
  unfold g_Judging_judgeAsking
  refine TC.aload_n dX2_judgeAsking_0 rfl 0 rfl ?_
  refine mC2_1 k506 dX2_judgeAsking_1 (fun e1 he1 => ?_)
  refine vC4_14 e1 he1 k326 dX2_judgeAsking_4 (fun e2 he2 => ?_)
  refine TC.iload_n dX2_judgeAsking_7 rfl 1 rfl ?_
  refine TC.iald e2 he2 dX2_judgeAsking_8 (fun x3 => ?_)
  refine TC.istore_n (lv1 := [(2, .int x3), (0, .ref (Γ.2.2.2.1 61)), (1, .int p1)]) dX2_judgeAsking_9 rfl (by decide) rfl ?_
  refine TC.aload_n dX2_judgeAsking_10 rfl 1 rfl ?_
  refine mC2_1 k506 dX2_judgeAsking_11 (fun e4 he4 => ?_)
  refine vC4_13 e4 he4 k322 dX2_judgeAsking_14 (fun e5 he5 => ?_)
  refine TC.iload_n dX2_judgeAsking_17 rfl 2 rfl ?_
  refine TC.iald e5 he5 dX2_judgeAsking_18 (fun x6 => ?_)
  refine TC.ite (fun s7 => ?_) (fun s7 => ?_)
  · refine TC.tbl (pc1 := 68) dX2_judgeAsking_19 (by decide) (off := 49) (by rw [s7]; rfl) (by decide) ?_
    refine TC.aload_n dX2_judgeAsking_68 rfl 1 rfl ?_
    refine TC.iload_n dX2_judgeAsking_69 rfl 2 rfl ?_
    refine TC.iconst (w := 0) dX2_judgeAsking_70 (by decide) ?_
    refine TC.aload_n dX2_judgeAsking_71 rfl 1 rfl ?_
    refine gC2_3 k508 dX2_judgeAsking_72 (fun x8 => ?_)
    refine TC.callV_v 61 (As1 := [.int p1, .int 0, .int x8]) (rest := []) (k_Judging_meet Γ p1 (0 : Int32) x8 X) ka_X2_meet kv_X2_meet oC_61 rfl k1019 rfl rfl rfl rfl (show 69 + 1 ≤ 70 ∧ 8 + (5 + 11) + 2750 ≤ 2790 from ⟨by omega, by omega⟩) (Nat.le_of_ble_eq_true rfl) dX2_judgeAsking_75 (fun _ X9 => ?_)
    refine TC.goto (pc1 := 270) dX2_judgeAsking_78 (by decide) ?_
    exact TC.ret_v rfl dX2_judgeAsking_270
  refine TC.ite (fun s10 => ?_) (fun s10 => ?_)
  · refine TC.tbl (pc1 := 81) dX2_judgeAsking_19 (by decide) (off := 62) (by rw [s10]; rfl) (by decide) ?_
    refine TC.aload_n dX2_judgeAsking_81 rfl 1 rfl ?_
    refine TC.iload_n dX2_judgeAsking_82 rfl 2 rfl ?_
    refine TC.iconst (w := 1) dX2_judgeAsking_83 (by decide) ?_
    refine TC.aload_n dX2_judgeAsking_84 rfl 1 rfl ?_
    refine gC2_3 k508 dX2_judgeAsking_85 (fun x11 => ?_)
    refine TC.callV_v 61 (As1 := [.int p1, .int 1, .int x11]) (rest := []) (k_Judging_meet Γ p1 (1 : Int32) x11 X) ka_X2_meet kv_X2_meet oC_61 rfl k1019 rfl rfl rfl rfl (show 69 + 1 ≤ 70 ∧ 8 + (5 + 11) + 2750 ≤ 2790 from ⟨by omega, by omega⟩) (Nat.le_of_ble_eq_true rfl) dX2_judgeAsking_88 (fun _ X12 => ?_)
    refine TC.goto (pc1 := 270) dX2_judgeAsking_91 (by decide) ?_
    exact TC.ret_v rfl dX2_judgeAsking_270
  refine TC.ite (fun s13 => ?_) (fun s13 => ?_)
  · refine TC.tbl (pc1 := 94) dX2_judgeAsking_19 (by decide) (off := 75) (by rw [s13]; rfl) (by decide) ?_
    refine TC.aload_n dX2_judgeAsking_94 rfl 1 rfl ?_
    refine TC.iload_n dX2_judgeAsking_95 rfl 2 rfl ?_
    refine TC.iconst (w := 3) dX2_judgeAsking_96 (by decide) ?_
    refine TC.iconst (w := 3) dX2_judgeAsking_97 (by decide) ?_
    refine TC.callV_v 61 (As1 := [.int p1, .int 3, .int 3]) (rest := []) (k_Judging_meetForm Γ p1 (3 : Int32) (3 : Int32) X) ka_X2_meetForm kv_X2_meetForm oC_61 rfl k1067 rfl rfl rfl rfl (show 4 + 1 ≤ 70 ∧ 8 + (5 + 11) + 150 ≤ 2790 from ⟨by omega, by omega⟩) (Nat.le_of_ble_eq_true rfl) dX2_judgeAsking_98 (fun _ X14 => ?_)
    refine TC.goto (pc1 := 270) dX2_judgeAsking_101 (by decide) ?_
    exact TC.ret_v rfl dX2_judgeAsking_270
  refine TC.ite (fun s15 => ?_) (fun s15 => ?_)
  · refine TC.tbl (pc1 := 104) dX2_judgeAsking_19 (by decide) (off := 85) (by rw [s15]; rfl) (by decide) ?_
    refine TC.aload_n dX2_judgeAsking_104 rfl 1 rfl ?_
    refine TC.iload_n dX2_judgeAsking_105 rfl 2 rfl ?_
    refine TC.iload_n dX2_judgeAsking_106 rfl 0 rfl ?_
    refine TC.callV_v 61 (As1 := [.int p1, .int x3]) (rest := []) (k_Judging_meetCalled Γ p1 x3 X) ka_X2_meetCalled kv_X2_meetCalled oC_61 rfl k1072 rfl rfl rfl rfl (show 5 + 1 ≤ 70 ∧ 8 + (4 + 11) + 190 ≤ 2790 from ⟨by omega, by omega⟩) (Nat.le_of_ble_eq_true rfl) dX2_judgeAsking_107 (fun _ X16 => ?_)
    refine TC.goto (pc1 := 270) dX2_judgeAsking_110 (by decide) ?_
    exact TC.ret_v rfl dX2_judgeAsking_270
  refine TC.ite (fun s17 => ?_) (fun s17 => ?_)
  · refine TC.tbl (pc1 := 104) dX2_judgeAsking_19 (by decide) (off := 85) (by rw [s17]; rfl) (by decide) ?_
    refine TC.aload_n dX2_judgeAsking_104 rfl 1 rfl ?_
    refine TC.iload_n dX2_judgeAsking_105 rfl 2 rfl ?_
    refine TC.iload_n dX2_judgeAsking_106 rfl 0 rfl ?_
    refine TC.callV_v 61 (As1 := [.int p1, .int x3]) (rest := []) (k_Judging_meetCalled Γ p1 x3 X) ka_X2_meetCalled kv_X2_meetCalled oC_61 rfl k1072 rfl rfl rfl rfl (show 5 + 1 ≤ 70 ∧ 8 + (4 + 11) + 190 ≤ 2790 from ⟨by omega, by omega⟩) (Nat.le_of_ble_eq_true rfl) dX2_judgeAsking_107 (fun _ X18 => ?_)
    refine TC.goto (pc1 := 270) dX2_judgeAsking_110 (by decide) ?_
    exact TC.ret_v rfl dX2_judgeAsking_270
  refine TC.ite (fun s19 => ?_) (fun s19 => ?_)
  · refine TC.tbl (pc1 := 113) dX2_judgeAsking_19 (by decide) (off := 94) (by rw [s19]; rfl) (by decide) ?_
    refine TC.aload_n dX2_judgeAsking_113 rfl 1 rfl ?_
    refine TC.iload_n dX2_judgeAsking_114 rfl 2 rfl ?_
    refine TC.aload_n dX2_judgeAsking_115 rfl 1 rfl ?_
    refine mC2_2 k507 dX2_judgeAsking_116 (fun e20 he20 => ?_)
    refine TC.aload_n dX2_judgeAsking_119 rfl 1 rfl ?_
    refine TC.iload_n dX2_judgeAsking_120 rfl 0 rfl ?_
    refine TC.iconst (w := 1) dX2_judgeAsking_121 (by decide) ?_
    refine TC.iadd dX2_judgeAsking_122 (fun x21 => ?_)
    refine TC.callV_i 61 (As1 := [.int x21]) (rest := [.ref (Γ.2.2.2.1 e20), .int p1, .ref (Γ.2.2.2.1 61)]) (k_Judging_below Γ x21 X) ka_X2_below kv_X2_below oC_61 rfl k1023 rfl rfl rfl rfl (show 2 + 1 ≤ 70 ∧ 8 + (3 + 11) + 70 ≤ 2790 from ⟨by omega, by omega⟩) (Nat.le_of_ble_eq_true rfl) dX2_judgeAsking_123 (fun x22 X23 => ?_)
    refine TC.iload_n dX2_judgeAsking_126 rfl 0 rfl ?_
    refine TC.callV_i e20 (As1 := [.int x22, .int x3]) (rest := [.int p1, .ref (Γ.2.2.2.1 61)]) (k_Kinds_paramOf Γ e20 he20 x22 x3 X23) ka_X3_paramOf kv_X3_paramOf he20 rfl k1077 rfl rfl rfl rfl (show 2 + 1 ≤ 70 ∧ 8 + (3 + 11) + 70 ≤ 2790 from ⟨by omega, by omega⟩) (Nat.le_of_ble_eq_true rfl) dX2_judgeAsking_127 (fun x24 X25 => ?_)
    refine TC.aload_n dX2_judgeAsking_130 rfl 1 rfl ?_
    refine TC.iload_n dX2_judgeAsking_131 rfl 0 rfl ?_
    refine TC.iconst (w := 1) dX2_judgeAsking_132 (by decide) ?_
    refine TC.iadd dX2_judgeAsking_133 (fun x26 => ?_)
    refine TC.callV_i 61 (As1 := [.int x26]) (rest := [.int x24, .int p1, .ref (Γ.2.2.2.1 61)]) (k_Judging_takerBelow Γ x26 X25) ka_X2_takerBelow kv_X2_takerBelow oC_61 rfl k1078 rfl rfl rfl rfl (show 2 + 1 ≤ 70 ∧ 8 + (3 + 11) + 70 ≤ 2790 from ⟨by omega, by omega⟩) (Nat.le_of_ble_eq_true rfl) dX2_judgeAsking_134 (fun x27 X28 => ?_)
    refine TC.callV_v 61 (As1 := [.int p1, .int x24, .int x27]) (rest := []) (k_Judging_meet Γ p1 x24 x27 X28) ka_X2_meet kv_X2_meet oC_61 rfl k1019 rfl rfl rfl rfl (show 69 + 1 ≤ 70 ∧ 8 + (5 + 11) + 2750 ≤ 2790 from ⟨by omega, by omega⟩) (Nat.le_of_ble_eq_true rfl) dX2_judgeAsking_137 (fun _ X29 => ?_)
    refine TC.goto (pc1 := 270) dX2_judgeAsking_140 (by decide) ?_
    exact TC.ret_v rfl dX2_judgeAsking_270
  refine TC.ite (fun s30 => ?_) (fun s30 => ?_)
  · refine TC.tbl (pc1 := 143) dX2_judgeAsking_19 (by decide) (off := 124) (by rw [s30]; rfl) (by decide) ?_
    refine TC.aload_n dX2_judgeAsking_143 rfl 1 rfl ?_
    refine TC.iload_n dX2_judgeAsking_144 rfl 2 rfl ?_
    refine TC.aload_n dX2_judgeAsking_145 rfl 1 rfl ?_
    refine mC2_2 k507 dX2_judgeAsking_146 (fun e31 he31 => ?_)
    refine TC.aload_n dX2_judgeAsking_149 rfl 1 rfl ?_
    refine TC.iconst (w := 2) dX2_judgeAsking_150 (by decide) ?_
    refine TC.callV_i 61 (As1 := [.int 2]) (rest := [.ref (Γ.2.2.2.1 e31), .int p1, .ref (Γ.2.2.2.1 61)]) (k_Judging_below Γ (2 : Int32) X) ka_X2_below kv_X2_below oC_61 rfl k1023 rfl rfl rfl rfl (show 2 + 1 ≤ 70 ∧ 8 + (3 + 11) + 70 ≤ 2790 from ⟨by omega, by omega⟩) (Nat.le_of_ble_eq_true rfl) dX2_judgeAsking_151 (fun x32 X33 => ?_)
    refine TC.callV_i e31 (As1 := [.int x32]) (rest := [.int p1, .ref (Γ.2.2.2.1 61)]) (k_Kinds_givesOf Γ e31 he31 x32 X33) ka_X3_givesOf kv_X3_givesOf he31 rfl k1082 rfl rfl rfl rfl (show 2 + 1 ≤ 70 ∧ 8 + (2 + 11) + 70 ≤ 2790 from ⟨by omega, by omega⟩) (Nat.le_of_ble_eq_true rfl) dX2_judgeAsking_154 (fun x34 X35 => ?_)
    refine TC.aload_n dX2_judgeAsking_157 rfl 1 rfl ?_
    refine gC2_3 k508 dX2_judgeAsking_158 (fun x36 => ?_)
    refine TC.callV_v 61 (As1 := [.int p1, .int x34, .int x36]) (rest := []) (k_Judging_meet Γ p1 x34 x36 X35) ka_X2_meet kv_X2_meet oC_61 rfl k1019 rfl rfl rfl rfl (show 69 + 1 ≤ 70 ∧ 8 + (5 + 11) + 2750 ≤ 2790 from ⟨by omega, by omega⟩) (Nat.le_of_ble_eq_true rfl) dX2_judgeAsking_161 (fun _ X37 => ?_)
    refine TC.goto (pc1 := 270) dX2_judgeAsking_164 (by decide) ?_
    exact TC.ret_v rfl dX2_judgeAsking_270
  refine TC.ite (fun s38 => ?_) (fun s38 => ?_)
  · refine TC.tbl (pc1 := 167) dX2_judgeAsking_19 (by decide) (off := 148) (by rw [s38]; rfl) (by decide) ?_
    refine TC.aload_n dX2_judgeAsking_167 rfl 1 rfl ?_
    refine cC2_6 k513 dX2_judgeAsking_168 ?_
    refine TC.aload_n dX2_judgeAsking_171 rfl 1 rfl ?_
    refine gC2_3 k508 dX2_judgeAsking_172 (fun x39 => ?_)
    refine TC.aload_n dX2_judgeAsking_175 rfl 1 rfl ?_
    refine cC2_6 k513 dX2_judgeAsking_176 ?_
    refine TC.aload_n dX2_judgeAsking_179 rfl 1 rfl ?_
    refine gC2_3 k508 dX2_judgeAsking_180 (fun x40 => ?_)
    refine alC62 dX2_judgeAsking_183 (fun x41 => ?_)
    refine TC.if_ne (pc1 := 206) dX2_judgeAsking_184 (by decide) ?_ ?_
    · refine TC.sub [1, 2, 0] rfl ?_
      exact k_Judging_judgeAsking_206 Γ _ p1 x3 x39 X
    · refine TC.aload_n dX2_judgeAsking_187 rfl 1 rfl ?_
      refine mC2_2 k507 dX2_judgeAsking_188 (fun e48 he48 => ?_)
      refine TC.aload_n dX2_judgeAsking_191 rfl 1 rfl ?_
      refine TC.aload_n dX2_judgeAsking_192 rfl 1 rfl ?_
      refine gC2_3 k508 dX2_judgeAsking_193 (fun x49 => ?_)
      refine TC.iload_n dX2_judgeAsking_196 rfl 0 rfl ?_
      refine TC.callV_i 61 (As1 := [.int x49, .int x3]) (rest := [.ref (Γ.2.2.2.1 e48), .int x39, .ref (Γ.2.2.2.1 62)]) (k_Judging_asTold Γ x49 x3 X) ka_X2_asTold kv_X2_asTold oC_61 rfl k1005 rfl rfl rfl rfl (show 2 + 1 ≤ 70 ∧ 8 + (3 + 11) + 70 ≤ 2790 from ⟨by omega, by omega⟩) (Nat.le_of_ble_eq_true rfl) dX2_judgeAsking_197 (fun x50 X51 => ?_)
      refine TC.callV_i e48 (As1 := [.int x50]) (rest := [.int x39, .ref (Γ.2.2.2.1 62)]) (k_Kinds_hasAny Γ e48 he48 x50 X51) ka_X3_hasAny kv_X3_hasAny he48 rfl k1010 rfl rfl rfl rfl (show 2 + 1 ≤ 70 ∧ 8 + (2 + 11) + 70 ≤ 2790 from ⟨by omega, by omega⟩) (Nat.le_of_ble_eq_true rfl) dX2_judgeAsking_200 (fun x52 X53 => ?_)
      refine TC.if_eq (pc1 := 210) dX2_judgeAsking_203 (by decide) ?_ ?_
      · refine TC.iconst (w := 0) dX2_judgeAsking_210 (by decide) ?_
        refine TC.sub [1, 2, 0] rfl ?_
        exact k_Judging_judgeAsking_211 Γ _ p1 x3 (0 : Int32) x39 X53
      · refine TC.sub [1, 2, 0] rfl ?_
        exact k_Judging_judgeAsking_206 Γ _ p1 x3 x39 X53
  refine TC.ite (fun s54 => ?_) (fun s54 => ?_)
  · refine TC.tbl (pc1 := 233) dX2_judgeAsking_19 (by decide) (off := 214) (by rw [s54]; rfl) (by decide) ?_
    refine TC.aload_n dX2_judgeAsking_233 rfl 1 rfl ?_
    refine TC.iload_n dX2_judgeAsking_234 rfl 2 rfl ?_
    refine TC.aload_n dX2_judgeAsking_235 rfl 1 rfl ?_
    refine cC2_8 k516 dX2_judgeAsking_236 ?_
    refine TC.aload_n dX2_judgeAsking_239 rfl 1 rfl ?_
    refine gC2_3 k508 dX2_judgeAsking_240 (fun x55 => ?_)
    refine alC64 dX2_judgeAsking_243 (fun x56 => ?_)
    refine TC.aload_n dX2_judgeAsking_244 rfl 1 rfl ?_
    refine gC2_3 k508 dX2_judgeAsking_245 (fun x57 => ?_)
    refine TC.callV_v 61 (As1 := [.int p1, .int x56, .int x57]) (rest := []) (k_Judging_meet Γ p1 x56 x57 X) ka_X2_meet kv_X2_meet oC_61 rfl k1019 rfl rfl rfl rfl (show 69 + 1 ≤ 70 ∧ 8 + (5 + 11) + 2750 ≤ 2790 from ⟨by omega, by omega⟩) (Nat.le_of_ble_eq_true rfl) dX2_judgeAsking_248 (fun _ X58 => ?_)
    refine TC.goto (pc1 := 270) dX2_judgeAsking_251 (by decide) ?_
    exact TC.ret_v rfl dX2_judgeAsking_270
  refine TC.tbl (pc1 := 254) dX2_judgeAsking_19 (by decide) (off := 235) (tbl_d [27, 28, 29, 30, 31, 32, 33, 34, 35] (by intro q; simp only [List.mem_cons, List.not_mem_nil, or_false] at q; omega) (by decide)) (by decide) ?_
  refine TC.aload_n dX2_judgeAsking_254 rfl 1 rfl ?_
  refine cC2_12 k520 dX2_judgeAsking_255 ?_
  refine TC.iconst (w := 0) dX2_judgeAsking_258 (by decide) ?_
  refine TC.aload_n dX2_judgeAsking_259 rfl 1 rfl ?_
  refine gC2_14 k522 dX2_judgeAsking_260 (fun x59 => ?_)
  refine TC.iconst (w := 1) dX2_judgeAsking_263 (by decide) ?_
  refine TC.isub dX2_judgeAsking_264 (fun x60 => ?_)
  refine TC.mmax k1064 k1065 k198 k1066 rfl dX2_judgeAsking_265 (show 1 ≤ 70 ∧ 8 + 13 ≤ 2790 from ⟨by omega, by omega⟩) (Nat.le_of_ble_eq_true rfl) (fun x61 => ?_)
  refine TC.iload_n dX2_judgeAsking_268 rfl 2 rfl ?_
  refine asC68 dX2_judgeAsking_269 (fun X62 => ?_)
  exact TC.ret_v rfl dX2_judgeAsking_270
noncomputable def g_Kinds_rowOf (o0 : Nat) (p1 : Int32) (X : St) : Option (Int32 × St) :=
  bnd (g_Kinds_codeOf o0 p1 X) fun x1 X2 =>
  letV ((5 : Int32) * x1) fun x3 =>
  letV (x3 + (4 : Int32)) fun x4 =>
  letV (kY YC o0 3 - 3) fun e5 =>
  bnd (g_Kinds_findOrAdd o0 (3 : Int32) (0 : Int32) e5 (0 : Int32) p1 x4 X2) fun x6 X7 =>
  some (x6, X7)
set_option maxHeartbeats 4000000 in
set_option maxRecDepth 100000 in
theorem k_Kinds_rowOf (Γ : GxC) (o0 : Nat) (ho0 : isO YC o0 3 8) (p1 : Int32) (X : St) : TCI YC Γ yX3_rowOf cX3_rowOf 3 "BlameCourt$Kinds" (some .int) { frames := 4, cells := 0, slots := 0, locals := 150 } [.ref (Γ.2.2.2.1 o0), .int p1] X (g_Kinds_rowOf o0 p1 X) := by
  refine TCI.of (by decide) (Nat.le_of_ble_eq_true rfl) rfl ?_
  show TC YC Γ cX3_rowOf 3 "BlameCourt$Kinds" (some .int) { frames := 4, cells := 0, slots := 0, locals := 150 } _ kI 0 [(0, .ref (Γ.2.2.2.1 o0)), (1, .int p1)] [] X (g_Kinds_rowOf o0 p1 X)
  unfold g_Kinds_rowOf
  refine TC.iconst (w := 5) dX3_rowOf_0 (by decide) ?_
  refine TC.aload_n dX3_rowOf_1 rfl 0 rfl ?_
  refine TC.iload_n dX3_rowOf_2 rfl 1 rfl ?_
  refine TC.callV_i o0 (As1 := [.int p1]) (rest := [.int 5]) (k_Kinds_codeOf Γ o0 ho0 p1 X) ka_X3_codeOf kv_X3_codeOf ho0 rfl k242 rfl rfl rfl rfl (show 2 + 1 ≤ 4 ∧ 8 + (2 + 11) + 70 ≤ 150 from ⟨by omega, by omega⟩) (Nat.le_of_ble_eq_true rfl) dX3_rowOf_3 (fun x1 X2 => ?_)
  refine TC.imul dX3_rowOf_6 (fun x3 => ?_)
  refine TC.iconst (w := 4) dX3_rowOf_7 (by decide) ?_
  refine TC.iadd dX3_rowOf_8 (fun x4 => ?_)
  refine TC.istore_n (lv1 := [(2, .int x4), (0, .ref (Γ.2.2.2.1 o0)), (1, .int p1)]) dX3_rowOf_9 rfl (by decide) rfl ?_
  refine TC.aload_n dX3_rowOf_10 rfl 1 rfl ?_
  refine TC.iconst (w := 3) dX3_rowOf_11 (by decide) ?_
  refine TC.iconst (w := 0) dX3_rowOf_12 (by decide) ?_
  refine TC.aload_n dX3_rowOf_13 rfl 1 rfl ?_
  refine vC3_3 o0 ho0 k252 dX3_rowOf_14 (fun e5 he5 => ?_)
  refine TC.iconst (w := 0) dX3_rowOf_17 (by decide) ?_
  refine TC.iload_n dX3_rowOf_18 rfl 2 rfl ?_
  refine TC.iload_n dX3_rowOf_19 rfl 0 rfl ?_
  refine TC.callV_i o0 (As1 := [.int 3, .int 0, .ref (Γ.2.2.2.1 e5), .int 0, .int p1, .int x4]) (rest := []) (k_Kinds_findOrAdd Γ o0 ho0 (3 : Int32) (0 : Int32) e5 ⟨he5.1, rfl, he5.2.2⟩ (0 : Int32) p1 x4 X2) ka_X3_findOrAdd kv_X3_findOrAdd ho0 rfl k223 rfl rfl rfl rfl (show 3 + 1 ≤ 4 ∧ 8 + (11 + 11) + 110 ≤ 150 from ⟨by omega, by omega⟩) (Nat.le_of_ble_eq_true rfl) dX3_rowOf_20 (fun x6 X7 => ?_)
  exact TC.ret_i rfl dX3_rowOf_23
noncomputable def g_Judging_push_66 (b_0 : Int32) (b_1 : Int32) (X : St) : Option (Int32 × St) :=
  chk (inR b_1 40) (letV (wI X 62 (ix b_1) (vp_nar .boolean b_0)) fun X5 =>
  some (0, X5))
set_option maxHeartbeats 4000000 in
set_option maxRecDepth 100000 in
theorem k_Judging_push_66 (Γ : GxC) (As : List Value) (b_0 : Int32) (b_1 : Int32) (X : St) : TC YC Γ cX2_push 2 "BlameCourt$Judging" none { frames := 3, cells := 0, slots := 0, locals := 110 } As kV 66 [] [.int b_0, .int b_1, .ref (Γ.2.2.2.1 62)] X (g_Judging_push_66 b_0 b_1 X) := by
  unfold g_Judging_push_66
  refine asC62 dX2_push_66 (fun X5 => ?_)
  exact TC.ret_v rfl dX2_push_67
noncomputable def g_Judging_push_61 (b_0 : Int32) (X : St) : Option (Int32 × St) :=
  g_Judging_push_66 (1 : Int32) b_0 X
set_option maxHeartbeats 4000000 in
set_option maxRecDepth 100000 in
theorem k_Judging_push_61 (Γ : GxC) (As : List Value) (b_0 : Int32) (X : St) : TC YC Γ cX2_push 2 "BlameCourt$Judging" none { frames := 3, cells := 0, slots := 0, locals := 110 } As kV 61 [] [.int b_0, .ref (Γ.2.2.2.1 62)] X (g_Judging_push_61 b_0 X) := by
  unfold g_Judging_push_61
  refine TC.iconst (w := 1) dX2_push_61 (by decide) ?_
  refine TC.goto (pc1 := 66) dX2_push_62 (by decide) ?_
  exact k_Judging_push_66 Γ _ (1 : Int32) b_0 X
noncomputable def g_Judging_push_30 (a_1 : Int32) (X : St) : Option (Int32 × St) :=
  letV (X.1 61 3) fun x2 =>
  letV (X.1 61 3) fun x3 =>
  chk (inR x3 40) (letV (X.1 62 (ix x3)) fun x4 =>
  if x4.toInt = 0 then
    chk (refO YC (X.2.2 61 2) 3 8 = true) (letV (X.2.2 61 2 - 1) fun e6 =>
    bnd (g_Kinds_hasAny e6 a_1 X) fun x7 X8 =>
    if x7.toInt = 0 then
      g_Judging_push_66 (0 : Int32) x2 X8
    else
      g_Judging_push_61 x2 X8)
  else
    g_Judging_push_61 x2 X)
set_option maxHeartbeats 4000000 in
set_option maxRecDepth 100000 in
theorem k_Judging_push_30 (Γ : GxC) (As : List Value) (a_1 : Int32) (X : St) : TC YC Γ cX2_push 2 "BlameCourt$Judging" none { frames := 3, cells := 0, slots := 0, locals := 110 } As kV 30 [(0, .ref (Γ.2.2.2.1 61)), (1, .int a_1)] [] X (g_Judging_push_30 a_1 X) := by
  unfold g_Judging_push_30
  refine TC.aload_n dX2_push_30 rfl 0 rfl ?_
  refine cC2_6 k513 dX2_push_31 ?_
  refine TC.aload_n dX2_push_34 rfl 0 rfl ?_
  refine gC2_3 k508 dX2_push_35 (fun x2 => ?_)
  refine TC.aload_n dX2_push_38 rfl 0 rfl ?_
  refine cC2_6 k513 dX2_push_39 ?_
  refine TC.aload_n dX2_push_42 rfl 0 rfl ?_
  refine gC2_3 k508 dX2_push_43 (fun x3 => ?_)
  refine alC62 dX2_push_46 (fun x4 => ?_)
  refine TC.if_ne (pc1 := 61) dX2_push_47 (by decide) ?_ ?_
  · refine TC.sub [] rfl ?_
    exact k_Judging_push_61 Γ _ x2 X
  · refine TC.aload_n dX2_push_50 rfl 0 rfl ?_
    refine mC2_2 k507 dX2_push_51 (fun e6 he6 => ?_)
    refine TC.iload_n dX2_push_54 rfl 1 rfl ?_
    refine TC.callV_i e6 (As1 := [.int a_1]) (rest := [.int x2, .ref (Γ.2.2.2.1 62)]) (k_Kinds_hasAny Γ e6 he6 a_1 X) ka_X3_hasAny kv_X3_hasAny he6 rfl k1010 rfl rfl rfl rfl (show 2 + 1 ≤ 3 ∧ 8 + (2 + 11) + 70 ≤ 110 from ⟨by omega, by omega⟩) (Nat.le_of_ble_eq_true rfl) dX2_push_55 (fun x7 X8 => ?_)
    refine TC.if_eq (pc1 := 65) dX2_push_58 (by decide) ?_ ?_
    · refine TC.iconst (w := 0) dX2_push_65 (by decide) ?_
      refine TC.sub [] rfl ?_
      exact k_Judging_push_66 Γ _ (0 : Int32) x2 X8
    · refine TC.sub [] rfl ?_
      exact k_Judging_push_61 Γ _ x2 X8
noncomputable def g_Judging_push (p1 : Int32) (X : St) : Option (Int32 × St) :=
  letV (X.1 61 14) fun x1 =>
  if 3000 ≤ x1.toInt then
    g_Judging_push_30 p1 X
  else
    letV (X.1 61 14) fun x9 =>
    chk (inR x9 3000) (letV (wI X 67 (ix x9) p1) fun X10 =>
    letV (X10.1 61 14) fun x11 =>
    letV (x11 + (1 : Int32)) fun x12 =>
    letV (wI X10 61 14 x12) fun X13 =>
    g_Judging_push_30 p1 X13)
set_option maxHeartbeats 4000000 in
set_option maxRecDepth 100000 in
theorem k_Judging_push (Γ : GxC) (p1 : Int32) (X : St) : TCV YC Γ yX2_push cX2_push 2 "BlameCourt$Judging" none { frames := 3, cells := 0, slots := 0, locals := 110 } [.ref (Γ.2.2.2.1 61), .int p1] X (g_Judging_push p1 X) := by
  refine TCV.of (by decide) (Nat.le_of_ble_eq_true rfl) rfl ?_
  show TC YC Γ cX2_push 2 "BlameCourt$Judging" none { frames := 3, cells := 0, slots := 0, locals := 110 } _ kV 0 [(0, .ref (Γ.2.2.2.1 61)), (1, .int p1)] [] X (g_Judging_push p1 X)
  unfold g_Judging_push
  refine TC.aload_n dX2_push_0 rfl 0 rfl ?_
  refine gC2_14 k522 dX2_push_1 (fun x1 => ?_)
  refine TC.sipush (w := 3000) dX2_push_4 (by decide) ?_
  refine TC.icmp_ge (pc1 := 30) dX2_push_7 (by decide) rfl ?_ ?_
  · exact k_Judging_push_30 Γ _ p1 X
  · refine TC.aload_n dX2_push_10 rfl 0 rfl ?_
    refine cC2_11 k519 dX2_push_11 ?_
    refine TC.aload_n dX2_push_14 rfl 0 rfl ?_
    refine gC2_14 k522 dX2_push_15 (fun x9 => ?_)
    refine TC.iload_n dX2_push_18 rfl 1 rfl ?_
    refine asC67 dX2_push_19 (fun X10 => ?_)
    refine TC.aload_n dX2_push_20 rfl 0 rfl ?_
    refine TC.dupr dX2_push_21 ?_
    refine gC2_14 k522 dX2_push_22 (fun x11 => ?_)
    refine TC.iconst (w := 1) dX2_push_25 (by decide) ?_
    refine TC.iadd dX2_push_26 (fun x12 => ?_)
    refine pC2_14 k522 dX2_push_27 (fun X13 => ?_)
    exact k_Judging_push_30 Γ _ p1 X13
noncomputable def g_Judging_replace (p1 : Int32) (p2 : Int32) (X : St) : Option (Int32 × St) :=
  letV (X.1 61 14) fun x1 =>
  letV (x1 - p1) fun x2 =>
  letV (if (0 : Int32) < x2 then x2 else (0 : Int32)) fun x3 =>
  letV (wI X 61 14 x3) fun X4 =>
  bnd (g_Judging_push p2 X4) fun _ X5 =>
  some (0, X5)
set_option maxHeartbeats 4000000 in
set_option maxRecDepth 100000 in
theorem k_Judging_replace (Γ : GxC) (p1 : Int32) (p2 : Int32) (X : St) : TCV YC Γ yX2_replace cX2_replace 3 "BlameCourt$Judging" none { frames := 4, cells := 0, slots := 0, locals := 150 } [.ref (Γ.2.2.2.1 61), .int p1, .int p2] X (g_Judging_replace p1 p2 X) := by
  refine TCV.of (by decide) (Nat.le_of_ble_eq_true rfl) rfl ?_
  show TC YC Γ cX2_replace 3 "BlameCourt$Judging" none { frames := 4, cells := 0, slots := 0, locals := 150 } _ kV 0 [(0, .ref (Γ.2.2.2.1 61)), (1, .int p1), (2, .int p2)] [] X (g_Judging_replace p1 p2 X)
  unfold g_Judging_replace
  refine TC.aload_n dX2_replace_0 rfl 0 rfl ?_
  refine TC.iconst (w := 0) dX2_replace_1 (by decide) ?_
  refine TC.aload_n dX2_replace_2 rfl 0 rfl ?_
  refine gC2_14 k522 dX2_replace_3 (fun x1 => ?_)
  refine TC.iload_n dX2_replace_6 rfl 1 rfl ?_
  refine TC.isub dX2_replace_7 (fun x2 => ?_)
  refine TC.mmax k1064 k1065 k198 k1066 rfl dX2_replace_8 (show 1 ≤ 4 ∧ 8 + 13 ≤ 150 from ⟨by omega, by omega⟩) (Nat.le_of_ble_eq_true rfl) (fun x3 => ?_)
  refine pC2_14 k522 dX2_replace_11 (fun X4 => ?_)
  refine TC.aload_n dX2_replace_14 rfl 0 rfl ?_
  refine TC.iload_n dX2_replace_15 rfl 2 rfl ?_
  refine TC.callV_v 61 (As1 := [.int p2]) (rest := []) (k_Judging_push Γ p2 X4) ka_X2_push kv_X2_push oC_61 rfl k1092 rfl rfl rfl rfl (show 3 + 1 ≤ 4 ∧ 8 + (2 + 11) + 110 ≤ 150 from ⟨by omega, by omega⟩) (Nat.le_of_ble_eq_true rfl) dX2_replace_16 (fun _ X5 => ?_)
  exact TC.ret_v rfl dX2_replace_19
noncomputable def g_Judging_pop (X : St) : Option (Int32 × St) :=
  letV (X.1 61 14) fun x1 =>
  if 0 < x1.toInt then
    letV (X.1 61 14) fun x2 =>
    letV (x2 - (1 : Int32)) fun x3 =>
    letV (wI X 61 14 x3) fun X4 =>
    letV (X4.1 61 14) fun x5 =>
    chk (inR x5 3000) (letV (X4.1 67 (ix x5)) fun x6 =>
    some (x6, X4))
  else
    some (2, X)
set_option maxHeartbeats 4000000 in
set_option maxRecDepth 100000 in
theorem k_Judging_pop (Γ : GxC) (X : St) : TCI YC Γ yX2_pop cX2_pop 1 "BlameCourt$Judging" (some .int) { frames := 2, cells := 0, slots := 0, locals := 70 } [.ref (Γ.2.2.2.1 61)] X (g_Judging_pop X) := by
  refine TCI.of (by decide) (Nat.le_of_ble_eq_true rfl) rfl ?_
  show TC YC Γ cX2_pop 1 "BlameCourt$Judging" (some .int) { frames := 2, cells := 0, slots := 0, locals := 70 } _ kI 0 [(0, .ref (Γ.2.2.2.1 61))] [] X (g_Judging_pop X)
  unfold g_Judging_pop
  refine TC.aload_n dX2_pop_0 rfl 0 rfl ?_
  refine gC2_14 k522 dX2_pop_1 (fun x1 => ?_)
  refine TC.if_gt (pc1 := 9) dX2_pop_4 (by decide) ?_ ?_
  · refine TC.aload_n dX2_pop_9 rfl 0 rfl ?_
    refine TC.dupr dX2_pop_10 ?_
    refine gC2_14 k522 dX2_pop_11 (fun x2 => ?_)
    refine TC.iconst (w := 1) dX2_pop_14 (by decide) ?_
    refine TC.isub dX2_pop_15 (fun x3 => ?_)
    refine pC2_14 k522 dX2_pop_16 (fun X4 => ?_)
    refine TC.aload_n dX2_pop_19 rfl 0 rfl ?_
    refine cC2_11 k519 dX2_pop_20 ?_
    refine TC.aload_n dX2_pop_23 rfl 0 rfl ?_
    refine gC2_14 k522 dX2_pop_24 (fun x5 => ?_)
    refine alC67 dX2_pop_27 (fun x6 => ?_)
    exact TC.ret_i rfl dX2_pop_28
  · refine TC.iconst (w := 2) dX2_pop_7 (by decide) ?_
    exact TC.ret_i rfl dX2_pop_8
noncomputable def g_Judging_judgeWork (p1 : Int32) (p2 : Int32) (X : St) : Option (Int32 × St) :=
  if p1.toInt = 11 then
    chk (refO YC (X.2.2 61 2) 3 8 = true) (letV (X.2.2 61 2 - 1) fun e2 =>
    bnd (g_Judging_below (0 : Int32) X) fun x3 X4 =>
    bnd (g_Kinds_rowOf e2 x3 X4) fun x5 X6 =>
    bnd (g_Judging_replace (2 : Int32) x5 X6) fun _ X7 =>
    some (0, X7))
  else if p1.toInt = 12 then
    bnd (g_Judging_replace (1 : Int32) (0 : Int32) X) fun _ X9 =>
    some (0, X9)
  else if p1.toInt = 13 then
    bnd (g_Judging_replace (1 : Int32) (0 : Int32) X) fun _ X11 =>
    some (0, X11)
  else if p1.toInt = 14 then
    chk (refO YC (X.2.2 61 2) 3 8 = true) (letV (X.2.2 61 2 - 1) fun e13 =>
    bnd (g_Judging_below (1 : Int32) X) fun x14 X15 =>
    bnd (g_Kinds_givesOf e13 x14 X15) fun x16 X17 =>
    bnd (g_Judging_replace (2 : Int32) x16 X17) fun _ X18 =>
    some (0, X18))
  else if p1.toInt = 15 then
    chk (refO YC (X.2.2 61 2) 3 8 = true) (letV (X.2.2 61 2 - 1) fun e20 =>
    bnd (g_Judging_below (2 : Int32) X) fun x21 X22 =>
    bnd (g_Kinds_givesOf e20 x21 X22) fun x23 X24 =>
    bnd (g_Judging_replace (3 : Int32) x23 X24) fun _ X25 =>
    some (0, X25))
  else if p1.toInt = 16 then
    letV (p2 + (1 : Int32)) fun x27 =>
    chk (refO YC (X.2.2 61 2) 3 8 = true) (letV (X.2.2 61 2 - 1) fun e28 =>
    bnd (g_Judging_below p2 X) fun x29 X30 =>
    bnd (g_Kinds_givesOf e28 x29 X30) fun x31 X32 =>
    bnd (g_Judging_replace x27 x31 X32) fun _ X33 =>
    some (0, X33))
  else if p1.toInt = 17 then
    bnd (g_Judging_pop X) fun x35 X36 =>
    some (0, X36)
  else if p1.toInt = 18 then
    bnd (g_Judging_replace (1 : Int32) (0 : Int32) X) fun _ X38 =>
    some (0, X38)
  else if p1.toInt = 19 then
    bnd (g_Judging_replace (1 : Int32) (1 : Int32) X) fun _ X40 =>
    some (0, X40)
  else if p1.toInt = 20 then
    bnd (g_Judging_replace (2 : Int32) (1 : Int32) X) fun _ X42 =>
    some (0, X42)
  else if p1.toInt = 21 then
    bnd (g_Judging_replace (2 : Int32) (1 : Int32) X) fun _ X44 =>
    some (0, X44)
  else bnd (g_Judging_replace (2 : Int32) (0 : Int32) X) fun _ X45 =>
  some (0, X45)
set_option maxHeartbeats 4000000 in
set_option maxRecDepth 100000 in
theorem k_Judging_judgeWork (Γ : GxC) (p1 : Int32) (p2 : Int32) (X : St) : TCV YC Γ yX2_judgeWork cX2_judgeWork 3 "BlameCourt$Judging" none { frames := 5, cells := 0, slots := 0, locals := 190 } [.ref (Γ.2.2.2.1 61), .int p1, .int p2] X (g_Judging_judgeWork p1 p2 X) := by
  refine TCV.of (by decide) (Nat.le_of_ble_eq_true rfl) rfl ?_
  show TC YC Γ cX2_judgeWork 3 "BlameCourt$Judging" none { frames := 5, cells := 0, slots := 0, locals := 190 } _ kV 0 [(0, .ref (Γ.2.2.2.1 61)), (1, .int p1), (2, .int p2)] [] X (g_Judging_judgeWork p1 p2 X)
  unfold g_Judging_judgeWork
  refine TC.iload_n dX2_judgeWork_0 rfl 1 rfl ?_
  refine TC.ite (fun s1 => ?_) (fun s1 => ?_)
  · refine TC.tbl (pc1 := 60) dX2_judgeWork_1 (by decide) (off := 59) (by rw [s1]; rfl) (by decide) ?_
    refine TC.aload_n dX2_judgeWork_60 rfl 0 rfl ?_
    refine TC.iconst (w := 2) dX2_judgeWork_61 (by decide) ?_
    refine TC.aload_n dX2_judgeWork_62 rfl 0 rfl ?_
    refine mC2_2 k507 dX2_judgeWork_63 (fun e2 he2 => ?_)
    refine TC.aload_n dX2_judgeWork_66 rfl 0 rfl ?_
    refine TC.iconst (w := 0) dX2_judgeWork_67 (by decide) ?_
    refine TC.callV_i 61 (As1 := [.int 0]) (rest := [.ref (Γ.2.2.2.1 e2), .int 2, .ref (Γ.2.2.2.1 61)]) (k_Judging_below Γ (0 : Int32) X) ka_X2_below kv_X2_below oC_61 rfl k1023 rfl rfl rfl rfl (show 2 + 1 ≤ 5 ∧ 8 + (3 + 11) + 70 ≤ 190 from ⟨by omega, by omega⟩) (Nat.le_of_ble_eq_true rfl) dX2_judgeWork_68 (fun x3 X4 => ?_)
    refine TC.callV_i e2 (As1 := [.int x3]) (rest := [.int 2, .ref (Γ.2.2.2.1 61)]) (k_Kinds_rowOf Γ e2 he2 x3 X4) ka_X3_rowOf kv_X3_rowOf he2 rfl k1087 rfl rfl rfl rfl (show 4 + 1 ≤ 5 ∧ 8 + (3 + 11) + 150 ≤ 190 from ⟨by omega, by omega⟩) (Nat.le_of_ble_eq_true rfl) dX2_judgeWork_71 (fun x5 X6 => ?_)
    refine TC.callV_v 61 (As1 := [.int 2, .int x5]) (rest := []) (k_Judging_replace Γ (2 : Int32) x5 X6) ka_X2_replace kv_X2_replace oC_61 rfl k1088 rfl rfl rfl rfl (show 4 + 1 ≤ 5 ∧ 8 + (3 + 11) + 150 ≤ 190 from ⟨by omega, by omega⟩) (Nat.le_of_ble_eq_true rfl) dX2_judgeWork_74 (fun _ X7 => ?_)
    refine TC.goto (pc1 := 183) dX2_judgeWork_77 (by decide) ?_
    exact TC.ret_v rfl dX2_judgeWork_183
  refine TC.ite (fun s8 => ?_) (fun s8 => ?_)
  · refine TC.tbl (pc1 := 150) dX2_judgeWork_1 (by decide) (off := 149) (by rw [s8]; rfl) (by decide) ?_
    refine TC.aload_n dX2_judgeWork_150 rfl 0 rfl ?_
    refine TC.iconst (w := 1) dX2_judgeWork_151 (by decide) ?_
    refine TC.iconst (w := 0) dX2_judgeWork_152 (by decide) ?_
    refine TC.callV_v 61 (As1 := [.int 1, .int 0]) (rest := []) (k_Judging_replace Γ (1 : Int32) (0 : Int32) X) ka_X2_replace kv_X2_replace oC_61 rfl k1088 rfl rfl rfl rfl (show 4 + 1 ≤ 5 ∧ 8 + (3 + 11) + 150 ≤ 190 from ⟨by omega, by omega⟩) (Nat.le_of_ble_eq_true rfl) dX2_judgeWork_153 (fun _ X9 => ?_)
    refine TC.goto (pc1 := 183) dX2_judgeWork_156 (by decide) ?_
    exact TC.ret_v rfl dX2_judgeWork_183
  refine TC.ite (fun s10 => ?_) (fun s10 => ?_)
  · refine TC.tbl (pc1 := 150) dX2_judgeWork_1 (by decide) (off := 149) (by rw [s10]; rfl) (by decide) ?_
    refine TC.aload_n dX2_judgeWork_150 rfl 0 rfl ?_
    refine TC.iconst (w := 1) dX2_judgeWork_151 (by decide) ?_
    refine TC.iconst (w := 0) dX2_judgeWork_152 (by decide) ?_
    refine TC.callV_v 61 (As1 := [.int 1, .int 0]) (rest := []) (k_Judging_replace Γ (1 : Int32) (0 : Int32) X) ka_X2_replace kv_X2_replace oC_61 rfl k1088 rfl rfl rfl rfl (show 4 + 1 ≤ 5 ∧ 8 + (3 + 11) + 150 ≤ 190 from ⟨by omega, by omega⟩) (Nat.le_of_ble_eq_true rfl) dX2_judgeWork_153 (fun _ X11 => ?_)
    refine TC.goto (pc1 := 183) dX2_judgeWork_156 (by decide) ?_
    exact TC.ret_v rfl dX2_judgeWork_183
  refine TC.ite (fun s12 => ?_) (fun s12 => ?_)
  · refine TC.tbl (pc1 := 80) dX2_judgeWork_1 (by decide) (off := 79) (by rw [s12]; rfl) (by decide) ?_
    refine TC.aload_n dX2_judgeWork_80 rfl 0 rfl ?_
    refine TC.iconst (w := 2) dX2_judgeWork_81 (by decide) ?_
    refine TC.aload_n dX2_judgeWork_82 rfl 0 rfl ?_
    refine mC2_2 k507 dX2_judgeWork_83 (fun e13 he13 => ?_)
    refine TC.aload_n dX2_judgeWork_86 rfl 0 rfl ?_
    refine TC.iconst (w := 1) dX2_judgeWork_87 (by decide) ?_
    refine TC.callV_i 61 (As1 := [.int 1]) (rest := [.ref (Γ.2.2.2.1 e13), .int 2, .ref (Γ.2.2.2.1 61)]) (k_Judging_below Γ (1 : Int32) X) ka_X2_below kv_X2_below oC_61 rfl k1023 rfl rfl rfl rfl (show 2 + 1 ≤ 5 ∧ 8 + (3 + 11) + 70 ≤ 190 from ⟨by omega, by omega⟩) (Nat.le_of_ble_eq_true rfl) dX2_judgeWork_88 (fun x14 X15 => ?_)
    refine TC.callV_i e13 (As1 := [.int x14]) (rest := [.int 2, .ref (Γ.2.2.2.1 61)]) (k_Kinds_givesOf Γ e13 he13 x14 X15) ka_X3_givesOf kv_X3_givesOf he13 rfl k1082 rfl rfl rfl rfl (show 2 + 1 ≤ 5 ∧ 8 + (2 + 11) + 70 ≤ 190 from ⟨by omega, by omega⟩) (Nat.le_of_ble_eq_true rfl) dX2_judgeWork_91 (fun x16 X17 => ?_)
    refine TC.callV_v 61 (As1 := [.int 2, .int x16]) (rest := []) (k_Judging_replace Γ (2 : Int32) x16 X17) ka_X2_replace kv_X2_replace oC_61 rfl k1088 rfl rfl rfl rfl (show 4 + 1 ≤ 5 ∧ 8 + (3 + 11) + 150 ≤ 190 from ⟨by omega, by omega⟩) (Nat.le_of_ble_eq_true rfl) dX2_judgeWork_94 (fun _ X18 => ?_)
    refine TC.goto (pc1 := 183) dX2_judgeWork_97 (by decide) ?_
    exact TC.ret_v rfl dX2_judgeWork_183
  refine TC.ite (fun s19 => ?_) (fun s19 => ?_)
  · refine TC.tbl (pc1 := 100) dX2_judgeWork_1 (by decide) (off := 99) (by rw [s19]; rfl) (by decide) ?_
    refine TC.aload_n dX2_judgeWork_100 rfl 0 rfl ?_
    refine TC.iconst (w := 3) dX2_judgeWork_101 (by decide) ?_
    refine TC.aload_n dX2_judgeWork_102 rfl 0 rfl ?_
    refine mC2_2 k507 dX2_judgeWork_103 (fun e20 he20 => ?_)
    refine TC.aload_n dX2_judgeWork_106 rfl 0 rfl ?_
    refine TC.iconst (w := 2) dX2_judgeWork_107 (by decide) ?_
    refine TC.callV_i 61 (As1 := [.int 2]) (rest := [.ref (Γ.2.2.2.1 e20), .int 3, .ref (Γ.2.2.2.1 61)]) (k_Judging_below Γ (2 : Int32) X) ka_X2_below kv_X2_below oC_61 rfl k1023 rfl rfl rfl rfl (show 2 + 1 ≤ 5 ∧ 8 + (3 + 11) + 70 ≤ 190 from ⟨by omega, by omega⟩) (Nat.le_of_ble_eq_true rfl) dX2_judgeWork_108 (fun x21 X22 => ?_)
    refine TC.callV_i e20 (As1 := [.int x21]) (rest := [.int 3, .ref (Γ.2.2.2.1 61)]) (k_Kinds_givesOf Γ e20 he20 x21 X22) ka_X3_givesOf kv_X3_givesOf he20 rfl k1082 rfl rfl rfl rfl (show 2 + 1 ≤ 5 ∧ 8 + (2 + 11) + 70 ≤ 190 from ⟨by omega, by omega⟩) (Nat.le_of_ble_eq_true rfl) dX2_judgeWork_111 (fun x23 X24 => ?_)
    refine TC.callV_v 61 (As1 := [.int 3, .int x23]) (rest := []) (k_Judging_replace Γ (3 : Int32) x23 X24) ka_X2_replace kv_X2_replace oC_61 rfl k1088 rfl rfl rfl rfl (show 4 + 1 ≤ 5 ∧ 8 + (3 + 11) + 150 ≤ 190 from ⟨by omega, by omega⟩) (Nat.le_of_ble_eq_true rfl) dX2_judgeWork_114 (fun _ X25 => ?_)
    refine TC.goto (pc1 := 183) dX2_judgeWork_117 (by decide) ?_
    exact TC.ret_v rfl dX2_judgeWork_183
  refine TC.ite (fun s26 => ?_) (fun s26 => ?_)
  · refine TC.tbl (pc1 := 120) dX2_judgeWork_1 (by decide) (off := 119) (by rw [s26]; rfl) (by decide) ?_
    refine TC.aload_n dX2_judgeWork_120 rfl 0 rfl ?_
    refine TC.iload_n dX2_judgeWork_121 rfl 2 rfl ?_
    refine TC.iconst (w := 1) dX2_judgeWork_122 (by decide) ?_
    refine TC.iadd dX2_judgeWork_123 (fun x27 => ?_)
    refine TC.aload_n dX2_judgeWork_124 rfl 0 rfl ?_
    refine mC2_2 k507 dX2_judgeWork_125 (fun e28 he28 => ?_)
    refine TC.aload_n dX2_judgeWork_128 rfl 0 rfl ?_
    refine TC.iload_n dX2_judgeWork_129 rfl 2 rfl ?_
    refine TC.callV_i 61 (As1 := [.int p2]) (rest := [.ref (Γ.2.2.2.1 e28), .int x27, .ref (Γ.2.2.2.1 61)]) (k_Judging_below Γ p2 X) ka_X2_below kv_X2_below oC_61 rfl k1023 rfl rfl rfl rfl (show 2 + 1 ≤ 5 ∧ 8 + (3 + 11) + 70 ≤ 190 from ⟨by omega, by omega⟩) (Nat.le_of_ble_eq_true rfl) dX2_judgeWork_130 (fun x29 X30 => ?_)
    refine TC.callV_i e28 (As1 := [.int x29]) (rest := [.int x27, .ref (Γ.2.2.2.1 61)]) (k_Kinds_givesOf Γ e28 he28 x29 X30) ka_X3_givesOf kv_X3_givesOf he28 rfl k1082 rfl rfl rfl rfl (show 2 + 1 ≤ 5 ∧ 8 + (2 + 11) + 70 ≤ 190 from ⟨by omega, by omega⟩) (Nat.le_of_ble_eq_true rfl) dX2_judgeWork_133 (fun x31 X32 => ?_)
    refine TC.callV_v 61 (As1 := [.int x27, .int x31]) (rest := []) (k_Judging_replace Γ x27 x31 X32) ka_X2_replace kv_X2_replace oC_61 rfl k1088 rfl rfl rfl rfl (show 4 + 1 ≤ 5 ∧ 8 + (3 + 11) + 150 ≤ 190 from ⟨by omega, by omega⟩) (Nat.le_of_ble_eq_true rfl) dX2_judgeWork_136 (fun _ X33 => ?_)
    refine TC.goto (pc1 := 183) dX2_judgeWork_139 (by decide) ?_
    exact TC.ret_v rfl dX2_judgeWork_183
  refine TC.ite (fun s34 => ?_) (fun s34 => ?_)
  · refine TC.tbl (pc1 := 142) dX2_judgeWork_1 (by decide) (off := 141) (by rw [s34]; rfl) (by decide) ?_
    refine TC.aload_n dX2_judgeWork_142 rfl 0 rfl ?_
    refine TC.callV_i 61 (As1 := []) (rest := []) (k_Judging_pop Γ X) ka_X2_pop kv_X2_pop oC_61 rfl k1096 rfl rfl rfl rfl (show 2 + 1 ≤ 5 ∧ 8 + (1 + 11) + 70 ≤ 190 from ⟨by omega, by omega⟩) (Nat.le_of_ble_eq_true rfl) dX2_judgeWork_143 (fun x35 X36 => ?_)
    refine TC.pop dX2_judgeWork_146 ?_
    refine TC.goto (pc1 := 183) dX2_judgeWork_147 (by decide) ?_
    exact TC.ret_v rfl dX2_judgeWork_183
  refine TC.ite (fun s37 => ?_) (fun s37 => ?_)
  · refine TC.tbl (pc1 := 150) dX2_judgeWork_1 (by decide) (off := 149) (by rw [s37]; rfl) (by decide) ?_
    refine TC.aload_n dX2_judgeWork_150 rfl 0 rfl ?_
    refine TC.iconst (w := 1) dX2_judgeWork_151 (by decide) ?_
    refine TC.iconst (w := 0) dX2_judgeWork_152 (by decide) ?_
    refine TC.callV_v 61 (As1 := [.int 1, .int 0]) (rest := []) (k_Judging_replace Γ (1 : Int32) (0 : Int32) X) ka_X2_replace kv_X2_replace oC_61 rfl k1088 rfl rfl rfl rfl (show 4 + 1 ≤ 5 ∧ 8 + (3 + 11) + 150 ≤ 190 from ⟨by omega, by omega⟩) (Nat.le_of_ble_eq_true rfl) dX2_judgeWork_153 (fun _ X38 => ?_)
    refine TC.goto (pc1 := 183) dX2_judgeWork_156 (by decide) ?_
    exact TC.ret_v rfl dX2_judgeWork_183
  refine TC.ite (fun s39 => ?_) (fun s39 => ?_)
  · refine TC.tbl (pc1 := 159) dX2_judgeWork_1 (by decide) (off := 158) (by rw [s39]; rfl) (by decide) ?_
    refine TC.aload_n dX2_judgeWork_159 rfl 0 rfl ?_
    refine TC.iconst (w := 1) dX2_judgeWork_160 (by decide) ?_
    refine TC.iconst (w := 1) dX2_judgeWork_161 (by decide) ?_
    refine TC.callV_v 61 (As1 := [.int 1, .int 1]) (rest := []) (k_Judging_replace Γ (1 : Int32) (1 : Int32) X) ka_X2_replace kv_X2_replace oC_61 rfl k1088 rfl rfl rfl rfl (show 4 + 1 ≤ 5 ∧ 8 + (3 + 11) + 150 ≤ 190 from ⟨by omega, by omega⟩) (Nat.le_of_ble_eq_true rfl) dX2_judgeWork_162 (fun _ X40 => ?_)
    refine TC.goto (pc1 := 183) dX2_judgeWork_165 (by decide) ?_
    exact TC.ret_v rfl dX2_judgeWork_183
  refine TC.ite (fun s41 => ?_) (fun s41 => ?_)
  · refine TC.tbl (pc1 := 168) dX2_judgeWork_1 (by decide) (off := 167) (by rw [s41]; rfl) (by decide) ?_
    refine TC.aload_n dX2_judgeWork_168 rfl 0 rfl ?_
    refine TC.iconst (w := 2) dX2_judgeWork_169 (by decide) ?_
    refine TC.iconst (w := 1) dX2_judgeWork_170 (by decide) ?_
    refine TC.callV_v 61 (As1 := [.int 2, .int 1]) (rest := []) (k_Judging_replace Γ (2 : Int32) (1 : Int32) X) ka_X2_replace kv_X2_replace oC_61 rfl k1088 rfl rfl rfl rfl (show 4 + 1 ≤ 5 ∧ 8 + (3 + 11) + 150 ≤ 190 from ⟨by omega, by omega⟩) (Nat.le_of_ble_eq_true rfl) dX2_judgeWork_171 (fun _ X42 => ?_)
    refine TC.goto (pc1 := 183) dX2_judgeWork_174 (by decide) ?_
    exact TC.ret_v rfl dX2_judgeWork_183
  refine TC.ite (fun s43 => ?_) (fun s43 => ?_)
  · refine TC.tbl (pc1 := 168) dX2_judgeWork_1 (by decide) (off := 167) (by rw [s43]; rfl) (by decide) ?_
    refine TC.aload_n dX2_judgeWork_168 rfl 0 rfl ?_
    refine TC.iconst (w := 2) dX2_judgeWork_169 (by decide) ?_
    refine TC.iconst (w := 1) dX2_judgeWork_170 (by decide) ?_
    refine TC.callV_v 61 (As1 := [.int 2, .int 1]) (rest := []) (k_Judging_replace Γ (2 : Int32) (1 : Int32) X) ka_X2_replace kv_X2_replace oC_61 rfl k1088 rfl rfl rfl rfl (show 4 + 1 ≤ 5 ∧ 8 + (3 + 11) + 150 ≤ 190 from ⟨by omega, by omega⟩) (Nat.le_of_ble_eq_true rfl) dX2_judgeWork_171 (fun _ X44 => ?_)
    refine TC.goto (pc1 := 183) dX2_judgeWork_174 (by decide) ?_
    exact TC.ret_v rfl dX2_judgeWork_183
  refine TC.tbl (pc1 := 177) dX2_judgeWork_1 (by decide) (off := 176) (tbl_d [11, 12, 13, 14, 15, 16, 17, 18, 19, 20, 21] (by intro q; simp only [List.mem_cons, List.not_mem_nil, or_false] at q; omega) (by decide)) (by decide) ?_
  refine TC.aload_n dX2_judgeWork_177 rfl 0 rfl ?_
  refine TC.iconst (w := 2) dX2_judgeWork_178 (by decide) ?_
  refine TC.iconst (w := 0) dX2_judgeWork_179 (by decide) ?_
  refine TC.callV_v 61 (As1 := [.int 2, .int 0]) (rest := []) (k_Judging_replace Γ (2 : Int32) (0 : Int32) X) ka_X2_replace kv_X2_replace oC_61 rfl k1088 rfl rfl rfl rfl (show 4 + 1 ≤ 5 ∧ 8 + (3 + 11) + 150 ≤ 190 from ⟨by omega, by omega⟩) (Nat.le_of_ble_eq_true rfl) dX2_judgeWork_180 (fun _ X45 => ?_)
  exact TC.ret_v rfl dX2_judgeWork_183
noncomputable def g_Judging_bind (p1 : Int32) (X : St) : Option (Int32 × St) :=
  bnd (g_Judging_pop X) fun x1 X2 =>
  if p1.toInt < 0 then
    some (0, X2)
  else
    if 44 ≤ p1.toInt then
      some (0, X2)
    else
      chk (inR p1 44) (letV (wI X2 66 (ix p1) x1) fun X3 =>
      some (0, X3))
set_option maxHeartbeats 4000000 in
set_option maxRecDepth 100000 in
theorem k_Judging_bind (Γ : GxC) (p1 : Int32) (X : St) : TCV YC Γ yX2_bind cX2_bind 3 "BlameCourt$Judging" none { frames := 3, cells := 0, slots := 0, locals := 110 } [.ref (Γ.2.2.2.1 61), .int p1] X (g_Judging_bind p1 X) := by
  refine TCV.of (by decide) (Nat.le_of_ble_eq_true rfl) rfl ?_
  show TC YC Γ cX2_bind 3 "BlameCourt$Judging" none { frames := 3, cells := 0, slots := 0, locals := 110 } _ kV 0 [(0, .ref (Γ.2.2.2.1 61)), (1, .int p1)] [] X (g_Judging_bind p1 X)
  unfold g_Judging_bind
  refine TC.aload_n dX2_bind_0 rfl 0 rfl ?_
  refine TC.callV_i 61 (As1 := []) (rest := []) (k_Judging_pop Γ X) ka_X2_pop kv_X2_pop oC_61 rfl k1096 rfl rfl rfl rfl (show 2 + 1 ≤ 3 ∧ 8 + (1 + 11) + 70 ≤ 110 from ⟨by omega, by omega⟩) (Nat.le_of_ble_eq_true rfl) dX2_bind_1 (fun x1 X2 => ?_)
  refine TC.istore_n (lv1 := [(2, .int x1), (0, .ref (Γ.2.2.2.1 61)), (1, .int p1)]) dX2_bind_4 rfl (by decide) rfl ?_
  refine TC.iload_n dX2_bind_5 rfl 2 rfl ?_
  refine TC.if_lt (pc1 := 22) dX2_bind_6 (by decide) ?_ ?_
  · exact TC.ret_v rfl dX2_bind_22
  · refine TC.iload_n dX2_bind_9 rfl 2 rfl ?_
    refine TC.bipush (w := 44) dX2_bind_10 (by decide) ?_
    refine TC.icmp_ge (pc1 := 22) dX2_bind_12 (by decide) rfl ?_ ?_
    · exact TC.ret_v rfl dX2_bind_22
    · refine TC.aload_n dX2_bind_15 rfl 1 rfl ?_
      refine cC2_10 k518 dX2_bind_16 ?_
      refine TC.iload_n dX2_bind_19 rfl 2 rfl ?_
      refine TC.iload_n dX2_bind_20 rfl 0 rfl ?_
      refine asC66 dX2_bind_21 (fun X3 => ?_)
      exact TC.ret_v rfl dX2_bind_22
noncomputable def g_Judging_mix_131 (a_2 : Int32) (a_3 : Int32) (a_4 : Int32) (X : St) : Option (Int32 × St) :=
  letV (wI X 61 14 a_2) fun X7 =>
  if a_4.toInt = 0 then
    some (2, X7)
  else
    some (a_3, X7)
set_option maxHeartbeats 4000000 in
set_option maxRecDepth 100000 in
theorem k_Judging_mix_131 (Γ : GxC) (As : List Value) (a_2 : Int32) (a_3 : Int32) (a_4 : Int32) (X : St) : TC YC Γ cX2_mix 6 "BlameCourt$Judging" (some .int) { frames := 4, cells := 0, slots := 0, locals := 150 } As kI 131 [(0, .ref (Γ.2.2.2.1 61)), (2, .int a_2), (3, .int a_3), (4, .int a_4)] [] X (g_Judging_mix_131 a_2 a_3 a_4 X) := by
  unfold g_Judging_mix_131
  refine TC.aload_n dX2_mix_131 rfl 0 rfl ?_
  refine TC.iload_n dX2_mix_132 rfl 1 rfl ?_
  refine pC2_14 k522 dX2_mix_133 (fun X7 => ?_)
  refine TC.iload dX2_mix_136 3 rfl ?_
  refine TC.if_eq (pc1 := 145) dX2_mix_138 (by decide) ?_ ?_
  · refine TC.iconst (w := 2) dX2_mix_145 (by decide) ?_
    exact TC.ret_i rfl dX2_mix_146
  · refine TC.iload_n dX2_mix_141 rfl 2 rfl ?_
    refine TC.goto (pc1 := 146) dX2_mix_142 (by decide) ?_
    exact TC.ret_i rfl dX2_mix_146
noncomputable def g_Judging_mix_125 (r77 : Int32 → Int32 → Int32 → Int32 → St → Option (Int32 × St)) (a_2 : Int32) (a_3 : Int32) (a_4 : Int32) (a_5 : Int32) (X : St) : Option (Int32 × St) :=
  letV (a_5 + Int32.ofInt (1)) fun x9 =>
  r77 a_2 a_3 a_4 x9 X
set_option maxHeartbeats 4000000 in
set_option maxRecDepth 100000 in
theorem k_Judging_mix_125 (Γ : GxC) (As : List Value) (r77 : Int32 → Int32 → Int32 → Int32 → St → Option (Int32 × St)) (hr77 : ∀ (a_2 : Int32) (a_3 : Int32) (a_4 : Int32) (a_5 : Int32) (X : St), TC YC Γ cX2_mix 6 "BlameCourt$Judging" (some .int) { frames := 4, cells := 0, slots := 0, locals := 150 } As kI 77 [(0, .ref (Γ.2.2.2.1 61)), (2, .int a_2), (3, .int a_3), (4, .int a_4), (5, .int a_5)] [] X (r77 a_2 a_3 a_4 a_5 X)) (a_2 : Int32) (a_3 : Int32) (a_4 : Int32) (a_5 : Int32) (X : St) : TC YC Γ cX2_mix 6 "BlameCourt$Judging" (some .int) { frames := 4, cells := 0, slots := 0, locals := 150 } As kI 125 [(0, .ref (Γ.2.2.2.1 61)), (2, .int a_2), (3, .int a_3), (4, .int a_4), (5, .int a_5)] [] X (g_Judging_mix_125 r77 a_2 a_3 a_4 a_5 X) := by
  unfold g_Judging_mix_125
  refine TC.iinc dX2_mix_125 4 rfl (by decide) (lvf := fun x9 => [(5, .int x9), (0, .ref (Γ.2.2.2.1 61)), (2, .int a_2), (3, .int a_3), (4, .int a_4)]) (fun _ => rfl) (fun x9 => ?_)
  refine TC.goto (pc1 := 77) dX2_mix_128 (by decide) ?_
  refine TC.sub [1, 2, 3, 4, 0] rfl ?_
  exact hr77 a_2 a_3 a_4 x9 X
noncomputable def g_Judging_mix_77_s (r77 : Int32 → Int32 → Int32 → Int32 → St → Option (Int32 × St)) (a_2 : Int32) (a_3 : Int32) (a_4 : Int32) (a_5 : Int32) (X : St) : Option (Int32 × St) :=
  letV (X.1 61 14) fun x6 =>
  if x6.toInt ≤ a_5.toInt then
    g_Judging_mix_131 a_2 a_3 a_4 X
  else
    if a_4.toInt = 0 then
      chk (inR a_5 3000) (letV (X.1 67 (ix a_5)) fun x8 =>
      if x8.toInt = 2 then
        g_Judging_mix_125 r77 a_2 a_3 a_4 a_5 X
      else
        chk (inR a_5 3000) (letV (X.1 68 (ix a_5)) fun x10 =>
        chk (inR a_5 3000) (letV (X.1 67 (ix a_5)) fun x11 =>
        letV (X.1 61 3) fun x12 =>
        bnd (g_Judging_layGuard x10 x11 (2 : Int32) x12 X) fun _ X13 =>
        g_Judging_mix_125 r77 a_2 a_3 a_4 a_5 X13)))
    else
      g_Judging_mix_131 a_2 a_3 a_4 X
noncomputable def g_Judging_mix_77 (n : Nat) : Int32 → Int32 → Int32 → Int32 → St → Option (Int32 × St) := lp (fun _ _ _ _ _ => none) (g_Judging_mix_77_s) n
set_option maxHeartbeats 4000000 in
set_option maxRecDepth 100000 in
theorem k_Judging_mix_77 (Γ : GxC) (As : List Value) (n : Nat) : ∀ (a_2 : Int32) (a_3 : Int32) (a_4 : Int32) (a_5 : Int32) (X : St), TC YC Γ cX2_mix 6 "BlameCourt$Judging" (some .int) { frames := 4, cells := 0, slots := 0, locals := 150 } As kI 77 [(0, .ref (Γ.2.2.2.1 61)), (2, .int a_2), (3, .int a_3), (4, .int a_4), (5, .int a_5)] [] X (g_Judging_mix_77 n a_2 a_3 a_4 a_5 X) := by
  unfold g_Judging_mix_77
  refine lp_ind (P := fun (r77 : Int32 → Int32 → Int32 → Int32 → St → Option (Int32 × St)) => ∀ (a_2 : Int32) (a_3 : Int32) (a_4 : Int32) (a_5 : Int32) (X : St), TC YC Γ cX2_mix 6 "BlameCourt$Judging" (some .int) { frames := 4, cells := 0, slots := 0, locals := 150 } As kI 77 [(0, .ref (Γ.2.2.2.1 61)), (2, .int a_2), (3, .int a_3), (4, .int a_4), (5, .int a_5)] [] X (r77 a_2 a_3 a_4 a_5 X)) (fun _ _ _ _ _ => TC.no) ?_ n
  intro r77 hr77 a_2 a_3 a_4 a_5 X
  unfold g_Judging_mix_77_s
  refine TC.iload dX2_mix_77 4 rfl ?_
  refine TC.aload_n dX2_mix_79 rfl 0 rfl ?_
  refine gC2_14 k522 dX2_mix_80 (fun x6 => ?_)
  refine TC.icmp_ge (pc1 := 131) dX2_mix_83 (by decide) rfl ?_ ?_
  · refine TC.sub [0, 1, 2, 3] rfl ?_
    exact k_Judging_mix_131 Γ _ a_2 a_3 a_4 X
  · refine TC.iload dX2_mix_86 3 rfl ?_
    refine TC.if_ne (pc1 := 131) dX2_mix_88 (by decide) ?_ ?_
    · refine TC.sub [0, 1, 2, 3] rfl ?_
      exact k_Judging_mix_131 Γ _ a_2 a_3 a_4 X
    · refine TC.aload_n dX2_mix_91 rfl 0 rfl ?_
      refine cC2_11 k519 dX2_mix_92 ?_
      refine TC.iload dX2_mix_95 4 rfl ?_
      refine alC67 dX2_mix_97 (fun x8 => ?_)
      refine TC.iconst (w := 2) dX2_mix_98 (by decide) ?_
      refine TC.icmp_eq (pc1 := 125) dX2_mix_99 (by decide) rfl ?_ ?_
      · exact k_Judging_mix_125 Γ _ r77 hr77 a_2 a_3 a_4 a_5 X
      · refine TC.aload_n dX2_mix_102 rfl 0 rfl ?_
        refine TC.aload_n dX2_mix_103 rfl 0 rfl ?_
        refine cC2_12 k520 dX2_mix_104 ?_
        refine TC.iload dX2_mix_107 4 rfl ?_
        refine alC68 dX2_mix_109 (fun x10 => ?_)
        refine TC.aload_n dX2_mix_110 rfl 0 rfl ?_
        refine cC2_11 k519 dX2_mix_111 ?_
        refine TC.iload dX2_mix_114 4 rfl ?_
        refine alC67 dX2_mix_116 (fun x11 => ?_)
        refine TC.iconst (w := 2) dX2_mix_117 (by decide) ?_
        refine TC.aload_n dX2_mix_118 rfl 0 rfl ?_
        refine gC2_3 k508 dX2_mix_119 (fun x12 => ?_)
        refine TC.callV_v 61 (As1 := [.int x10, .int x11, .int 2, .int x12]) (rest := []) (k_Judging_layGuard Γ x10 x11 (2 : Int32) x12 X) ka_X2_layGuard kv_X2_layGuard oC_61 rfl k1052 rfl rfl rfl rfl (show 3 + 1 ≤ 4 ∧ 8 + (5 + 11) + 110 ≤ 150 from ⟨by omega, by omega⟩) (Nat.le_of_ble_eq_true rfl) dX2_mix_122 (fun _ X13 => ?_)
        exact k_Judging_mix_125 Γ _ r77 hr77 a_2 a_3 a_4 a_5 X13
noncomputable def g_Judging_mix_66 (r36 : Int32 → Int32 → Int32 → Int32 → St → Option (Int32 × St)) (a_2 : Int32) (a_3 : Int32) (a_5 : Int32) (b_0 : Int32) (X : St) : Option (Int32 × St) :=
  letV (a_5 + Int32.ofInt (1)) fun x14 =>
  r36 a_2 a_3 b_0 x14 X
set_option maxHeartbeats 4000000 in
set_option maxRecDepth 100000 in
theorem k_Judging_mix_66 (Γ : GxC) (As : List Value) (r36 : Int32 → Int32 → Int32 → Int32 → St → Option (Int32 × St)) (hr36 : ∀ (a_2 : Int32) (a_3 : Int32) (a_4 : Int32) (a_5 : Int32) (X : St), TC YC Γ cX2_mix 6 "BlameCourt$Judging" (some .int) { frames := 4, cells := 0, slots := 0, locals := 150 } As kI 36 [(0, .ref (Γ.2.2.2.1 61)), (2, .int a_2), (3, .int a_3), (4, .int a_4), (5, .int a_5)] [] X (r36 a_2 a_3 a_4 a_5 X)) (a_2 : Int32) (a_3 : Int32) (a_5 : Int32) (b_0 : Int32) (X : St) : TC YC Γ cX2_mix 6 "BlameCourt$Judging" (some .int) { frames := 4, cells := 0, slots := 0, locals := 150 } As kI 66 [(0, .ref (Γ.2.2.2.1 61)), (2, .int a_2), (3, .int a_3), (5, .int a_5)] [.int b_0] X (g_Judging_mix_66 r36 a_2 a_3 a_5 b_0 X) := by
  unfold g_Judging_mix_66
  refine TC.istore (lv1 := [(4, .int b_0), (0, .ref (Γ.2.2.2.1 61)), (2, .int a_2), (3, .int a_3), (5, .int a_5)]) dX2_mix_66 (by decide) rfl ?_
  refine TC.iinc dX2_mix_68 4 rfl (by decide) (lvf := fun x14 => [(5, .int x14), (4, .int b_0), (0, .ref (Γ.2.2.2.1 61)), (2, .int a_2), (3, .int a_3)]) (fun _ => rfl) (fun x14 => ?_)
  refine TC.goto (pc1 := 36) dX2_mix_71 (by decide) ?_
  refine TC.sub [2, 3, 4, 1, 0] rfl ?_
  exact hr36 a_2 a_3 b_0 x14 X
noncomputable def g_Judging_mix_65 (r36 : Int32 → Int32 → Int32 → Int32 → St → Option (Int32 × St)) (a_2 : Int32) (a_3 : Int32) (a_5 : Int32) (X : St) : Option (Int32 × St) :=
  g_Judging_mix_66 r36 a_2 a_3 a_5 (0 : Int32) X
set_option maxHeartbeats 4000000 in
set_option maxRecDepth 100000 in
theorem k_Judging_mix_65 (Γ : GxC) (As : List Value) (r36 : Int32 → Int32 → Int32 → Int32 → St → Option (Int32 × St)) (hr36 : ∀ (a_2 : Int32) (a_3 : Int32) (a_4 : Int32) (a_5 : Int32) (X : St), TC YC Γ cX2_mix 6 "BlameCourt$Judging" (some .int) { frames := 4, cells := 0, slots := 0, locals := 150 } As kI 36 [(0, .ref (Γ.2.2.2.1 61)), (2, .int a_2), (3, .int a_3), (4, .int a_4), (5, .int a_5)] [] X (r36 a_2 a_3 a_4 a_5 X)) (a_2 : Int32) (a_3 : Int32) (a_5 : Int32) (X : St) : TC YC Γ cX2_mix 6 "BlameCourt$Judging" (some .int) { frames := 4, cells := 0, slots := 0, locals := 150 } As kI 65 [(0, .ref (Γ.2.2.2.1 61)), (2, .int a_2), (3, .int a_3), (5, .int a_5)] [] X (g_Judging_mix_65 r36 a_2 a_3 a_5 X) := by
  unfold g_Judging_mix_65
  refine TC.iconst (w := 0) dX2_mix_65 (by decide) ?_
  exact k_Judging_mix_66 Γ _ r36 hr36 a_2 a_3 a_5 (0 : Int32) X
noncomputable def g_Judging_mix_36_s (r36 : Int32 → Int32 → Int32 → Int32 → St → Option (Int32 × St)) (a_2 : Int32) (a_3 : Int32) (a_4 : Int32) (a_5 : Int32) (X : St) : Option (Int32 × St) :=
  letV (X.1 61 14) fun x5 =>
  if x5.toInt ≤ a_5.toInt then
    g_Judging_mix_77 BIG a_2 a_3 a_4 a_2 X
  else
    if a_4.toInt = 0 then
      g_Judging_mix_65 r36 a_2 a_3 a_5 X
    else
      chk (inR a_5 3000) (letV (X.1 67 (ix a_5)) fun x15 =>
      if x15.toInt = a_3.toInt then
        g_Judging_mix_66 r36 a_2 a_3 a_5 (1 : Int32) X
      else
        g_Judging_mix_65 r36 a_2 a_3 a_5 X)
noncomputable def g_Judging_mix_36 (n : Nat) : Int32 → Int32 → Int32 → Int32 → St → Option (Int32 × St) := lp (fun _ _ _ _ _ => none) (g_Judging_mix_36_s) n
set_option maxHeartbeats 4000000 in
set_option maxRecDepth 100000 in
theorem k_Judging_mix_36 (Γ : GxC) (As : List Value) (n : Nat) : ∀ (a_2 : Int32) (a_3 : Int32) (a_4 : Int32) (a_5 : Int32) (X : St), TC YC Γ cX2_mix 6 "BlameCourt$Judging" (some .int) { frames := 4, cells := 0, slots := 0, locals := 150 } As kI 36 [(0, .ref (Γ.2.2.2.1 61)), (2, .int a_2), (3, .int a_3), (4, .int a_4), (5, .int a_5)] [] X (g_Judging_mix_36 n a_2 a_3 a_4 a_5 X) := by
  unfold g_Judging_mix_36
  refine lp_ind (P := fun (r36 : Int32 → Int32 → Int32 → Int32 → St → Option (Int32 × St)) => ∀ (a_2 : Int32) (a_3 : Int32) (a_4 : Int32) (a_5 : Int32) (X : St), TC YC Γ cX2_mix 6 "BlameCourt$Judging" (some .int) { frames := 4, cells := 0, slots := 0, locals := 150 } As kI 36 [(0, .ref (Γ.2.2.2.1 61)), (2, .int a_2), (3, .int a_3), (4, .int a_4), (5, .int a_5)] [] X (r36 a_2 a_3 a_4 a_5 X)) (fun _ _ _ _ _ => TC.no) ?_ n
  intro r36 hr36 a_2 a_3 a_4 a_5 X
  unfold g_Judging_mix_36_s
  refine TC.iload dX2_mix_36 4 rfl ?_
  refine TC.aload_n dX2_mix_38 rfl 0 rfl ?_
  refine gC2_14 k522 dX2_mix_39 (fun x5 => ?_)
  refine TC.icmp_ge (pc1 := 74) dX2_mix_42 (by decide) rfl ?_ ?_
  · refine TC.iload_n dX2_mix_74 rfl 1 rfl ?_
    refine TC.istore (lv1 := [(5, .int a_2), (0, .ref (Γ.2.2.2.1 61)), (2, .int a_2), (3, .int a_3), (4, .int a_4)]) dX2_mix_75 (by decide) rfl ?_
    refine TC.sub [1, 2, 3, 4, 0] rfl ?_
    exact k_Judging_mix_77 Γ _ BIG a_2 a_3 a_4 a_2 X
  · refine TC.iload dX2_mix_45 3 rfl ?_
    refine TC.if_eq (pc1 := 65) dX2_mix_47 (by decide) ?_ ?_
    · refine TC.sub [0, 1, 2, 4] rfl ?_
      exact k_Judging_mix_65 Γ _ r36 hr36 a_2 a_3 a_5 X
    · refine TC.aload_n dX2_mix_50 rfl 0 rfl ?_
      refine cC2_11 k519 dX2_mix_51 ?_
      refine TC.iload dX2_mix_54 4 rfl ?_
      refine alC67 dX2_mix_56 (fun x15 => ?_)
      refine TC.iload_n dX2_mix_57 rfl 2 rfl ?_
      refine TC.icmp_ne (pc1 := 65) dX2_mix_58 (by decide) rfl ?_ ?_
      · refine TC.sub [0, 1, 2, 4] rfl ?_
        exact k_Judging_mix_65 Γ _ r36 hr36 a_2 a_3 a_5 X
      · refine TC.iconst (w := 1) dX2_mix_61 (by decide) ?_
        refine TC.goto (pc1 := 66) dX2_mix_62 (by decide) ?_
        refine TC.sub [0, 1, 2, 4] rfl ?_
        exact k_Judging_mix_66 Γ _ r36 hr36 a_2 a_3 a_5 (1 : Int32) X
noncomputable def g_Judging_mix_29 (a_2 : Int32) (b_0 : Int32) (X : St) : Option (Int32 × St) :=
  g_Judging_mix_36 BIG a_2 b_0 (1 : Int32) a_2 X
set_option maxHeartbeats 4000000 in
set_option maxRecDepth 100000 in
theorem k_Judging_mix_29 (Γ : GxC) (As : List Value) (a_2 : Int32) (b_0 : Int32) (X : St) : TC YC Γ cX2_mix 6 "BlameCourt$Judging" (some .int) { frames := 4, cells := 0, slots := 0, locals := 150 } As kI 29 [(0, .ref (Γ.2.2.2.1 61)), (2, .int a_2)] [.int b_0] X (g_Judging_mix_29 a_2 b_0 X) := by
  unfold g_Judging_mix_29
  refine TC.istore_n (lv1 := [(3, .int b_0), (0, .ref (Γ.2.2.2.1 61)), (2, .int a_2)]) dX2_mix_29 rfl (by decide) rfl ?_
  refine TC.iconst (w := 1) dX2_mix_30 (by decide) ?_
  refine TC.istore (lv1 := [(4, .int 1), (3, .int b_0), (0, .ref (Γ.2.2.2.1 61)), (2, .int a_2)]) dX2_mix_31 (by decide) rfl ?_
  refine TC.iload_n dX2_mix_33 rfl 3 rfl ?_
  refine TC.istore (lv1 := [(5, .int a_2), (4, .int 1), (3, .int b_0), (0, .ref (Γ.2.2.2.1 61)), (2, .int a_2)]) dX2_mix_34 (by decide) rfl ?_
  refine TC.sub [3, 4, 2, 1, 0] rfl ?_
  exact k_Judging_mix_36 Γ _ BIG a_2 b_0 (1 : Int32) a_2 X
noncomputable def g_Judging_mix (p1 : Int32) (X : St) : Option (Int32 × St) :=
  letV (X.1 61 14) fun x1 =>
  letV (x1 - p1) fun x2 =>
  letV (if (0 : Int32) < x2 then x2 else (0 : Int32)) fun x3 =>
  letV (X.1 61 14) fun x4 =>
  if x4.toInt ≤ x3.toInt then
    g_Judging_mix_29 x3 (2 : Int32) X
  else
    chk (inR x3 3000) (letV (X.1 67 (ix x3)) fun x16 =>
    g_Judging_mix_29 x3 x16 X)
set_option maxHeartbeats 4000000 in
set_option maxRecDepth 100000 in
theorem k_Judging_mix (Γ : GxC) (p1 : Int32) (X : St) : TCI YC Γ yX2_mix cX2_mix 6 "BlameCourt$Judging" (some .int) { frames := 4, cells := 0, slots := 0, locals := 150 } [.ref (Γ.2.2.2.1 61), .int p1] X (g_Judging_mix p1 X) := by
  refine TCI.of (by decide) (Nat.le_of_ble_eq_true rfl) rfl ?_
  show TC YC Γ cX2_mix 6 "BlameCourt$Judging" (some .int) { frames := 4, cells := 0, slots := 0, locals := 150 } _ kI 0 [(0, .ref (Γ.2.2.2.1 61)), (1, .int p1)] [] X (g_Judging_mix p1 X)
  unfold g_Judging_mix
  refine TC.iconst (w := 0) dX2_mix_0 (by decide) ?_
  refine TC.aload_n dX2_mix_1 rfl 0 rfl ?_
  refine gC2_14 k522 dX2_mix_2 (fun x1 => ?_)
  refine TC.iload_n dX2_mix_5 rfl 1 rfl ?_
  refine TC.isub dX2_mix_6 (fun x2 => ?_)
  refine TC.mmax k1064 k1065 k198 k1066 rfl dX2_mix_7 (show 1 ≤ 4 ∧ 8 + 13 ≤ 150 from ⟨by omega, by omega⟩) (Nat.le_of_ble_eq_true rfl) (fun x3 => ?_)
  refine TC.istore_n (lv1 := [(2, .int x3), (0, .ref (Γ.2.2.2.1 61)), (1, .int p1)]) dX2_mix_10 rfl (by decide) rfl ?_
  refine TC.iload_n dX2_mix_11 rfl 0 rfl ?_
  refine TC.aload_n dX2_mix_12 rfl 1 rfl ?_
  refine gC2_14 k522 dX2_mix_13 (fun x4 => ?_)
  refine TC.icmp_ge (pc1 := 28) dX2_mix_16 (by decide) rfl ?_ ?_
  · refine TC.iconst (w := 2) dX2_mix_28 (by decide) ?_
    refine TC.sub [1, 0] rfl ?_
    exact k_Judging_mix_29 Γ _ x3 (2 : Int32) X
  · refine TC.aload_n dX2_mix_19 rfl 1 rfl ?_
    refine cC2_11 k519 dX2_mix_20 ?_
    refine TC.iload_n dX2_mix_23 rfl 0 rfl ?_
    refine alC67 dX2_mix_24 (fun x16 => ?_)
    refine TC.goto (pc1 := 29) dX2_mix_25 (by decide) ?_
    refine TC.sub [1, 0] rfl ?_
    exact k_Judging_mix_29 Γ _ x3 x16 X
noncomputable def g_Judging_judgePlain_96 (b_0 : Int32) (X : St) : Option (Int32 × St) :=
  bnd (g_Judging_push b_0 X) fun _ X7 =>
  some (0, X7)
set_option maxHeartbeats 4000000 in
set_option maxRecDepth 100000 in
theorem k_Judging_judgePlain_96 (Γ : GxC) (As : List Value) (b_0 : Int32) (X : St) : TC YC Γ cX2_judgePlain 3 "BlameCourt$Judging" none { frames := 5, cells := 0, slots := 0, locals := 190 } As kV 96 [] [.int b_0, .ref (Γ.2.2.2.1 61)] X (g_Judging_judgePlain_96 b_0 X) := by
  unfold g_Judging_judgePlain_96
  refine TC.callV_v 61 (As1 := [.int b_0]) (rest := []) (k_Judging_push Γ b_0 X) ka_X2_push kv_X2_push oC_61 rfl k1092 rfl rfl rfl rfl (show 3 + 1 ≤ 5 ∧ 8 + (2 + 11) + 110 ≤ 190 from ⟨by omega, by omega⟩) (Nat.le_of_ble_eq_true rfl) dX2_judgePlain_96 (fun _ X7 => ?_)
  refine TC.goto (pc1 := 173) dX2_judgePlain_99 (by decide) ?_
  exact TC.ret_v rfl dX2_judgePlain_173
noncomputable def g_Judging_judgePlain_95 (X : St) : Option (Int32 × St) :=
  g_Judging_judgePlain_96 (2 : Int32) X
set_option maxHeartbeats 4000000 in
set_option maxRecDepth 100000 in
theorem k_Judging_judgePlain_95 (Γ : GxC) (As : List Value) (X : St) : TC YC Γ cX2_judgePlain 3 "BlameCourt$Judging" none { frames := 5, cells := 0, slots := 0, locals := 190 } As kV 95 [] [.ref (Γ.2.2.2.1 61)] X (g_Judging_judgePlain_95 X) := by
  unfold g_Judging_judgePlain_95
  refine TC.iconst (w := 2) dX2_judgePlain_95 (by decide) ?_
  exact k_Judging_judgePlain_96 Γ _ (2 : Int32) X
noncomputable def g_Judging_judgePlain_123 (b_0 : Int32) (X : St) : Option (Int32 × St) :=
  bnd (g_Judging_push b_0 X) fun _ X10 =>
  some (0, X10)
set_option maxHeartbeats 4000000 in
set_option maxRecDepth 100000 in
theorem k_Judging_judgePlain_123 (Γ : GxC) (As : List Value) (b_0 : Int32) (X : St) : TC YC Γ cX2_judgePlain 3 "BlameCourt$Judging" none { frames := 5, cells := 0, slots := 0, locals := 190 } As kV 123 [] [.int b_0, .ref (Γ.2.2.2.1 61)] X (g_Judging_judgePlain_123 b_0 X) := by
  unfold g_Judging_judgePlain_123
  refine TC.callV_v 61 (As1 := [.int b_0]) (rest := []) (k_Judging_push Γ b_0 X) ka_X2_push kv_X2_push oC_61 rfl k1092 rfl rfl rfl rfl (show 3 + 1 ≤ 5 ∧ 8 + (2 + 11) + 110 ≤ 190 from ⟨by omega, by omega⟩) (Nat.le_of_ble_eq_true rfl) dX2_judgePlain_123 (fun _ X10 => ?_)
  refine TC.goto (pc1 := 173) dX2_judgePlain_126 (by decide) ?_
  exact TC.ret_v rfl dX2_judgePlain_173
noncomputable def g_Judging_judgePlain_122 (X : St) : Option (Int32 × St) :=
  g_Judging_judgePlain_123 (2 : Int32) X
set_option maxHeartbeats 4000000 in
set_option maxRecDepth 100000 in
theorem k_Judging_judgePlain_122 (Γ : GxC) (As : List Value) (X : St) : TC YC Γ cX2_judgePlain 3 "BlameCourt$Judging" none { frames := 5, cells := 0, slots := 0, locals := 190 } As kV 122 [] [.ref (Γ.2.2.2.1 61)] X (g_Judging_judgePlain_122 X) := by
  unfold g_Judging_judgePlain_122
  refine TC.iconst (w := 2) dX2_judgePlain_122 (by decide) ?_
  exact k_Judging_judgePlain_123 Γ _ (2 : Int32) X
noncomputable def g_Judging_judgePlain (p1 : Int32) (p2 : Int32) (X : St) : Option (Int32 × St) :=
  if p1.toInt = 0 then
    some (0, X)
  else if p1.toInt = 1 then
    bnd (g_Judging_push (0 : Int32) X) fun _ X3 =>
    some (0, X3)
  else if p1.toInt = 2 then
    bnd (g_Judging_push (1 : Int32) X) fun _ X5 =>
    some (0, X5)
  else if p1.toInt = 3 then
    if p2.toInt < 0 then
      g_Judging_judgePlain_95 X
    else
      if 44 ≤ p2.toInt then
        g_Judging_judgePlain_95 X
      else
        chk (inR p2 44) (letV (X.1 66 (ix p2)) fun x8 =>
        g_Judging_judgePlain_96 x8 X)
  else if p1.toInt = 4 then
    if p2.toInt < 0 then
      g_Judging_judgePlain_122 X
    else
      if 40 ≤ p2.toInt then
        g_Judging_judgePlain_122 X
      else
        chk (inR p2 40) (letV (X.1 65 (ix p2)) fun x11 =>
        g_Judging_judgePlain_123 x11 X)
  else if p1.toInt = 5 then
    bnd (g_Judging_bind p2 X) fun _ X13 =>
    some (0, X13)
  else if p1.toInt = 6 then
    bnd (g_Judging_pop X) fun x15 X16 =>
    some (0, X16)
  else if p1.toInt = 7 then
    some (0, X)
  else if p1.toInt = 8 then
    bnd (g_Judging_mix (2 : Int32) X) fun x19 X20 =>
    bnd (g_Judging_push x19 X20) fun _ X21 =>
    some (0, X21)
  else if p1.toInt = 9 then
    bnd (g_Judging_pop X) fun x23 X24 =>
    some (0, X24)
  else chk (refO YC (X.2.2 61 2) 3 8 = true) (letV (X.2.2 61 2 - 1) fun e25 =>
  bnd (g_Judging_mix p2 X) fun x26 X27 =>
  bnd (g_Kinds_rowOf e25 x26 X27) fun x28 X29 =>
  bnd (g_Judging_push x28 X29) fun _ X30 =>
  some (0, X30))
set_option maxHeartbeats 4000000 in
set_option maxRecDepth 100000 in
theorem k_Judging_judgePlain (Γ : GxC) (p1 : Int32) (p2 : Int32) (X : St) : TCV YC Γ yX2_judgePlain cX2_judgePlain 3 "BlameCourt$Judging" none { frames := 5, cells := 0, slots := 0, locals := 190 } [.ref (Γ.2.2.2.1 61), .int p1, .int p2] X (g_Judging_judgePlain p1 p2 X) := by
  refine TCV.of (by decide) (Nat.le_of_ble_eq_true rfl) rfl ?_
  show TC YC Γ cX2_judgePlain 3 "BlameCourt$Judging" none { frames := 5, cells := 0, slots := 0, locals := 190 } _ kV 0 [(0, .ref (Γ.2.2.2.1 61)), (1, .int p1), (2, .int p2)] [] X (g_Judging_judgePlain p1 p2 X)
  unfold g_Judging_judgePlain
  refine TC.iload_n dX2_judgePlain_0 rfl 1 rfl ?_
  refine TC.ite (fun s1 => ?_) (fun s1 => ?_)
  · refine TC.tbl (pc1 := 56) dX2_judgePlain_1 (by decide) (off := 55) (by rw [s1]; rfl) (by decide) ?_
    refine TC.goto (pc1 := 173) dX2_judgePlain_56 (by decide) ?_
    exact TC.ret_v rfl dX2_judgePlain_173
  refine TC.ite (fun s2 => ?_) (fun s2 => ?_)
  · refine TC.tbl (pc1 := 59) dX2_judgePlain_1 (by decide) (off := 58) (by rw [s2]; rfl) (by decide) ?_
    refine TC.aload_n dX2_judgePlain_59 rfl 0 rfl ?_
    refine TC.iconst (w := 0) dX2_judgePlain_60 (by decide) ?_
    refine TC.callV_v 61 (As1 := [.int 0]) (rest := []) (k_Judging_push Γ (0 : Int32) X) ka_X2_push kv_X2_push oC_61 rfl k1092 rfl rfl rfl rfl (show 3 + 1 ≤ 5 ∧ 8 + (2 + 11) + 110 ≤ 190 from ⟨by omega, by omega⟩) (Nat.le_of_ble_eq_true rfl) dX2_judgePlain_61 (fun _ X3 => ?_)
    refine TC.goto (pc1 := 173) dX2_judgePlain_64 (by decide) ?_
    exact TC.ret_v rfl dX2_judgePlain_173
  refine TC.ite (fun s4 => ?_) (fun s4 => ?_)
  · refine TC.tbl (pc1 := 67) dX2_judgePlain_1 (by decide) (off := 66) (by rw [s4]; rfl) (by decide) ?_
    refine TC.aload_n dX2_judgePlain_67 rfl 0 rfl ?_
    refine TC.iconst (w := 1) dX2_judgePlain_68 (by decide) ?_
    refine TC.callV_v 61 (As1 := [.int 1]) (rest := []) (k_Judging_push Γ (1 : Int32) X) ka_X2_push kv_X2_push oC_61 rfl k1092 rfl rfl rfl rfl (show 3 + 1 ≤ 5 ∧ 8 + (2 + 11) + 110 ≤ 190 from ⟨by omega, by omega⟩) (Nat.le_of_ble_eq_true rfl) dX2_judgePlain_69 (fun _ X5 => ?_)
    refine TC.goto (pc1 := 173) dX2_judgePlain_72 (by decide) ?_
    exact TC.ret_v rfl dX2_judgePlain_173
  refine TC.ite (fun s6 => ?_) (fun s6 => ?_)
  · refine TC.tbl (pc1 := 75) dX2_judgePlain_1 (by decide) (off := 74) (by rw [s6]; rfl) (by decide) ?_
    refine TC.aload_n dX2_judgePlain_75 rfl 0 rfl ?_
    refine TC.iload_n dX2_judgePlain_76 rfl 2 rfl ?_
    refine TC.if_lt (pc1 := 95) dX2_judgePlain_77 (by decide) ?_ ?_
    · refine TC.sub [] rfl ?_
      exact k_Judging_judgePlain_95 Γ _ X
    · refine TC.iload_n dX2_judgePlain_80 rfl 2 rfl ?_
      refine TC.bipush (w := 44) dX2_judgePlain_81 (by decide) ?_
      refine TC.icmp_ge (pc1 := 95) dX2_judgePlain_83 (by decide) rfl ?_ ?_
      · refine TC.sub [] rfl ?_
        exact k_Judging_judgePlain_95 Γ _ X
      · refine TC.aload_n dX2_judgePlain_86 rfl 0 rfl ?_
        refine cC2_10 k518 dX2_judgePlain_87 ?_
        refine TC.iload_n dX2_judgePlain_90 rfl 2 rfl ?_
        refine alC66 dX2_judgePlain_91 (fun x8 => ?_)
        refine TC.goto (pc1 := 96) dX2_judgePlain_92 (by decide) ?_
        refine TC.sub [] rfl ?_
        exact k_Judging_judgePlain_96 Γ _ x8 X
  refine TC.ite (fun s9 => ?_) (fun s9 => ?_)
  · refine TC.tbl (pc1 := 102) dX2_judgePlain_1 (by decide) (off := 101) (by rw [s9]; rfl) (by decide) ?_
    refine TC.aload_n dX2_judgePlain_102 rfl 0 rfl ?_
    refine TC.iload_n dX2_judgePlain_103 rfl 2 rfl ?_
    refine TC.if_lt (pc1 := 122) dX2_judgePlain_104 (by decide) ?_ ?_
    · refine TC.sub [] rfl ?_
      exact k_Judging_judgePlain_122 Γ _ X
    · refine TC.iload_n dX2_judgePlain_107 rfl 2 rfl ?_
      refine TC.bipush (w := 40) dX2_judgePlain_108 (by decide) ?_
      refine TC.icmp_ge (pc1 := 122) dX2_judgePlain_110 (by decide) rfl ?_ ?_
      · refine TC.sub [] rfl ?_
        exact k_Judging_judgePlain_122 Γ _ X
      · refine TC.aload_n dX2_judgePlain_113 rfl 0 rfl ?_
        refine cC2_9 k517 dX2_judgePlain_114 ?_
        refine TC.iload_n dX2_judgePlain_117 rfl 2 rfl ?_
        refine alC65 dX2_judgePlain_118 (fun x11 => ?_)
        refine TC.goto (pc1 := 123) dX2_judgePlain_119 (by decide) ?_
        refine TC.sub [] rfl ?_
        exact k_Judging_judgePlain_123 Γ _ x11 X
  refine TC.ite (fun s12 => ?_) (fun s12 => ?_)
  · refine TC.tbl (pc1 := 129) dX2_judgePlain_1 (by decide) (off := 128) (by rw [s12]; rfl) (by decide) ?_
    refine TC.aload_n dX2_judgePlain_129 rfl 0 rfl ?_
    refine TC.iload_n dX2_judgePlain_130 rfl 2 rfl ?_
    refine TC.callV_v 61 (As1 := [.int p2]) (rest := []) (k_Judging_bind Γ p2 X) ka_X2_bind kv_X2_bind oC_61 rfl k1104 rfl rfl rfl rfl (show 3 + 1 ≤ 5 ∧ 8 + (3 + 11) + 110 ≤ 190 from ⟨by omega, by omega⟩) (Nat.le_of_ble_eq_true rfl) dX2_judgePlain_131 (fun _ X13 => ?_)
    refine TC.goto (pc1 := 173) dX2_judgePlain_134 (by decide) ?_
    exact TC.ret_v rfl dX2_judgePlain_173
  refine TC.ite (fun s14 => ?_) (fun s14 => ?_)
  · refine TC.tbl (pc1 := 137) dX2_judgePlain_1 (by decide) (off := 136) (by rw [s14]; rfl) (by decide) ?_
    refine TC.aload_n dX2_judgePlain_137 rfl 0 rfl ?_
    refine TC.callV_i 61 (As1 := []) (rest := []) (k_Judging_pop Γ X) ka_X2_pop kv_X2_pop oC_61 rfl k1096 rfl rfl rfl rfl (show 2 + 1 ≤ 5 ∧ 8 + (1 + 11) + 70 ≤ 190 from ⟨by omega, by omega⟩) (Nat.le_of_ble_eq_true rfl) dX2_judgePlain_138 (fun x15 X16 => ?_)
    refine TC.pop dX2_judgePlain_141 ?_
    refine TC.goto (pc1 := 173) dX2_judgePlain_142 (by decide) ?_
    exact TC.ret_v rfl dX2_judgePlain_173
  refine TC.ite (fun s17 => ?_) (fun s17 => ?_)
  · refine TC.tbl (pc1 := 56) dX2_judgePlain_1 (by decide) (off := 55) (by rw [s17]; rfl) (by decide) ?_
    refine TC.goto (pc1 := 173) dX2_judgePlain_56 (by decide) ?_
    exact TC.ret_v rfl dX2_judgePlain_173
  refine TC.ite (fun s18 => ?_) (fun s18 => ?_)
  · refine TC.tbl (pc1 := 145) dX2_judgePlain_1 (by decide) (off := 144) (by rw [s18]; rfl) (by decide) ?_
    refine TC.aload_n dX2_judgePlain_145 rfl 0 rfl ?_
    refine TC.aload_n dX2_judgePlain_146 rfl 0 rfl ?_
    refine TC.iconst (w := 2) dX2_judgePlain_147 (by decide) ?_
    refine TC.callV_i 61 (As1 := [.int 2]) (rest := [.ref (Γ.2.2.2.1 61)]) (k_Judging_mix Γ (2 : Int32) X) ka_X2_mix kv_X2_mix oC_61 rfl k1108 rfl rfl rfl rfl (show 4 + 1 ≤ 5 ∧ 8 + (6 + 11) + 150 ≤ 190 from ⟨by omega, by omega⟩) (Nat.le_of_ble_eq_true rfl) dX2_judgePlain_148 (fun x19 X20 => ?_)
    refine TC.callV_v 61 (As1 := [.int x19]) (rest := []) (k_Judging_push Γ x19 X20) ka_X2_push kv_X2_push oC_61 rfl k1092 rfl rfl rfl rfl (show 3 + 1 ≤ 5 ∧ 8 + (2 + 11) + 110 ≤ 190 from ⟨by omega, by omega⟩) (Nat.le_of_ble_eq_true rfl) dX2_judgePlain_151 (fun _ X21 => ?_)
    refine TC.goto (pc1 := 173) dX2_judgePlain_154 (by decide) ?_
    exact TC.ret_v rfl dX2_judgePlain_173
  refine TC.ite (fun s22 => ?_) (fun s22 => ?_)
  · refine TC.tbl (pc1 := 137) dX2_judgePlain_1 (by decide) (off := 136) (by rw [s22]; rfl) (by decide) ?_
    refine TC.aload_n dX2_judgePlain_137 rfl 0 rfl ?_
    refine TC.callV_i 61 (As1 := []) (rest := []) (k_Judging_pop Γ X) ka_X2_pop kv_X2_pop oC_61 rfl k1096 rfl rfl rfl rfl (show 2 + 1 ≤ 5 ∧ 8 + (1 + 11) + 70 ≤ 190 from ⟨by omega, by omega⟩) (Nat.le_of_ble_eq_true rfl) dX2_judgePlain_138 (fun x23 X24 => ?_)
    refine TC.pop dX2_judgePlain_141 ?_
    refine TC.goto (pc1 := 173) dX2_judgePlain_142 (by decide) ?_
    exact TC.ret_v rfl dX2_judgePlain_173
  refine TC.tbl (pc1 := 157) dX2_judgePlain_1 (by decide) (off := 156) (tbl_d [0, 1, 2, 3, 4, 5, 6, 7, 8, 9] (by intro q; simp only [List.mem_cons, List.not_mem_nil, or_false] at q; omega) (by decide)) (by decide) ?_
  refine TC.aload_n dX2_judgePlain_157 rfl 0 rfl ?_
  refine TC.aload_n dX2_judgePlain_158 rfl 0 rfl ?_
  refine mC2_2 k507 dX2_judgePlain_159 (fun e25 he25 => ?_)
  refine TC.aload_n dX2_judgePlain_162 rfl 0 rfl ?_
  refine TC.iload_n dX2_judgePlain_163 rfl 2 rfl ?_
  refine TC.callV_i 61 (As1 := [.int p2]) (rest := [.ref (Γ.2.2.2.1 e25), .ref (Γ.2.2.2.1 61)]) (k_Judging_mix Γ p2 X) ka_X2_mix kv_X2_mix oC_61 rfl k1108 rfl rfl rfl rfl (show 4 + 1 ≤ 5 ∧ 8 + (6 + 11) + 150 ≤ 190 from ⟨by omega, by omega⟩) (Nat.le_of_ble_eq_true rfl) dX2_judgePlain_164 (fun x26 X27 => ?_)
  refine TC.callV_i e25 (As1 := [.int x26]) (rest := [.ref (Γ.2.2.2.1 61)]) (k_Kinds_rowOf Γ e25 he25 x26 X27) ka_X3_rowOf kv_X3_rowOf he25 rfl k1087 rfl rfl rfl rfl (show 4 + 1 ≤ 5 ∧ 8 + (3 + 11) + 150 ≤ 190 from ⟨by omega, by omega⟩) (Nat.le_of_ble_eq_true rfl) dX2_judgePlain_167 (fun x28 X29 => ?_)
  refine TC.callV_v 61 (As1 := [.int x28]) (rest := []) (k_Judging_push Γ x28 X29) ka_X2_push kv_X2_push oC_61 rfl k1092 rfl rfl rfl rfl (show 3 + 1 ≤ 5 ∧ 8 + (2 + 11) + 110 ≤ 190 from ⟨by omega, by omega⟩) (Nat.le_of_ble_eq_true rfl) dX2_judgePlain_170 (fun _ X30 => ?_)
  exact TC.ret_v rfl dX2_judgePlain_173
