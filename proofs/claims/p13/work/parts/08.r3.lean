theorem dX11_add_0 : decode cX11_add 0 = .ok (.aload_n 0, 1) := by decide +kernel
theorem dX11_add_1 : decode cX11_add 1 = .ok (.getfield 125, 3) := by decide +kernel
theorem dX11_add_4 : decode cX11_add 4 = .ok (.iload_n 1, 1) := by decide +kernel
theorem dX11_add_5 : decode cX11_add 5 = .ok (.iaload, 1) := by decide +kernel
theorem dX11_add_6 : decode cX11_add 6 = .ok (.istore_n 2, 1) := by decide +kernel
theorem dX11_add_7 : decode cX11_add 7 = .ok (.aload_n 0, 1) := by decide +kernel
theorem dX11_add_8 : decode cX11_add 8 = .ok (.getfield 128, 3) := by decide +kernel
theorem dX11_add_11 : decode cX11_add 11 = .ok (.iload_n 1, 1) := by decide +kernel
theorem dX11_add_12 : decode cX11_add 12 = .ok (.iaload, 1) := by decide +kernel
theorem dX11_add_13 : decode cX11_add 13 = .ok (.iconst (-1), 1) := by decide +kernel
theorem dX11_add_14 : decode cX11_add 14 = .ok (.if_icmp .ne 16, 3) := by decide +kernel
theorem dX11_add_17 : decode cX11_add 17 = .ok (.aload_n 0, 1) := by decide +kernel
theorem dX11_add_18 : decode cX11_add 18 = .ok (.getfield 89, 3) := by decide +kernel
theorem dX11_add_21 : decode cX11_add 21 = .ok (.iload_n 2, 1) := by decide +kernel
theorem dX11_add_22 : decode cX11_add 22 = .ok (.aload_n 0, 1) := by decide +kernel
theorem dX11_add_23 : decode cX11_add 23 = .ok (.getfield 401, 3) := by decide +kernel
theorem dX11_add_26 : decode cX11_add 26 = .ok (.iastore, 1) := by decide +kernel
theorem dX11_add_27 : decode cX11_add 27 = .ok (.goto 18, 3) := by decide +kernel
theorem dX11_add_30 : decode cX11_add 30 = .ok (.aload_n 0, 1) := by decide +kernel
theorem dX11_add_31 : decode cX11_add 31 = .ok (.getfield 101, 3) := by decide +kernel
theorem dX11_add_34 : decode cX11_add 34 = .ok (.aload_n 0, 1) := by decide +kernel
theorem dX11_add_35 : decode cX11_add 35 = .ok (.getfield 128, 3) := by decide +kernel
theorem dX11_add_38 : decode cX11_add 38 = .ok (.iload_n 1, 1) := by decide +kernel
theorem dX11_add_39 : decode cX11_add 39 = .ok (.iaload, 1) := by decide +kernel
theorem dX11_add_40 : decode cX11_add 40 = .ok (.aload_n 0, 1) := by decide +kernel
theorem dX11_add_41 : decode cX11_add 41 = .ok (.getfield 401, 3) := by decide +kernel
theorem dX11_add_44 : decode cX11_add 44 = .ok (.iastore, 1) := by decide +kernel
theorem dX11_add_45 : decode cX11_add 45 = .ok (.aload_n 0, 1) := by decide +kernel
theorem dX11_add_46 : decode cX11_add 46 = .ok (.getfield 128, 3) := by decide +kernel
theorem dX11_add_49 : decode cX11_add 49 = .ok (.iload_n 1, 1) := by decide +kernel
theorem dX11_add_50 : decode cX11_add 50 = .ok (.aload_n 0, 1) := by decide +kernel
theorem dX11_add_51 : decode cX11_add 51 = .ok (.getfield 401, 3) := by decide +kernel
theorem dX11_add_54 : decode cX11_add 54 = .ok (.iastore, 1) := by decide +kernel
theorem dX11_add_55 : decode cX11_add 55 = .ok (.aload_n 0, 1) := by decide +kernel
theorem dX11_add_56 : decode cX11_add 56 = .ok (.getfield 98, 3) := by decide +kernel
theorem dX11_add_59 : decode cX11_add 59 = .ok (.iload_n 2, 1) := by decide +kernel
theorem dX11_add_60 : decode cX11_add 60 = .ok (.dup2, 1) := by decide +kernel
theorem dX11_add_61 : decode cX11_add 61 = .ok (.iaload, 1) := by decide +kernel
theorem dX11_add_62 : decode cX11_add 62 = .ok (.iconst 1, 1) := by decide +kernel
theorem dX11_add_63 : decode cX11_add 63 = .ok (.iadd, 1) := by decide +kernel
theorem dX11_add_64 : decode cX11_add 64 = .ok (.iastore, 1) := by decide +kernel
theorem dX11_add_65 : decode cX11_add 65 = .ok (.return_, 1) := by decide +kernel
theorem dX11_endsOne_0 : decode cX11_endsOne 0 = .ok (.aload_n 0, 1) := by decide +kernel
theorem dX11_endsOne_1 : decode cX11_endsOne 1 = .ok (.getfield 389, 3) := by decide +kernel
theorem dX11_endsOne_4 : decode cX11_endsOne 4 = .ok (.iconst 1, 1) := by decide +kernel
theorem dX11_endsOne_5 : decode cX11_endsOne 5 = .ok (.isub, 1) := by decide +kernel
theorem dX11_endsOne_6 : decode cX11_endsOne 6 = .ok (.istore_n 1, 1) := by decide +kernel
theorem dX11_endsOne_7 : decode cX11_endsOne 7 = .ok (.aload_n 0, 1) := by decide +kernel
theorem dX11_endsOne_8 : decode cX11_endsOne 8 = .ok (.getfield 125, 3) := by decide +kernel
theorem dX11_endsOne_11 : decode cX11_endsOne 11 = .ok (.iload_n 1, 1) := by decide +kernel
theorem dX11_endsOne_12 : decode cX11_endsOne 12 = .ok (.iaload, 1) := by decide +kernel
theorem dX11_endsOne_13 : decode cX11_endsOne 13 = .ok (.istore_n 2, 1) := by decide +kernel
theorem dX11_endsOne_14 : decode cX11_endsOne 14 = .ok (.aload_n 0, 1) := by decide +kernel
theorem dX11_endsOne_15 : decode cX11_endsOne 15 = .ok (.getfield 122, 3) := by decide +kernel
theorem dX11_endsOne_18 : decode cX11_endsOne 18 = .ok (.iload_n 1, 1) := by decide +kernel
theorem dX11_endsOne_19 : decode cX11_endsOne 19 = .ok (.iaload, 1) := by decide +kernel
theorem dX11_endsOne_20 : decode cX11_endsOne 20 = .ok (.tableswitch 224 0 5 #[40, 53, 118, 146, 176, 206], 40) := by decide +kernel
theorem dX11_endsOne_60 : decode cX11_endsOne 60 = .ok (.aload_n 0, 1) := by decide +kernel
theorem dX11_endsOne_61 : decode cX11_endsOne 61 = .ok (.dup, 1) := by decide +kernel
theorem dX11_endsOne_62 : decode cX11_endsOne 62 = .ok (.getfield 389, 3) := by decide +kernel
theorem dX11_endsOne_65 : decode cX11_endsOne 65 = .ok (.iconst 1, 1) := by decide +kernel
theorem dX11_endsOne_66 : decode cX11_endsOne 66 = .ok (.isub, 1) := by decide +kernel
theorem dX11_endsOne_67 : decode cX11_endsOne 67 = .ok (.putfield 389, 3) := by decide +kernel
theorem dX11_endsOne_70 : decode cX11_endsOne 70 = .ok (.goto 180, 3) := by decide +kernel
theorem dX11_endsOne_73 : decode cX11_endsOne 73 = .ok (.aload_n 0, 1) := by decide +kernel
theorem dX11_endsOne_74 : decode cX11_endsOne 74 = .ok (.getfield 86, 3) := by decide +kernel
theorem dX11_endsOne_77 : decode cX11_endsOne 77 = .ok (.iload_n 2, 1) := by decide +kernel
theorem dX11_endsOne_78 : decode cX11_endsOne 78 = .ok (.aload_n 0, 1) := by decide +kernel
theorem dX11_endsOne_79 : decode cX11_endsOne 79 = .ok (.getfield 401, 3) := by decide +kernel
theorem dX11_endsOne_82 : decode cX11_endsOne 82 = .ok (.iastore, 1) := by decide +kernel
theorem dX11_endsOne_83 : decode cX11_endsOne 83 = .ok (.aload_n 0, 1) := by decide +kernel
theorem dX11_endsOne_84 : decode cX11_endsOne 84 = .ok (.iconst 2, 1) := by decide +kernel
theorem dX11_endsOne_85 : decode cX11_endsOne 85 = .ok (.invokevirtual 482, 3) := by decide +kernel
theorem dX11_endsOne_88 : decode cX11_endsOne 88 = .ok (.aload_n 0, 1) := by decide +kernel
theorem dX11_endsOne_89 : decode cX11_endsOne 89 = .ok (.getfield 107, 3) := by decide +kernel
theorem dX11_endsOne_92 : decode cX11_endsOne 92 = .ok (.aload_n 0, 1) := by decide +kernel
theorem dX11_endsOne_93 : decode cX11_endsOne 93 = .ok (.getfield 392, 3) := by decide +kernel
theorem dX11_endsOne_96 : decode cX11_endsOne 96 = .ok (.aload_n 0, 1) := by decide +kernel
theorem dX11_endsOne_97 : decode cX11_endsOne 97 = .ok (.getfield 104, 3) := by decide +kernel
theorem dX11_endsOne_100 : decode cX11_endsOne 100 = .ok (.iload_n 2, 1) := by decide +kernel
theorem dX11_endsOne_101 : decode cX11_endsOne 101 = .ok (.laload, 1) := by decide +kernel
theorem dX11_endsOne_102 : decode cX11_endsOne 102 = .ok (.lastore, 1) := by decide +kernel
theorem dX11_endsOne_103 : decode cX11_endsOne 103 = .ok (.aload_n 0, 1) := by decide +kernel
theorem dX11_endsOne_104 : decode cX11_endsOne 104 = .ok (.getfield 95, 3) := by decide +kernel
theorem dX11_endsOne_107 : decode cX11_endsOne 107 = .ok (.iload_n 2, 1) := by decide +kernel
theorem dX11_endsOne_108 : decode cX11_endsOne 108 = .ok (.aload_n 0, 1) := by decide +kernel
theorem dX11_endsOne_109 : decode cX11_endsOne 109 = .ok (.getfield 392, 3) := by decide +kernel
theorem dX11_endsOne_112 : decode cX11_endsOne 112 = .ok (.iastore, 1) := by decide +kernel
theorem dX11_endsOne_113 : decode cX11_endsOne 113 = .ok (.aload_n 0, 1) := by decide +kernel
theorem dX11_endsOne_114 : decode cX11_endsOne 114 = .ok (.dup, 1) := by decide +kernel
theorem dX11_endsOne_115 : decode cX11_endsOne 115 = .ok (.getfield 392, 3) := by decide +kernel
theorem dX11_endsOne_118 : decode cX11_endsOne 118 = .ok (.iconst 1, 1) := by decide +kernel
theorem dX11_endsOne_119 : decode cX11_endsOne 119 = .ok (.iadd, 1) := by decide +kernel
theorem dX11_endsOne_120 : decode cX11_endsOne 120 = .ok (.putfield 392, 3) := by decide +kernel
theorem dX11_endsOne_123 : decode cX11_endsOne 123 = .ok (.aload_n 0, 1) := by decide +kernel
theorem dX11_endsOne_124 : decode cX11_endsOne 124 = .ok (.getfield 122, 3) := by decide +kernel
theorem dX11_endsOne_127 : decode cX11_endsOne 127 = .ok (.iload_n 1, 1) := by decide +kernel
theorem dX11_endsOne_128 : decode cX11_endsOne 128 = .ok (.iconst 2, 1) := by decide +kernel
theorem dX11_endsOne_129 : decode cX11_endsOne 129 = .ok (.iastore, 1) := by decide +kernel
theorem dX11_endsOne_130 : decode cX11_endsOne 130 = .ok (.aload_n 0, 1) := by decide +kernel
theorem dX11_endsOne_131 : decode cX11_endsOne 131 = .ok (.iconst 0, 1) := by decide +kernel
theorem dX11_endsOne_132 : decode cX11_endsOne 132 = .ok (.putfield 398, 3) := by decide +kernel
theorem dX11_endsOne_135 : decode cX11_endsOne 135 = .ok (.goto 115, 3) := by decide +kernel
theorem dX11_endsOne_138 : decode cX11_endsOne 138 = .ok (.aload_n 0, 1) := by decide +kernel
theorem dX11_endsOne_139 : decode cX11_endsOne 139 = .ok (.getfield 89, 3) := by decide +kernel
theorem dX11_endsOne_142 : decode cX11_endsOne 142 = .ok (.iload_n 2, 1) := by decide +kernel
theorem dX11_endsOne_143 : decode cX11_endsOne 143 = .ok (.aload_n 0, 1) := by decide +kernel
theorem dX11_endsOne_144 : decode cX11_endsOne 144 = .ok (.getfield 401, 3) := by decide +kernel
theorem dX11_endsOne_147 : decode cX11_endsOne 147 = .ok (.iastore, 1) := by decide +kernel
theorem dX11_endsOne_148 : decode cX11_endsOne 148 = .ok (.aload_n 0, 1) := by decide +kernel
theorem dX11_endsOne_149 : decode cX11_endsOne 149 = .ok (.dup, 1) := by decide +kernel
theorem dX11_endsOne_150 : decode cX11_endsOne 150 = .ok (.getfield 392, 3) := by decide +kernel
theorem dX11_endsOne_153 : decode cX11_endsOne 153 = .ok (.iconst 1, 1) := by decide +kernel
theorem dX11_endsOne_154 : decode cX11_endsOne 154 = .ok (.isub, 1) := by decide +kernel
theorem dX11_endsOne_155 : decode cX11_endsOne 155 = .ok (.putfield 392, 3) := by decide +kernel
theorem dX11_endsOne_158 : decode cX11_endsOne 158 = .ok (.aload_n 0, 1) := by decide +kernel
theorem dX11_endsOne_159 : decode cX11_endsOne 159 = .ok (.iload_n 2, 1) := by decide +kernel
theorem dX11_endsOne_160 : decode cX11_endsOne 160 = .ok (.invokevirtual 485, 3) := by decide +kernel
theorem dX11_endsOne_163 : decode cX11_endsOne 163 = .ok (.goto 87, 3) := by decide +kernel
theorem dX11_endsOne_166 : decode cX11_endsOne 166 = .ok (.aload_n 0, 1) := by decide +kernel
theorem dX11_endsOne_167 : decode cX11_endsOne 167 = .ok (.getfield 86, 3) := by decide +kernel
theorem dX11_endsOne_170 : decode cX11_endsOne 170 = .ok (.iload_n 2, 1) := by decide +kernel
theorem dX11_endsOne_171 : decode cX11_endsOne 171 = .ok (.aload_n 0, 1) := by decide +kernel
theorem dX11_endsOne_172 : decode cX11_endsOne 172 = .ok (.getfield 401, 3) := by decide +kernel
theorem dX11_endsOne_175 : decode cX11_endsOne 175 = .ok (.iastore, 1) := by decide +kernel
theorem dX11_endsOne_176 : decode cX11_endsOne 176 = .ok (.aload_n 0, 1) := by decide +kernel
theorem dX11_endsOne_177 : decode cX11_endsOne 177 = .ok (.iconst 4, 1) := by decide +kernel
theorem dX11_endsOne_178 : decode cX11_endsOne 178 = .ok (.invokevirtual 482, 3) := by decide +kernel
theorem dX11_endsOne_181 : decode cX11_endsOne 181 = .ok (.aload_n 0, 1) := by decide +kernel
theorem dX11_endsOne_182 : decode cX11_endsOne 182 = .ok (.getfield 122, 3) := by decide +kernel
theorem dX11_endsOne_185 : decode cX11_endsOne 185 = .ok (.iload_n 1, 1) := by decide +kernel
theorem dX11_endsOne_186 : decode cX11_endsOne 186 = .ok (.iconst 4, 1) := by decide +kernel
theorem dX11_endsOne_187 : decode cX11_endsOne 187 = .ok (.iastore, 1) := by decide +kernel
theorem dX11_endsOne_188 : decode cX11_endsOne 188 = .ok (.aload_n 0, 1) := by decide +kernel
theorem dX11_endsOne_189 : decode cX11_endsOne 189 = .ok (.iconst 0, 1) := by decide +kernel
theorem dX11_endsOne_190 : decode cX11_endsOne 190 = .ok (.putfield 398, 3) := by decide +kernel
theorem dX11_endsOne_193 : decode cX11_endsOne 193 = .ok (.goto 57, 3) := by decide +kernel
theorem dX11_endsOne_196 : decode cX11_endsOne 196 = .ok (.aload_n 0, 1) := by decide +kernel
theorem dX11_endsOne_197 : decode cX11_endsOne 197 = .ok (.getfield 89, 3) := by decide +kernel
theorem dX11_endsOne_200 : decode cX11_endsOne 200 = .ok (.iload_n 2, 1) := by decide +kernel
theorem dX11_endsOne_201 : decode cX11_endsOne 201 = .ok (.aload_n 0, 1) := by decide +kernel
theorem dX11_endsOne_202 : decode cX11_endsOne 202 = .ok (.getfield 401, 3) := by decide +kernel
theorem dX11_endsOne_205 : decode cX11_endsOne 205 = .ok (.iastore, 1) := by decide +kernel
theorem dX11_endsOne_206 : decode cX11_endsOne 206 = .ok (.aload_n 0, 1) := by decide +kernel
theorem dX11_endsOne_207 : decode cX11_endsOne 207 = .ok (.iconst 5, 1) := by decide +kernel
theorem dX11_endsOne_208 : decode cX11_endsOne 208 = .ok (.invokevirtual 482, 3) := by decide +kernel
theorem dX11_endsOne_211 : decode cX11_endsOne 211 = .ok (.aload_n 0, 1) := by decide +kernel
theorem dX11_endsOne_212 : decode cX11_endsOne 212 = .ok (.getfield 122, 3) := by decide +kernel
theorem dX11_endsOne_215 : decode cX11_endsOne 215 = .ok (.iload_n 1, 1) := by decide +kernel
theorem dX11_endsOne_216 : decode cX11_endsOne 216 = .ok (.iconst 5, 1) := by decide +kernel
theorem dX11_endsOne_217 : decode cX11_endsOne 217 = .ok (.iastore, 1) := by decide +kernel
theorem dX11_endsOne_218 : decode cX11_endsOne 218 = .ok (.aload_n 0, 1) := by decide +kernel
theorem dX11_endsOne_219 : decode cX11_endsOne 219 = .ok (.iconst 0, 1) := by decide +kernel
theorem dX11_endsOne_220 : decode cX11_endsOne 220 = .ok (.putfield 398, 3) := by decide +kernel
theorem dX11_endsOne_223 : decode cX11_endsOne 223 = .ok (.goto 27, 3) := by decide +kernel
theorem dX11_endsOne_226 : decode cX11_endsOne 226 = .ok (.aload_n 0, 1) := by decide +kernel
theorem dX11_endsOne_227 : decode cX11_endsOne 227 = .ok (.getfield 92, 3) := by decide +kernel
theorem dX11_endsOne_230 : decode cX11_endsOne 230 = .ok (.iload_n 2, 1) := by decide +kernel
theorem dX11_endsOne_231 : decode cX11_endsOne 231 = .ok (.aload_n 0, 1) := by decide +kernel
theorem dX11_endsOne_232 : decode cX11_endsOne 232 = .ok (.getfield 401, 3) := by decide +kernel
theorem dX11_endsOne_235 : decode cX11_endsOne 235 = .ok (.iastore, 1) := by decide +kernel
theorem dX11_endsOne_236 : decode cX11_endsOne 236 = .ok (.aload_n 0, 1) := by decide +kernel
theorem dX11_endsOne_237 : decode cX11_endsOne 237 = .ok (.iload_n 2, 1) := by decide +kernel
theorem dX11_endsOne_238 : decode cX11_endsOne 238 = .ok (.invokevirtual 485, 3) := by decide +kernel
theorem dX11_endsOne_241 : decode cX11_endsOne 241 = .ok (.goto 9, 3) := by decide +kernel
theorem dX11_endsOne_244 : decode cX11_endsOne 244 = .ok (.aload_n 0, 1) := by decide +kernel
theorem dX11_endsOne_245 : decode cX11_endsOne 245 = .ok (.iload_n 1, 1) := by decide +kernel
theorem dX11_endsOne_246 : decode cX11_endsOne 246 = .ok (.iload_n 2, 1) := by decide +kernel
theorem dX11_endsOne_247 : decode cX11_endsOne 247 = .ok (.invokevirtual 488, 3) := by decide +kernel
theorem dX11_endsOne_250 : decode cX11_endsOne 250 = .ok (.return_, 1) := by decide +kernel
theorem dX11_endsWithin_0 : decode cX11_endsWithin 0 = .ok (.aload_n 0, 1) := by decide +kernel
theorem dX11_endsWithin_1 : decode cX11_endsWithin 1 = .ok (.getfield 122, 3) := by decide +kernel
theorem dX11_endsWithin_4 : decode cX11_endsWithin 4 = .ok (.iload_n 1, 1) := by decide +kernel
theorem dX11_endsWithin_5 : decode cX11_endsWithin 5 = .ok (.iaload, 1) := by decide +kernel
theorem dX11_endsWithin_6 : decode cX11_endsWithin 6 = .ok (.tableswitch 205 6 14 #[50, 205, 205, 90, 122, 70, 205, 142, 162], 50) := by decide +kernel
theorem dX11_endsWithin_56 : decode cX11_endsWithin 56 = .ok (.aload_n 0, 1) := by decide +kernel
theorem dX11_endsWithin_57 : decode cX11_endsWithin 57 = .ok (.getfield 86, 3) := by decide +kernel
theorem dX11_endsWithin_60 : decode cX11_endsWithin 60 = .ok (.iload_n 2, 1) := by decide +kernel
theorem dX11_endsWithin_61 : decode cX11_endsWithin 61 = .ok (.aload_n 0, 1) := by decide +kernel
theorem dX11_endsWithin_62 : decode cX11_endsWithin 62 = .ok (.getfield 401, 3) := by decide +kernel
theorem dX11_endsWithin_65 : decode cX11_endsWithin 65 = .ok (.iastore, 1) := by decide +kernel
theorem dX11_endsWithin_66 : decode cX11_endsWithin 66 = .ok (.aload_n 0, 1) := by decide +kernel
theorem dX11_endsWithin_67 : decode cX11_endsWithin 67 = .ok (.bipush 41, 2) := by decide +kernel
theorem dX11_endsWithin_69 : decode cX11_endsWithin 69 = .ok (.iload_n 2, 1) := by decide +kernel
theorem dX11_endsWithin_70 : decode cX11_endsWithin 70 = .ok (.invokevirtual 491, 3) := by decide +kernel
theorem dX11_endsWithin_73 : decode cX11_endsWithin 73 = .ok (.goto 222, 3) := by decide +kernel
theorem dX11_endsWithin_76 : decode cX11_endsWithin 76 = .ok (.aload_n 0, 1) := by decide +kernel
theorem dX11_endsWithin_77 : decode cX11_endsWithin 77 = .ok (.getfield 86, 3) := by decide +kernel
theorem dX11_endsWithin_80 : decode cX11_endsWithin 80 = .ok (.iload_n 2, 1) := by decide +kernel
theorem dX11_endsWithin_81 : decode cX11_endsWithin 81 = .ok (.aload_n 0, 1) := by decide +kernel
theorem dX11_endsWithin_82 : decode cX11_endsWithin 82 = .ok (.getfield 401, 3) := by decide +kernel
theorem dX11_endsWithin_85 : decode cX11_endsWithin 85 = .ok (.iastore, 1) := by decide +kernel
theorem dX11_endsWithin_86 : decode cX11_endsWithin 86 = .ok (.aload_n 0, 1) := by decide +kernel
theorem dX11_endsWithin_87 : decode cX11_endsWithin 87 = .ok (.bipush 41, 2) := by decide +kernel
theorem dX11_endsWithin_89 : decode cX11_endsWithin 89 = .ok (.iload_n 2, 1) := by decide +kernel
theorem dX11_endsWithin_90 : decode cX11_endsWithin 90 = .ok (.invokevirtual 491, 3) := by decide +kernel
theorem dX11_endsWithin_93 : decode cX11_endsWithin 93 = .ok (.goto 202, 3) := by decide +kernel
theorem dX11_endsWithin_96 : decode cX11_endsWithin 96 = .ok (.aload_n 0, 1) := by decide +kernel
theorem dX11_endsWithin_97 : decode cX11_endsWithin 97 = .ok (.getfield 86, 3) := by decide +kernel
theorem dX11_endsWithin_100 : decode cX11_endsWithin 100 = .ok (.iload_n 2, 1) := by decide +kernel
theorem dX11_endsWithin_101 : decode cX11_endsWithin 101 = .ok (.aload_n 0, 1) := by decide +kernel
theorem dX11_endsWithin_102 : decode cX11_endsWithin 102 = .ok (.getfield 401, 3) := by decide +kernel
theorem dX11_endsWithin_105 : decode cX11_endsWithin 105 = .ok (.iastore, 1) := by decide +kernel
theorem dX11_endsWithin_106 : decode cX11_endsWithin 106 = .ok (.aload_n 0, 1) := by decide +kernel
theorem dX11_endsWithin_107 : decode cX11_endsWithin 107 = .ok (.bipush 44, 2) := by decide +kernel
theorem dX11_endsWithin_109 : decode cX11_endsWithin 109 = .ok (.invokevirtual 361, 3) := by decide +kernel
theorem dX11_endsWithin_112 : decode cX11_endsWithin 112 = .ok (.aload_n 0, 1) := by decide +kernel
theorem dX11_endsWithin_113 : decode cX11_endsWithin 113 = .ok (.getfield 122, 3) := by decide +kernel
theorem dX11_endsWithin_116 : decode cX11_endsWithin 116 = .ok (.iload_n 1, 1) := by decide +kernel
theorem dX11_endsWithin_117 : decode cX11_endsWithin 117 = .ok (.bipush 10, 2) := by decide +kernel
theorem dX11_endsWithin_119 : decode cX11_endsWithin 119 = .ok (.iastore, 1) := by decide +kernel
theorem dX11_endsWithin_120 : decode cX11_endsWithin 120 = .ok (.aload_n 0, 1) := by decide +kernel
theorem dX11_endsWithin_121 : decode cX11_endsWithin 121 = .ok (.iconst 0, 1) := by decide +kernel
theorem dX11_endsWithin_122 : decode cX11_endsWithin 122 = .ok (.putfield 398, 3) := by decide +kernel
theorem dX11_endsWithin_125 : decode cX11_endsWithin 125 = .ok (.goto 170, 3) := by decide +kernel
theorem dX11_endsWithin_128 : decode cX11_endsWithin 128 = .ok (.aload_n 0, 1) := by decide +kernel
theorem dX11_endsWithin_129 : decode cX11_endsWithin 129 = .ok (.getfield 89, 3) := by decide +kernel
theorem dX11_endsWithin_132 : decode cX11_endsWithin 132 = .ok (.iload_n 2, 1) := by decide +kernel
theorem dX11_endsWithin_133 : decode cX11_endsWithin 133 = .ok (.aload_n 0, 1) := by decide +kernel
theorem dX11_endsWithin_134 : decode cX11_endsWithin 134 = .ok (.getfield 401, 3) := by decide +kernel
theorem dX11_endsWithin_137 : decode cX11_endsWithin 137 = .ok (.iastore, 1) := by decide +kernel
theorem dX11_endsWithin_138 : decode cX11_endsWithin 138 = .ok (.aload_n 0, 1) := by decide +kernel
theorem dX11_endsWithin_139 : decode cX11_endsWithin 139 = .ok (.bipush 41, 2) := by decide +kernel
theorem dX11_endsWithin_141 : decode cX11_endsWithin 141 = .ok (.iload_n 2, 1) := by decide +kernel
theorem dX11_endsWithin_142 : decode cX11_endsWithin 142 = .ok (.invokevirtual 491, 3) := by decide +kernel
theorem dX11_endsWithin_145 : decode cX11_endsWithin 145 = .ok (.goto 150, 3) := by decide +kernel
theorem dX11_endsWithin_148 : decode cX11_endsWithin 148 = .ok (.aload_n 0, 1) := by decide +kernel
theorem dX11_endsWithin_149 : decode cX11_endsWithin 149 = .ok (.getfield 89, 3) := by decide +kernel
theorem dX11_endsWithin_152 : decode cX11_endsWithin 152 = .ok (.iload_n 2, 1) := by decide +kernel
theorem dX11_endsWithin_153 : decode cX11_endsWithin 153 = .ok (.aload_n 0, 1) := by decide +kernel
theorem dX11_endsWithin_154 : decode cX11_endsWithin 154 = .ok (.getfield 401, 3) := by decide +kernel
theorem dX11_endsWithin_157 : decode cX11_endsWithin 157 = .ok (.iastore, 1) := by decide +kernel
theorem dX11_endsWithin_158 : decode cX11_endsWithin 158 = .ok (.aload_n 0, 1) := by decide +kernel
theorem dX11_endsWithin_159 : decode cX11_endsWithin 159 = .ok (.bipush 93, 2) := by decide +kernel
theorem dX11_endsWithin_161 : decode cX11_endsWithin 161 = .ok (.iload_n 2, 1) := by decide +kernel
theorem dX11_endsWithin_162 : decode cX11_endsWithin 162 = .ok (.invokevirtual 491, 3) := by decide +kernel
theorem dX11_endsWithin_165 : decode cX11_endsWithin 165 = .ok (.goto 130, 3) := by decide +kernel
theorem dX11_endsWithin_168 : decode cX11_endsWithin 168 = .ok (.aload_n 0, 1) := by decide +kernel
theorem dX11_endsWithin_169 : decode cX11_endsWithin 169 = .ok (.getfield 92, 3) := by decide +kernel
theorem dX11_endsWithin_172 : decode cX11_endsWithin 172 = .ok (.iload_n 2, 1) := by decide +kernel
theorem dX11_endsWithin_173 : decode cX11_endsWithin 173 = .ok (.aload_n 0, 1) := by decide +kernel
theorem dX11_endsWithin_174 : decode cX11_endsWithin 174 = .ok (.getfield 401, 3) := by decide +kernel
theorem dX11_endsWithin_177 : decode cX11_endsWithin 177 = .ok (.iastore, 1) := by decide +kernel
theorem dX11_endsWithin_178 : decode cX11_endsWithin 178 = .ok (.aload_n 0, 1) := by decide +kernel
theorem dX11_endsWithin_179 : decode cX11_endsWithin 179 = .ok (.dup, 1) := by decide +kernel
theorem dX11_endsWithin_180 : decode cX11_endsWithin 180 = .ok (.getfield 355, 3) := by decide +kernel
theorem dX11_endsWithin_183 : decode cX11_endsWithin 183 = .ok (.iconst 1, 1) := by decide +kernel
theorem dX11_endsWithin_184 : decode cX11_endsWithin 184 = .ok (.isub, 1) := by decide +kernel
theorem dX11_endsWithin_185 : decode cX11_endsWithin 185 = .ok (.putfield 355, 3) := by decide +kernel
theorem dX11_endsWithin_188 : decode cX11_endsWithin 188 = .ok (.aload_n 0, 1) := by decide +kernel
theorem dX11_endsWithin_189 : decode cX11_endsWithin 189 = .ok (.dup, 1) := by decide +kernel
theorem dX11_endsWithin_190 : decode cX11_endsWithin 190 = .ok (.getfield 389, 3) := by decide +kernel
theorem dX11_endsWithin_193 : decode cX11_endsWithin 193 = .ok (.iconst 1, 1) := by decide +kernel
theorem dX11_endsWithin_194 : decode cX11_endsWithin 194 = .ok (.isub, 1) := by decide +kernel
theorem dX11_endsWithin_195 : decode cX11_endsWithin 195 = .ok (.putfield 389, 3) := by decide +kernel
theorem dX11_endsWithin_198 : decode cX11_endsWithin 198 = .ok (.aload_n 0, 1) := by decide +kernel
theorem dX11_endsWithin_199 : decode cX11_endsWithin 199 = .ok (.iload_n 2, 1) := by decide +kernel
theorem dX11_endsWithin_200 : decode cX11_endsWithin 200 = .ok (.putfield 401, 3) := by decide +kernel
theorem dX11_endsWithin_203 : decode cX11_endsWithin 203 = .ok (.aload_n 0, 1) := by decide +kernel
theorem dX11_endsWithin_204 : decode cX11_endsWithin 204 = .ok (.iconst 3, 1) := by decide +kernel
theorem dX11_endsWithin_205 : decode cX11_endsWithin 205 = .ok (.putfield 398, 3) := by decide +kernel
theorem dX11_endsWithin_208 : decode cX11_endsWithin 208 = .ok (.goto 87, 3) := by decide +kernel
theorem dX11_endsWithin_211 : decode cX11_endsWithin 211 = .ok (.aload_n 0, 1) := by decide +kernel
theorem dX11_endsWithin_212 : decode cX11_endsWithin 212 = .ok (.iload_n 1, 1) := by decide +kernel
theorem dX11_endsWithin_213 : decode cX11_endsWithin 213 = .ok (.invokevirtual 494, 3) := by decide +kernel
theorem dX11_endsWithin_216 : decode cX11_endsWithin 216 = .ok (.aload_n 0, 1) := by decide +kernel
theorem dX11_endsWithin_217 : decode cX11_endsWithin 217 = .ok (.getfield 122, 3) := by decide +kernel
theorem dX11_endsWithin_220 : decode cX11_endsWithin 220 = .ok (.iload_n 1, 1) := by decide +kernel
theorem dX11_endsWithin_221 : decode cX11_endsWithin 221 = .ok (.iaload, 1) := by decide +kernel
theorem dX11_endsWithin_222 : decode cX11_endsWithin 222 = .ok (.bipush 7, 2) := by decide +kernel
theorem dX11_endsWithin_224 : decode cX11_endsWithin 224 = .ok (.if_icmp .ne 7, 3) := by decide +kernel
theorem dX11_endsWithin_227 : decode cX11_endsWithin 227 = .ok (.iconst 1, 1) := by decide +kernel
theorem dX11_endsWithin_228 : decode cX11_endsWithin 228 = .ok (.goto 4, 3) := by decide +kernel
theorem dX11_endsWithin_231 : decode cX11_endsWithin 231 = .ok (.iconst 0, 1) := by decide +kernel
theorem dX11_endsWithin_232 : decode cX11_endsWithin 232 = .ok (.istore_n 3, 1) := by decide +kernel
theorem dX11_endsWithin_233 : decode cX11_endsWithin 233 = .ok (.aload_n 0, 1) := by decide +kernel
theorem dX11_endsWithin_234 : decode cX11_endsWithin 234 = .ok (.iload_n 3, 1) := by decide +kernel
theorem dX11_endsWithin_235 : decode cX11_endsWithin 235 = .ok (.ifCond .eq 8, 3) := by decide +kernel
theorem dX11_endsWithin_238 : decode cX11_endsWithin 238 = .ok (.bipush 59, 2) := by decide +kernel
theorem dX11_endsWithin_240 : decode cX11_endsWithin 240 = .ok (.goto 5, 3) := by decide +kernel
theorem dX11_endsWithin_243 : decode cX11_endsWithin 243 = .ok (.bipush 44, 2) := by decide +kernel
theorem dX11_endsWithin_245 : decode cX11_endsWithin 245 = .ok (.invokevirtual 345, 3) := by decide +kernel
theorem dX11_endsWithin_248 : decode cX11_endsWithin 248 = .ok (.ifCond .eq 15, 3) := by decide +kernel
theorem dX11_endsWithin_251 : decode cX11_endsWithin 251 = .ok (.aload_n 0, 1) := by decide +kernel
theorem dX11_endsWithin_252 : decode cX11_endsWithin 252 = .ok (.invokevirtual 349, 3) := by decide +kernel
theorem dX11_endsWithin_255 : decode cX11_endsWithin 255 = .ok (.aload_n 0, 1) := by decide +kernel
theorem dX11_endsWithin_256 : decode cX11_endsWithin 256 = .ok (.iconst 0, 1) := by decide +kernel
theorem dX11_endsWithin_257 : decode cX11_endsWithin 257 = .ok (.putfield 398, 3) := by decide +kernel
theorem dX11_endsWithin_260 : decode cX11_endsWithin 260 = .ok (.goto 35, 3) := by decide +kernel
theorem dX11_endsWithin_263 : decode cX11_endsWithin 263 = .ok (.aload_n 0, 1) := by decide +kernel
theorem dX11_endsWithin_264 : decode cX11_endsWithin 264 = .ok (.iload_n 3, 1) := by decide +kernel
theorem dX11_endsWithin_265 : decode cX11_endsWithin 265 = .ok (.ifCond .eq 8, 3) := by decide +kernel
theorem dX11_endsWithin_268 : decode cX11_endsWithin 268 = .ok (.bipush 125, 2) := by decide +kernel
theorem dX11_endsWithin_270 : decode cX11_endsWithin 270 = .ok (.goto 21, 3) := by decide +kernel
theorem dX11_endsWithin_273 : decode cX11_endsWithin 273 = .ok (.aload_n 0, 1) := by decide +kernel
theorem dX11_endsWithin_274 : decode cX11_endsWithin 274 = .ok (.getfield 122, 3) := by decide +kernel
theorem dX11_endsWithin_277 : decode cX11_endsWithin 277 = .ok (.iload_n 1, 1) := by decide +kernel
theorem dX11_endsWithin_278 : decode cX11_endsWithin 278 = .ok (.iaload, 1) := by decide +kernel
theorem dX11_endsWithin_279 : decode cX11_endsWithin 279 = .ok (.bipush 8, 2) := by decide +kernel
theorem dX11_endsWithin_281 : decode cX11_endsWithin 281 = .ok (.if_icmp .ne 8, 3) := by decide +kernel
theorem dX11_endsWithin_284 : decode cX11_endsWithin 284 = .ok (.bipush 93, 2) := by decide +kernel
theorem dX11_endsWithin_286 : decode cX11_endsWithin 286 = .ok (.goto 5, 3) := by decide +kernel
theorem dX11_endsWithin_289 : decode cX11_endsWithin 289 = .ok (.bipush 41, 2) := by decide +kernel
theorem dX11_endsWithin_291 : decode cX11_endsWithin 291 = .ok (.iload_n 2, 1) := by decide +kernel
theorem dX11_endsWithin_292 : decode cX11_endsWithin 292 = .ok (.invokevirtual 491, 3) := by decide +kernel
theorem dX11_endsWithin_295 : decode cX11_endsWithin 295 = .ok (.return_, 1) := by decide +kernel
theorem dX11_expression_0 : decode cX11_expression 0 = .ok (.aload_n 0, 1) := by decide +kernel
theorem dX11_expression_1 : decode cX11_expression 1 = .ok (.iconst 0, 1) := by decide +kernel
theorem dX11_expression_2 : decode cX11_expression 2 = .ok (.putfield 389, 3) := by decide +kernel
theorem dX11_expression_5 : decode cX11_expression 5 = .ok (.aload_n 0, 1) := by decide +kernel
theorem dX11_expression_6 : decode cX11_expression 6 = .ok (.iconst 0, 1) := by decide +kernel
theorem dX11_expression_7 : decode cX11_expression 7 = .ok (.iconst (-1), 1) := by decide +kernel
theorem dX11_expression_8 : decode cX11_expression 8 = .ok (.invokevirtual 395, 3) := by decide +kernel
theorem dX11_expression_11 : decode cX11_expression 11 = .ok (.aload_n 0, 1) := by decide +kernel
theorem dX11_expression_12 : decode cX11_expression 12 = .ok (.iconst 0, 1) := by decide +kernel
theorem dX11_expression_13 : decode cX11_expression 13 = .ok (.putfield 398, 3) := by decide +kernel
theorem dX11_expression_16 : decode cX11_expression 16 = .ok (.aload_n 0, 1) := by decide +kernel
theorem dX11_expression_17 : decode cX11_expression 17 = .ok (.iconst (-1), 1) := by decide +kernel
theorem dX11_expression_18 : decode cX11_expression 18 = .ok (.putfield 401, 3) := by decide +kernel
theorem dX11_expression_21 : decode cX11_expression 21 = .ok (.aload_n 0, 1) := by decide +kernel
theorem dX11_expression_22 : decode cX11_expression 22 = .ok (.invokevirtual 341, 3) := by decide +kernel
theorem dX11_expression_25 : decode cX11_expression 25 = .ok (.ifCond .eq 78, 3) := by decide +kernel
theorem dX11_expression_28 : decode cX11_expression 28 = .ok (.aload_n 0, 1) := by decide +kernel
theorem dX11_expression_29 : decode cX11_expression 29 = .ok (.getfield 389, 3) := by decide +kernel
theorem dX11_expression_32 : decode cX11_expression 32 = .ok (.ifCond .le 71, 3) := by decide +kernel
theorem dX11_expression_35 : decode cX11_expression 35 = .ok (.aload_n 0, 1) := by decide +kernel
theorem dX11_expression_36 : decode cX11_expression 36 = .ok (.getfield 398, 3) := by decide +kernel
theorem dX11_expression_39 : decode cX11_expression 39 = .ok (.tableswitch 57 0 3 #[29, 36, 43, 50], 29) := by decide +kernel
theorem dX11_expression_68 : decode cX11_expression 68 = .ok (.aload_n 0, 1) := by decide +kernel
theorem dX11_expression_69 : decode cX11_expression 69 = .ok (.invokevirtual 404, 3) := by decide +kernel
theorem dX11_expression_72 : decode cX11_expression 72 = .ok (.goto (-51), 3) := by decide +kernel
theorem dX11_expression_75 : decode cX11_expression 75 = .ok (.aload_n 0, 1) := by decide +kernel
theorem dX11_expression_76 : decode cX11_expression 76 = .ok (.invokevirtual 407, 3) := by decide +kernel
theorem dX11_expression_79 : decode cX11_expression 79 = .ok (.goto (-58), 3) := by decide +kernel
theorem dX11_expression_82 : decode cX11_expression 82 = .ok (.aload_n 0, 1) := by decide +kernel
theorem dX11_expression_83 : decode cX11_expression 83 = .ok (.invokevirtual 410, 3) := by decide +kernel
theorem dX11_expression_86 : decode cX11_expression 86 = .ok (.goto (-65), 3) := by decide +kernel
theorem dX11_expression_89 : decode cX11_expression 89 = .ok (.aload_n 0, 1) := by decide +kernel
theorem dX11_expression_90 : decode cX11_expression 90 = .ok (.invokevirtual 413, 3) := by decide +kernel
theorem dX11_expression_93 : decode cX11_expression 93 = .ok (.goto (-72), 3) := by decide +kernel
theorem dX11_expression_96 : decode cX11_expression 96 = .ok (.aload_n 0, 1) := by decide +kernel
theorem dX11_expression_97 : decode cX11_expression 97 = .ok (.invokevirtual 416, 3) := by decide +kernel
theorem dX11_expression_100 : decode cX11_expression 100 = .ok (.goto (-79), 3) := by decide +kernel
theorem dX11_expression_103 : decode cX11_expression 103 = .ok (.aload_n 0, 1) := by decide +kernel
theorem dX11_expression_104 : decode cX11_expression 104 = .ok (.getfield 401, 3) := by decide +kernel
theorem dX11_expression_107 : decode cX11_expression 107 = .ok (.ireturn, 1) := by decide +kernel
theorem dX11_knows_0 : decode cX11_knows 0 = .ok (.aload_n 0, 1) := by decide +kernel
theorem dX11_knows_1 : decode cX11_knows 1 = .ok (.getfield 302, 3) := by decide +kernel
theorem dX11_knows_4 : decode cX11_knows 4 = .ok (.iconst 1, 1) := by decide +kernel
theorem dX11_knows_5 : decode cX11_knows 5 = .ok (.iadd, 1) := by decide +kernel
theorem dX11_knows_6 : decode cX11_knows 6 = .ok (.istore_n 1, 1) := by decide +kernel
theorem dX11_knows_7 : decode cX11_knows 7 = .ok (.iconst 0, 1) := by decide +kernel
theorem dX11_knows_8 : decode cX11_knows 8 = .ok (.istore_n 2, 1) := by decide +kernel
theorem dX11_knows_9 : decode cX11_knows 9 = .ok (.iconst 0, 1) := by decide +kernel
theorem dX11_knows_10 : decode cX11_knows 10 = .ok (.istore_n 3, 1) := by decide +kernel
theorem dX11_knows_11 : decode cX11_knows 11 = .ok (.iload_n 3, 1) := by decide +kernel
theorem dX11_knows_12 : decode cX11_knows 12 = .ok (.aload_n 0, 1) := by decide +kernel
theorem dX11_knows_13 : decode cX11_knows 13 = .ok (.getfield 497, 3) := by decide +kernel
theorem dX11_knows_16 : decode cX11_knows 16 = .ok (.if_icmp .ge 42, 3) := by decide +kernel
theorem dX11_knows_19 : decode cX11_knows 19 = .ok (.aload_n 0, 1) := by decide +kernel
theorem dX11_knows_20 : decode cX11_knows 20 = .ok (.aload_n 0, 1) := by decide +kernel
theorem dX11_knows_21 : decode cX11_knows 21 = .ok (.getfield 49, 3) := by decide +kernel
theorem dX11_knows_24 : decode cX11_knows 24 = .ok (.iload_n 3, 1) := by decide +kernel
theorem dX11_knows_25 : decode cX11_knows 25 = .ok (.laload, 1) := by decide +kernel
theorem dX11_knows_26 : decode cX11_knows 26 = .ok (.invokevirtual 506, 3) := by decide +kernel
theorem dX11_knows_29 : decode cX11_knows 29 = .ok (.iload_n 3, 1) := by decide +kernel
theorem dX11_knows_30 : decode cX11_knows 30 = .ok (.if_icmp .ge 22, 3) := by decide +kernel
theorem dX11_knows_33 : decode cX11_knows 33 = .ok (.aload_n 0, 1) := by decide +kernel
theorem dX11_knows_34 : decode cX11_knows 34 = .ok (.getfield 53, 3) := by decide +kernel
theorem dX11_knows_37 : decode cX11_knows 37 = .ok (.iload_n 3, 1) := by decide +kernel
theorem dX11_knows_38 : decode cX11_knows 38 = .ok (.iaload, 1) := by decide +kernel
theorem dX11_knows_39 : decode cX11_knows 39 = .ok (.iload_n 1, 1) := by decide +kernel
theorem dX11_knows_40 : decode cX11_knows 40 = .ok (.if_icmp .ge 12, 3) := by decide +kernel
theorem dX11_knows_43 : decode cX11_knows 43 = .ok (.aload_n 0, 1) := by decide +kernel
theorem dX11_knows_44 : decode cX11_knows 44 = .ok (.getfield 53, 3) := by decide +kernel
theorem dX11_knows_47 : decode cX11_knows 47 = .ok (.iload_n 3, 1) := by decide +kernel
theorem dX11_knows_48 : decode cX11_knows 48 = .ok (.iaload, 1) := by decide +kernel
theorem dX11_knows_49 : decode cX11_knows 49 = .ok (.istore_n 1, 1) := by decide +kernel
theorem dX11_knows_50 : decode cX11_knows 50 = .ok (.iconst 5, 1) := by decide +kernel
theorem dX11_knows_51 : decode cX11_knows 51 = .ok (.istore_n 2, 1) := by decide +kernel
theorem dX11_knows_52 : decode cX11_knows 52 = .ok (.iinc 3 1, 3) := by decide +kernel
theorem dX11_knows_55 : decode cX11_knows 55 = .ok (.goto (-44), 3) := by decide +kernel
theorem dX11_knows_58 : decode cX11_knows 58 = .ok (.iconst 0, 1) := by decide +kernel
theorem dX11_knows_59 : decode cX11_knows 59 = .ok (.istore_n 3, 1) := by decide +kernel
theorem dX11_knows_60 : decode cX11_knows 60 = .ok (.iload_n 3, 1) := by decide +kernel
theorem dX11_knows_61 : decode cX11_knows 61 = .ok (.aload_n 0, 1) := by decide +kernel
theorem dX11_knows_62 : decode cX11_knows 62 = .ok (.getfield 386, 3) := by decide +kernel
theorem dX11_knows_65 : decode cX11_knows 65 = .ok (.if_icmp .ge 67, 3) := by decide +kernel
theorem dX11_knows_68 : decode cX11_knows 68 = .ok (.aload_n 0, 1) := by decide +kernel
theorem dX11_knows_69 : decode cX11_knows 69 = .ok (.getfield 77, 3) := by decide +kernel
theorem dX11_knows_72 : decode cX11_knows 72 = .ok (.iload_n 3, 1) := by decide +kernel
theorem dX11_knows_73 : decode cX11_knows 73 = .ok (.iaload, 1) := by decide +kernel
theorem dX11_knows_74 : decode cX11_knows 74 = .ok (.iconst 3, 1) := by decide +kernel
theorem dX11_knows_75 : decode cX11_knows 75 = .ok (.if_icmp .eq 6, 3) := by decide +kernel
theorem dX11_knows_78 : decode cX11_knows 78 = .ok (.goto 48, 3) := by decide +kernel
theorem dX11_knows_81 : decode cX11_knows 81 = .ok (.aload_n 0, 1) := by decide +kernel
theorem dX11_knows_82 : decode cX11_knows 82 = .ok (.getfield 95, 3) := by decide +kernel
theorem dX11_knows_85 : decode cX11_knows 85 = .ok (.iload_n 3, 1) := by decide +kernel
theorem dX11_knows_86 : decode cX11_knows 86 = .ok (.aload_n 0, 1) := by decide +kernel
theorem dX11_knows_87 : decode cX11_knows 87 = .ok (.aload_n 0, 1) := by decide +kernel
theorem dX11_knows_88 : decode cX11_knows 88 = .ok (.getfield 104, 3) := by decide +kernel
theorem dX11_knows_91 : decode cX11_knows 91 = .ok (.iload_n 3, 1) := by decide +kernel
theorem dX11_knows_92 : decode cX11_knows 92 = .ok (.laload, 1) := by decide +kernel
theorem dX11_knows_93 : decode cX11_knows 93 = .ok (.invokevirtual 506, 3) := by decide +kernel
theorem dX11_knows_96 : decode cX11_knows 96 = .ok (.iastore, 1) := by decide +kernel
theorem dX11_knows_97 : decode cX11_knows 97 = .ok (.aload_n 0, 1) := by decide +kernel
theorem dX11_knows_98 : decode cX11_knows 98 = .ok (.getfield 95, 3) := by decide +kernel
theorem dX11_knows_101 : decode cX11_knows 101 = .ok (.iload_n 3, 1) := by decide +kernel
theorem dX11_knows_102 : decode cX11_knows 102 = .ok (.iaload, 1) := by decide +kernel
theorem dX11_knows_103 : decode cX11_knows 103 = .ok (.ifCond .ge 23, 3) := by decide +kernel
theorem dX11_knows_106 : decode cX11_knows 106 = .ok (.aload_n 0, 1) := by decide +kernel
theorem dX11_knows_107 : decode cX11_knows 107 = .ok (.getfield 80, 3) := by decide +kernel
theorem dX11_knows_110 : decode cX11_knows 110 = .ok (.iload_n 3, 1) := by decide +kernel
theorem dX11_knows_111 : decode cX11_knows 111 = .ok (.iaload, 1) := by decide +kernel
theorem dX11_knows_112 : decode cX11_knows 112 = .ok (.iload_n 1, 1) := by decide +kernel
theorem dX11_knows_113 : decode cX11_knows 113 = .ok (.if_icmp .ge 13, 3) := by decide +kernel
theorem dX11_knows_116 : decode cX11_knows 116 = .ok (.aload_n 0, 1) := by decide +kernel
theorem dX11_knows_117 : decode cX11_knows 117 = .ok (.getfield 80, 3) := by decide +kernel
theorem dX11_knows_120 : decode cX11_knows 120 = .ok (.iload_n 3, 1) := by decide +kernel
theorem dX11_knows_121 : decode cX11_knows 121 = .ok (.iaload, 1) := by decide +kernel
theorem dX11_knows_122 : decode cX11_knows 122 = .ok (.istore_n 1, 1) := by decide +kernel
theorem dX11_knows_123 : decode cX11_knows 123 = .ok (.bipush 6, 2) := by decide +kernel
theorem dX11_knows_125 : decode cX11_knows 125 = .ok (.istore_n 2, 1) := by decide +kernel
theorem dX11_knows_126 : decode cX11_knows 126 = .ok (.iinc 3 1, 3) := by decide +kernel
theorem dX11_knows_129 : decode cX11_knows 129 = .ok (.goto (-69), 3) := by decide +kernel
theorem dX11_knows_132 : decode cX11_knows 132 = .ok (.iload_n 2, 1) := by decide +kernel
theorem dX11_knows_133 : decode cX11_knows 133 = .ok (.ifCond .le 9, 3) := by decide +kernel
theorem dX11_knows_136 : decode cX11_knows 136 = .ok (.aload_n 0, 1) := by decide +kernel
theorem dX11_knows_137 : decode cX11_knows 137 = .ok (.iload_n 2, 1) := by decide +kernel
theorem dX11_knows_138 : decode cX11_knows 138 = .ok (.iload_n 1, 1) := by decide +kernel
theorem dX11_knows_139 : decode cX11_knows 139 = .ok (.invokevirtual 295, 3) := by decide +kernel
theorem dX11_knows_142 : decode cX11_knows 142 = .ok (.return_, 1) := by decide +kernel
theorem dX11_leaves_0 : decode cX11_leaves 0 = .ok (.aload_n 0, 1) := by decide +kernel
theorem dX11_leaves_1 : decode cX11_leaves 1 = .ok (.dup, 1) := by decide +kernel
theorem dX11_leaves_2 : decode cX11_leaves 2 = .ok (.getfield 355, 3) := by decide +kernel
theorem dX11_leaves_5 : decode cX11_leaves 5 = .ok (.iconst 1, 1) := by decide +kernel
theorem dX11_leaves_6 : decode cX11_leaves 6 = .ok (.isub, 1) := by decide +kernel
theorem dX11_leaves_7 : decode cX11_leaves 7 = .ok (.putfield 355, 3) := by decide +kernel
theorem dX11_leaves_10 : decode cX11_leaves 10 = .ok (.aload_n 0, 1) := by decide +kernel
theorem dX11_leaves_11 : decode cX11_leaves 11 = .ok (.dup, 1) := by decide +kernel
theorem dX11_leaves_12 : decode cX11_leaves 12 = .ok (.getfield 389, 3) := by decide +kernel
theorem dX11_leaves_15 : decode cX11_leaves 15 = .ok (.iconst 1, 1) := by decide +kernel
theorem dX11_leaves_16 : decode cX11_leaves 16 = .ok (.isub, 1) := by decide +kernel
theorem dX11_leaves_17 : decode cX11_leaves 17 = .ok (.putfield 389, 3) := by decide +kernel
theorem dX11_leaves_20 : decode cX11_leaves 20 = .ok (.aload_n 0, 1) := by decide +kernel
theorem dX11_leaves_21 : decode cX11_leaves 21 = .ok (.iload_n 1, 1) := by decide +kernel
theorem dX11_leaves_22 : decode cX11_leaves 22 = .ok (.putfield 401, 3) := by decide +kernel
theorem dX11_leaves_25 : decode cX11_leaves 25 = .ok (.aload_n 0, 1) := by decide +kernel
theorem dX11_leaves_26 : decode cX11_leaves 26 = .ok (.iconst 4, 1) := by decide +kernel
theorem dX11_leaves_27 : decode cX11_leaves 27 = .ok (.putfield 398, 3) := by decide +kernel
theorem dX11_leaves_30 : decode cX11_leaves 30 = .ok (.return_, 1) := by decide +kernel
theorem dX11_levelOf_0 : decode cX11_levelOf 0 = .ok (.lload_n 0, 1) := by decide +kernel
theorem dX11_levelOf_1 : decode cX11_levelOf 1 = .ok (.ldc2_w 464, 3) := by decide +kernel
theorem dX11_levelOf_4 : decode cX11_levelOf 4 = .ok (.lcmp, 1) := by decide +kernel
theorem dX11_levelOf_5 : decode cX11_levelOf 5 = .ok (.ifCond .eq 19, 3) := by decide +kernel
theorem dX11_levelOf_8 : decode cX11_levelOf 8 = .ok (.lload_n 0, 1) := by decide +kernel
theorem dX11_levelOf_9 : decode cX11_levelOf 9 = .ok (.ldc2_w 466, 3) := by decide +kernel
theorem dX11_levelOf_12 : decode cX11_levelOf 12 = .ok (.lcmp, 1) := by decide +kernel
theorem dX11_levelOf_13 : decode cX11_levelOf 13 = .ok (.ifCond .eq 11, 3) := by decide +kernel
theorem dX11_levelOf_16 : decode cX11_levelOf 16 = .ok (.lload_n 0, 1) := by decide +kernel
theorem dX11_levelOf_17 : decode cX11_levelOf 17 = .ok (.ldc2_w 468, 3) := by decide +kernel
theorem dX11_levelOf_20 : decode cX11_levelOf 20 = .ok (.lcmp, 1) := by decide +kernel
theorem dX11_levelOf_21 : decode cX11_levelOf 21 = .ok (.ifCond .ne 7, 3) := by decide +kernel
theorem dX11_levelOf_24 : decode cX11_levelOf 24 = .ok (.iconst 3, 1) := by decide +kernel
theorem dX11_levelOf_25 : decode cX11_levelOf 25 = .ok (.goto 44, 3) := by decide +kernel
theorem dX11_levelOf_28 : decode cX11_levelOf 28 = .ok (.lload_n 0, 1) := by decide +kernel
theorem dX11_levelOf_29 : decode cX11_levelOf 29 = .ok (.ldc2_w 470, 3) := by decide +kernel
theorem dX11_levelOf_32 : decode cX11_levelOf 32 = .ok (.lcmp, 1) := by decide +kernel
theorem dX11_levelOf_33 : decode cX11_levelOf 33 = .ok (.ifCond .eq 11, 3) := by decide +kernel
theorem dX11_levelOf_36 : decode cX11_levelOf 36 = .ok (.lload_n 0, 1) := by decide +kernel
theorem dX11_levelOf_37 : decode cX11_levelOf 37 = .ok (.ldc2_w 429, 3) := by decide +kernel
theorem dX11_levelOf_40 : decode cX11_levelOf 40 = .ok (.lcmp, 1) := by decide +kernel
theorem dX11_levelOf_41 : decode cX11_levelOf 41 = .ok (.ifCond .ne 7, 3) := by decide +kernel
theorem dX11_levelOf_44 : decode cX11_levelOf 44 = .ok (.iconst 2, 1) := by decide +kernel
theorem dX11_levelOf_45 : decode cX11_levelOf 45 = .ok (.goto 24, 3) := by decide +kernel
theorem dX11_levelOf_48 : decode cX11_levelOf 48 = .ok (.lload_n 0, 1) := by decide +kernel
theorem dX11_levelOf_49 : decode cX11_levelOf 49 = .ok (.ldc2_w 472, 3) := by decide +kernel
theorem dX11_levelOf_52 : decode cX11_levelOf 52 = .ok (.lcmp, 1) := by decide +kernel
theorem dX11_levelOf_53 : decode cX11_levelOf 53 = .ok (.ifCond .eq 11, 3) := by decide +kernel
theorem dX11_levelOf_56 : decode cX11_levelOf 56 = .ok (.lload_n 0, 1) := by decide +kernel
theorem dX11_levelOf_57 : decode cX11_levelOf 57 = .ok (.ldc2_w 474, 3) := by decide +kernel
theorem dX11_levelOf_60 : decode cX11_levelOf 60 = .ok (.lcmp, 1) := by decide +kernel
theorem dX11_levelOf_61 : decode cX11_levelOf 61 = .ok (.ifCond .ne 7, 3) := by decide +kernel
theorem dX11_levelOf_64 : decode cX11_levelOf 64 = .ok (.iconst 1, 1) := by decide +kernel
theorem dX11_levelOf_65 : decode cX11_levelOf 65 = .ok (.goto 4, 3) := by decide +kernel
theorem dX11_levelOf_68 : decode cX11_levelOf 68 = .ok (.iconst 0, 1) := by decide +kernel
theorem dX11_levelOf_69 : decode cX11_levelOf 69 = .ok (.ireturn, 1) := by decide +kernel
theorem dX11_param_0 : decode cX11_param 0 = .ok (.aload_n 0, 1) := by decide +kernel
theorem dX11_param_1 : decode cX11_param 1 = .ok (.invokevirtual 341, 3) := by decide +kernel
theorem dX11_param_4 : decode cX11_param 4 = .ok (.ifCond .eq 11, 3) := by decide +kernel
theorem dX11_param_7 : decode cX11_param 7 = .ok (.aload_n 0, 1) := by decide +kernel
theorem dX11_param_8 : decode cX11_param 8 = .ok (.getfield 309, 3) := by decide +kernel
theorem dX11_param_11 : decode cX11_param 11 = .ok (.iconst 1, 1) := by decide +kernel
theorem dX11_param_12 : decode cX11_param 12 = .ok (.if_icmp .eq 8, 3) := by decide +kernel
theorem dX11_param_15 : decode cX11_param 15 = .ok (.aload_n 0, 1) := by decide +kernel
theorem dX11_param_16 : decode cX11_param 16 = .ok (.invokevirtual 352, 3) := by decide +kernel
theorem dX11_param_19 : decode cX11_param 19 = .ok (.return_, 1) := by decide +kernel
theorem dX11_param_20 : decode cX11_param 20 = .ok (.iconst 0, 1) := by decide +kernel
theorem dX11_param_21 : decode cX11_param 21 = .ok (.istore_n 2, 1) := by decide +kernel
theorem dX11_param_22 : decode cX11_param 22 = .ok (.iload_n 2, 1) := by decide +kernel
theorem dX11_param_23 : decode cX11_param 23 = .ok (.aload_n 0, 1) := by decide +kernel
theorem dX11_param_24 : decode cX11_param 24 = .ok (.getfield 392, 3) := by decide +kernel
theorem dX11_param_27 : decode cX11_param 27 = .ok (.if_icmp .ge 32, 3) := by decide +kernel
theorem dX11_param_30 : decode cX11_param 30 = .ok (.aload_n 0, 1) := by decide +kernel
theorem dX11_param_31 : decode cX11_param 31 = .ok (.getfield 107, 3) := by decide +kernel
theorem dX11_param_34 : decode cX11_param 34 = .ok (.iload_n 2, 1) := by decide +kernel
theorem dX11_param_35 : decode cX11_param 35 = .ok (.laload, 1) := by decide +kernel
theorem dX11_param_36 : decode cX11_param 36 = .ok (.aload_n 0, 1) := by decide +kernel
theorem dX11_param_37 : decode cX11_param 37 = .ok (.getfield 305, 3) := by decide +kernel
theorem dX11_param_40 : decode cX11_param 40 = .ok (.lcmp, 1) := by decide +kernel
theorem dX11_param_41 : decode cX11_param 41 = .ok (.ifCond .ne 12, 3) := by decide +kernel
theorem dX11_param_44 : decode cX11_param 44 = .ok (.aload_n 0, 1) := by decide +kernel
theorem dX11_param_45 : decode cX11_param 45 = .ok (.iconst 2, 1) := by decide +kernel
theorem dX11_param_46 : decode cX11_param 46 = .ok (.aload_n 0, 1) := by decide +kernel
theorem dX11_param_47 : decode cX11_param 47 = .ok (.getfield 292, 3) := by decide +kernel
theorem dX11_param_50 : decode cX11_param 50 = .ok (.invokevirtual 295, 3) := by decide +kernel
theorem dX11_param_53 : decode cX11_param 53 = .ok (.iinc 2 1, 3) := by decide +kernel
theorem dX11_param_56 : decode cX11_param 56 = .ok (.goto (-34), 3) := by decide +kernel
theorem dX11_param_59 : decode cX11_param 59 = .ok (.aload_n 0, 1) := by decide +kernel
theorem dX11_param_60 : decode cX11_param 60 = .ok (.getfield 392, 3) := by decide +kernel
theorem dX11_param_63 : decode cX11_param 63 = .ok (.iconst 4, 1) := by decide +kernel
theorem dX11_param_64 : decode cX11_param 64 = .ok (.if_icmp .ne 12, 3) := by decide +kernel
theorem dX11_param_67 : decode cX11_param 67 = .ok (.aload_n 0, 1) := by decide +kernel
theorem dX11_param_68 : decode cX11_param 68 = .ok (.iconst 3, 1) := by decide +kernel
theorem dX11_param_69 : decode cX11_param 69 = .ok (.aload_n 0, 1) := by decide +kernel
theorem dX11_param_70 : decode cX11_param 70 = .ok (.getfield 292, 3) := by decide +kernel
theorem dX11_param_73 : decode cX11_param 73 = .ok (.invokevirtual 295, 3) := by decide +kernel
theorem dX11_param_76 : decode cX11_param 76 = .ok (.aload_n 0, 1) := by decide +kernel
theorem dX11_param_77 : decode cX11_param 77 = .ok (.invokevirtual 341, 3) := by decide +kernel
theorem dX11_param_80 : decode cX11_param 80 = .ok (.ifCond .ne 4, 3) := by decide +kernel
theorem dX11_param_83 : decode cX11_param 83 = .ok (.return_, 1) := by decide +kernel
theorem dX11_param_84 : decode cX11_param 84 = .ok (.aload_n 0, 1) := by decide +kernel
theorem dX11_param_85 : decode cX11_param 85 = .ok (.getfield 107, 3) := by decide +kernel
theorem dX11_param_88 : decode cX11_param 88 = .ok (.aload_n 0, 1) := by decide +kernel
theorem dX11_param_89 : decode cX11_param 89 = .ok (.getfield 392, 3) := by decide +kernel
theorem dX11_param_92 : decode cX11_param 92 = .ok (.aload_n 0, 1) := by decide +kernel
theorem dX11_param_93 : decode cX11_param 93 = .ok (.getfield 305, 3) := by decide +kernel
theorem dX11_param_96 : decode cX11_param 96 = .ok (.lastore, 1) := by decide +kernel
theorem dX11_param_97 : decode cX11_param 97 = .ok (.aload_n 0, 1) := by decide +kernel
theorem dX11_param_98 : decode cX11_param 98 = .ok (.dup, 1) := by decide +kernel
theorem dX11_param_99 : decode cX11_param 99 = .ok (.getfield 392, 3) := by decide +kernel
theorem dX11_param_102 : decode cX11_param 102 = .ok (.iconst 1, 1) := by decide +kernel
theorem dX11_param_103 : decode cX11_param 103 = .ok (.iadd, 1) := by decide +kernel
theorem dX11_param_104 : decode cX11_param 104 = .ok (.putfield 392, 3) := by decide +kernel
theorem dX11_param_107 : decode cX11_param 107 = .ok (.aload_n 0, 1) := by decide +kernel
theorem dX11_param_108 : decode cX11_param 108 = .ok (.getfield 62, 3) := by decide +kernel
theorem dX11_param_111 : decode cX11_param 111 = .ok (.iload_n 1, 1) := by decide +kernel
theorem dX11_param_112 : decode cX11_param 112 = .ok (.aload_n 0, 1) := by decide +kernel
theorem dX11_param_113 : decode cX11_param 113 = .ok (.getfield 392, 3) := by decide +kernel
theorem dX11_param_116 : decode cX11_param 116 = .ok (.iastore, 1) := by decide +kernel
theorem dX11_param_117 : decode cX11_param 117 = .ok (.aload_n 0, 1) := by decide +kernel
theorem dX11_param_118 : decode cX11_param 118 = .ok (.getfield 65, 3) := by decide +kernel
theorem dX11_param_121 : decode cX11_param 121 = .ok (.iconst 4, 1) := by decide +kernel
theorem dX11_param_122 : decode cX11_param 122 = .ok (.iload_n 1, 1) := by decide +kernel
theorem dX11_param_123 : decode cX11_param 123 = .ok (.imul, 1) := by decide +kernel
theorem dX11_param_124 : decode cX11_param 124 = .ok (.aload_n 0, 1) := by decide +kernel
theorem dX11_param_125 : decode cX11_param 125 = .ok (.getfield 392, 3) := by decide +kernel
theorem dX11_param_128 : decode cX11_param 128 = .ok (.iadd, 1) := by decide +kernel
theorem dX11_param_129 : decode cX11_param 129 = .ok (.iconst 1, 1) := by decide +kernel
theorem dX11_param_130 : decode cX11_param 130 = .ok (.isub, 1) := by decide +kernel
theorem dX11_param_131 : decode cX11_param 131 = .ok (.iconst 2, 1) := by decide +kernel
theorem dX11_param_132 : decode cX11_param 132 = .ok (.iastore, 1) := by decide +kernel
theorem dX11_param_133 : decode cX11_param 133 = .ok (.aload_n 0, 1) := by decide +kernel
theorem dX11_param_134 : decode cX11_param 134 = .ok (.invokevirtual 349, 3) := by decide +kernel
theorem dX11_param_137 : decode cX11_param 137 = .ok (.aload_n 0, 1) := by decide +kernel
theorem dX11_param_138 : decode cX11_param 138 = .ok (.bipush 58, 2) := by decide +kernel
theorem dX11_param_140 : decode cX11_param 140 = .ok (.invokevirtual 345, 3) := by decide +kernel
theorem dX11_param_143 : decode cX11_param 143 = .ok (.ifCond .eq 26, 3) := by decide +kernel
theorem dX11_param_146 : decode cX11_param 146 = .ok (.aload_n 0, 1) := by decide +kernel
theorem dX11_param_147 : decode cX11_param 147 = .ok (.invokevirtual 349, 3) := by decide +kernel
theorem dX11_param_150 : decode cX11_param 150 = .ok (.aload_n 0, 1) := by decide +kernel
theorem dX11_param_151 : decode cX11_param 151 = .ok (.getfield 65, 3) := by decide +kernel
theorem dX11_param_154 : decode cX11_param 154 = .ok (.iconst 4, 1) := by decide +kernel
theorem dX11_param_155 : decode cX11_param 155 = .ok (.iload_n 1, 1) := by decide +kernel
theorem dX11_param_156 : decode cX11_param 156 = .ok (.imul, 1) := by decide +kernel
theorem dX11_param_157 : decode cX11_param 157 = .ok (.aload_n 0, 1) := by decide +kernel
theorem dX11_param_158 : decode cX11_param 158 = .ok (.getfield 392, 3) := by decide +kernel
theorem dX11_param_161 : decode cX11_param 161 = .ok (.iadd, 1) := by decide +kernel
theorem dX11_param_162 : decode cX11_param 162 = .ok (.iconst 1, 1) := by decide +kernel
theorem dX11_param_163 : decode cX11_param 163 = .ok (.isub, 1) := by decide +kernel
theorem dX11_param_164 : decode cX11_param 164 = .ok (.aload_n 0, 1) := by decide +kernel
theorem dX11_param_165 : decode cX11_param 165 = .ok (.invokevirtual 449, 3) := by decide +kernel
theorem dX11_param_168 : decode cX11_param 168 = .ok (.iastore, 1) := by decide +kernel
theorem dX11_param_169 : decode cX11_param 169 = .ok (.return_, 1) := by decide +kernel
theorem dX11_part_0 : decode cX11_part 0 = .ok (.aload_n 0, 1) := by decide +kernel
theorem dX11_part_1 : decode cX11_part 1 = .ok (.invokevirtual 349, 3) := by decide +kernel
theorem dX11_part_4 : decode cX11_part 4 = .ok (.aload_n 0, 1) := by decide +kernel
theorem dX11_part_5 : decode cX11_part 5 = .ok (.invokevirtual 341, 3) := by decide +kernel
theorem dX11_part_8 : decode cX11_part 8 = .ok (.ifCond .eq 11, 3) := by decide +kernel
theorem dX11_part_11 : decode cX11_part 11 = .ok (.aload_n 0, 1) := by decide +kernel
theorem dX11_part_12 : decode cX11_part 12 = .ok (.getfield 309, 3) := by decide +kernel
theorem dX11_part_15 : decode cX11_part 15 = .ok (.iconst 1, 1) := by decide +kernel
theorem dX11_part_16 : decode cX11_part 16 = .ok (.if_icmp .eq 8, 3) := by decide +kernel
theorem dX11_part_19 : decode cX11_part 19 = .ok (.aload_n 0, 1) := by decide +kernel
theorem dX11_part_20 : decode cX11_part 20 = .ok (.invokevirtual 352, 3) := by decide +kernel
theorem dX11_part_23 : decode cX11_part 23 = .ok (.return_, 1) := by decide +kernel
theorem dX11_part_24 : decode cX11_part 24 = .ok (.aload_n 0, 1) := by decide +kernel
theorem dX11_part_25 : decode cX11_part 25 = .ok (.getfield 497, 3) := by decide +kernel
theorem dX11_part_28 : decode cX11_part 28 = .ok (.istore_n 1, 1) := by decide +kernel
theorem dX11_part_29 : decode cX11_part 29 = .ok (.aload_n 0, 1) := by decide +kernel
theorem dX11_part_30 : decode cX11_part 30 = .ok (.getfield 49, 3) := by decide +kernel
theorem dX11_part_33 : decode cX11_part 33 = .ok (.iload_n 1, 1) := by decide +kernel
theorem dX11_part_34 : decode cX11_part 34 = .ok (.aload_n 0, 1) := by decide +kernel
theorem dX11_part_35 : decode cX11_part 35 = .ok (.getfield 305, 3) := by decide +kernel
theorem dX11_part_38 : decode cX11_part 38 = .ok (.lastore, 1) := by decide +kernel
theorem dX11_part_39 : decode cX11_part 39 = .ok (.aload_n 0, 1) := by decide +kernel
theorem dX11_part_40 : decode cX11_part 40 = .ok (.getfield 53, 3) := by decide +kernel
theorem dX11_part_43 : decode cX11_part 43 = .ok (.iload_n 1, 1) := by decide +kernel
theorem dX11_part_44 : decode cX11_part 44 = .ok (.aload_n 0, 1) := by decide +kernel
theorem dX11_part_45 : decode cX11_part 45 = .ok (.getfield 292, 3) := by decide +kernel
theorem dX11_part_48 : decode cX11_part 48 = .ok (.iastore, 1) := by decide +kernel
theorem dX11_part_49 : decode cX11_part 49 = .ok (.aload_n 0, 1) := by decide +kernel
theorem dX11_part_50 : decode cX11_part 50 = .ok (.getfield 56, 3) := by decide +kernel
theorem dX11_part_53 : decode cX11_part 53 = .ok (.iload_n 1, 1) := by decide +kernel
theorem dX11_part_54 : decode cX11_part 54 = .ok (.aload_n 0, 1) := by decide +kernel
theorem dX11_part_55 : decode cX11_part 55 = .ok (.getfield 328, 3) := by decide +kernel
theorem dX11_part_58 : decode cX11_part 58 = .ok (.iastore, 1) := by decide +kernel
theorem dX11_part_59 : decode cX11_part 59 = .ok (.aload_n 0, 1) := by decide +kernel
theorem dX11_part_60 : decode cX11_part 60 = .ok (.getfield 62, 3) := by decide +kernel
theorem dX11_part_63 : decode cX11_part 63 = .ok (.iload_n 1, 1) := by decide +kernel
theorem dX11_part_64 : decode cX11_part 64 = .ok (.iconst 0, 1) := by decide +kernel
theorem dX11_part_65 : decode cX11_part 65 = .ok (.iastore, 1) := by decide +kernel
theorem dX11_part_66 : decode cX11_part 66 = .ok (.aload_n 0, 1) := by decide +kernel
theorem dX11_part_67 : decode cX11_part 67 = .ok (.getfield 68, 3) := by decide +kernel
theorem dX11_part_70 : decode cX11_part 70 = .ok (.iload_n 1, 1) := by decide +kernel
theorem dX11_part_71 : decode cX11_part 71 = .ok (.iconst 2, 1) := by decide +kernel
theorem dX11_part_72 : decode cX11_part 72 = .ok (.iastore, 1) := by decide +kernel
theorem dX11_part_73 : decode cX11_part 73 = .ok (.aload_n 0, 1) := by decide +kernel
theorem dX11_part_74 : decode cX11_part 74 = .ok (.iconst 0, 1) := by decide +kernel
theorem dX11_part_75 : decode cX11_part 75 = .ok (.putfield 392, 3) := by decide +kernel
theorem dX11_part_78 : decode cX11_part 78 = .ok (.aload_n 0, 1) := by decide +kernel
theorem dX11_part_79 : decode cX11_part 79 = .ok (.iconst 0, 1) := by decide +kernel
theorem dX11_part_80 : decode cX11_part 80 = .ok (.putfield 355, 3) := by decide +kernel
theorem dX11_part_83 : decode cX11_part 83 = .ok (.aload_n 0, 1) := by decide +kernel
theorem dX11_part_84 : decode cX11_part 84 = .ok (.invokevirtual 349, 3) := by decide +kernel
theorem dX11_part_87 : decode cX11_part 87 = .ok (.aload_n 0, 1) := by decide +kernel
theorem dX11_part_88 : decode cX11_part 88 = .ok (.bipush 40, 2) := by decide +kernel
theorem dX11_part_90 : decode cX11_part 90 = .ok (.invokevirtual 367, 3) := by decide +kernel
theorem dX11_part_93 : decode cX11_part 93 = .ok (.aload_n 0, 1) := by decide +kernel
theorem dX11_part_94 : decode cX11_part 94 = .ok (.bipush 41, 2) := by decide +kernel
theorem dX11_part_96 : decode cX11_part 96 = .ok (.invokevirtual 345, 3) := by decide +kernel
theorem dX11_part_99 : decode cX11_part 99 = .ok (.ifCond .eq 12, 3) := by decide +kernel
theorem dX11_part_102 : decode cX11_part 102 = .ok (.aload_n 0, 1) := by decide +kernel
theorem dX11_part_103 : decode cX11_part 103 = .ok (.bipush 41, 2) := by decide +kernel
theorem dX11_part_105 : decode cX11_part 105 = .ok (.invokevirtual 373, 3) := by decide +kernel
theorem dX11_part_108 : decode cX11_part 108 = .ok (.goto 35, 3) := by decide +kernel
theorem dX11_part_111 : decode cX11_part 111 = .ok (.aload_n 0, 1) := by decide +kernel
theorem dX11_part_112 : decode cX11_part 112 = .ok (.iload_n 1, 1) := by decide +kernel
theorem dX11_part_113 : decode cX11_part 113 = .ok (.invokevirtual 500, 3) := by decide +kernel
theorem dX11_part_116 : decode cX11_part 116 = .ok (.aload_n 0, 1) := by decide +kernel
theorem dX11_part_117 : decode cX11_part 117 = .ok (.bipush 44, 2) := by decide +kernel
theorem dX11_part_119 : decode cX11_part 119 = .ok (.invokevirtual 345, 3) := by decide +kernel
theorem dX11_part_122 : decode cX11_part 122 = .ok (.ifCond .eq 15, 3) := by decide +kernel
theorem dX11_part_125 : decode cX11_part 125 = .ok (.aload_n 0, 1) := by decide +kernel
theorem dX11_part_126 : decode cX11_part 126 = .ok (.invokevirtual 349, 3) := by decide +kernel
theorem dX11_part_129 : decode cX11_part 129 = .ok (.aload_n 0, 1) := by decide +kernel
theorem dX11_part_130 : decode cX11_part 130 = .ok (.iload_n 1, 1) := by decide +kernel
theorem dX11_part_131 : decode cX11_part 131 = .ok (.invokevirtual 500, 3) := by decide +kernel
theorem dX11_part_134 : decode cX11_part 134 = .ok (.goto (-18), 3) := by decide +kernel
theorem dX11_part_137 : decode cX11_part 137 = .ok (.aload_n 0, 1) := by decide +kernel
theorem dX11_part_138 : decode cX11_part 138 = .ok (.bipush 41, 2) := by decide +kernel
theorem dX11_part_140 : decode cX11_part 140 = .ok (.invokevirtual 373, 3) := by decide +kernel
theorem dX11_part_143 : decode cX11_part 143 = .ok (.aload_n 0, 1) := by decide +kernel
theorem dX11_part_144 : decode cX11_part 144 = .ok (.bipush 58, 2) := by decide +kernel
theorem dX11_part_146 : decode cX11_part 146 = .ok (.invokevirtual 345, 3) := by decide +kernel
theorem dX11_part_149 : decode cX11_part 149 = .ok (.ifCond .eq 17, 3) := by decide +kernel
theorem dX11_part_152 : decode cX11_part 152 = .ok (.aload_n 0, 1) := by decide +kernel
theorem dX11_part_153 : decode cX11_part 153 = .ok (.invokevirtual 349, 3) := by decide +kernel
theorem dX11_part_156 : decode cX11_part 156 = .ok (.aload_n 0, 1) := by decide +kernel
theorem dX11_part_157 : decode cX11_part 157 = .ok (.getfield 68, 3) := by decide +kernel
theorem dX11_part_160 : decode cX11_part 160 = .ok (.iload_n 1, 1) := by decide +kernel
theorem dX11_part_161 : decode cX11_part 161 = .ok (.aload_n 0, 1) := by decide +kernel
theorem dX11_part_162 : decode cX11_part 162 = .ok (.invokevirtual 449, 3) := by decide +kernel
theorem dX11_part_165 : decode cX11_part 165 = .ok (.iastore, 1) := by decide +kernel
theorem dX11_part_166 : decode cX11_part 166 = .ok (.aload_n 0, 1) := by decide +kernel
theorem dX11_part_167 : decode cX11_part 167 = .ok (.bipush 61, 2) := by decide +kernel
theorem dX11_part_169 : decode cX11_part 169 = .ok (.invokevirtual 361, 3) := by decide +kernel
theorem dX11_part_172 : decode cX11_part 172 = .ok (.aload_n 0, 1) := by decide +kernel
theorem dX11_part_173 : decode cX11_part 173 = .ok (.invokevirtual 341, 3) := by decide +kernel
theorem dX11_part_176 : decode cX11_part 176 = .ok (.ifCond .eq 29, 3) := by decide +kernel
theorem dX11_part_179 : decode cX11_part 179 = .ok (.aload_n 0, 1) := by decide +kernel
theorem dX11_part_180 : decode cX11_part 180 = .ok (.getfield 71, 3) := by decide +kernel
theorem dX11_part_183 : decode cX11_part 183 = .ok (.iload_n 1, 1) := by decide +kernel
theorem dX11_part_184 : decode cX11_part 184 = .ok (.aload_n 0, 1) := by decide +kernel
theorem dX11_part_185 : decode cX11_part 185 = .ok (.invokevirtual 503, 3) := by decide +kernel
theorem dX11_part_188 : decode cX11_part 188 = .ok (.iastore, 1) := by decide +kernel
theorem dX11_part_189 : decode cX11_part 189 = .ok (.aload_n 0, 1) := by decide +kernel
theorem dX11_part_190 : decode cX11_part 190 = .ok (.bipush 59, 2) := by decide +kernel
theorem dX11_part_192 : decode cX11_part 192 = .ok (.invokevirtual 361, 3) := by decide +kernel
theorem dX11_part_195 : decode cX11_part 195 = .ok (.aload_n 0, 1) := by decide +kernel
theorem dX11_part_196 : decode cX11_part 196 = .ok (.dup, 1) := by decide +kernel
theorem dX11_part_197 : decode cX11_part 197 = .ok (.getfield 497, 3) := by decide +kernel
theorem dX11_part_200 : decode cX11_part 200 = .ok (.iconst 1, 1) := by decide +kernel
theorem dX11_part_201 : decode cX11_part 201 = .ok (.iadd, 1) := by decide +kernel
theorem dX11_part_202 : decode cX11_part 202 = .ok (.putfield 497, 3) := by decide +kernel
theorem dX11_part_205 : decode cX11_part 205 = .ok (.return_, 1) := by decide +kernel
theorem dX11_partOf_0 : decode cX11_partOf 0 = .ok (.iconst (-1), 1) := by decide +kernel
theorem dX11_partOf_1 : decode cX11_partOf 1 = .ok (.istore_n 3, 1) := by decide +kernel
theorem dX11_partOf_2 : decode cX11_partOf 2 = .ok (.aload_n 0, 1) := by decide +kernel
theorem dX11_partOf_3 : decode cX11_partOf 3 = .ok (.getfield 497, 3) := by decide +kernel
theorem dX11_partOf_6 : decode cX11_partOf 6 = .ok (.iconst 1, 1) := by decide +kernel
theorem dX11_partOf_7 : decode cX11_partOf 7 = .ok (.isub, 1) := by decide +kernel
theorem dX11_partOf_8 : decode cX11_partOf 8 = .ok (.istore 4, 2) := by decide +kernel
theorem dX11_partOf_10 : decode cX11_partOf 10 = .ok (.iload 4, 2) := by decide +kernel
theorem dX11_partOf_12 : decode cX11_partOf 12 = .ok (.ifCond .lt 28, 3) := by decide +kernel
theorem dX11_partOf_15 : decode cX11_partOf 15 = .ok (.aload_n 0, 1) := by decide +kernel
theorem dX11_partOf_16 : decode cX11_partOf 16 = .ok (.getfield 49, 3) := by decide +kernel
theorem dX11_partOf_19 : decode cX11_partOf 19 = .ok (.iload 4, 2) := by decide +kernel
theorem dX11_partOf_21 : decode cX11_partOf 21 = .ok (.laload, 1) := by decide +kernel
theorem dX11_partOf_22 : decode cX11_partOf 22 = .ok (.lload_n 1, 1) := by decide +kernel
theorem dX11_partOf_23 : decode cX11_partOf 23 = .ok (.lcmp, 1) := by decide +kernel
theorem dX11_partOf_24 : decode cX11_partOf 24 = .ok (.ifCond .ne 8, 3) := by decide +kernel
theorem dX11_partOf_27 : decode cX11_partOf 27 = .ok (.iload 4, 2) := by decide +kernel
theorem dX11_partOf_29 : decode cX11_partOf 29 = .ok (.goto 4, 3) := by decide +kernel
theorem dX11_partOf_32 : decode cX11_partOf 32 = .ok (.iload_n 3, 1) := by decide +kernel
theorem dX11_partOf_33 : decode cX11_partOf 33 = .ok (.istore_n 3, 1) := by decide +kernel
theorem dX11_partOf_34 : decode cX11_partOf 34 = .ok (.iinc 4 (-1), 3) := by decide +kernel
theorem dX11_partOf_37 : decode cX11_partOf 37 = .ok (.goto (-27), 3) := by decide +kernel
theorem dX11_partOf_40 : decode cX11_partOf 40 = .ok (.iload_n 3, 1) := by decide +kernel
theorem dX11_partOf_41 : decode cX11_partOf 41 = .ok (.ireturn, 1) := by decide +kernel
theorem dX11_second_0 : decode cX11_second 0 = .ok (.aload_n 0, 1) := by decide +kernel
theorem dX11_second_1 : decode cX11_second 1 = .ok (.getfield 122, 3) := by decide +kernel
theorem dX11_second_4 : decode cX11_second 4 = .ok (.aload_n 0, 1) := by decide +kernel
theorem dX11_second_5 : decode cX11_second 5 = .ok (.getfield 389, 3) := by decide +kernel
theorem dX11_second_8 : decode cX11_second 8 = .ok (.iconst 1, 1) := by decide +kernel
theorem dX11_second_9 : decode cX11_second 9 = .ok (.isub, 1) := by decide +kernel
theorem dX11_second_10 : decode cX11_second 10 = .ok (.iaload, 1) := by decide +kernel
theorem dX11_second_11 : decode cX11_second 11 = .ok (.bipush 16, 2) := by decide +kernel
theorem dX11_second_13 : decode cX11_second 13 = .ok (.if_icmp .ne 65, 3) := by decide +kernel
theorem dX11_second_16 : decode cX11_second 16 = .ok (.aload_n 0, 1) := by decide +kernel
theorem dX11_second_17 : decode cX11_second 17 = .ok (.getfield 95, 3) := by decide +kernel
theorem dX11_second_20 : decode cX11_second 20 = .ok (.aload_n 0, 1) := by decide +kernel
theorem dX11_second_21 : decode cX11_second 21 = .ok (.getfield 125, 3) := by decide +kernel
theorem dX11_second_24 : decode cX11_second 24 = .ok (.aload_n 0, 1) := by decide +kernel
theorem dX11_second_25 : decode cX11_second 25 = .ok (.getfield 389, 3) := by decide +kernel
theorem dX11_second_28 : decode cX11_second 28 = .ok (.iconst 1, 1) := by decide +kernel
theorem dX11_second_29 : decode cX11_second 29 = .ok (.isub, 1) := by decide +kernel
theorem dX11_second_30 : decode cX11_second 30 = .ok (.iaload, 1) := by decide +kernel
theorem dX11_second_31 : decode cX11_second 31 = .ok (.iaload, 1) := by decide +kernel
theorem dX11_second_32 : decode cX11_second 32 = .ok (.i2l, 1) := by decide +kernel
theorem dX11_second_33 : decode cX11_second 33 = .ok (.invokestatic 476, 3) := by decide +kernel
theorem dX11_second_36 : decode cX11_second 36 = .ok (.iload_n 1, 1) := by decide +kernel
theorem dX11_second_37 : decode cX11_second 37 = .ok (.if_icmp .lt 41, 3) := by decide +kernel
theorem dX11_second_40 : decode cX11_second 40 = .ok (.aload_n 0, 1) := by decide +kernel
theorem dX11_second_41 : decode cX11_second 41 = .ok (.dup, 1) := by decide +kernel
theorem dX11_second_42 : decode cX11_second 42 = .ok (.getfield 389, 3) := by decide +kernel
theorem dX11_second_45 : decode cX11_second 45 = .ok (.iconst 1, 1) := by decide +kernel
theorem dX11_second_46 : decode cX11_second 46 = .ok (.isub, 1) := by decide +kernel
theorem dX11_second_47 : decode cX11_second 47 = .ok (.putfield 389, 3) := by decide +kernel
theorem dX11_second_50 : decode cX11_second 50 = .ok (.aload_n 0, 1) := by decide +kernel
theorem dX11_second_51 : decode cX11_second 51 = .ok (.getfield 125, 3) := by decide +kernel
theorem dX11_second_54 : decode cX11_second 54 = .ok (.aload_n 0, 1) := by decide +kernel
theorem dX11_second_55 : decode cX11_second 55 = .ok (.getfield 389, 3) := by decide +kernel
theorem dX11_second_58 : decode cX11_second 58 = .ok (.iaload, 1) := by decide +kernel
theorem dX11_second_59 : decode cX11_second 59 = .ok (.istore_n 2, 1) := by decide +kernel
theorem dX11_second_60 : decode cX11_second 60 = .ok (.aload_n 0, 1) := by decide +kernel
theorem dX11_second_61 : decode cX11_second 61 = .ok (.getfield 89, 3) := by decide +kernel
theorem dX11_second_64 : decode cX11_second 64 = .ok (.iload_n 2, 1) := by decide +kernel
theorem dX11_second_65 : decode cX11_second 65 = .ok (.aload_n 0, 1) := by decide +kernel
theorem dX11_second_66 : decode cX11_second 66 = .ok (.getfield 401, 3) := by decide +kernel
theorem dX11_second_69 : decode cX11_second 69 = .ok (.iastore, 1) := by decide +kernel
theorem dX11_second_70 : decode cX11_second 70 = .ok (.aload_n 0, 1) := by decide +kernel
theorem dX11_second_71 : decode cX11_second 71 = .ok (.iload_n 2, 1) := by decide +kernel
theorem dX11_second_72 : decode cX11_second 72 = .ok (.putfield 401, 3) := by decide +kernel
theorem dX11_second_75 : decode cX11_second 75 = .ok (.goto (-75), 3) := by decide +kernel
theorem dX11_second_78 : decode cX11_second 78 = .ok (.return_, 1) := by decide +kernel
theorem dX11_shuts_0 : decode cX11_shuts 0 = .ok (.aload_n 0, 1) := by decide +kernel
theorem dX11_shuts_1 : decode cX11_shuts 1 = .ok (.iload_n 1, 1) := by decide +kernel
theorem dX11_shuts_2 : decode cX11_shuts 2 = .ok (.invokevirtual 373, 3) := by decide +kernel
theorem dX11_shuts_5 : decode cX11_shuts 5 = .ok (.aload_n 0, 1) := by decide +kernel
theorem dX11_shuts_6 : decode cX11_shuts 6 = .ok (.dup, 1) := by decide +kernel
theorem dX11_shuts_7 : decode cX11_shuts 7 = .ok (.getfield 389, 3) := by decide +kernel
theorem dX11_shuts_10 : decode cX11_shuts 10 = .ok (.iconst 1, 1) := by decide +kernel
theorem dX11_shuts_11 : decode cX11_shuts 11 = .ok (.isub, 1) := by decide +kernel
theorem dX11_shuts_12 : decode cX11_shuts 12 = .ok (.putfield 389, 3) := by decide +kernel
theorem dX11_shuts_15 : decode cX11_shuts 15 = .ok (.aload_n 0, 1) := by decide +kernel
theorem dX11_shuts_16 : decode cX11_shuts 16 = .ok (.iload_n 2, 1) := by decide +kernel
theorem dX11_shuts_17 : decode cX11_shuts 17 = .ok (.invokevirtual 455, 3) := by decide +kernel
theorem dX11_shuts_20 : decode cX11_shuts 20 = .ok (.return_, 1) := by decide +kernel
theorem dX11_signs_0 : decode cX11_signs 0 = .ok (.aload_n 0, 1) := by decide +kernel
theorem dX11_signs_1 : decode cX11_signs 1 = .ok (.getfield 122, 3) := by decide +kernel
theorem dX11_signs_4 : decode cX11_signs 4 = .ok (.aload_n 0, 1) := by decide +kernel
theorem dX11_signs_5 : decode cX11_signs 5 = .ok (.getfield 389, 3) := by decide +kernel
theorem dX11_signs_8 : decode cX11_signs 8 = .ok (.iconst 1, 1) := by decide +kernel
theorem dX11_signs_9 : decode cX11_signs 9 = .ok (.isub, 1) := by decide +kernel
theorem dX11_signs_10 : decode cX11_signs 10 = .ok (.iaload, 1) := by decide +kernel
theorem dX11_signs_11 : decode cX11_signs 11 = .ok (.bipush 15, 2) := by decide +kernel
theorem dX11_signs_13 : decode cX11_signs 13 = .ok (.if_icmp .ne 51, 3) := by decide +kernel
theorem dX11_signs_16 : decode cX11_signs 16 = .ok (.aload_n 0, 1) := by decide +kernel
theorem dX11_signs_17 : decode cX11_signs 17 = .ok (.dup, 1) := by decide +kernel
theorem dX11_signs_18 : decode cX11_signs 18 = .ok (.getfield 389, 3) := by decide +kernel
theorem dX11_signs_21 : decode cX11_signs 21 = .ok (.iconst 1, 1) := by decide +kernel
theorem dX11_signs_22 : decode cX11_signs 22 = .ok (.isub, 1) := by decide +kernel
theorem dX11_signs_23 : decode cX11_signs 23 = .ok (.putfield 389, 3) := by decide +kernel
theorem dX11_signs_26 : decode cX11_signs 26 = .ok (.aload_n 0, 1) := by decide +kernel
theorem dX11_signs_27 : decode cX11_signs 27 = .ok (.dup, 1) := by decide +kernel
theorem dX11_signs_28 : decode cX11_signs 28 = .ok (.getfield 355, 3) := by decide +kernel
theorem dX11_signs_31 : decode cX11_signs 31 = .ok (.iconst 1, 1) := by decide +kernel
theorem dX11_signs_32 : decode cX11_signs 32 = .ok (.isub, 1) := by decide +kernel
theorem dX11_signs_33 : decode cX11_signs 33 = .ok (.putfield 355, 3) := by decide +kernel
theorem dX11_signs_36 : decode cX11_signs 36 = .ok (.aload_n 0, 1) := by decide +kernel
theorem dX11_signs_37 : decode cX11_signs 37 = .ok (.getfield 125, 3) := by decide +kernel
theorem dX11_signs_40 : decode cX11_signs 40 = .ok (.aload_n 0, 1) := by decide +kernel
theorem dX11_signs_41 : decode cX11_signs 41 = .ok (.getfield 389, 3) := by decide +kernel
theorem dX11_signs_44 : decode cX11_signs 44 = .ok (.iaload, 1) := by decide +kernel
theorem dX11_signs_45 : decode cX11_signs 45 = .ok (.istore_n 1, 1) := by decide +kernel
theorem dX11_signs_46 : decode cX11_signs 46 = .ok (.aload_n 0, 1) := by decide +kernel
theorem dX11_signs_47 : decode cX11_signs 47 = .ok (.getfield 86, 3) := by decide +kernel
theorem dX11_signs_50 : decode cX11_signs 50 = .ok (.iload_n 1, 1) := by decide +kernel
theorem dX11_signs_51 : decode cX11_signs 51 = .ok (.aload_n 0, 1) := by decide +kernel
theorem dX11_signs_52 : decode cX11_signs 52 = .ok (.getfield 401, 3) := by decide +kernel
theorem dX11_signs_55 : decode cX11_signs 55 = .ok (.iastore, 1) := by decide +kernel
theorem dX11_signs_56 : decode cX11_signs 56 = .ok (.aload_n 0, 1) := by decide +kernel
theorem dX11_signs_57 : decode cX11_signs 57 = .ok (.iload_n 1, 1) := by decide +kernel
theorem dX11_signs_58 : decode cX11_signs 58 = .ok (.putfield 401, 3) := by decide +kernel
theorem dX11_signs_61 : decode cX11_signs 61 = .ok (.goto (-61), 3) := by decide +kernel
theorem dX11_signs_64 : decode cX11_signs 64 = .ok (.aload_n 0, 1) := by decide +kernel
theorem dX11_signs_65 : decode cX11_signs 65 = .ok (.invokevirtual 341, 3) := by decide +kernel
theorem dX11_signs_68 : decode cX11_signs 68 = .ok (.ifCond .eq 21, 3) := by decide +kernel
theorem dX11_signs_71 : decode cX11_signs 71 = .ok (.aload_n 0, 1) := by decide +kernel
theorem dX11_signs_72 : decode cX11_signs 72 = .ok (.getfield 309, 3) := by decide +kernel
theorem dX11_signs_75 : decode cX11_signs 75 = .ok (.iconst 4, 1) := by decide +kernel
theorem dX11_signs_76 : decode cX11_signs 76 = .ok (.if_icmp .ne 13, 3) := by decide +kernel
theorem dX11_signs_79 : decode cX11_signs 79 = .ok (.aload_n 0, 1) := by decide +kernel
theorem dX11_signs_80 : decode cX11_signs 80 = .ok (.getfield 305, 3) := by decide +kernel
theorem dX11_signs_83 : decode cX11_signs 83 = .ok (.invokestatic 476, 3) := by decide +kernel
theorem dX11_signs_86 : decode cX11_signs 86 = .ok (.goto 4, 3) := by decide +kernel
theorem dX11_signs_89 : decode cX11_signs 89 = .ok (.iconst 0, 1) := by decide +kernel
theorem dX11_signs_90 : decode cX11_signs 90 = .ok (.istore_n 1, 1) := by decide +kernel
theorem dX11_signs_91 : decode cX11_signs 91 = .ok (.iload_n 1, 1) := by decide +kernel
theorem dX11_signs_92 : decode cX11_signs 92 = .ok (.ifCond .le 17, 3) := by decide +kernel
theorem dX11_signs_95 : decode cX11_signs 95 = .ok (.aload_n 0, 1) := by decide +kernel
theorem dX11_signs_96 : decode cX11_signs 96 = .ok (.iload_n 1, 1) := by decide +kernel
theorem dX11_signs_97 : decode cX11_signs 97 = .ok (.iconst 1, 1) := by decide +kernel
theorem dX11_signs_98 : decode cX11_signs 98 = .ok (.if_icmp .ne 7, 3) := by decide +kernel
theorem dX11_signs_101 : decode cX11_signs 101 = .ok (.iconst 2, 1) := by decide +kernel
theorem dX11_signs_102 : decode cX11_signs 102 = .ok (.goto 4, 3) := by decide +kernel
theorem dX11_signs_105 : decode cX11_signs 105 = .ok (.iload_n 1, 1) := by decide +kernel
theorem dX11_signs_106 : decode cX11_signs 106 = .ok (.invokevirtual 479, 3) := by decide +kernel
theorem dX11_signs_109 : decode cX11_signs 109 = .ok (.iload_n 1, 1) := by decide +kernel
theorem dX11_signs_110 : decode cX11_signs 110 = .ok (.iconst 1, 1) := by decide +kernel
theorem dX11_signs_111 : decode cX11_signs 111 = .ok (.if_icmp .ne 23, 3) := by decide +kernel
theorem dX11_signs_114 : decode cX11_signs 114 = .ok (.aload_n 0, 1) := by decide +kernel
theorem dX11_signs_115 : decode cX11_signs 115 = .ok (.getfield 122, 3) := by decide +kernel
theorem dX11_signs_118 : decode cX11_signs 118 = .ok (.aload_n 0, 1) := by decide +kernel
theorem dX11_signs_119 : decode cX11_signs 119 = .ok (.getfield 389, 3) := by decide +kernel
theorem dX11_signs_122 : decode cX11_signs 122 = .ok (.iconst 1, 1) := by decide +kernel
theorem dX11_signs_123 : decode cX11_signs 123 = .ok (.isub, 1) := by decide +kernel
theorem dX11_signs_124 : decode cX11_signs 124 = .ok (.iaload, 1) := by decide +kernel
theorem dX11_signs_125 : decode cX11_signs 125 = .ok (.bipush 16, 2) := by decide +kernel
theorem dX11_signs_127 : decode cX11_signs 127 = .ok (.if_icmp .ne 7, 3) := by decide +kernel
theorem dX11_signs_130 : decode cX11_signs 130 = .ok (.iconst 1, 1) := by decide +kernel
theorem dX11_signs_131 : decode cX11_signs 131 = .ok (.goto 4, 3) := by decide +kernel
theorem dX11_signs_134 : decode cX11_signs 134 = .ok (.iconst 0, 1) := by decide +kernel
theorem dX11_signs_135 : decode cX11_signs 135 = .ok (.istore_n 2, 1) := by decide +kernel
theorem dX11_signs_136 : decode cX11_signs 136 = .ok (.iload_n 1, 1) := by decide +kernel
theorem dX11_signs_137 : decode cX11_signs 137 = .ok (.ifCond .eq 7, 3) := by decide +kernel
theorem dX11_signs_140 : decode cX11_signs 140 = .ok (.iload_n 2, 1) := by decide +kernel
theorem dX11_signs_141 : decode cX11_signs 141 = .ok (.ifCond .eq 13, 3) := by decide +kernel
theorem dX11_signs_144 : decode cX11_signs 144 = .ok (.aload_n 0, 1) := by decide +kernel
theorem dX11_signs_145 : decode cX11_signs 145 = .ok (.iconst 1, 1) := by decide +kernel
theorem dX11_signs_146 : decode cX11_signs 146 = .ok (.invokevirtual 479, 3) := by decide +kernel
theorem dX11_signs_149 : decode cX11_signs 149 = .ok (.aload_n 0, 1) := by decide +kernel
theorem dX11_signs_150 : decode cX11_signs 150 = .ok (.invokevirtual 416, 3) := by decide +kernel
theorem dX11_signs_153 : decode cX11_signs 153 = .ok (.return_, 1) := by decide +kernel
theorem dX11_signs_154 : decode cX11_signs 154 = .ok (.aload_n 0, 1) := by decide +kernel
theorem dX11_signs_155 : decode cX11_signs 155 = .ok (.getfield 401, 3) := by decide +kernel
theorem dX11_signs_158 : decode cX11_signs 158 = .ok (.istore_n 3, 1) := by decide +kernel
theorem dX11_signs_159 : decode cX11_signs 159 = .ok (.aload_n 0, 1) := by decide +kernel
theorem dX11_signs_160 : decode cX11_signs 160 = .ok (.iload_n 1, 1) := by decide +kernel
theorem dX11_signs_161 : decode cX11_signs 161 = .ok (.iconst 1, 1) := by decide +kernel
theorem dX11_signs_162 : decode cX11_signs 162 = .ok (.if_icmp .ne 8, 3) := by decide +kernel
theorem dX11_signs_165 : decode cX11_signs 165 = .ok (.bipush 15, 2) := by decide +kernel
theorem dX11_signs_167 : decode cX11_signs 167 = .ok (.goto 5, 3) := by decide +kernel
theorem dX11_signs_170 : decode cX11_signs 170 = .ok (.bipush 14, 2) := by decide +kernel
theorem dX11_signs_172 : decode cX11_signs 172 = .ok (.aload_n 0, 1) := by decide +kernel
theorem dX11_signs_173 : decode cX11_signs 173 = .ok (.getfield 80, 3) := by decide +kernel
theorem dX11_signs_176 : decode cX11_signs 176 = .ok (.iload_n 3, 1) := by decide +kernel
theorem dX11_signs_177 : decode cX11_signs 177 = .ok (.iaload, 1) := by decide +kernel
theorem dX11_signs_178 : decode cX11_signs 178 = .ok (.invokevirtual 445, 3) := by decide +kernel
theorem dX11_signs_181 : decode cX11_signs 181 = .ok (.istore 4, 2) := by decide +kernel
theorem dX11_signs_183 : decode cX11_signs 183 = .ok (.aload_n 0, 1) := by decide +kernel
theorem dX11_signs_184 : decode cX11_signs 184 = .ok (.getfield 83, 3) := by decide +kernel
theorem dX11_signs_187 : decode cX11_signs 187 = .ok (.iload 4, 2) := by decide +kernel
theorem dX11_signs_189 : decode cX11_signs 189 = .ok (.aload_n 0, 1) := by decide +kernel
theorem dX11_signs_190 : decode cX11_signs 190 = .ok (.getfield 292, 3) := by decide +kernel
theorem dX11_signs_193 : decode cX11_signs 193 = .ok (.iastore, 1) := by decide +kernel
theorem dX11_signs_194 : decode cX11_signs 194 = .ok (.aload_n 0, 1) := by decide +kernel
theorem dX11_signs_195 : decode cX11_signs 195 = .ok (.getfield 95, 3) := by decide +kernel
theorem dX11_signs_198 : decode cX11_signs 198 = .ok (.iload 4, 2) := by decide +kernel
theorem dX11_signs_200 : decode cX11_signs 200 = .ok (.aload_n 0, 1) := by decide +kernel
theorem dX11_signs_201 : decode cX11_signs 201 = .ok (.getfield 305, 3) := by decide +kernel
theorem dX11_signs_204 : decode cX11_signs 204 = .ok (.l2i, 1) := by decide +kernel
theorem dX11_signs_205 : decode cX11_signs 205 = .ok (.iastore, 1) := by decide +kernel
theorem dX11_signs_206 : decode cX11_signs 206 = .ok (.aload_n 0, 1) := by decide +kernel
theorem dX11_signs_207 : decode cX11_signs 207 = .ok (.getfield 86, 3) := by decide +kernel
theorem dX11_signs_210 : decode cX11_signs 210 = .ok (.iload 4, 2) := by decide +kernel
theorem dX11_signs_212 : decode cX11_signs 212 = .ok (.iload_n 3, 1) := by decide +kernel
theorem dX11_signs_213 : decode cX11_signs 213 = .ok (.iastore, 1) := by decide +kernel
theorem dX11_signs_214 : decode cX11_signs 214 = .ok (.aload_n 0, 1) := by decide +kernel
theorem dX11_signs_215 : decode cX11_signs 215 = .ok (.getfield 134, 3) := by decide +kernel
theorem dX11_signs_218 : decode cX11_signs 218 = .ok (.iload 4, 2) := by decide +kernel
theorem dX11_signs_220 : decode cX11_signs 220 = .ok (.iload_n 1, 1) := by decide +kernel
theorem dX11_signs_221 : decode cX11_signs 221 = .ok (.iconst 1, 1) := by decide +kernel
theorem dX11_signs_222 : decode cX11_signs 222 = .ok (.if_icmp .le 39, 3) := by decide +kernel
theorem dX11_signs_225 : decode cX11_signs 225 = .ok (.aload_n 0, 1) := by decide +kernel
theorem dX11_signs_226 : decode cX11_signs 226 = .ok (.getfield 77, 3) := by decide +kernel
theorem dX11_signs_229 : decode cX11_signs 229 = .ok (.iload_n 3, 1) := by decide +kernel
theorem dX11_signs_230 : decode cX11_signs 230 = .ok (.iaload, 1) := by decide +kernel
theorem dX11_signs_231 : decode cX11_signs 231 = .ok (.bipush 14, 2) := by decide +kernel
theorem dX11_signs_233 : decode cX11_signs 233 = .ok (.if_icmp .ne 28, 3) := by decide +kernel
theorem dX11_signs_236 : decode cX11_signs 236 = .ok (.aload_n 0, 1) := by decide +kernel
theorem dX11_signs_237 : decode cX11_signs 237 = .ok (.getfield 95, 3) := by decide +kernel
theorem dX11_signs_240 : decode cX11_signs 240 = .ok (.iload_n 3, 1) := by decide +kernel
theorem dX11_signs_241 : decode cX11_signs 241 = .ok (.iaload, 1) := by decide +kernel
theorem dX11_signs_242 : decode cX11_signs 242 = .ok (.i2l, 1) := by decide +kernel
theorem dX11_signs_243 : decode cX11_signs 243 = .ok (.invokestatic 476, 3) := by decide +kernel
theorem dX11_signs_246 : decode cX11_signs 246 = .ok (.iload_n 1, 1) := by decide +kernel
theorem dX11_signs_247 : decode cX11_signs 247 = .ok (.if_icmp .ne 14, 3) := by decide +kernel
theorem dX11_signs_250 : decode cX11_signs 250 = .ok (.aload_n 0, 1) := by decide +kernel
theorem dX11_signs_251 : decode cX11_signs 251 = .ok (.getfield 134, 3) := by decide +kernel
theorem dX11_signs_254 : decode cX11_signs 254 = .ok (.iload_n 3, 1) := by decide +kernel
theorem dX11_signs_255 : decode cX11_signs 255 = .ok (.iaload, 1) := by decide +kernel
theorem dX11_signs_256 : decode cX11_signs 256 = .ok (.iconst 1, 1) := by decide +kernel
theorem dX11_signs_257 : decode cX11_signs 257 = .ok (.iadd, 1) := by decide +kernel
theorem dX11_signs_258 : decode cX11_signs 258 = .ok (.goto 4, 3) := by decide +kernel
theorem dX11_signs_261 : decode cX11_signs 261 = .ok (.iconst 1, 1) := by decide +kernel
theorem dX11_signs_262 : decode cX11_signs 262 = .ok (.iastore, 1) := by decide +kernel
theorem dX11_signs_263 : decode cX11_signs 263 = .ok (.aload_n 0, 1) := by decide +kernel
theorem dX11_signs_264 : decode cX11_signs 264 = .ok (.getfield 134, 3) := by decide +kernel
theorem dX11_signs_267 : decode cX11_signs 267 = .ok (.iload 4, 2) := by decide +kernel
theorem dX11_signs_269 : decode cX11_signs 269 = .ok (.iaload, 1) := by decide +kernel
theorem dX11_signs_270 : decode cX11_signs 270 = .ok (.bipush 40, 2) := by decide +kernel
theorem dX11_signs_272 : decode cX11_signs 272 = .ok (.if_icmp .le 12, 3) := by decide +kernel
theorem dX11_signs_275 : decode cX11_signs 275 = .ok (.aload_n 0, 1) := by decide +kernel
theorem dX11_signs_276 : decode cX11_signs 276 = .ok (.iconst 3, 1) := by decide +kernel
theorem dX11_signs_277 : decode cX11_signs 277 = .ok (.aload_n 0, 1) := by decide +kernel
theorem dX11_signs_278 : decode cX11_signs 278 = .ok (.getfield 292, 3) := by decide +kernel
theorem dX11_signs_281 : decode cX11_signs 281 = .ok (.invokevirtual 295, 3) := by decide +kernel
theorem dX11_signs_284 : decode cX11_signs 284 = .ok (.aload_n 0, 1) := by decide +kernel
theorem dX11_signs_285 : decode cX11_signs 285 = .ok (.bipush 16, 2) := by decide +kernel
theorem dX11_signs_287 : decode cX11_signs 287 = .ok (.iload 4, 2) := by decide +kernel
theorem dX11_signs_289 : decode cX11_signs 289 = .ok (.invokevirtual 395, 3) := by decide +kernel
theorem dX11_signs_292 : decode cX11_signs 292 = .ok (.aload_n 0, 1) := by decide +kernel
theorem dX11_signs_293 : decode cX11_signs 293 = .ok (.invokevirtual 349, 3) := by decide +kernel
theorem dX11_signs_296 : decode cX11_signs 296 = .ok (.aload_n 0, 1) := by decide +kernel
theorem dX11_signs_297 : decode cX11_signs 297 = .ok (.iconst 1, 1) := by decide +kernel
theorem dX11_signs_298 : decode cX11_signs 298 = .ok (.putfield 398, 3) := by decide +kernel
theorem dX11_signs_301 : decode cX11_signs 301 = .ok (.return_, 1) := by decide +kernel
theorem dX11_word_0 : decode cX11_word 0 = .ok (.aload_n 0, 1) := by decide +kernel
theorem dX11_word_1 : decode cX11_word 1 = .ok (.iload_n 1, 1) := by decide +kernel
theorem dX11_word_2 : decode cX11_word 2 = .ok (.invokevirtual 370, 3) := by decide +kernel
theorem dX11_word_5 : decode cX11_word 5 = .ok (.ifCond .eq 10, 3) := by decide +kernel
theorem dX11_word_8 : decode cX11_word 8 = .ok (.aload_n 0, 1) := by decide +kernel
theorem dX11_word_9 : decode cX11_word 9 = .ok (.invokevirtual 349, 3) := by decide +kernel
theorem dX11_word_12 : decode cX11_word 12 = .ok (.goto 7, 3) := by decide +kernel
theorem dX11_word_15 : decode cX11_word 15 = .ok (.aload_n 0, 1) := by decide +kernel
theorem dX11_word_16 : decode cX11_word 16 = .ok (.invokevirtual 352, 3) := by decide +kernel
theorem dX11_word_19 : decode cX11_word 19 = .ok (.return_, 1) := by decide +kernel
theorem k1394 : Cond.fieldLink "BlameCourtModel" 497 "BlameCourtModel" "parts" "I" ∈ gtb := gtm (in_tables_1_6 (List.mem_of_getElem? (i := 8) rfl)) rfl
theorem k1395 : Cond.fieldLink "BlameCourtModel" 49 "BlameCourtModel" "partName" "[J" ∈ gtb := gtm (in_tables_1_6 (List.mem_of_getElem? (i := 9) rfl)) rfl
theorem k1396 : Cond.fieldLink "BlameCourtModel" 53 "BlameCourtModel" "partNameAt" "[I" ∈ gtb := gtm (in_tables_1_6 (List.mem_of_getElem? (i := 10) rfl)) rfl
theorem k1397 : Cond.fieldLink "BlameCourtModel" 56 "BlameCourtModel" "partNameMany" "[I" ∈ gtb := gtm (in_tables_1_6 (List.mem_of_getElem? (i := 11) rfl)) rfl
theorem k1399 : Cond.fieldLink "BlameCourtModel" 62 "BlameCourtModel" "params" "[I" ∈ gtb := gtm (in_tables_1_6 (List.mem_of_getElem? (i := 13) rfl)) rfl
theorem k1400 : Cond.fieldLink "BlameCourtModel" 65 "BlameCourtModel" "paramKind" "[I" ∈ gtb := gtm (in_tables_1_6 (List.mem_of_getElem? (i := 14) rfl)) rfl
theorem k1401 : Cond.fieldLink "BlameCourtModel" 68 "BlameCourtModel" "partKind" "[I" ∈ gtb := gtm (in_tables_1_6 (List.mem_of_getElem? (i := 15) rfl)) rfl
theorem k1402 : Cond.fieldLink "BlameCourtModel" 71 "BlameCourtModel" "partBody" "[I" ∈ gtb := gtm (in_tables_1_6 (List.mem_of_getElem? (i := 16) rfl)) rfl
theorem k1840 : Cond.methodLink "BlameCourtModel" 500 yX11_param ∈ gtb := gtm (in_tables_1_7 (List.mem_of_getElem? (i := 214) rfl)) rfl
theorem k1860 : Cond.methodLink "BlameCourtModel" 503 yX11_expression ∈ gtb := gtm (in_tables_1_7 (List.mem_of_getElem? (i := 234) rfl)) rfl
theorem k1868 : Cond.methodLink "BlameCourtModel" 404 yX11_begins ∈ gtb := gtm (in_tables_1_8 (List.mem_of_getElem? (i := 2) rfl)) rfl
theorem k1894 : Cond.methodLink "BlameCourtModel" 407 yX11_operand ∈ gtb := gtm (in_tables_1_8 (List.mem_of_getElem? (i := 28) rfl)) rfl
theorem k1914 : Cond.methodLink "BlameCourtModel" 410 yX11_behind ∈ gtb := gtm (in_tables_1_8 (List.mem_of_getElem? (i := 48) rfl)) rfl
theorem k1918 : Cond.methodLink "BlameCourtModel" 413 yX11_signs ∈ gtb := gtm (in_tables_1_8 (List.mem_of_getElem? (i := 52) rfl)) rfl
theorem k1922 : Cond.methodLink "BlameCourtModel" 476 yX11_levelOf ∈ gtb := gtm (in_tables_1_8 (List.mem_of_getElem? (i := 56) rfl)) rfl
theorem k1923 : Cond.static yX11_levelOf ∈ gtb := gtm (in_tables_1_8 (List.mem_of_getElem? (i := 57) rfl)) rfl
theorem k1925 : Cond.constantLong "BlameCourtModel" 464 42 ∈ gtb := gtm (in_tables_1_8 (List.mem_of_getElem? (i := 59) rfl)) rfl
theorem k1926 : Cond.constantLong "BlameCourtModel" 466 47 ∈ gtb := gtm (in_tables_1_8 (List.mem_of_getElem? (i := 60) rfl)) rfl
theorem k1927 : Cond.constantLong "BlameCourtModel" 468 37 ∈ gtb := gtm (in_tables_1_8 (List.mem_of_getElem? (i := 61) rfl)) rfl
theorem k1928 : Cond.constantLong "BlameCourtModel" 470 43 ∈ gtb := gtm (in_tables_1_8 (List.mem_of_getElem? (i := 62) rfl)) rfl
theorem k1929 : Cond.constantLong "BlameCourtModel" 472 60 ∈ gtb := gtm (in_tables_1_8 (List.mem_of_getElem? (i := 63) rfl)) rfl
theorem k1930 : Cond.constantLong "BlameCourtModel" 474 61 ∈ gtb := gtm (in_tables_1_8 (List.mem_of_getElem? (i := 64) rfl)) rfl
theorem k1931 : Cond.methodLink "BlameCourtModel" 479 yX11_second ∈ gtb := gtm (in_tables_1_8 (List.mem_of_getElem? (i := 65) rfl)) rfl
theorem k1935 : Cond.methodLink "BlameCourtModel" 416 yX11_endsOne ∈ gtb := gtm (in_tables_1_8 (List.mem_of_getElem? (i := 69) rfl)) rfl
theorem k1939 : Cond.methodLink "BlameCourtModel" 482 yX11_word ∈ gtb := gtm (in_tables_1_8 (List.mem_of_getElem? (i := 73) rfl)) rfl
theorem k1943 : Cond.methodLink "BlameCourtModel" 485 yX11_leaves ∈ gtb := gtm (in_tables_1_8 (List.mem_of_getElem? (i := 77) rfl)) rfl
theorem k1947 : Cond.methodLink "BlameCourtModel" 488 yX11_endsWithin ∈ gtb := gtm (in_tables_1_8 (List.mem_of_getElem? (i := 81) rfl)) rfl
theorem k1951 : Cond.methodLink "BlameCourtModel" 491 yX11_shuts ∈ gtb := gtm (in_tables_1_8 (List.mem_of_getElem? (i := 85) rfl)) rfl
theorem k1955 : Cond.methodLink "BlameCourtModel" 494 yX11_add ∈ gtb := gtm (in_tables_1_8 (List.mem_of_getElem? (i := 89) rfl)) rfl
theorem k1963 : Cond.methodLink "BlameCourtModel" 506 yX11_partOf ∈ gtb := gtm (in_tables_1_8 (List.mem_of_getElem? (i := 97) rfl)) rfl
theorem k1958 : Cond.code yX11_add cX11_add 3 none ∈ gtb := gtm (in_tables_1_8 (List.mem_of_getElem? (i := 92) rfl)) rfl
theorem ka_X11_add : KA yX11_add cX11_add 3 none 1 := ⟨k1958, k197, by decide, by decide, by decide +kernel⟩
theorem k1957 : Cond.instanceMethod yX11_add ∈ gtb := gtm (in_tables_1_8 (List.mem_of_getElem? (i := 91) rfl)) rfl
theorem k136 : Cond.selects "BlameCourtModel" yX11_add yX11_add ∈ gtb := gtm (in_lw_privs_9 (q := (yX11_add, 129)) (List.mem_of_getElem? (i := 8) rfl)) rfl
theorem kv_X11_add : KV yX11_add := ⟨k1957, k136⟩
theorem k1938 : Cond.code yX11_endsOne cX11_endsOne 3 none ∈ gtb := gtm (in_tables_1_8 (List.mem_of_getElem? (i := 72) rfl)) rfl
theorem ka_X11_endsOne : KA yX11_endsOne cX11_endsOne 3 none 0 := ⟨k1938, k197, by decide, by decide, by decide +kernel⟩
theorem k1937 : Cond.instanceMethod yX11_endsOne ∈ gtb := gtm (in_tables_1_8 (List.mem_of_getElem? (i := 71) rfl)) rfl
theorem k131 : Cond.selects "BlameCourtModel" yX11_endsOne yX11_endsOne ∈ gtb := gtm (in_lw_privs_9 (q := (yX11_endsOne, 129)) (List.mem_of_getElem? (i := 3) rfl)) rfl
theorem kv_X11_endsOne : KV yX11_endsOne := ⟨k1937, k131⟩
theorem k1950 : Cond.code yX11_endsWithin cX11_endsWithin 4 none ∈ gtb := gtm (in_tables_1_8 (List.mem_of_getElem? (i := 84) rfl)) rfl
theorem ka_X11_endsWithin : KA yX11_endsWithin cX11_endsWithin 4 none 2 := ⟨k1950, k197, by decide, by decide, by decide +kernel⟩
theorem k1949 : Cond.instanceMethod yX11_endsWithin ∈ gtb := gtm (in_tables_1_8 (List.mem_of_getElem? (i := 83) rfl)) rfl
theorem k134 : Cond.selects "BlameCourtModel" yX11_endsWithin yX11_endsWithin ∈ gtb := gtm (in_lw_privs_9 (q := (yX11_endsWithin, 129)) (List.mem_of_getElem? (i := 6) rfl)) rfl
theorem kv_X11_endsWithin : KV yX11_endsWithin := ⟨k1949, k134⟩
theorem k1863 : Cond.code yX11_expression cX11_expression 1 (some .int) ∈ gtb := gtm (in_tables_1_7 (List.mem_of_getElem? (i := 237) rfl)) rfl
theorem ka_X11_expression : KA yX11_expression cX11_expression 1 (some .int) 0 := ⟨k1863, k197, by decide, by decide, by decide +kernel⟩
theorem k1862 : Cond.instanceMethod yX11_expression ∈ gtb := gtm (in_tables_1_7 (List.mem_of_getElem? (i := 236) rfl)) rfl
theorem k117 : Cond.selects "BlameCourtModel" yX11_expression yX11_expression ∈ gtb := gtm (in_lw_privs_8 (q := (yX11_expression, 129)) (List.mem_of_getElem? (i := 5) rfl)) rfl
theorem kv_X11_expression : KV yX11_expression := ⟨k1862, k117⟩
theorem k1962 : Cond.code yX11_knows cX11_knows 4 none ∈ gtb := gtm (in_tables_1_8 (List.mem_of_getElem? (i := 96) rfl)) rfl
theorem ka_X11_knows : KA yX11_knows cX11_knows 4 none 0 := ⟨k1962, k197, by decide, by decide, by decide +kernel⟩
theorem k1961 : Cond.instanceMethod yX11_knows ∈ gtb := gtm (in_tables_1_8 (List.mem_of_getElem? (i := 95) rfl)) rfl
theorem k137 : Cond.selects "BlameCourtModel" yX11_knows yX11_knows ∈ gtb := gtm (in_lw_privs_9 (q := (yX11_knows, 129)) (List.mem_of_getElem? (i := 9) rfl)) rfl
theorem kv_X11_knows : KV yX11_knows := ⟨k1961, k137⟩
theorem k1946 : Cond.code yX11_leaves cX11_leaves 2 none ∈ gtb := gtm (in_tables_1_8 (List.mem_of_getElem? (i := 80) rfl)) rfl
theorem ka_X11_leaves : KA yX11_leaves cX11_leaves 2 none 1 := ⟨k1946, k197, by decide, by decide, by decide +kernel⟩
theorem k1945 : Cond.instanceMethod yX11_leaves ∈ gtb := gtm (in_tables_1_8 (List.mem_of_getElem? (i := 79) rfl)) rfl
theorem k133 : Cond.selects "BlameCourtModel" yX11_leaves yX11_leaves ∈ gtb := gtm (in_lw_privs_9 (q := (yX11_leaves, 129)) (List.mem_of_getElem? (i := 5) rfl)) rfl
theorem kv_X11_leaves : KV yX11_leaves := ⟨k1945, k133⟩
theorem k1924 : Cond.code yX11_levelOf cX11_levelOf 2 (some .int) ∈ gtb := gtm (in_tables_1_8 (List.mem_of_getElem? (i := 58) rfl)) rfl
theorem ka_X11_levelOf : KA yX11_levelOf cX11_levelOf 2 (some .int) 1 := ⟨k1924, k197, by decide, by decide, by decide +kernel⟩
theorem k1843 : Cond.code yX11_param cX11_param 3 none ∈ gtb := gtm (in_tables_1_7 (List.mem_of_getElem? (i := 217) rfl)) rfl
theorem ka_X11_param : KA yX11_param cX11_param 3 none 1 := ⟨k1843, k197, by decide, by decide, by decide +kernel⟩
theorem k1842 : Cond.instanceMethod yX11_param ∈ gtb := gtm (in_tables_1_7 (List.mem_of_getElem? (i := 216) rfl)) rfl
theorem k112 : Cond.selects "BlameCourtModel" yX11_param yX11_param ∈ gtb := gtm (in_lw_privs_8 (q := (yX11_param, 129)) (List.mem_of_getElem? (i := 0) rfl)) rfl
theorem kv_X11_param : KV yX11_param := ⟨k1842, k112⟩
theorem k1819 : Cond.code yX11_part cX11_part 2 none ∈ gtb := gtm (in_tables_1_7 (List.mem_of_getElem? (i := 193) rfl)) rfl
theorem ka_X11_part : KA yX11_part cX11_part 2 none 0 := ⟨k1819, k197, by decide, by decide, by decide +kernel⟩
theorem k1818 : Cond.instanceMethod yX11_part ∈ gtb := gtm (in_tables_1_7 (List.mem_of_getElem? (i := 192) rfl)) rfl
theorem k106 : Cond.selects "BlameCourtModel" yX11_part yX11_part ∈ gtb := gtm (in_lw_privs_7 (q := (yX11_part, 129)) (List.mem_of_getElem? (i := 10) rfl)) rfl
theorem kv_X11_part : KV yX11_part := ⟨k1818, k106⟩
theorem k1966 : Cond.code yX11_partOf cX11_partOf 5 (some .int) ∈ gtb := gtm (in_tables_1_8 (List.mem_of_getElem? (i := 100) rfl)) rfl
theorem ka_X11_partOf : KA yX11_partOf cX11_partOf 5 (some .int) 1 := ⟨k1966, k197, by decide, by decide, by decide +kernel⟩
theorem k1965 : Cond.instanceMethod yX11_partOf ∈ gtb := gtm (in_tables_1_8 (List.mem_of_getElem? (i := 99) rfl)) rfl
theorem k138 : Cond.selects "BlameCourtModel" yX11_partOf yX11_partOf ∈ gtb := gtm (in_lw_privs_9 (q := (yX11_partOf, 129)) (List.mem_of_getElem? (i := 10) rfl)) rfl
theorem kv_X11_partOf : KV yX11_partOf := ⟨k1965, k138⟩
theorem k1934 : Cond.code yX11_second cX11_second 3 none ∈ gtb := gtm (in_tables_1_8 (List.mem_of_getElem? (i := 68) rfl)) rfl
theorem ka_X11_second : KA yX11_second cX11_second 3 none 1 := ⟨k1934, k197, by decide, by decide, by decide +kernel⟩
theorem k1933 : Cond.instanceMethod yX11_second ∈ gtb := gtm (in_tables_1_8 (List.mem_of_getElem? (i := 67) rfl)) rfl
theorem k130 : Cond.selects "BlameCourtModel" yX11_second yX11_second ∈ gtb := gtm (in_lw_privs_9 (q := (yX11_second, 129)) (List.mem_of_getElem? (i := 2) rfl)) rfl
theorem kv_X11_second : KV yX11_second := ⟨k1933, k130⟩
theorem k1954 : Cond.code yX11_shuts cX11_shuts 3 none ∈ gtb := gtm (in_tables_1_8 (List.mem_of_getElem? (i := 88) rfl)) rfl
theorem ka_X11_shuts : KA yX11_shuts cX11_shuts 3 none 2 := ⟨k1954, k197, by decide, by decide, by decide +kernel⟩
theorem k1953 : Cond.instanceMethod yX11_shuts ∈ gtb := gtm (in_tables_1_8 (List.mem_of_getElem? (i := 87) rfl)) rfl
theorem k135 : Cond.selects "BlameCourtModel" yX11_shuts yX11_shuts ∈ gtb := gtm (in_lw_privs_9 (q := (yX11_shuts, 129)) (List.mem_of_getElem? (i := 7) rfl)) rfl
theorem kv_X11_shuts : KV yX11_shuts := ⟨k1953, k135⟩
theorem k1921 : Cond.code yX11_signs cX11_signs 5 none ∈ gtb := gtm (in_tables_1_8 (List.mem_of_getElem? (i := 55) rfl)) rfl
theorem ka_X11_signs : KA yX11_signs cX11_signs 5 none 0 := ⟨k1921, k197, by decide, by decide, by decide +kernel⟩
theorem k1920 : Cond.instanceMethod yX11_signs ∈ gtb := gtm (in_tables_1_8 (List.mem_of_getElem? (i := 54) rfl)) rfl
theorem k129 : Cond.selects "BlameCourtModel" yX11_signs yX11_signs ∈ gtb := gtm (in_lw_privs_9 (q := (yX11_signs, 129)) (List.mem_of_getElem? (i := 1) rfl)) rfl
theorem kv_X11_signs : KV yX11_signs := ⟨k1920, k129⟩
theorem k1942 : Cond.code yX11_word cX11_word 2 none ∈ gtb := gtm (in_tables_1_8 (List.mem_of_getElem? (i := 76) rfl)) rfl
theorem ka_X11_word : KA yX11_word cX11_word 2 none 1 := ⟨k1942, k197, by decide, by decide, by decide +kernel⟩
theorem k1941 : Cond.instanceMethod yX11_word ∈ gtb := gtm (in_tables_1_8 (List.mem_of_getElem? (i := 75) rfl)) rfl
theorem k132 : Cond.selects "BlameCourtModel" yX11_word yX11_word ∈ gtb := gtm (in_lw_privs_9 (q := (yX11_word, 129)) (List.mem_of_getElem? (i := 4) rfl)) rfl
theorem kv_X11_word : KV yX11_word := ⟨k1941, k132⟩
abbrev R_levelOf : Room := { frames := 6, cells := 0, slots := 0, locals := 90 }
noncomputable def f_levelOf (q0 : Int64) (X : St) : Option (Int32 × St) :=
  letV (lg_cmp q0 (42 : Int64)) fun x1 =>
  if x1.toInt = 0 then
    some (3, X)
  else
    letV (lg_cmp q0 (47 : Int64)) fun x2 =>
    if x2.toInt = 0 then
      some (3, X)
    else
      letV (lg_cmp q0 (37 : Int64)) fun x3 =>
      if x3.toInt = 0 then
        some (3, X)
      else
        letV (lg_cmp q0 (43 : Int64)) fun x4 =>
        if x4.toInt = 0 then
          some (2, X)
        else
          letV (lg_cmp q0 (45 : Int64)) fun x5 =>
          if x5.toInt = 0 then
            some (2, X)
          else
            letV (lg_cmp q0 (60 : Int64)) fun x6 =>
            if x6.toInt = 0 then
              some (1, X)
            else
              letV (lg_cmp q0 (61 : Int64)) fun x7 =>
              if x7.toInt = 0 then
                some (1, X)
              else
                some (0, X)
set_option maxHeartbeats 4000000 in
set_option maxRecDepth 100000 in
theorem c_levelOf (Γ : Gx) (q0 : Int64) (X : St) : TMI YR Γ yX11_levelOf cX11_levelOf 2 "BlameCourtModel" (some .int) R_levelOf [.long q0] X (f_levelOf q0 X) := by
  refine TMI.of (by decide) (Nat.le_of_ble_eq_true rfl) rfl ?_
  show T YR Γ cX11_levelOf 2 "BlameCourtModel" (some .int) R_levelOf _ qI 0 [(0, .long q0)] [] X (f_levelOf q0 X)
  unfold f_levelOf
  refine T.lload_n dX11_levelOf_0 rfl 0 rfl ?_
  refine T.ldc2 (w := 42) dX11_levelOf_1 k1925 ?_
  refine T.lcmp dX11_levelOf_4 (fun x1 => ?_)
  refine T.if_eq (pc1 := 24) dX11_levelOf_5 (by decide) ?_ ?_
  · refine T.iconst (w := 3) dX11_levelOf_24 (by decide) ?_
    refine T.goto (pc1 := 69) dX11_levelOf_25 (by decide) ?_
    exact T.ret_i rfl dX11_levelOf_69
  · refine T.lload_n dX11_levelOf_8 rfl 0 rfl ?_
    refine T.ldc2 (w := 47) dX11_levelOf_9 k1926 ?_
    refine T.lcmp dX11_levelOf_12 (fun x2 => ?_)
    refine T.if_eq (pc1 := 24) dX11_levelOf_13 (by decide) ?_ ?_
    · refine T.iconst (w := 3) dX11_levelOf_24 (by decide) ?_
      refine T.goto (pc1 := 69) dX11_levelOf_25 (by decide) ?_
      exact T.ret_i rfl dX11_levelOf_69
    · refine T.lload_n dX11_levelOf_16 rfl 0 rfl ?_
      refine T.ldc2 (w := 37) dX11_levelOf_17 k1927 ?_
      refine T.lcmp dX11_levelOf_20 (fun x3 => ?_)
      refine T.if_ne (pc1 := 28) dX11_levelOf_21 (by decide) ?_ ?_
      · refine T.lload_n dX11_levelOf_28 rfl 0 rfl ?_
        refine T.ldc2 (w := 43) dX11_levelOf_29 k1928 ?_
        refine T.lcmp dX11_levelOf_32 (fun x4 => ?_)
        refine T.if_eq (pc1 := 44) dX11_levelOf_33 (by decide) ?_ ?_
        · refine T.iconst (w := 2) dX11_levelOf_44 (by decide) ?_
          refine T.goto (pc1 := 69) dX11_levelOf_45 (by decide) ?_
          exact T.ret_i rfl dX11_levelOf_69
        · refine T.lload_n dX11_levelOf_36 rfl 0 rfl ?_
          refine T.ldc2 (w := 45) dX11_levelOf_37 k1881 ?_
          refine T.lcmp dX11_levelOf_40 (fun x5 => ?_)
          refine T.if_ne (pc1 := 48) dX11_levelOf_41 (by decide) ?_ ?_
          · refine T.lload_n dX11_levelOf_48 rfl 0 rfl ?_
            refine T.ldc2 (w := 60) dX11_levelOf_49 k1929 ?_
            refine T.lcmp dX11_levelOf_52 (fun x6 => ?_)
            refine T.if_eq (pc1 := 64) dX11_levelOf_53 (by decide) ?_ ?_
            · refine T.iconst (w := 1) dX11_levelOf_64 (by decide) ?_
              refine T.goto (pc1 := 69) dX11_levelOf_65 (by decide) ?_
              exact T.ret_i rfl dX11_levelOf_69
            · refine T.lload_n dX11_levelOf_56 rfl 0 rfl ?_
              refine T.ldc2 (w := 61) dX11_levelOf_57 k1930 ?_
              refine T.lcmp dX11_levelOf_60 (fun x7 => ?_)
              refine T.if_ne (pc1 := 68) dX11_levelOf_61 (by decide) ?_ ?_
              · refine T.iconst (w := 0) dX11_levelOf_68 (by decide) ?_
                exact T.ret_i rfl dX11_levelOf_69
              · refine T.iconst (w := 1) dX11_levelOf_64 (by decide) ?_
                refine T.goto (pc1 := 69) dX11_levelOf_65 (by decide) ?_
                exact T.ret_i rfl dX11_levelOf_69
          · refine T.iconst (w := 2) dX11_levelOf_44 (by decide) ?_
            refine T.goto (pc1 := 69) dX11_levelOf_45 (by decide) ?_
            exact T.ret_i rfl dX11_levelOf_69
      · refine T.iconst (w := 3) dX11_levelOf_24 (by decide) ?_
        refine T.goto (pc1 := 69) dX11_levelOf_25 (by decide) ?_
        exact T.ret_i rfl dX11_levelOf_69
abbrev R_second : Room := { frames := 10, cells := 0, slots := 0, locals := 150 }
noncomputable def f_second_0_s (r0 : Int32 → St → Option (Int32 × St)) (a1 : Int32) (X : St) : Option (Int32 × St) :=
  letV (X.1 0 22) fun x1 =>
  letV (x1 - (1 : Int32)) fun x2 =>
  chk (inR x2 400) (letV (X.1 35 (ix x2)) fun x3 =>
  if x3.toInt = 16 then
    letV (X.1 0 22) fun x4 =>
    letV (x4 - (1 : Int32)) fun x5 =>
    chk (inR x5 400) (letV (X.1 36 (ix x5)) fun x6 =>
    chk (inR x6 3100) (letV (X.1 26 (ix x6)) fun x7 =>
    letV (x7.toInt64) fun y8 =>
    bnd (f_levelOf y8 X) fun x9 X10 =>
    if x9.toInt < a1.toInt then
      some (0, X10)
    else
      letV (X10.1 0 22) fun x11 =>
      letV (x11 - (1 : Int32)) fun x12 =>
      letV (wI X10 0 22 x12) fun X13 =>
      letV (X13.1 0 22) fun x14 =>
      chk (inR x14 400) (letV (X13.1 36 (ix x14)) fun x15 =>
      letV (X13.1 0 24) fun x16 =>
      chk (inR x15 3100) (letV (wI X13 24 (ix x15) x16) fun X17 =>
      letV (wI X17 0 24 x15) fun X18 =>
      r0 a1 X18))))
  else
    some (0, X))
noncomputable def f_second_0 (n : Nat) : Int32 → St → Option (Int32 × St) := lp (fun _ _ => none) (f_second_0_s) n
set_option maxHeartbeats 4000000 in
set_option maxRecDepth 100000 in
theorem c_second_0 (Γ : Gx) (As : List Value) (n : Nat) : ∀ (a1 : Int32) (X : St), T YR Γ cX11_second 3 "BlameCourtModel" none R_second As qV 0 [(0, .ref (Γ.2.2.2.1 0)), (1, .int a1)] [] X (f_second_0 n a1 X) := by
  unfold f_second_0
  refine lp_ind (P := fun (r0 : Int32 → St → Option (Int32 × St)) => ∀ (a1 : Int32) (X : St), T YR Γ cX11_second 3 "BlameCourtModel" none R_second As qV 0 [(0, .ref (Γ.2.2.2.1 0)), (1, .int a1)] [] X (r0 a1 X)) (fun _ _ => T.no) ?_ n
  intro r0 hr0 a1 X
  unfold f_second_0_s
  refine T.aload_n dX11_second_0 rfl 0 rfl ?_
  refine cR82 k1423 dX11_second_1 ?_
  refine T.aload_n dX11_second_4 rfl 0 rfl ?_
  refine gR22 k1422 dX11_second_5 (fun x1 => ?_)
  refine T.iconst (w := 1) dX11_second_8 (by decide) ?_
  refine T.isub dX11_second_9 (fun x2 => ?_)
  refine alR35 dX11_second_10 (fun x3 => ?_)
  refine T.bipush (w := 16) dX11_second_11 (by decide) ?_
  refine T.icmp_ne (pc1 := 78) dX11_second_13 (by decide) rfl ?_ ?_
  · exact T.ret_v rfl dX11_second_78
  · refine T.aload_n dX11_second_16 rfl 0 rfl ?_
    refine cR73 k1411 dX11_second_17 ?_
    refine T.aload_n dX11_second_20 rfl 0 rfl ?_
    refine cR83 k1424 dX11_second_21 ?_
    refine T.aload_n dX11_second_24 rfl 0 rfl ?_
    refine gR22 k1422 dX11_second_25 (fun x4 => ?_)
    refine T.iconst (w := 1) dX11_second_28 (by decide) ?_
    refine T.isub dX11_second_29 (fun x5 => ?_)
    refine alR36 dX11_second_30 (fun x6 => ?_)
    refine alR26 dX11_second_31 (fun x7 => ?_)
    refine T.i2l dX11_second_32 (fun y8 => ?_)
    refine T.callS_i (As1 := [.long y8]) (rest := []) (c_levelOf Γ y8 X) ka_X11_levelOf k1923 k1922 rfl rfl rfl rfl ⟨Nat.le_of_ble_eq_true rfl, Nat.le_of_ble_eq_true rfl⟩ (Nat.le_of_ble_eq_true rfl) dX11_second_33 (fun x9 X10 => ?_)
    refine T.iload_n dX11_second_36 rfl 1 rfl ?_
    refine T.icmp_lt (pc1 := 78) dX11_second_37 (by decide) rfl ?_ ?_
    · exact T.ret_v rfl dX11_second_78
    · refine T.aload_n dX11_second_40 rfl 0 rfl ?_
      refine T.dupr dX11_second_41 ?_
      refine gR22 k1422 dX11_second_42 (fun x11 => ?_)
      refine T.iconst (w := 1) dX11_second_45 (by decide) ?_
      refine T.isub dX11_second_46 (fun x12 => ?_)
      refine pR22 k1422 dX11_second_47 (fun X13 => ?_)
      refine T.aload_n dX11_second_50 rfl 0 rfl ?_
      refine cR83 k1424 dX11_second_51 ?_
      refine T.aload_n dX11_second_54 rfl 0 rfl ?_
      refine gR22 k1422 dX11_second_55 (fun x14 => ?_)
      refine alR36 dX11_second_58 (fun x15 => ?_)
      refine T.istore_n (lv1 := [(2, .int x15), (0, .ref (Γ.2.2.2.1 0)), (1, .int a1)]) dX11_second_59 rfl (by decide) rfl ?_
      refine T.aload_n dX11_second_60 rfl 1 rfl ?_
      refine cR71 k1409 dX11_second_61 ?_
      refine T.iload_n dX11_second_64 rfl 0 rfl ?_
      refine T.aload_n dX11_second_65 rfl 1 rfl ?_
      refine gR24 k1429 dX11_second_66 (fun x16 => ?_)
      refine asR24 dX11_second_69 (fun X17 => ?_)
      refine T.aload_n dX11_second_70 rfl 1 rfl ?_
      refine T.iload_n dX11_second_71 rfl 0 rfl ?_
      refine pR24 k1429 dX11_second_72 (fun X18 => ?_)
      refine T.goto (pc1 := 0) dX11_second_75 (by decide) ?_
      refine T.sub [1, 2] rfl ?_
      exact hr0 a1 X18
noncomputable def f_second (p1 : Int32) (X : St) : Option (Int32 × St) :=
  f_second_0 BIG p1 X
set_option maxHeartbeats 4000000 in
set_option maxRecDepth 100000 in
theorem c_second (Γ : Gx) (p1 : Int32) (X : St) : TMV YR Γ yX11_second cX11_second 3 "BlameCourtModel" none R_second [.ref (Γ.2.2.2.1 0), .int p1] X (f_second p1 X) := by
  refine TMV.of (by decide) (Nat.le_of_ble_eq_true rfl) rfl ?_
  show T YR Γ cX11_second 3 "BlameCourtModel" none R_second _ qV 0 [(0, .ref (Γ.2.2.2.1 0)), (1, .int p1)] [] X (f_second p1 X)
  unfold f_second
  exact c_second_0 Γ _ BIG p1 X
abbrev R_word : Room := { frames := 22, cells := 0, slots := 0, locals := 330 }
noncomputable def f_word (p1 : Int32) (X : St) : Option (Int32 × St) :=
  bnd (f_isWord p1 X) fun x1 X2 =>
  if x1.toInt = 0 then
    bnd (f_stray X2) fun _ X3 =>
    some (0, X3)
  else
    bnd (f_next X2) fun _ X4 =>
    some (0, X4)
set_option maxHeartbeats 4000000 in
set_option maxRecDepth 100000 in
theorem c_word (Γ : Gx) (p1 : Int32) (X : St) : TMV YR Γ yX11_word cX11_word 2 "BlameCourtModel" none R_word [.ref (Γ.2.2.2.1 0), .int p1] X (f_word p1 X) := by
  refine TMV.of (by decide) (Nat.le_of_ble_eq_true rfl) rfl ?_
  show T YR Γ cX11_word 2 "BlameCourtModel" none R_word _ qV 0 [(0, .ref (Γ.2.2.2.1 0)), (1, .int p1)] [] X (f_word p1 X)
  unfold f_word
  refine T.aload_n dX11_word_0 rfl 0 rfl ?_
  refine T.iload_n dX11_word_1 rfl 1 rfl ?_
  refine T.callV_i 0 (As1 := [.int p1]) (rest := []) (c_isWord Γ p1 X) ka_X11_isWord kv_X11_isWord oR rfl k1804 rfl rfl rfl rfl ⟨Nat.le_of_ble_eq_true rfl, Nat.le_of_ble_eq_true rfl⟩ (Nat.le_of_ble_eq_true rfl) dX11_word_2 (fun x1 X2 => ?_)
  refine T.if_eq (pc1 := 15) dX11_word_5 (by decide) ?_ ?_
  · refine T.aload_n dX11_word_15 rfl 0 rfl ?_
    refine T.callV_v 0 (As1 := []) (rest := []) (c_stray Γ X2) ka_X11_stray kv_X11_stray oR rfl k1808 rfl rfl rfl rfl ⟨Nat.le_of_ble_eq_true rfl, Nat.le_of_ble_eq_true rfl⟩ (Nat.le_of_ble_eq_true rfl) dX11_word_16 (fun _ X3 => ?_)
    exact T.ret_v rfl dX11_word_19
  · refine T.aload_n dX11_word_8 rfl 0 rfl ?_
    refine T.callV_v 0 (As1 := []) (rest := []) (c_next Γ X2) ka_X11_next kv_X11_next oR rfl k1776 rfl rfl rfl rfl ⟨Nat.le_of_ble_eq_true rfl, Nat.le_of_ble_eq_true rfl⟩ (Nat.le_of_ble_eq_true rfl) dX11_word_9 (fun _ X4 => ?_)
    refine T.goto (pc1 := 19) dX11_word_12 (by decide) ?_
    exact T.ret_v rfl dX11_word_19
abbrev R_leaves : Room := { frames := 6, cells := 0, slots := 0, locals := 90 }
noncomputable def f_leaves (p1 : Int32) (X : St) : Option (Int32 × St) :=
  letV (X.1 0 21) fun x1 =>
  letV (x1 - (1 : Int32)) fun x2 =>
  letV (wI X 0 21 x2) fun X3 =>
  letV (X3.1 0 22) fun x4 =>
  letV (x4 - (1 : Int32)) fun x5 =>
  letV (wI X3 0 22 x5) fun X6 =>
  letV (wI X6 0 24 p1) fun X7 =>
  letV (wI X7 0 23 ((4 : Int32))) fun X8 =>
  some (0, X8)
set_option maxHeartbeats 4000000 in
set_option maxRecDepth 100000 in
theorem c_leaves (Γ : Gx) (p1 : Int32) (X : St) : TMV YR Γ yX11_leaves cX11_leaves 2 "BlameCourtModel" none R_leaves [.ref (Γ.2.2.2.1 0), .int p1] X (f_leaves p1 X) := by
  refine TMV.of (by decide) (Nat.le_of_ble_eq_true rfl) rfl ?_
  show T YR Γ cX11_leaves 2 "BlameCourtModel" none R_leaves _ qV 0 [(0, .ref (Γ.2.2.2.1 0)), (1, .int p1)] [] X (f_leaves p1 X)
  unfold f_leaves
  refine T.aload_n dX11_leaves_0 rfl 0 rfl ?_
  refine T.dupr dX11_leaves_1 ?_
  refine gR21 k1419 dX11_leaves_2 (fun x1 => ?_)
  refine T.iconst (w := 1) dX11_leaves_5 (by decide) ?_
  refine T.isub dX11_leaves_6 (fun x2 => ?_)
  refine pR21 k1419 dX11_leaves_7 (fun X3 => ?_)
  refine T.aload_n dX11_leaves_10 rfl 0 rfl ?_
  refine T.dupr dX11_leaves_11 ?_
  refine gR22 k1422 dX11_leaves_12 (fun x4 => ?_)
  refine T.iconst (w := 1) dX11_leaves_15 (by decide) ?_
  refine T.isub dX11_leaves_16 (fun x5 => ?_)
  refine pR22 k1422 dX11_leaves_17 (fun X6 => ?_)
  refine T.aload_n dX11_leaves_20 rfl 0 rfl ?_
  refine T.iload_n dX11_leaves_21 rfl 1 rfl ?_
  refine pR24 k1429 dX11_leaves_22 (fun X7 => ?_)
  refine T.aload_n dX11_leaves_25 rfl 0 rfl ?_
  refine T.iconst (w := 4) dX11_leaves_26 (by decide) ?_
  refine pR23 k1428 dX11_leaves_27 (fun X8 => ?_)
  exact T.ret_v rfl dX11_leaves_30
abbrev R_shuts : Room := { frames := 30, cells := 0, slots := 0, locals := 450 }
noncomputable def f_shuts (p1 : Int32) (p2 : Int32) (X : St) : Option (Int32 × St) :=
  bnd (f_closes p1 X) fun _ X1 =>
  letV (X1.1 0 22) fun x2 =>
  letV (x2 - (1 : Int32)) fun x3 =>
  letV (wI X1 0 22 x3) fun X4 =>
  bnd (f_done p2 X4) fun _ X5 =>
  some (0, X5)
set_option maxHeartbeats 4000000 in
set_option maxRecDepth 100000 in
theorem c_shuts (Γ : Gx) (p1 : Int32) (p2 : Int32) (X : St) : TMV YR Γ yX11_shuts cX11_shuts 3 "BlameCourtModel" none R_shuts [.ref (Γ.2.2.2.1 0), .int p1, .int p2] X (f_shuts p1 p2 X) := by
  refine TMV.of (by decide) (Nat.le_of_ble_eq_true rfl) rfl ?_
  show T YR Γ cX11_shuts 3 "BlameCourtModel" none R_shuts _ qV 0 [(0, .ref (Γ.2.2.2.1 0)), (1, .int p1), (2, .int p2)] [] X (f_shuts p1 p2 X)
  unfold f_shuts
  refine T.aload_n dX11_shuts_0 rfl 0 rfl ?_
  refine T.iload_n dX11_shuts_1 rfl 1 rfl ?_
  refine T.callV_v 0 (As1 := [.int p1]) (rest := []) (c_closes Γ p1 X) ka_X11_closes kv_X11_closes oR rfl k1832 rfl rfl rfl rfl ⟨Nat.le_of_ble_eq_true rfl, Nat.le_of_ble_eq_true rfl⟩ (Nat.le_of_ble_eq_true rfl) dX11_shuts_2 (fun _ X1 => ?_)
  refine T.aload_n dX11_shuts_5 rfl 0 rfl ?_
  refine T.dupr dX11_shuts_6 ?_
  refine gR22 k1422 dX11_shuts_7 (fun x2 => ?_)
  refine T.iconst (w := 1) dX11_shuts_10 (by decide) ?_
  refine T.isub dX11_shuts_11 (fun x3 => ?_)
  refine pR22 k1422 dX11_shuts_12 (fun X4 => ?_)
  refine T.aload_n dX11_shuts_15 rfl 0 rfl ?_
  refine T.iload_n dX11_shuts_16 rfl 2 rfl ?_
  refine T.callV_v 0 (As1 := [.int p2]) (rest := []) (c_done Γ p2 X4) ka_X11_done kv_X11_done oR rfl k1902 rfl rfl rfl rfl ⟨Nat.le_of_ble_eq_true rfl, Nat.le_of_ble_eq_true rfl⟩ (Nat.le_of_ble_eq_true rfl) dX11_shuts_17 (fun _ X5 => ?_)
  exact T.ret_v rfl dX11_shuts_20
abbrev R_add : Room := { frames := 6, cells := 0, slots := 0, locals := 90 }
noncomputable def f_add_45 (a1 : Int32) (a2 : Int32) (X : St) : Option (Int32 × St) :=
  letV (X.1 0 24) fun x6 =>
  chk (inR a1 400) (letV (wI X 37 (ix a1) x6) fun X7 =>
  chk (inR a2 3100) (letV (X7.1 27 (ix a2)) fun x8 =>
  letV (x8 + (1 : Int32)) fun x9 =>
  chk (inR a2 3100) (letV (wI X7 27 (ix a2) x9) fun X10 =>
  some (0, X10))))
set_option maxHeartbeats 4000000 in
set_option maxRecDepth 100000 in
theorem c_add_45 (Γ : Gx) (As : List Value) (a1 : Int32) (a2 : Int32) (X : St) : T YR Γ cX11_add 3 "BlameCourtModel" none R_add As qV 45 [(0, .ref (Γ.2.2.2.1 0)), (1, .int a1), (2, .int a2)] [] X (f_add_45 a1 a2 X) := by
  unfold f_add_45
  refine T.aload_n dX11_add_45 rfl 0 rfl ?_
  refine cR84 k1425 dX11_add_46 ?_
  refine T.iload_n dX11_add_49 rfl 1 rfl ?_
  refine T.aload_n dX11_add_50 rfl 0 rfl ?_
  refine gR24 k1429 dX11_add_51 (fun x6 => ?_)
  refine asR37 dX11_add_54 (fun X7 => ?_)
  refine T.aload_n dX11_add_55 rfl 0 rfl ?_
  refine cR74 k1412 dX11_add_56 ?_
  refine T.iload_n dX11_add_59 rfl 2 rfl ?_
  refine T.dup2 dX11_add_60 ?_
  refine alR27 dX11_add_61 (fun x8 => ?_)
  refine T.iconst (w := 1) dX11_add_62 (by decide) ?_
  refine T.iadd dX11_add_63 (fun x9 => ?_)
  refine asR27 dX11_add_64 (fun X10 => ?_)
  exact T.ret_v rfl dX11_add_65
noncomputable def f_add (p1 : Int32) (X : St) : Option (Int32 × St) :=
  chk (inR p1 400) (letV (X.1 36 (ix p1)) fun x1 =>
  chk (inR p1 400) (letV (X.1 37 (ix p1)) fun x2 =>
  if x2.toInt = -1 then
    letV (X.1 0 24) fun x11 =>
    chk (inR x1 3100) (letV (wI X 24 (ix x1) x11) fun X12 =>
    f_add_45 p1 x1 X12)
  else
    chk (inR p1 400) (letV (X.1 37 (ix p1)) fun x3 =>
    letV (X.1 0 24) fun x4 =>
    chk (inR x3 3100) (letV (wI X 28 (ix x3) x4) fun X5 =>
    f_add_45 p1 x1 X5))))
set_option maxHeartbeats 4000000 in
set_option maxRecDepth 100000 in
theorem c_add (Γ : Gx) (p1 : Int32) (X : St) : TMV YR Γ yX11_add cX11_add 3 "BlameCourtModel" none R_add [.ref (Γ.2.2.2.1 0), .int p1] X (f_add p1 X) := by
  refine TMV.of (by decide) (Nat.le_of_ble_eq_true rfl) rfl ?_
  show T YR Γ cX11_add 3 "BlameCourtModel" none R_add _ qV 0 [(0, .ref (Γ.2.2.2.1 0)), (1, .int p1)] [] X (f_add p1 X)
  unfold f_add
  refine T.aload_n dX11_add_0 rfl 0 rfl ?_
  refine cR83 k1424 dX11_add_1 ?_
  refine T.iload_n dX11_add_4 rfl 1 rfl ?_
  refine alR36 dX11_add_5 (fun x1 => ?_)
  refine T.istore_n (lv1 := [(2, .int x1), (0, .ref (Γ.2.2.2.1 0)), (1, .int p1)]) dX11_add_6 rfl (by decide) rfl ?_
  refine T.aload_n dX11_add_7 rfl 1 rfl ?_
  refine cR84 k1425 dX11_add_8 ?_
  refine T.iload_n dX11_add_11 rfl 2 rfl ?_
  refine alR37 dX11_add_12 (fun x2 => ?_)
  refine T.iconst (w := (-1)) dX11_add_13 (by decide) ?_
  refine T.icmp_ne (pc1 := 30) dX11_add_14 (by decide) rfl ?_ ?_
  · refine T.aload_n dX11_add_30 rfl 1 rfl ?_
    refine cR75 k1413 dX11_add_31 ?_
    refine T.aload_n dX11_add_34 rfl 1 rfl ?_
    refine cR84 k1425 dX11_add_35 ?_
    refine T.iload_n dX11_add_38 rfl 2 rfl ?_
    refine alR37 dX11_add_39 (fun x3 => ?_)
    refine T.aload_n dX11_add_40 rfl 1 rfl ?_
    refine gR24 k1429 dX11_add_41 (fun x4 => ?_)
    refine asR28 dX11_add_44 (fun X5 => ?_)
    refine T.sub [1, 2, 0] rfl ?_
    exact c_add_45 Γ _ p1 x1 X5
  · refine T.aload_n dX11_add_17 rfl 1 rfl ?_
    refine cR71 k1409 dX11_add_18 ?_
    refine T.iload_n dX11_add_21 rfl 0 rfl ?_
    refine T.aload_n dX11_add_22 rfl 1 rfl ?_
    refine gR24 k1429 dX11_add_23 (fun x11 => ?_)
    refine asR24 dX11_add_26 (fun X12 => ?_)
    refine T.goto (pc1 := 45) dX11_add_27 (by decide) ?_
    refine T.sub [1, 2, 0] rfl ?_
    exact c_add_45 Γ _ p1 x1 X12
abbrev R_endsWithin : Room := { frames := 34, cells := 0, slots := 0, locals := 510 }
noncomputable def f_endsWithin_291 (a2 : Int32) (b0 : Int32) (X : St) : Option (Int32 × St) :=
  bnd (f_shuts b0 a2 X) fun _ X40 =>
  some (0, X40)
set_option maxHeartbeats 4000000 in
set_option maxRecDepth 100000 in
theorem c_endsWithin_291 (Γ : Gx) (As : List Value) (a2 : Int32) (b0 : Int32) (X : St) : T YR Γ cX11_endsWithin 4 "BlameCourtModel" none R_endsWithin As qV 291 [(2, .int a2)] [.int b0, .ref (Γ.2.2.2.1 0)] X (f_endsWithin_291 a2 b0 X) := by
  unfold f_endsWithin_291
  refine T.iload_n dX11_endsWithin_291 rfl 0 rfl ?_
  refine T.callV_v 0 (As1 := [.int b0, .int a2]) (rest := []) (c_shuts Γ b0 a2 X) ka_X11_shuts kv_X11_shuts oR rfl k1951 rfl rfl rfl rfl ⟨Nat.le_of_ble_eq_true rfl, Nat.le_of_ble_eq_true rfl⟩ (Nat.le_of_ble_eq_true rfl) dX11_endsWithin_292 (fun _ X40 => ?_)
  exact T.ret_v rfl dX11_endsWithin_295
noncomputable def f_endsWithin_245 (a1 : Int32) (a2 : Int32) (a3 : Int32) (b0 : Int32) (X : St) : Option (Int32 × St) :=
  bnd (f_isSign b0 X) fun x37 X38 =>
  if x37.toInt = 0 then
    if a3.toInt = 0 then
      chk (inR a1 400) (letV (X38.1 35 (ix a1)) fun x39 =>
      if x39.toInt = 8 then
        f_endsWithin_291 a2 (93 : Int32) X38
      else
        f_endsWithin_291 a2 (41 : Int32) X38)
    else
      f_endsWithin_291 a2 (125 : Int32) X38
  else
    bnd (f_next X38) fun _ X41 =>
    letV (wI X41 0 23 ((0 : Int32))) fun X42 =>
    some (0, X42)
set_option maxHeartbeats 4000000 in
set_option maxRecDepth 100000 in
theorem c_endsWithin_245 (Γ : Gx) (As : List Value) (a1 : Int32) (a2 : Int32) (a3 : Int32) (b0 : Int32) (X : St) : T YR Γ cX11_endsWithin 4 "BlameCourtModel" none R_endsWithin As qV 245 [(0, .ref (Γ.2.2.2.1 0)), (1, .int a1), (2, .int a2), (3, .int a3)] [.int b0, .ref (Γ.2.2.2.1 0)] X (f_endsWithin_245 a1 a2 a3 b0 X) := by
  unfold f_endsWithin_245
  refine T.callV_i 0 (As1 := [.int b0]) (rest := []) (c_isSign Γ b0 X) ka_X11_isSign kv_X11_isSign oR rfl k1824 rfl rfl rfl rfl ⟨Nat.le_of_ble_eq_true rfl, Nat.le_of_ble_eq_true rfl⟩ (Nat.le_of_ble_eq_true rfl) dX11_endsWithin_245 (fun x37 X38 => ?_)
  refine T.if_eq (pc1 := 263) dX11_endsWithin_248 (by decide) ?_ ?_
  · refine T.aload_n dX11_endsWithin_263 rfl 0 rfl ?_
    refine T.iload_n dX11_endsWithin_264 rfl 3 rfl ?_
    refine T.if_eq (pc1 := 273) dX11_endsWithin_265 (by decide) ?_ ?_
    · refine T.aload_n dX11_endsWithin_273 rfl 0 rfl ?_
      refine cR82 k1423 dX11_endsWithin_274 ?_
      refine T.iload_n dX11_endsWithin_277 rfl 1 rfl ?_
      refine alR35 dX11_endsWithin_278 (fun x39 => ?_)
      refine T.bipush (w := 8) dX11_endsWithin_279 (by decide) ?_
      refine T.icmp_ne (pc1 := 289) dX11_endsWithin_281 (by decide) rfl ?_ ?_
      · refine T.bipush (w := 41) dX11_endsWithin_289 (by decide) ?_
        refine T.sub [2] rfl ?_
        exact c_endsWithin_291 Γ _ a2 (41 : Int32) X38
      · refine T.bipush (w := 93) dX11_endsWithin_284 (by decide) ?_
        refine T.goto (pc1 := 291) dX11_endsWithin_286 (by decide) ?_
        refine T.sub [2] rfl ?_
        exact c_endsWithin_291 Γ _ a2 (93 : Int32) X38
    · refine T.bipush (w := 125) dX11_endsWithin_268 (by decide) ?_
      refine T.goto (pc1 := 291) dX11_endsWithin_270 (by decide) ?_
      refine T.sub [2] rfl ?_
      exact c_endsWithin_291 Γ _ a2 (125 : Int32) X38
  · refine T.aload_n dX11_endsWithin_251 rfl 0 rfl ?_
    refine T.callV_v 0 (As1 := []) (rest := []) (c_next Γ X38) ka_X11_next kv_X11_next oR rfl k1776 rfl rfl rfl rfl ⟨Nat.le_of_ble_eq_true rfl, Nat.le_of_ble_eq_true rfl⟩ (Nat.le_of_ble_eq_true rfl) dX11_endsWithin_252 (fun _ X41 => ?_)
    refine T.aload_n dX11_endsWithin_255 rfl 0 rfl ?_
    refine T.iconst (w := 0) dX11_endsWithin_256 (by decide) ?_
    refine pR23 k1428 dX11_endsWithin_257 (fun X42 => ?_)
    refine T.goto (pc1 := 295) dX11_endsWithin_260 (by decide) ?_
    exact T.ret_v rfl dX11_endsWithin_295
noncomputable def f_endsWithin_232 (a1 : Int32) (a2 : Int32) (b0 : Int32) (X : St) : Option (Int32 × St) :=
  if b0.toInt = 0 then
    f_endsWithin_245 a1 a2 b0 (44 : Int32) X
  else
    f_endsWithin_245 a1 a2 b0 (59 : Int32) X
set_option maxHeartbeats 4000000 in
set_option maxRecDepth 100000 in
theorem c_endsWithin_232 (Γ : Gx) (As : List Value) (a1 : Int32) (a2 : Int32) (b0 : Int32) (X : St) : T YR Γ cX11_endsWithin 4 "BlameCourtModel" none R_endsWithin As qV 232 [(0, .ref (Γ.2.2.2.1 0)), (1, .int a1), (2, .int a2)] [.int b0] X (f_endsWithin_232 a1 a2 b0 X) := by
  unfold f_endsWithin_232
  refine T.istore_n (lv1 := [(3, .int b0), (0, .ref (Γ.2.2.2.1 0)), (1, .int a1), (2, .int a2)]) dX11_endsWithin_232 rfl (by decide) rfl ?_
  refine T.aload_n dX11_endsWithin_233 rfl 1 rfl ?_
  refine T.iload_n dX11_endsWithin_234 rfl 0 rfl ?_
  refine T.if_eq (pc1 := 243) dX11_endsWithin_235 (by decide) ?_ ?_
  · refine T.bipush (w := 44) dX11_endsWithin_243 (by decide) ?_
    refine T.sub [1, 2, 3, 0] rfl ?_
    exact c_endsWithin_245 Γ _ a1 a2 b0 (44 : Int32) X
  · refine T.bipush (w := 59) dX11_endsWithin_238 (by decide) ?_
    refine T.goto (pc1 := 245) dX11_endsWithin_240 (by decide) ?_
    refine T.sub [1, 2, 3, 0] rfl ?_
    exact c_endsWithin_245 Γ _ a1 a2 b0 (59 : Int32) X
noncomputable def f_endsWithin (p1 : Int32) (p2 : Int32) (X : St) : Option (Int32 × St) :=
  chk (inR p1 400) (letV (X.1 35 (ix p1)) fun x1 =>
  if x1.toInt = 6 then
    letV (X.1 0 24) fun x3 =>
    chk (inR p2 3100) (letV (wI X 23 (ix p2) x3) fun X4 =>
    bnd (f_shuts (41 : Int32) p2 X4) fun _ X5 =>
    some (0, X5))
  else if x1.toInt = 9 then
    letV (X.1 0 24) fun x7 =>
    chk (inR p2 3100) (letV (wI X 23 (ix p2) x7) fun X8 =>
    bnd (f_takes (44 : Int32) X8) fun _ X9 =>
    chk (inR p1 400) (letV (wI X9 35 (ix p1) (10 : Int32)) fun X10 =>
    letV (wI X10 0 23 ((0 : Int32))) fun X11 =>
    some (0, X11)))
  else if x1.toInt = 10 then
    letV (X.1 0 24) fun x13 =>
    chk (inR p2 3100) (letV (wI X 24 (ix p2) x13) fun X14 =>
    bnd (f_shuts (41 : Int32) p2 X14) fun _ X15 =>
    some (0, X15))
  else if x1.toInt = 11 then
    letV (X.1 0 24) fun x17 =>
    chk (inR p2 3100) (letV (wI X 23 (ix p2) x17) fun X18 =>
    bnd (f_shuts (41 : Int32) p2 X18) fun _ X19 =>
    some (0, X19))
  else if x1.toInt = 13 then
    letV (X.1 0 24) fun x21 =>
    chk (inR p2 3100) (letV (wI X 24 (ix p2) x21) fun X22 =>
    bnd (f_shuts (93 : Int32) p2 X22) fun _ X23 =>
    some (0, X23))
  else if x1.toInt = 14 then
    letV (X.1 0 24) fun x25 =>
    chk (inR p2 3100) (letV (wI X 25 (ix p2) x25) fun X26 =>
    letV (X26.1 0 21) fun x27 =>
    letV (x27 - (1 : Int32)) fun x28 =>
    letV (wI X26 0 21 x28) fun X29 =>
    letV (X29.1 0 22) fun x30 =>
    letV (x30 - (1 : Int32)) fun x31 =>
    letV (wI X29 0 22 x31) fun X32 =>
    letV (wI X32 0 24 p2) fun X33 =>
    letV (wI X33 0 23 ((3 : Int32))) fun X34 =>
    some (0, X34))
  else bnd (f_add p1 X) fun _ X35 =>
  chk (inR p1 400) (letV (X35.1 35 (ix p1)) fun x36 =>
  if x36.toInt = 7 then
    f_endsWithin_232 p1 p2 (1 : Int32) X35
  else
    f_endsWithin_232 p1 p2 (0 : Int32) X35))
set_option maxHeartbeats 4000000 in
set_option maxRecDepth 100000 in
theorem c_endsWithin (Γ : Gx) (p1 : Int32) (p2 : Int32) (X : St) : TMV YR Γ yX11_endsWithin cX11_endsWithin 4 "BlameCourtModel" none R_endsWithin [.ref (Γ.2.2.2.1 0), .int p1, .int p2] X (f_endsWithin p1 p2 X) := by
  refine TMV.of (by decide) (Nat.le_of_ble_eq_true rfl) rfl ?_
  show T YR Γ cX11_endsWithin 4 "BlameCourtModel" none R_endsWithin _ qV 0 [(0, .ref (Γ.2.2.2.1 0)), (1, .int p1), (2, .int p2)] [] X (f_endsWithin p1 p2 X)
  unfold f_endsWithin
  refine T.aload_n dX11_endsWithin_0 rfl 0 rfl ?_
  refine cR82 k1423 dX11_endsWithin_1 ?_
  refine T.iload_n dX11_endsWithin_4 rfl 1 rfl ?_
  refine alR35 dX11_endsWithin_5 (fun x1 => ?_)
  refine T.ite (fun s2 => ?_) (fun s2 => ?_)
  · refine T.tbl (pc1 := 56) dX11_endsWithin_6 (by decide) (off := 50) (by rw [s2]; rfl) (by decide) ?_
    refine T.aload_n dX11_endsWithin_56 rfl 0 rfl ?_
    refine cR70 k1408 dX11_endsWithin_57 ?_
    refine T.iload_n dX11_endsWithin_60 rfl 2 rfl ?_
    refine T.aload_n dX11_endsWithin_61 rfl 0 rfl ?_
    refine gR24 k1429 dX11_endsWithin_62 (fun x3 => ?_)
    refine asR23 dX11_endsWithin_65 (fun X4 => ?_)
    refine T.aload_n dX11_endsWithin_66 rfl 0 rfl ?_
    refine T.bipush (w := 41) dX11_endsWithin_67 (by decide) ?_
    refine T.iload_n dX11_endsWithin_69 rfl 2 rfl ?_
    refine T.callV_v 0 (As1 := [.int 41, .int p2]) (rest := []) (c_shuts Γ (41 : Int32) p2 X4) ka_X11_shuts kv_X11_shuts oR rfl k1951 rfl rfl rfl rfl ⟨Nat.le_of_ble_eq_true rfl, Nat.le_of_ble_eq_true rfl⟩ (Nat.le_of_ble_eq_true rfl) dX11_endsWithin_70 (fun _ X5 => ?_)
    refine T.goto (pc1 := 295) dX11_endsWithin_73 (by decide) ?_
    exact T.ret_v rfl dX11_endsWithin_295
  refine T.ite (fun s6 => ?_) (fun s6 => ?_)
  · refine T.tbl (pc1 := 96) dX11_endsWithin_6 (by decide) (off := 90) (by rw [s6]; rfl) (by decide) ?_
    refine T.aload_n dX11_endsWithin_96 rfl 0 rfl ?_
    refine cR70 k1408 dX11_endsWithin_97 ?_
    refine T.iload_n dX11_endsWithin_100 rfl 2 rfl ?_
    refine T.aload_n dX11_endsWithin_101 rfl 0 rfl ?_
    refine gR24 k1429 dX11_endsWithin_102 (fun x7 => ?_)
    refine asR23 dX11_endsWithin_105 (fun X8 => ?_)
    refine T.aload_n dX11_endsWithin_106 rfl 0 rfl ?_
    refine T.bipush (w := 44) dX11_endsWithin_107 (by decide) ?_
    refine T.callV_v 0 (As1 := [.int 44]) (rest := []) (c_takes Γ (44 : Int32) X8) ka_X11_takes kv_X11_takes oR rfl k1836 rfl rfl rfl rfl ⟨Nat.le_of_ble_eq_true rfl, Nat.le_of_ble_eq_true rfl⟩ (Nat.le_of_ble_eq_true rfl) dX11_endsWithin_109 (fun _ X9 => ?_)
    refine T.aload_n dX11_endsWithin_112 rfl 0 rfl ?_
    refine cR82 k1423 dX11_endsWithin_113 ?_
    refine T.iload_n dX11_endsWithin_116 rfl 1 rfl ?_
    refine T.bipush (w := 10) dX11_endsWithin_117 (by decide) ?_
    refine asR35 dX11_endsWithin_119 (fun X10 => ?_)
    refine T.aload_n dX11_endsWithin_120 rfl 0 rfl ?_
    refine T.iconst (w := 0) dX11_endsWithin_121 (by decide) ?_
    refine pR23 k1428 dX11_endsWithin_122 (fun X11 => ?_)
    refine T.goto (pc1 := 295) dX11_endsWithin_125 (by decide) ?_
    exact T.ret_v rfl dX11_endsWithin_295
  refine T.ite (fun s12 => ?_) (fun s12 => ?_)
  · refine T.tbl (pc1 := 128) dX11_endsWithin_6 (by decide) (off := 122) (by rw [s12]; rfl) (by decide) ?_
    refine T.aload_n dX11_endsWithin_128 rfl 0 rfl ?_
    refine cR71 k1409 dX11_endsWithin_129 ?_
    refine T.iload_n dX11_endsWithin_132 rfl 2 rfl ?_
    refine T.aload_n dX11_endsWithin_133 rfl 0 rfl ?_
    refine gR24 k1429 dX11_endsWithin_134 (fun x13 => ?_)
    refine asR24 dX11_endsWithin_137 (fun X14 => ?_)
    refine T.aload_n dX11_endsWithin_138 rfl 0 rfl ?_
    refine T.bipush (w := 41) dX11_endsWithin_139 (by decide) ?_
    refine T.iload_n dX11_endsWithin_141 rfl 2 rfl ?_
    refine T.callV_v 0 (As1 := [.int 41, .int p2]) (rest := []) (c_shuts Γ (41 : Int32) p2 X14) ka_X11_shuts kv_X11_shuts oR rfl k1951 rfl rfl rfl rfl ⟨Nat.le_of_ble_eq_true rfl, Nat.le_of_ble_eq_true rfl⟩ (Nat.le_of_ble_eq_true rfl) dX11_endsWithin_142 (fun _ X15 => ?_)
    refine T.goto (pc1 := 295) dX11_endsWithin_145 (by decide) ?_
    exact T.ret_v rfl dX11_endsWithin_295
  refine T.ite (fun s16 => ?_) (fun s16 => ?_)
  · refine T.tbl (pc1 := 76) dX11_endsWithin_6 (by decide) (off := 70) (by rw [s16]; rfl) (by decide) ?_
    refine T.aload_n dX11_endsWithin_76 rfl 0 rfl ?_
    refine cR70 k1408 dX11_endsWithin_77 ?_
    refine T.iload_n dX11_endsWithin_80 rfl 2 rfl ?_
    refine T.aload_n dX11_endsWithin_81 rfl 0 rfl ?_
    refine gR24 k1429 dX11_endsWithin_82 (fun x17 => ?_)
    refine asR23 dX11_endsWithin_85 (fun X18 => ?_)
    refine T.aload_n dX11_endsWithin_86 rfl 0 rfl ?_
    refine T.bipush (w := 41) dX11_endsWithin_87 (by decide) ?_
    refine T.iload_n dX11_endsWithin_89 rfl 2 rfl ?_
    refine T.callV_v 0 (As1 := [.int 41, .int p2]) (rest := []) (c_shuts Γ (41 : Int32) p2 X18) ka_X11_shuts kv_X11_shuts oR rfl k1951 rfl rfl rfl rfl ⟨Nat.le_of_ble_eq_true rfl, Nat.le_of_ble_eq_true rfl⟩ (Nat.le_of_ble_eq_true rfl) dX11_endsWithin_90 (fun _ X19 => ?_)
    refine T.goto (pc1 := 295) dX11_endsWithin_93 (by decide) ?_
    exact T.ret_v rfl dX11_endsWithin_295
  refine T.ite (fun s20 => ?_) (fun s20 => ?_)
  · refine T.tbl (pc1 := 148) dX11_endsWithin_6 (by decide) (off := 142) (by rw [s20]; rfl) (by decide) ?_
    refine T.aload_n dX11_endsWithin_148 rfl 0 rfl ?_
    refine cR71 k1409 dX11_endsWithin_149 ?_
    refine T.iload_n dX11_endsWithin_152 rfl 2 rfl ?_
    refine T.aload_n dX11_endsWithin_153 rfl 0 rfl ?_
    refine gR24 k1429 dX11_endsWithin_154 (fun x21 => ?_)
    refine asR24 dX11_endsWithin_157 (fun X22 => ?_)
    refine T.aload_n dX11_endsWithin_158 rfl 0 rfl ?_
    refine T.bipush (w := 93) dX11_endsWithin_159 (by decide) ?_
    refine T.iload_n dX11_endsWithin_161 rfl 2 rfl ?_
    refine T.callV_v 0 (As1 := [.int 93, .int p2]) (rest := []) (c_shuts Γ (93 : Int32) p2 X22) ka_X11_shuts kv_X11_shuts oR rfl k1951 rfl rfl rfl rfl ⟨Nat.le_of_ble_eq_true rfl, Nat.le_of_ble_eq_true rfl⟩ (Nat.le_of_ble_eq_true rfl) dX11_endsWithin_162 (fun _ X23 => ?_)
    refine T.goto (pc1 := 295) dX11_endsWithin_165 (by decide) ?_
    exact T.ret_v rfl dX11_endsWithin_295
  refine T.ite (fun s24 => ?_) (fun s24 => ?_)
  · refine T.tbl (pc1 := 168) dX11_endsWithin_6 (by decide) (off := 162) (by rw [s24]; rfl) (by decide) ?_
    refine T.aload_n dX11_endsWithin_168 rfl 0 rfl ?_
    refine cR72 k1410 dX11_endsWithin_169 ?_
    refine T.iload_n dX11_endsWithin_172 rfl 2 rfl ?_
    refine T.aload_n dX11_endsWithin_173 rfl 0 rfl ?_
    refine gR24 k1429 dX11_endsWithin_174 (fun x25 => ?_)
    refine asR25 dX11_endsWithin_177 (fun X26 => ?_)
    refine T.aload_n dX11_endsWithin_178 rfl 0 rfl ?_
    refine T.dupr dX11_endsWithin_179 ?_
    refine gR21 k1419 dX11_endsWithin_180 (fun x27 => ?_)
    refine T.iconst (w := 1) dX11_endsWithin_183 (by decide) ?_
    refine T.isub dX11_endsWithin_184 (fun x28 => ?_)
    refine pR21 k1419 dX11_endsWithin_185 (fun X29 => ?_)
    refine T.aload_n dX11_endsWithin_188 rfl 0 rfl ?_
    refine T.dupr dX11_endsWithin_189 ?_
    refine gR22 k1422 dX11_endsWithin_190 (fun x30 => ?_)
    refine T.iconst (w := 1) dX11_endsWithin_193 (by decide) ?_
    refine T.isub dX11_endsWithin_194 (fun x31 => ?_)
    refine pR22 k1422 dX11_endsWithin_195 (fun X32 => ?_)
    refine T.aload_n dX11_endsWithin_198 rfl 0 rfl ?_
    refine T.iload_n dX11_endsWithin_199 rfl 2 rfl ?_
    refine pR24 k1429 dX11_endsWithin_200 (fun X33 => ?_)
    refine T.aload_n dX11_endsWithin_203 rfl 0 rfl ?_
    refine T.iconst (w := 3) dX11_endsWithin_204 (by decide) ?_
    refine pR23 k1428 dX11_endsWithin_205 (fun X34 => ?_)
    refine T.goto (pc1 := 295) dX11_endsWithin_208 (by decide) ?_
    exact T.ret_v rfl dX11_endsWithin_295
  refine T.tbl (pc1 := 211) dX11_endsWithin_6 (by decide) (off := 205) (tbl_d [6, 9, 10, 11, 13, 14] (by intro q; simp only [List.mem_cons, List.not_mem_nil, or_false] at q; omega) (by decide)) (by decide) ?_
  refine T.aload_n dX11_endsWithin_211 rfl 0 rfl ?_
  refine T.iload_n dX11_endsWithin_212 rfl 1 rfl ?_
  refine T.callV_v 0 (As1 := [.int p1]) (rest := []) (c_add Γ p1 X) ka_X11_add kv_X11_add oR rfl k1955 rfl rfl rfl rfl ⟨Nat.le_of_ble_eq_true rfl, Nat.le_of_ble_eq_true rfl⟩ (Nat.le_of_ble_eq_true rfl) dX11_endsWithin_213 (fun _ X35 => ?_)
  refine T.aload_n dX11_endsWithin_216 rfl 0 rfl ?_
  refine cR82 k1423 dX11_endsWithin_217 ?_
  refine T.iload_n dX11_endsWithin_220 rfl 1 rfl ?_
  refine alR35 dX11_endsWithin_221 (fun x36 => ?_)
  refine T.bipush (w := 7) dX11_endsWithin_222 (by decide) ?_
  refine T.icmp_ne (pc1 := 231) dX11_endsWithin_224 (by decide) rfl ?_ ?_
  · refine T.iconst (w := 0) dX11_endsWithin_231 (by decide) ?_
    exact c_endsWithin_232 Γ _ p1 p2 (0 : Int32) X35
  · refine T.iconst (w := 1) dX11_endsWithin_227 (by decide) ?_
    refine T.goto (pc1 := 232) dX11_endsWithin_228 (by decide) ?_
    exact c_endsWithin_232 Γ _ p1 p2 (1 : Int32) X35
abbrev R_endsOne : Room := { frames := 38, cells := 0, slots := 0, locals := 570 }
noncomputable def f_endsOne (X : St) : Option (Int32 × St) :=
  letV (X.1 0 22) fun x1 =>
  letV (x1 - (1 : Int32)) fun x2 =>
  chk (inR x2 400) (letV (X.1 36 (ix x2)) fun x3 =>
  chk (inR x2 400) (letV (X.1 35 (ix x2)) fun x4 =>
  if x4.toInt = 0 then
    letV (X.1 0 22) fun x6 =>
    letV (x6 - (1 : Int32)) fun x7 =>
    letV (wI X 0 22 x7) fun X8 =>
    some (0, X8)
  else if x4.toInt = 1 then
    letV (X.1 0 24) fun x10 =>
    chk (inR x3 3100) (letV (wI X 23 (ix x3) x10) fun X11 =>
    bnd (f_word (2 : Int32) X11) fun _ X12 =>
    letV (X12.1 0 20) fun x13 =>
    chk (inR x3 3100) (letV (X12.2.1 29 (ix x3)) fun y14 =>
    chk (inR x13 60) (letV (wL X12 30 (ix x13) y14) fun X15 =>
    letV (X15.1 0 20) fun x16 =>
    chk (inR x3 3100) (letV (wI X15 26 (ix x3) x16) fun X17 =>
    letV (X17.1 0 20) fun x18 =>
    letV (x18 + (1 : Int32)) fun x19 =>
    letV (wI X17 0 20 x19) fun X20 =>
    chk (inR x2 400) (letV (wI X20 35 (ix x2) (2 : Int32)) fun X21 =>
    letV (wI X21 0 23 ((0 : Int32))) fun X22 =>
    some (0, X22))))))
  else if x4.toInt = 2 then
    letV (X.1 0 24) fun x24 =>
    chk (inR x3 3100) (letV (wI X 24 (ix x3) x24) fun X25 =>
    letV (X25.1 0 20) fun x26 =>
    letV (x26 - (1 : Int32)) fun x27 =>
    letV (wI X25 0 20 x27) fun X28 =>
    bnd (f_leaves x3 X28) fun _ X29 =>
    some (0, X29))
  else if x4.toInt = 3 then
    letV (X.1 0 24) fun x31 =>
    chk (inR x3 3100) (letV (wI X 23 (ix x3) x31) fun X32 =>
    bnd (f_word (4 : Int32) X32) fun _ X33 =>
    chk (inR x2 400) (letV (wI X33 35 (ix x2) (4 : Int32)) fun X34 =>
    letV (wI X34 0 23 ((0 : Int32))) fun X35 =>
    some (0, X35)))
  else if x4.toInt = 4 then
    letV (X.1 0 24) fun x37 =>
    chk (inR x3 3100) (letV (wI X 24 (ix x3) x37) fun X38 =>
    bnd (f_word (5 : Int32) X38) fun _ X39 =>
    chk (inR x2 400) (letV (wI X39 35 (ix x2) (5 : Int32)) fun X40 =>
    letV (wI X40 0 23 ((0 : Int32))) fun X41 =>
    some (0, X41)))
  else if x4.toInt = 5 then
    letV (X.1 0 24) fun x43 =>
    chk (inR x3 3100) (letV (wI X 25 (ix x3) x43) fun X44 =>
    bnd (f_leaves x3 X44) fun _ X45 =>
    some (0, X45))
  else bnd (f_endsWithin x2 x3 X) fun _ X46 =>
  some (0, X46)))
set_option maxHeartbeats 4000000 in
set_option maxRecDepth 100000 in
theorem c_endsOne (Γ : Gx) (X : St) : TMV YR Γ yX11_endsOne cX11_endsOne 3 "BlameCourtModel" none R_endsOne [.ref (Γ.2.2.2.1 0)] X (f_endsOne X) := by
  refine TMV.of (by decide) (Nat.le_of_ble_eq_true rfl) rfl ?_
  show T YR Γ cX11_endsOne 3 "BlameCourtModel" none R_endsOne _ qV 0 [(0, .ref (Γ.2.2.2.1 0))] [] X (f_endsOne X)
  unfold f_endsOne
  refine T.aload_n dX11_endsOne_0 rfl 0 rfl ?_
  refine gR22 k1422 dX11_endsOne_1 (fun x1 => ?_)
  refine T.iconst (w := 1) dX11_endsOne_4 (by decide) ?_
  refine T.isub dX11_endsOne_5 (fun x2 => ?_)
  refine T.istore_n (lv1 := [(1, .int x2), (0, .ref (Γ.2.2.2.1 0))]) dX11_endsOne_6 rfl (by decide) rfl ?_
  refine T.aload_n dX11_endsOne_7 rfl 1 rfl ?_
  refine cR83 k1424 dX11_endsOne_8 ?_
  refine T.iload_n dX11_endsOne_11 rfl 0 rfl ?_
  refine alR36 dX11_endsOne_12 (fun x3 => ?_)
  refine T.istore_n (lv1 := [(2, .int x3), (1, .int x2), (0, .ref (Γ.2.2.2.1 0))]) dX11_endsOne_13 rfl (by decide) rfl ?_
  refine T.aload_n dX11_endsOne_14 rfl 2 rfl ?_
  refine cR82 k1423 dX11_endsOne_15 ?_
  refine T.iload_n dX11_endsOne_18 rfl 1 rfl ?_
  refine alR35 dX11_endsOne_19 (fun x4 => ?_)
  refine T.ite (fun s5 => ?_) (fun s5 => ?_)
  · refine T.tbl (pc1 := 60) dX11_endsOne_20 (by decide) (off := 40) (by rw [s5]; rfl) (by decide) ?_
    refine T.aload_n dX11_endsOne_60 rfl 2 rfl ?_
    refine T.dupr dX11_endsOne_61 ?_
    refine gR22 k1422 dX11_endsOne_62 (fun x6 => ?_)
    refine T.iconst (w := 1) dX11_endsOne_65 (by decide) ?_
    refine T.isub dX11_endsOne_66 (fun x7 => ?_)
    refine pR22 k1422 dX11_endsOne_67 (fun X8 => ?_)
    refine T.goto (pc1 := 250) dX11_endsOne_70 (by decide) ?_
    exact T.ret_v rfl dX11_endsOne_250
  refine T.ite (fun s9 => ?_) (fun s9 => ?_)
  · refine T.tbl (pc1 := 73) dX11_endsOne_20 (by decide) (off := 53) (by rw [s9]; rfl) (by decide) ?_
    refine T.aload_n dX11_endsOne_73 rfl 2 rfl ?_
    refine cR70 k1408 dX11_endsOne_74 ?_
    refine T.iload_n dX11_endsOne_77 rfl 0 rfl ?_
    refine T.aload_n dX11_endsOne_78 rfl 2 rfl ?_
    refine gR24 k1429 dX11_endsOne_79 (fun x10 => ?_)
    refine asR23 dX11_endsOne_82 (fun X11 => ?_)
    refine T.aload_n dX11_endsOne_83 rfl 2 rfl ?_
    refine T.iconst (w := 2) dX11_endsOne_84 (by decide) ?_
    refine T.callV_v 0 (As1 := [.int 2]) (rest := []) (c_word Γ (2 : Int32) X11) ka_X11_word kv_X11_word oR rfl k1939 rfl rfl rfl rfl ⟨Nat.le_of_ble_eq_true rfl, Nat.le_of_ble_eq_true rfl⟩ (Nat.le_of_ble_eq_true rfl) dX11_endsOne_85 (fun _ X12 => ?_)
    refine T.aload_n dX11_endsOne_88 rfl 2 rfl ?_
    refine cR77 k1416 dX11_endsOne_89 ?_
    refine T.aload_n dX11_endsOne_92 rfl 2 rfl ?_
    refine gR20 k1415 dX11_endsOne_93 (fun x13 => ?_)
    refine T.aload_n dX11_endsOne_96 rfl 2 rfl ?_
    refine cR76 k1414 dX11_endsOne_97 ?_
    refine T.iload_n dX11_endsOne_100 rfl 0 rfl ?_
    refine alR29 dX11_endsOne_101 (fun y14 => ?_)
    refine asR30 dX11_endsOne_102 (fun X15 => ?_)
    refine T.aload_n dX11_endsOne_103 rfl 2 rfl ?_
    refine cR73 k1411 dX11_endsOne_104 ?_
    refine T.iload_n dX11_endsOne_107 rfl 0 rfl ?_
    refine T.aload_n dX11_endsOne_108 rfl 2 rfl ?_
    refine gR20 k1415 dX11_endsOne_109 (fun x16 => ?_)
    refine asR26 dX11_endsOne_112 (fun X17 => ?_)
    refine T.aload_n dX11_endsOne_113 rfl 2 rfl ?_
    refine T.dupr dX11_endsOne_114 ?_
    refine gR20 k1415 dX11_endsOne_115 (fun x18 => ?_)
    refine T.iconst (w := 1) dX11_endsOne_118 (by decide) ?_
    refine T.iadd dX11_endsOne_119 (fun x19 => ?_)
    refine pR20 k1415 dX11_endsOne_120 (fun X20 => ?_)
    refine T.aload_n dX11_endsOne_123 rfl 2 rfl ?_
    refine cR82 k1423 dX11_endsOne_124 ?_
    refine T.iload_n dX11_endsOne_127 rfl 1 rfl ?_
    refine T.iconst (w := 2) dX11_endsOne_128 (by decide) ?_
    refine asR35 dX11_endsOne_129 (fun X21 => ?_)
    refine T.aload_n dX11_endsOne_130 rfl 2 rfl ?_
    refine T.iconst (w := 0) dX11_endsOne_131 (by decide) ?_
    refine pR23 k1428 dX11_endsOne_132 (fun X22 => ?_)
    refine T.goto (pc1 := 250) dX11_endsOne_135 (by decide) ?_
    exact T.ret_v rfl dX11_endsOne_250
  refine T.ite (fun s23 => ?_) (fun s23 => ?_)
  · refine T.tbl (pc1 := 138) dX11_endsOne_20 (by decide) (off := 118) (by rw [s23]; rfl) (by decide) ?_
    refine T.aload_n dX11_endsOne_138 rfl 2 rfl ?_
    refine cR71 k1409 dX11_endsOne_139 ?_
    refine T.iload_n dX11_endsOne_142 rfl 0 rfl ?_
    refine T.aload_n dX11_endsOne_143 rfl 2 rfl ?_
    refine gR24 k1429 dX11_endsOne_144 (fun x24 => ?_)
    refine asR24 dX11_endsOne_147 (fun X25 => ?_)
    refine T.aload_n dX11_endsOne_148 rfl 2 rfl ?_
    refine T.dupr dX11_endsOne_149 ?_
    refine gR20 k1415 dX11_endsOne_150 (fun x26 => ?_)
    refine T.iconst (w := 1) dX11_endsOne_153 (by decide) ?_
    refine T.isub dX11_endsOne_154 (fun x27 => ?_)
    refine pR20 k1415 dX11_endsOne_155 (fun X28 => ?_)
    refine T.aload_n dX11_endsOne_158 rfl 2 rfl ?_
    refine T.iload_n dX11_endsOne_159 rfl 0 rfl ?_
    refine T.callV_v 0 (As1 := [.int x3]) (rest := []) (c_leaves Γ x3 X28) ka_X11_leaves kv_X11_leaves oR rfl k1943 rfl rfl rfl rfl ⟨Nat.le_of_ble_eq_true rfl, Nat.le_of_ble_eq_true rfl⟩ (Nat.le_of_ble_eq_true rfl) dX11_endsOne_160 (fun _ X29 => ?_)
    refine T.goto (pc1 := 250) dX11_endsOne_163 (by decide) ?_
    exact T.ret_v rfl dX11_endsOne_250
  refine T.ite (fun s30 => ?_) (fun s30 => ?_)
  · refine T.tbl (pc1 := 166) dX11_endsOne_20 (by decide) (off := 146) (by rw [s30]; rfl) (by decide) ?_
    refine T.aload_n dX11_endsOne_166 rfl 2 rfl ?_
    refine cR70 k1408 dX11_endsOne_167 ?_
    refine T.iload_n dX11_endsOne_170 rfl 0 rfl ?_
    refine T.aload_n dX11_endsOne_171 rfl 2 rfl ?_
    refine gR24 k1429 dX11_endsOne_172 (fun x31 => ?_)
    refine asR23 dX11_endsOne_175 (fun X32 => ?_)
    refine T.aload_n dX11_endsOne_176 rfl 2 rfl ?_
    refine T.iconst (w := 4) dX11_endsOne_177 (by decide) ?_
    refine T.callV_v 0 (As1 := [.int 4]) (rest := []) (c_word Γ (4 : Int32) X32) ka_X11_word kv_X11_word oR rfl k1939 rfl rfl rfl rfl ⟨Nat.le_of_ble_eq_true rfl, Nat.le_of_ble_eq_true rfl⟩ (Nat.le_of_ble_eq_true rfl) dX11_endsOne_178 (fun _ X33 => ?_)
    refine T.aload_n dX11_endsOne_181 rfl 2 rfl ?_
    refine cR82 k1423 dX11_endsOne_182 ?_
    refine T.iload_n dX11_endsOne_185 rfl 1 rfl ?_
    refine T.iconst (w := 4) dX11_endsOne_186 (by decide) ?_
    refine asR35 dX11_endsOne_187 (fun X34 => ?_)
    refine T.aload_n dX11_endsOne_188 rfl 2 rfl ?_
    refine T.iconst (w := 0) dX11_endsOne_189 (by decide) ?_
    refine pR23 k1428 dX11_endsOne_190 (fun X35 => ?_)
    refine T.goto (pc1 := 250) dX11_endsOne_193 (by decide) ?_
    exact T.ret_v rfl dX11_endsOne_250
  refine T.ite (fun s36 => ?_) (fun s36 => ?_)
  · refine T.tbl (pc1 := 196) dX11_endsOne_20 (by decide) (off := 176) (by rw [s36]; rfl) (by decide) ?_
    refine T.aload_n dX11_endsOne_196 rfl 2 rfl ?_
    refine cR71 k1409 dX11_endsOne_197 ?_
    refine T.iload_n dX11_endsOne_200 rfl 0 rfl ?_
    refine T.aload_n dX11_endsOne_201 rfl 2 rfl ?_
    refine gR24 k1429 dX11_endsOne_202 (fun x37 => ?_)
    refine asR24 dX11_endsOne_205 (fun X38 => ?_)
    refine T.aload_n dX11_endsOne_206 rfl 2 rfl ?_
    refine T.iconst (w := 5) dX11_endsOne_207 (by decide) ?_
    refine T.callV_v 0 (As1 := [.int 5]) (rest := []) (c_word Γ (5 : Int32) X38) ka_X11_word kv_X11_word oR rfl k1939 rfl rfl rfl rfl ⟨Nat.le_of_ble_eq_true rfl, Nat.le_of_ble_eq_true rfl⟩ (Nat.le_of_ble_eq_true rfl) dX11_endsOne_208 (fun _ X39 => ?_)
    refine T.aload_n dX11_endsOne_211 rfl 2 rfl ?_
    refine cR82 k1423 dX11_endsOne_212 ?_
    refine T.iload_n dX11_endsOne_215 rfl 1 rfl ?_
    refine T.iconst (w := 5) dX11_endsOne_216 (by decide) ?_
    refine asR35 dX11_endsOne_217 (fun X40 => ?_)
    refine T.aload_n dX11_endsOne_218 rfl 2 rfl ?_
    refine T.iconst (w := 0) dX11_endsOne_219 (by decide) ?_
    refine pR23 k1428 dX11_endsOne_220 (fun X41 => ?_)
    refine T.goto (pc1 := 250) dX11_endsOne_223 (by decide) ?_
    exact T.ret_v rfl dX11_endsOne_250
  refine T.ite (fun s42 => ?_) (fun s42 => ?_)
  · refine T.tbl (pc1 := 226) dX11_endsOne_20 (by decide) (off := 206) (by rw [s42]; rfl) (by decide) ?_
    refine T.aload_n dX11_endsOne_226 rfl 2 rfl ?_
    refine cR72 k1410 dX11_endsOne_227 ?_
    refine T.iload_n dX11_endsOne_230 rfl 0 rfl ?_
    refine T.aload_n dX11_endsOne_231 rfl 2 rfl ?_
    refine gR24 k1429 dX11_endsOne_232 (fun x43 => ?_)
    refine asR25 dX11_endsOne_235 (fun X44 => ?_)
    refine T.aload_n dX11_endsOne_236 rfl 2 rfl ?_
    refine T.iload_n dX11_endsOne_237 rfl 0 rfl ?_
    refine T.callV_v 0 (As1 := [.int x3]) (rest := []) (c_leaves Γ x3 X44) ka_X11_leaves kv_X11_leaves oR rfl k1943 rfl rfl rfl rfl ⟨Nat.le_of_ble_eq_true rfl, Nat.le_of_ble_eq_true rfl⟩ (Nat.le_of_ble_eq_true rfl) dX11_endsOne_238 (fun _ X45 => ?_)
    refine T.goto (pc1 := 250) dX11_endsOne_241 (by decide) ?_
    exact T.ret_v rfl dX11_endsOne_250
  refine T.tbl (pc1 := 244) dX11_endsOne_20 (by decide) (off := 224) (tbl_d [0, 1, 2, 3, 4, 5] (by intro q; simp only [List.mem_cons, List.not_mem_nil, or_false] at q; omega) (by decide)) (by decide) ?_
  refine T.aload_n dX11_endsOne_244 rfl 2 rfl ?_
  refine T.iload_n dX11_endsOne_245 rfl 1 rfl ?_
  refine T.iload_n dX11_endsOne_246 rfl 0 rfl ?_
  refine T.callV_v 0 (As1 := [.int x2, .int x3]) (rest := []) (c_endsWithin Γ x2 x3 X) ka_X11_endsWithin kv_X11_endsWithin oR rfl k1947 rfl rfl rfl rfl ⟨Nat.le_of_ble_eq_true rfl, Nat.le_of_ble_eq_true rfl⟩ (Nat.le_of_ble_eq_true rfl) dX11_endsOne_247 (fun _ X46 => ?_)
  exact T.ret_v rfl dX11_endsOne_250
abbrev R_signs : Room := { frames := 42, cells := 0, slots := 0, locals := 630 }
noncomputable def f_signs_144 (X : St) : Option (Int32 × St) :=
  bnd (f_second (1 : Int32) X) fun _ X6 =>
  bnd (f_endsOne X6) fun _ X7 =>
  some (0, X7)
set_option maxHeartbeats 4000000 in
set_option maxRecDepth 100000 in
theorem c_signs_144 (Γ : Gx) (As : List Value) (X : St) : T YR Γ cX11_signs 5 "BlameCourtModel" none R_signs As qV 144 [(0, .ref (Γ.2.2.2.1 0))] [] X (f_signs_144 X) := by
  unfold f_signs_144
  refine T.aload_n dX11_signs_144 rfl 0 rfl ?_
  refine T.iconst (w := 1) dX11_signs_145 (by decide) ?_
  refine T.callV_v 0 (As1 := [.int 1]) (rest := []) (c_second Γ (1 : Int32) X) ka_X11_second kv_X11_second oR rfl k1931 rfl rfl rfl rfl ⟨Nat.le_of_ble_eq_true rfl, Nat.le_of_ble_eq_true rfl⟩ (Nat.le_of_ble_eq_true rfl) dX11_signs_146 (fun _ X6 => ?_)
  refine T.aload_n dX11_signs_149 rfl 0 rfl ?_
  refine T.callV_v 0 (As1 := []) (rest := []) (c_endsOne Γ X6) ka_X11_endsOne kv_X11_endsOne oR rfl k1935 rfl rfl rfl rfl ⟨Nat.le_of_ble_eq_true rfl, Nat.le_of_ble_eq_true rfl⟩ (Nat.le_of_ble_eq_true rfl) dX11_signs_150 (fun _ X7 => ?_)
  exact T.ret_v rfl dX11_signs_153
noncomputable def f_signs_284 (a4 : Int32) (X : St) : Option (Int32 × St) :=
  bnd (f_enter (16 : Int32) a4 X) fun _ X20 =>
  bnd (f_next X20) fun _ X21 =>
  letV (wI X21 0 23 ((1 : Int32))) fun X22 =>
  some (0, X22)
set_option maxHeartbeats 4000000 in
set_option maxRecDepth 100000 in
theorem c_signs_284 (Γ : Gx) (As : List Value) (a4 : Int32) (X : St) : T YR Γ cX11_signs 5 "BlameCourtModel" none R_signs As qV 284 [(0, .ref (Γ.2.2.2.1 0)), (4, .int a4)] [] X (f_signs_284 a4 X) := by
  unfold f_signs_284
  refine T.aload_n dX11_signs_284 rfl 0 rfl ?_
  refine T.bipush (w := 16) dX11_signs_285 (by decide) ?_
  refine T.iload dX11_signs_287 1 rfl ?_
  refine T.callV_v 0 (As1 := [.int 16, .int a4]) (rest := []) (c_enter Γ (16 : Int32) a4 X) ka_X11_enter kv_X11_enter oR rfl k1864 rfl rfl rfl rfl ⟨Nat.le_of_ble_eq_true rfl, Nat.le_of_ble_eq_true rfl⟩ (Nat.le_of_ble_eq_true rfl) dX11_signs_289 (fun _ X20 => ?_)
  refine T.aload_n dX11_signs_292 rfl 0 rfl ?_
  refine T.callV_v 0 (As1 := []) (rest := []) (c_next Γ X20) ka_X11_next kv_X11_next oR rfl k1776 rfl rfl rfl rfl ⟨Nat.le_of_ble_eq_true rfl, Nat.le_of_ble_eq_true rfl⟩ (Nat.le_of_ble_eq_true rfl) dX11_signs_293 (fun _ X21 => ?_)
  refine T.aload_n dX11_signs_296 rfl 0 rfl ?_
  refine T.iconst (w := 1) dX11_signs_297 (by decide) ?_
  refine pR23 k1428 dX11_signs_298 (fun X22 => ?_)
  exact T.ret_v rfl dX11_signs_301
noncomputable def f_signs_262 (a4 : Int32) (b0 : Int32) (b1 : Int32) (X : St) : Option (Int32 × St) :=
  chk (inR b1 3100) (letV (wI X 39 (ix b1) b0) fun X18 =>
  chk (inR a4 3100) (letV (X18.1 39 (ix a4)) fun x19 =>
  if x19.toInt ≤ 40 then
    f_signs_284 a4 X18
  else
    letV (X18.1 0 6) fun x23 =>
    bnd (f_fails (3 : Int32) x23 X18) fun _ X24 =>
    f_signs_284 a4 X24))
set_option maxHeartbeats 4000000 in
set_option maxRecDepth 100000 in
theorem c_signs_262 (Γ : Gx) (As : List Value) (a4 : Int32) (b0 : Int32) (b1 : Int32) (X : St) : T YR Γ cX11_signs 5 "BlameCourtModel" none R_signs As qV 262 [(0, .ref (Γ.2.2.2.1 0)), (4, .int a4)] [.int b0, .int b1, .ref (Γ.2.2.2.1 39)] X (f_signs_262 a4 b0 b1 X) := by
  unfold f_signs_262
  refine asR39 dX11_signs_262 (fun X18 => ?_)
  refine T.aload_n dX11_signs_263 rfl 0 rfl ?_
  refine cR86 k1427 dX11_signs_264 ?_
  refine T.iload dX11_signs_267 1 rfl ?_
  refine alR39 dX11_signs_269 (fun x19 => ?_)
  refine T.bipush (w := 40) dX11_signs_270 (by decide) ?_
  refine T.icmp_le (pc1 := 284) dX11_signs_272 (by decide) rfl ?_ ?_
  · exact c_signs_284 Γ _ a4 X18
  · refine T.aload_n dX11_signs_275 rfl 0 rfl ?_
    refine T.iconst (w := 3) dX11_signs_276 (by decide) ?_
    refine T.aload_n dX11_signs_277 rfl 0 rfl ?_
    refine gR6 k1374 dX11_signs_278 (fun x23 => ?_)
    refine T.callV_v 0 (As1 := [.int 3, .int x23]) (rest := []) (c_fails Γ (3 : Int32) x23 X18) ka_X11_fails kv_X11_fails oR rfl k1812 rfl rfl rfl rfl ⟨Nat.le_of_ble_eq_true rfl, Nat.le_of_ble_eq_true rfl⟩ (Nat.le_of_ble_eq_true rfl) dX11_signs_281 (fun _ X24 => ?_)
    exact c_signs_284 Γ _ a4 X24
noncomputable def f_signs_261 (a4 : Int32) (b0 : Int32) (X : St) : Option (Int32 × St) :=
  f_signs_262 a4 (1 : Int32) b0 X
set_option maxHeartbeats 4000000 in
set_option maxRecDepth 100000 in
theorem c_signs_261 (Γ : Gx) (As : List Value) (a4 : Int32) (b0 : Int32) (X : St) : T YR Γ cX11_signs 5 "BlameCourtModel" none R_signs As qV 261 [(0, .ref (Γ.2.2.2.1 0)), (4, .int a4)] [.int b0, .ref (Γ.2.2.2.1 39)] X (f_signs_261 a4 b0 X) := by
  unfold f_signs_261
  refine T.iconst (w := 1) dX11_signs_261 (by decide) ?_
  exact c_signs_262 Γ _ a4 (1 : Int32) b0 X
noncomputable def f_signs_172 (a1 : Int32) (a3 : Int32) (b0 : Int32) (X : St) : Option (Int32 × St) :=
  chk (inR a3 3100) (letV (X.1 21 (ix a3)) fun x9 =>
  bnd (f_make b0 x9 X) fun x10 X11 =>
  letV (X11.1 0 6) fun x12 =>
  chk (inR x10 3100) (letV (wI X11 22 (ix x10) x12) fun X13 =>
  letV (X13.2.1 0 47) fun y14 =>
  letV (y14.toInt32) fun x15 =>
  chk (inR x10 3100) (letV (wI X13 26 (ix x10) x15) fun X16 =>
  chk (inR x10 3100) (letV (wI X16 23 (ix x10) a3) fun X17 =>
  if a1.toInt ≤ 1 then
    f_signs_261 x10 x10 X17
  else
    chk (inR a3 3100) (letV (X17.1 20 (ix a3)) fun x25 =>
    if x25.toInt = 14 then
      chk (inR a3 3100) (letV (X17.1 26 (ix a3)) fun x26 =>
      letV (x26.toInt64) fun y27 =>
      bnd (f_levelOf y27 X17) fun x28 X29 =>
      if x28.toInt = a1.toInt then
        chk (inR a3 3100) (letV (X29.1 39 (ix a3)) fun x30 =>
        letV (x30 + (1 : Int32)) fun x31 =>
        f_signs_262 x10 x31 x10 X29)
      else
        f_signs_261 x10 x10 X29)
    else
      f_signs_261 x10 x10 X17)))))
set_option maxHeartbeats 4000000 in
set_option maxRecDepth 100000 in
theorem c_signs_172 (Γ : Gx) (As : List Value) (a1 : Int32) (a3 : Int32) (b0 : Int32) (X : St) : T YR Γ cX11_signs 5 "BlameCourtModel" none R_signs As qV 172 [(0, .ref (Γ.2.2.2.1 0)), (1, .int a1), (3, .int a3)] [.int b0, .ref (Γ.2.2.2.1 0)] X (f_signs_172 a1 a3 b0 X) := by
  unfold f_signs_172
  refine T.aload_n dX11_signs_172 rfl 0 rfl ?_
  refine cR68 k1406 dX11_signs_173 ?_
  refine T.iload_n dX11_signs_176 rfl 2 rfl ?_
  refine alR21 dX11_signs_177 (fun x9 => ?_)
  refine T.callV_i 0 (As1 := [.int b0, .int x9]) (rest := []) (c_make Γ b0 x9 X) ka_X11_make kv_X11_make oR rfl k1890 rfl rfl rfl rfl ⟨Nat.le_of_ble_eq_true rfl, Nat.le_of_ble_eq_true rfl⟩ (Nat.le_of_ble_eq_true rfl) dX11_signs_178 (fun x10 X11 => ?_)
  refine T.istore (lv1 := [(4, .int x10), (0, .ref (Γ.2.2.2.1 0)), (1, .int a1), (3, .int a3)]) dX11_signs_181 (by decide) rfl ?_
  refine T.aload_n dX11_signs_183 rfl 1 rfl ?_
  refine cR69 k1407 dX11_signs_184 ?_
  refine T.iload dX11_signs_187 0 rfl ?_
  refine T.aload_n dX11_signs_189 rfl 1 rfl ?_
  refine gR6 k1374 dX11_signs_190 (fun x12 => ?_)
  refine asR22 dX11_signs_193 (fun X13 => ?_)
  refine T.aload_n dX11_signs_194 rfl 1 rfl ?_
  refine cR73 k1411 dX11_signs_195 ?_
  refine T.iload dX11_signs_198 0 rfl ?_
  refine T.aload_n dX11_signs_200 rfl 1 rfl ?_
  refine gR47 k1376 dX11_signs_201 (fun y14 => ?_)
  refine T.l2i dX11_signs_204 (fun x15 => ?_)
  refine asR26 dX11_signs_205 (fun X16 => ?_)
  refine T.aload_n dX11_signs_206 rfl 1 rfl ?_
  refine cR70 k1408 dX11_signs_207 ?_
  refine T.iload dX11_signs_210 0 rfl ?_
  refine T.iload_n dX11_signs_212 rfl 3 rfl ?_
  refine asR23 dX11_signs_213 (fun X17 => ?_)
  refine T.aload_n dX11_signs_214 rfl 1 rfl ?_
  refine cR86 k1427 dX11_signs_215 ?_
  refine T.iload dX11_signs_218 0 rfl ?_
  refine T.iload_n dX11_signs_220 rfl 2 rfl ?_
  refine T.iconst (w := 1) dX11_signs_221 (by decide) ?_
  refine T.icmp_le (pc1 := 261) dX11_signs_222 (by decide) rfl ?_ ?_
  · refine T.sub [1, 0] rfl ?_
    exact c_signs_261 Γ _ x10 x10 X17
  · refine T.aload_n dX11_signs_225 rfl 1 rfl ?_
    refine cR67 k1405 dX11_signs_226 ?_
    refine T.iload_n dX11_signs_229 rfl 3 rfl ?_
    refine alR20 dX11_signs_230 (fun x25 => ?_)
    refine T.bipush (w := 14) dX11_signs_231 (by decide) ?_
    refine T.icmp_ne (pc1 := 261) dX11_signs_233 (by decide) rfl ?_ ?_
    · refine T.sub [1, 0] rfl ?_
      exact c_signs_261 Γ _ x10 x10 X17
    · refine T.aload_n dX11_signs_236 rfl 1 rfl ?_
      refine cR73 k1411 dX11_signs_237 ?_
      refine T.iload_n dX11_signs_240 rfl 3 rfl ?_
      refine alR26 dX11_signs_241 (fun x26 => ?_)
      refine T.i2l dX11_signs_242 (fun y27 => ?_)
      refine T.callS_i (As1 := [.long y27]) (rest := [.int x10, .ref (Γ.2.2.2.1 39)]) (c_levelOf Γ y27 X17) ka_X11_levelOf k1923 k1922 rfl rfl rfl rfl ⟨Nat.le_of_ble_eq_true rfl, Nat.le_of_ble_eq_true rfl⟩ (Nat.le_of_ble_eq_true rfl) dX11_signs_243 (fun x28 X29 => ?_)
      refine T.iload_n dX11_signs_246 rfl 2 rfl ?_
      refine T.icmp_ne (pc1 := 261) dX11_signs_247 (by decide) rfl ?_ ?_
      · refine T.sub [1, 0] rfl ?_
        exact c_signs_261 Γ _ x10 x10 X29
      · refine T.aload_n dX11_signs_250 rfl 1 rfl ?_
        refine cR86 k1427 dX11_signs_251 ?_
        refine T.iload_n dX11_signs_254 rfl 3 rfl ?_
        refine alR39 dX11_signs_255 (fun x30 => ?_)
        refine T.iconst (w := 1) dX11_signs_256 (by decide) ?_
        refine T.iadd dX11_signs_257 (fun x31 => ?_)
        refine T.goto (pc1 := 262) dX11_signs_258 (by decide) ?_
        refine T.sub [1, 0] rfl ?_
        exact c_signs_262 Γ _ x10 x31 x10 X29
noncomputable def f_signs_135 (a1 : Int32) (b0 : Int32) (X : St) : Option (Int32 × St) :=
  if a1.toInt = 0 then
    f_signs_144 X
  else
    if b0.toInt = 0 then
      letV (X.1 0 24) fun x8 =>
      if a1.toInt = 1 then
        f_signs_172 a1 x8 (15 : Int32) X
      else
        f_signs_172 a1 x8 (14 : Int32) X
    else
      f_signs_144 X
set_option maxHeartbeats 4000000 in
set_option maxRecDepth 100000 in
theorem c_signs_135 (Γ : Gx) (As : List Value) (a1 : Int32) (b0 : Int32) (X : St) : T YR Γ cX11_signs 5 "BlameCourtModel" none R_signs As qV 135 [(0, .ref (Γ.2.2.2.1 0)), (1, .int a1)] [.int b0] X (f_signs_135 a1 b0 X) := by
  unfold f_signs_135
  refine T.istore_n (lv1 := [(2, .int b0), (0, .ref (Γ.2.2.2.1 0)), (1, .int a1)]) dX11_signs_135 rfl (by decide) rfl ?_
  refine T.iload_n dX11_signs_136 rfl 2 rfl ?_
  refine T.if_eq (pc1 := 144) dX11_signs_137 (by decide) ?_ ?_
  · refine T.sub [1] rfl ?_
    exact c_signs_144 Γ _ X
  · refine T.iload_n dX11_signs_140 rfl 0 rfl ?_
    refine T.if_eq (pc1 := 154) dX11_signs_141 (by decide) ?_ ?_
    · refine T.aload_n dX11_signs_154 rfl 1 rfl ?_
      refine gR24 k1429 dX11_signs_155 (fun x8 => ?_)
      refine T.istore_n (lv1 := [(3, .int x8), (2, .int b0), (0, .ref (Γ.2.2.2.1 0)), (1, .int a1)]) dX11_signs_158 rfl (by decide) rfl ?_
      refine T.aload_n dX11_signs_159 rfl 2 rfl ?_
      refine T.iload_n dX11_signs_160 rfl 3 rfl ?_
      refine T.iconst (w := 1) dX11_signs_161 (by decide) ?_
      refine T.icmp_ne (pc1 := 170) dX11_signs_162 (by decide) rfl ?_ ?_
      · refine T.bipush (w := 14) dX11_signs_170 (by decide) ?_
        refine T.sub [2, 3, 0] rfl ?_
        exact c_signs_172 Γ _ a1 x8 (14 : Int32) X
      · refine T.bipush (w := 15) dX11_signs_165 (by decide) ?_
        refine T.goto (pc1 := 172) dX11_signs_167 (by decide) ?_
        refine T.sub [2, 3, 0] rfl ?_
        exact c_signs_172 Γ _ a1 x8 (15 : Int32) X
    · refine T.sub [1] rfl ?_
      exact c_signs_144 Γ _ X
noncomputable def f_signs_134 (a1 : Int32) (X : St) : Option (Int32 × St) :=
  f_signs_135 a1 (0 : Int32) X
set_option maxHeartbeats 4000000 in
set_option maxRecDepth 100000 in
theorem c_signs_134 (Γ : Gx) (As : List Value) (a1 : Int32) (X : St) : T YR Γ cX11_signs 5 "BlameCourtModel" none R_signs As qV 134 [(0, .ref (Γ.2.2.2.1 0)), (1, .int a1)] [] X (f_signs_134 a1 X) := by
  unfold f_signs_134
  refine T.iconst (w := 0) dX11_signs_134 (by decide) ?_
  exact c_signs_135 Γ _ a1 (0 : Int32) X
noncomputable def f_signs_109 (a1 : Int32) (X : St) : Option (Int32 × St) :=
  if a1.toInt = 1 then
    letV (X.1 0 22) fun x32 =>
    letV (x32 - (1 : Int32)) fun x33 =>
    chk (inR x33 400) (letV (X.1 35 (ix x33)) fun x34 =>
    if x34.toInt = 16 then
      f_signs_135 a1 (1 : Int32) X
    else
      f_signs_134 a1 X)
  else
    f_signs_134 a1 X
set_option maxHeartbeats 4000000 in
set_option maxRecDepth 100000 in
theorem c_signs_109 (Γ : Gx) (As : List Value) (a1 : Int32) (X : St) : T YR Γ cX11_signs 5 "BlameCourtModel" none R_signs As qV 109 [(0, .ref (Γ.2.2.2.1 0)), (1, .int a1)] [] X (f_signs_109 a1 X) := by
  unfold f_signs_109
  refine T.iload_n dX11_signs_109 rfl 1 rfl ?_
  refine T.iconst (w := 1) dX11_signs_110 (by decide) ?_
  refine T.icmp_ne (pc1 := 134) dX11_signs_111 (by decide) rfl ?_ ?_
  · exact c_signs_134 Γ _ a1 X
  · refine T.aload_n dX11_signs_114 rfl 0 rfl ?_
    refine cR82 k1423 dX11_signs_115 ?_
    refine T.aload_n dX11_signs_118 rfl 0 rfl ?_
    refine gR22 k1422 dX11_signs_119 (fun x32 => ?_)
    refine T.iconst (w := 1) dX11_signs_122 (by decide) ?_
    refine T.isub dX11_signs_123 (fun x33 => ?_)
    refine alR35 dX11_signs_124 (fun x34 => ?_)
    refine T.bipush (w := 16) dX11_signs_125 (by decide) ?_
    refine T.icmp_ne (pc1 := 134) dX11_signs_127 (by decide) rfl ?_ ?_
    · exact c_signs_134 Γ _ a1 X
    · refine T.iconst (w := 1) dX11_signs_130 (by decide) ?_
      refine T.goto (pc1 := 135) dX11_signs_131 (by decide) ?_
      exact c_signs_135 Γ _ a1 (1 : Int32) X
noncomputable def f_signs_106 (a1 : Int32) (b0 : Int32) (X : St) : Option (Int32 × St) :=
  bnd (f_second b0 X) fun _ X35 =>
  f_signs_109 a1 X35
set_option maxHeartbeats 4000000 in
set_option maxRecDepth 100000 in
theorem c_signs_106 (Γ : Gx) (As : List Value) (a1 : Int32) (b0 : Int32) (X : St) : T YR Γ cX11_signs 5 "BlameCourtModel" none R_signs As qV 106 [(0, .ref (Γ.2.2.2.1 0)), (1, .int a1)] [.int b0, .ref (Γ.2.2.2.1 0)] X (f_signs_106 a1 b0 X) := by
  unfold f_signs_106
  refine T.callV_v 0 (As1 := [.int b0]) (rest := []) (c_second Γ b0 X) ka_X11_second kv_X11_second oR rfl k1931 rfl rfl rfl rfl ⟨Nat.le_of_ble_eq_true rfl, Nat.le_of_ble_eq_true rfl⟩ (Nat.le_of_ble_eq_true rfl) dX11_signs_106 (fun _ X35 => ?_)
  exact c_signs_109 Γ _ a1 X35
noncomputable def f_signs_90 (b0 : Int32) (X : St) : Option (Int32 × St) :=
  if b0.toInt ≤ 0 then
    f_signs_109 b0 X
  else
    if b0.toInt = 1 then
      f_signs_106 b0 (2 : Int32) X
    else
      f_signs_106 b0 b0 X
set_option maxHeartbeats 4000000 in
set_option maxRecDepth 100000 in
theorem c_signs_90 (Γ : Gx) (As : List Value) (b0 : Int32) (X : St) : T YR Γ cX11_signs 5 "BlameCourtModel" none R_signs As qV 90 [(0, .ref (Γ.2.2.2.1 0))] [.int b0] X (f_signs_90 b0 X) := by
  unfold f_signs_90
  refine T.istore_n (lv1 := [(1, .int b0), (0, .ref (Γ.2.2.2.1 0))]) dX11_signs_90 rfl (by decide) rfl ?_
  refine T.iload_n dX11_signs_91 rfl 0 rfl ?_
  refine T.if_le (pc1 := 109) dX11_signs_92 (by decide) ?_ ?_
  · refine T.sub [1, 0] rfl ?_
    exact c_signs_109 Γ _ b0 X
  · refine T.aload_n dX11_signs_95 rfl 1 rfl ?_
    refine T.iload_n dX11_signs_96 rfl 0 rfl ?_
    refine T.iconst (w := 1) dX11_signs_97 (by decide) ?_
    refine T.icmp_ne (pc1 := 105) dX11_signs_98 (by decide) rfl ?_ ?_
    · refine T.iload_n dX11_signs_105 rfl 0 rfl ?_
      refine T.sub [1, 0] rfl ?_
      exact c_signs_106 Γ _ b0 b0 X
    · refine T.iconst (w := 2) dX11_signs_101 (by decide) ?_
      refine T.goto (pc1 := 106) dX11_signs_102 (by decide) ?_
      refine T.sub [1, 0] rfl ?_
      exact c_signs_106 Γ _ b0 (2 : Int32) X
noncomputable def f_signs_89 (X : St) : Option (Int32 × St) :=
  f_signs_90 (0 : Int32) X
set_option maxHeartbeats 4000000 in
set_option maxRecDepth 100000 in
theorem c_signs_89 (Γ : Gx) (As : List Value) (X : St) : T YR Γ cX11_signs 5 "BlameCourtModel" none R_signs As qV 89 [(0, .ref (Γ.2.2.2.1 0))] [] X (f_signs_89 X) := by
  unfold f_signs_89
  refine T.iconst (w := 0) dX11_signs_89 (by decide) ?_
  exact c_signs_90 Γ _ (0 : Int32) X
noncomputable def f_signs_0_s (r0 : St → Option (Int32 × St)) (X : St) : Option (Int32 × St) :=
  letV (X.1 0 22) fun x1 =>
  letV (x1 - (1 : Int32)) fun x2 =>
  chk (inR x2 400) (letV (X.1 35 (ix x2)) fun x3 =>
  if x3.toInt = 15 then
    letV (X.1 0 22) fun x40 =>
    letV (x40 - (1 : Int32)) fun x41 =>
    letV (wI X 0 22 x41) fun X42 =>
    letV (X42.1 0 21) fun x43 =>
    letV (x43 - (1 : Int32)) fun x44 =>
    letV (wI X42 0 21 x44) fun X45 =>
    letV (X45.1 0 22) fun x46 =>
    chk (inR x46 400) (letV (X45.1 36 (ix x46)) fun x47 =>
    letV (X45.1 0 24) fun x48 =>
    chk (inR x47 3100) (letV (wI X45 23 (ix x47) x48) fun X49 =>
    letV (wI X49 0 24 x47) fun X50 =>
    r0 X50))
  else
    bnd (f_isWell X) fun x4 X5 =>
    if x4.toInt = 0 then
      f_signs_89 X5
    else
      letV (X5.1 0 7) fun x36 =>
      if x36.toInt = 4 then
        letV (X5.2.1 0 47) fun y37 =>
        bnd (f_levelOf y37 X5) fun x38 X39 =>
        f_signs_90 x38 X39
      else
        f_signs_89 X5)
noncomputable def f_signs_0 (n : Nat) : St → Option (Int32 × St) := lp (fun _ => none) (f_signs_0_s) n
set_option maxHeartbeats 4000000 in
set_option maxRecDepth 100000 in
theorem c_signs_0 (Γ : Gx) (As : List Value) (n : Nat) : ∀ (X : St), T YR Γ cX11_signs 5 "BlameCourtModel" none R_signs As qV 0 [(0, .ref (Γ.2.2.2.1 0))] [] X (f_signs_0 n X) := by
  unfold f_signs_0
  refine lp_ind (P := fun (r0 : St → Option (Int32 × St)) => ∀ (X : St), T YR Γ cX11_signs 5 "BlameCourtModel" none R_signs As qV 0 [(0, .ref (Γ.2.2.2.1 0))] [] X (r0 X)) (fun _ => T.no) ?_ n
  intro r0 hr0 X
  unfold f_signs_0_s
  refine T.aload_n dX11_signs_0 rfl 0 rfl ?_
  refine cR82 k1423 dX11_signs_1 ?_
  refine T.aload_n dX11_signs_4 rfl 0 rfl ?_
  refine gR22 k1422 dX11_signs_5 (fun x1 => ?_)
  refine T.iconst (w := 1) dX11_signs_8 (by decide) ?_
  refine T.isub dX11_signs_9 (fun x2 => ?_)
  refine alR35 dX11_signs_10 (fun x3 => ?_)
  refine T.bipush (w := 15) dX11_signs_11 (by decide) ?_
  refine T.icmp_ne (pc1 := 64) dX11_signs_13 (by decide) rfl ?_ ?_
  · refine T.aload_n dX11_signs_64 rfl 0 rfl ?_
    refine T.callV_i 0 (As1 := []) (rest := []) (c_isWell Γ X) ka_X11_isWell kv_X11_isWell oR rfl k1800 rfl rfl rfl rfl ⟨Nat.le_of_ble_eq_true rfl, Nat.le_of_ble_eq_true rfl⟩ (Nat.le_of_ble_eq_true rfl) dX11_signs_65 (fun x4 X5 => ?_)
    refine T.if_eq (pc1 := 89) dX11_signs_68 (by decide) ?_ ?_
    · exact c_signs_89 Γ _ X5
    · refine T.aload_n dX11_signs_71 rfl 0 rfl ?_
      refine gR7 k1375 dX11_signs_72 (fun x36 => ?_)
      refine T.iconst (w := 4) dX11_signs_75 (by decide) ?_
      refine T.icmp_ne (pc1 := 89) dX11_signs_76 (by decide) rfl ?_ ?_
      · exact c_signs_89 Γ _ X5
      · refine T.aload_n dX11_signs_79 rfl 0 rfl ?_
        refine gR47 k1376 dX11_signs_80 (fun y37 => ?_)
        refine T.callS_i (As1 := [.long y37]) (rest := []) (c_levelOf Γ y37 X5) ka_X11_levelOf k1923 k1922 rfl rfl rfl rfl ⟨Nat.le_of_ble_eq_true rfl, Nat.le_of_ble_eq_true rfl⟩ (Nat.le_of_ble_eq_true rfl) dX11_signs_83 (fun x38 X39 => ?_)
        refine T.goto (pc1 := 90) dX11_signs_86 (by decide) ?_
        exact c_signs_90 Γ _ x38 X39
  · refine T.aload_n dX11_signs_16 rfl 0 rfl ?_
    refine T.dupr dX11_signs_17 ?_
    refine gR22 k1422 dX11_signs_18 (fun x40 => ?_)
    refine T.iconst (w := 1) dX11_signs_21 (by decide) ?_
    refine T.isub dX11_signs_22 (fun x41 => ?_)
    refine pR22 k1422 dX11_signs_23 (fun X42 => ?_)
    refine T.aload_n dX11_signs_26 rfl 0 rfl ?_
    refine T.dupr dX11_signs_27 ?_
    refine gR21 k1419 dX11_signs_28 (fun x43 => ?_)
    refine T.iconst (w := 1) dX11_signs_31 (by decide) ?_
    refine T.isub dX11_signs_32 (fun x44 => ?_)
    refine pR21 k1419 dX11_signs_33 (fun X45 => ?_)
    refine T.aload_n dX11_signs_36 rfl 0 rfl ?_
    refine cR83 k1424 dX11_signs_37 ?_
    refine T.aload_n dX11_signs_40 rfl 0 rfl ?_
    refine gR22 k1422 dX11_signs_41 (fun x46 => ?_)
    refine alR36 dX11_signs_44 (fun x47 => ?_)
    refine T.istore_n (lv1 := [(1, .int x47), (0, .ref (Γ.2.2.2.1 0))]) dX11_signs_45 rfl (by decide) rfl ?_
    refine T.aload_n dX11_signs_46 rfl 1 rfl ?_
    refine cR70 k1408 dX11_signs_47 ?_
    refine T.iload_n dX11_signs_50 rfl 0 rfl ?_
    refine T.aload_n dX11_signs_51 rfl 1 rfl ?_
    refine gR24 k1429 dX11_signs_52 (fun x48 => ?_)
    refine asR23 dX11_signs_55 (fun X49 => ?_)
    refine T.aload_n dX11_signs_56 rfl 1 rfl ?_
    refine T.iload_n dX11_signs_57 rfl 0 rfl ?_
    refine pR24 k1429 dX11_signs_58 (fun X50 => ?_)
    refine T.goto (pc1 := 0) dX11_signs_61 (by decide) ?_
    refine T.sub [1] rfl ?_
    exact hr0 X50
noncomputable def f_signs (X : St) : Option (Int32 × St) :=
  f_signs_0 BIG X
set_option maxHeartbeats 4000000 in
set_option maxRecDepth 100000 in
theorem c_signs (Γ : Gx) (X : St) : TMV YR Γ yX11_signs cX11_signs 5 "BlameCourtModel" none R_signs [.ref (Γ.2.2.2.1 0)] X (f_signs X) := by
  refine TMV.of (by decide) (Nat.le_of_ble_eq_true rfl) rfl ?_
  show T YR Γ cX11_signs 5 "BlameCourtModel" none R_signs _ qV 0 [(0, .ref (Γ.2.2.2.1 0))] [] X (f_signs X)
  unfold f_signs
  exact c_signs_0 Γ _ BIG X
abbrev R_expression : Room := { frames := 46, cells := 0, slots := 0, locals := 690 }
noncomputable def f_expression_21_s (r21 : St → Option (Int32 × St)) (X : St) : Option (Int32 × St) :=
  bnd (f_isWell X) fun x5 X6 =>
  if x5.toInt = 0 then
    letV (X6.1 0 24) fun x7 =>
    some (x7, X6)
  else
    letV (X6.1 0 22) fun x8 =>
    if x8.toInt ≤ 0 then
      letV (X6.1 0 24) fun x9 =>
      some (x9, X6)
    else
      letV (X6.1 0 23) fun x10 =>
      if x10.toInt = 0 then
        bnd (f_begins X6) fun _ X12 =>
        r21 X12
      else if x10.toInt = 1 then
        bnd (f_operand X6) fun _ X14 =>
        r21 X14
      else if x10.toInt = 2 then
        bnd (f_behind X6) fun _ X16 =>
        r21 X16
      else if x10.toInt = 3 then
        bnd (f_signs X6) fun _ X18 =>
        r21 X18
      else bnd (f_endsOne X6) fun _ X19 =>
      r21 X19
noncomputable def f_expression_21 (n : Nat) : St → Option (Int32 × St) := lp (fun _ => none) (f_expression_21_s) n
set_option maxHeartbeats 4000000 in
set_option maxRecDepth 100000 in
theorem c_expression_21 (Γ : Gx) (As : List Value) (n : Nat) : ∀ (X : St), T YR Γ cX11_expression 1 "BlameCourtModel" (some .int) R_expression As qI 21 [(0, .ref (Γ.2.2.2.1 0))] [] X (f_expression_21 n X) := by
  unfold f_expression_21
  refine lp_ind (P := fun (r21 : St → Option (Int32 × St)) => ∀ (X : St), T YR Γ cX11_expression 1 "BlameCourtModel" (some .int) R_expression As qI 21 [(0, .ref (Γ.2.2.2.1 0))] [] X (r21 X)) (fun _ => T.no) ?_ n
  intro r21 hr21 X
  unfold f_expression_21_s
  refine T.aload_n dX11_expression_21 rfl 0 rfl ?_
  refine T.callV_i 0 (As1 := []) (rest := []) (c_isWell Γ X) ka_X11_isWell kv_X11_isWell oR rfl k1800 rfl rfl rfl rfl ⟨Nat.le_of_ble_eq_true rfl, Nat.le_of_ble_eq_true rfl⟩ (Nat.le_of_ble_eq_true rfl) dX11_expression_22 (fun x5 X6 => ?_)
  refine T.if_eq (pc1 := 103) dX11_expression_25 (by decide) ?_ ?_
  · refine T.aload_n dX11_expression_103 rfl 0 rfl ?_
    refine gR24 k1429 dX11_expression_104 (fun x7 => ?_)
    exact T.ret_i rfl dX11_expression_107
  · refine T.aload_n dX11_expression_28 rfl 0 rfl ?_
    refine gR22 k1422 dX11_expression_29 (fun x8 => ?_)
    refine T.if_le (pc1 := 103) dX11_expression_32 (by decide) ?_ ?_
    · refine T.aload_n dX11_expression_103 rfl 0 rfl ?_
      refine gR24 k1429 dX11_expression_104 (fun x9 => ?_)
      exact T.ret_i rfl dX11_expression_107
    · refine T.aload_n dX11_expression_35 rfl 0 rfl ?_
      refine gR23 k1428 dX11_expression_36 (fun x10 => ?_)
      refine T.ite (fun s11 => ?_) (fun s11 => ?_)
      · refine T.tbl (pc1 := 68) dX11_expression_39 (by decide) (off := 29) (by rw [s11]; rfl) (by decide) ?_
        refine T.aload_n dX11_expression_68 rfl 0 rfl ?_
        refine T.callV_v 0 (As1 := []) (rest := []) (c_begins Γ X6) ka_X11_begins kv_X11_begins oR rfl k1868 rfl rfl rfl rfl ⟨Nat.le_of_ble_eq_true rfl, Nat.le_of_ble_eq_true rfl⟩ (Nat.le_of_ble_eq_true rfl) dX11_expression_69 (fun _ X12 => ?_)
        refine T.goto (pc1 := 21) dX11_expression_72 (by decide) ?_
        exact hr21 X12
      refine T.ite (fun s13 => ?_) (fun s13 => ?_)
      · refine T.tbl (pc1 := 75) dX11_expression_39 (by decide) (off := 36) (by rw [s13]; rfl) (by decide) ?_
        refine T.aload_n dX11_expression_75 rfl 0 rfl ?_
        refine T.callV_v 0 (As1 := []) (rest := []) (c_operand Γ X6) ka_X11_operand kv_X11_operand oR rfl k1894 rfl rfl rfl rfl ⟨Nat.le_of_ble_eq_true rfl, Nat.le_of_ble_eq_true rfl⟩ (Nat.le_of_ble_eq_true rfl) dX11_expression_76 (fun _ X14 => ?_)
        refine T.goto (pc1 := 21) dX11_expression_79 (by decide) ?_
        exact hr21 X14
      refine T.ite (fun s15 => ?_) (fun s15 => ?_)
      · refine T.tbl (pc1 := 82) dX11_expression_39 (by decide) (off := 43) (by rw [s15]; rfl) (by decide) ?_
        refine T.aload_n dX11_expression_82 rfl 0 rfl ?_
        refine T.callV_v 0 (As1 := []) (rest := []) (c_behind Γ X6) ka_X11_behind kv_X11_behind oR rfl k1914 rfl rfl rfl rfl ⟨Nat.le_of_ble_eq_true rfl, Nat.le_of_ble_eq_true rfl⟩ (Nat.le_of_ble_eq_true rfl) dX11_expression_83 (fun _ X16 => ?_)
        refine T.goto (pc1 := 21) dX11_expression_86 (by decide) ?_
        exact hr21 X16
      refine T.ite (fun s17 => ?_) (fun s17 => ?_)
      · refine T.tbl (pc1 := 89) dX11_expression_39 (by decide) (off := 50) (by rw [s17]; rfl) (by decide) ?_
        refine T.aload_n dX11_expression_89 rfl 0 rfl ?_
        refine T.callV_v 0 (As1 := []) (rest := []) (c_signs Γ X6) ka_X11_signs kv_X11_signs oR rfl k1918 rfl rfl rfl rfl ⟨Nat.le_of_ble_eq_true rfl, Nat.le_of_ble_eq_true rfl⟩ (Nat.le_of_ble_eq_true rfl) dX11_expression_90 (fun _ X18 => ?_)
        refine T.goto (pc1 := 21) dX11_expression_93 (by decide) ?_
        exact hr21 X18
      refine T.tbl (pc1 := 96) dX11_expression_39 (by decide) (off := 57) (tbl_d [0, 1, 2, 3] (by intro q; simp only [List.mem_cons, List.not_mem_nil, or_false] at q; omega) (by decide)) (by decide) ?_
      refine T.aload_n dX11_expression_96 rfl 0 rfl ?_
      refine T.callV_v 0 (As1 := []) (rest := []) (c_endsOne Γ X6) ka_X11_endsOne kv_X11_endsOne oR rfl k1935 rfl rfl rfl rfl ⟨Nat.le_of_ble_eq_true rfl, Nat.le_of_ble_eq_true rfl⟩ (Nat.le_of_ble_eq_true rfl) dX11_expression_97 (fun _ X19 => ?_)
      refine T.goto (pc1 := 21) dX11_expression_100 (by decide) ?_
      exact hr21 X19
noncomputable def f_expression (X : St) : Option (Int32 × St) :=
  letV (wI X 0 22 ((0 : Int32))) fun X1 =>
  bnd (f_enter (0 : Int32) (-1 : Int32) X1) fun _ X2 =>
  letV (wI X2 0 23 ((0 : Int32))) fun X3 =>
  letV (wI X3 0 24 ((-1 : Int32))) fun X4 =>
  f_expression_21 BIG X4
set_option maxHeartbeats 4000000 in
set_option maxRecDepth 100000 in
theorem c_expression (Γ : Gx) (X : St) : TMI YR Γ yX11_expression cX11_expression 1 "BlameCourtModel" (some .int) R_expression [.ref (Γ.2.2.2.1 0)] X (f_expression X) := by
  refine TMI.of (by decide) (Nat.le_of_ble_eq_true rfl) rfl ?_
  show T YR Γ cX11_expression 1 "BlameCourtModel" (some .int) R_expression _ qI 0 [(0, .ref (Γ.2.2.2.1 0))] [] X (f_expression X)
  unfold f_expression
  refine T.aload_n dX11_expression_0 rfl 0 rfl ?_
  refine T.iconst (w := 0) dX11_expression_1 (by decide) ?_
  refine pR22 k1422 dX11_expression_2 (fun X1 => ?_)
  refine T.aload_n dX11_expression_5 rfl 0 rfl ?_
  refine T.iconst (w := 0) dX11_expression_6 (by decide) ?_
  refine T.iconst (w := (-1)) dX11_expression_7 (by decide) ?_
  refine T.callV_v 0 (As1 := [.int 0, .int (-1)]) (rest := []) (c_enter Γ (0 : Int32) (-1 : Int32) X1) ka_X11_enter kv_X11_enter oR rfl k1864 rfl rfl rfl rfl ⟨Nat.le_of_ble_eq_true rfl, Nat.le_of_ble_eq_true rfl⟩ (Nat.le_of_ble_eq_true rfl) dX11_expression_8 (fun _ X2 => ?_)
  refine T.aload_n dX11_expression_11 rfl 0 rfl ?_
  refine T.iconst (w := 0) dX11_expression_12 (by decide) ?_
  refine pR23 k1428 dX11_expression_13 (fun X3 => ?_)
  refine T.aload_n dX11_expression_16 rfl 0 rfl ?_
  refine T.iconst (w := (-1)) dX11_expression_17 (by decide) ?_
  refine pR24 k1429 dX11_expression_18 (fun X4 => ?_)
  exact c_expression_21 Γ _ BIG X4
abbrev R_param : Room := { frames := 34, cells := 0, slots := 0, locals := 510 }
noncomputable def f_param_15 (X : St) : Option (Int32 × St) :=
  bnd (f_stray X) fun _ X3 =>
  some (0, X3)
set_option maxHeartbeats 4000000 in
set_option maxRecDepth 100000 in
theorem c_param_15 (Γ : Gx) (As : List Value) (X : St) : T YR Γ cX11_param 3 "BlameCourtModel" none R_param As qV 15 [(0, .ref (Γ.2.2.2.1 0))] [] X (f_param_15 X) := by
  unfold f_param_15
  refine T.aload_n dX11_param_15 rfl 0 rfl ?_
  refine T.callV_v 0 (As1 := []) (rest := []) (c_stray Γ X) ka_X11_stray kv_X11_stray oR rfl k1808 rfl rfl rfl rfl ⟨Nat.le_of_ble_eq_true rfl, Nat.le_of_ble_eq_true rfl⟩ (Nat.le_of_ble_eq_true rfl) dX11_param_16 (fun _ X3 => ?_)
  exact T.ret_v rfl dX11_param_19
noncomputable def f_param_76 (a1 : Int32) (X : St) : Option (Int32 × St) :=
  bnd (f_isWell X) fun x7 X8 =>
  if x7.toInt = 0 then
    some (0, X8)
  else
    letV (X8.1 0 20) fun x9 =>
    letV (X8.2.1 0 47) fun y10 =>
    chk (inR x9 60) (letV (wL X8 30 (ix x9) y10) fun X11 =>
    letV (X11.1 0 20) fun x12 =>
    letV (x12 + (1 : Int32)) fun x13 =>
    letV (wI X11 0 20 x13) fun X14 =>
    letV (X14.1 0 20) fun x15 =>
    chk (inR a1 41) (letV (wI X14 15 (ix a1) x15) fun X16 =>
    letV ((4 : Int32) * a1) fun x17 =>
    letV (X16.1 0 20) fun x18 =>
    letV (x17 + x18) fun x19 =>
    letV (x19 - (1 : Int32)) fun x20 =>
    chk (inR x20 164) (letV (wI X16 16 (ix x20) (2 : Int32)) fun X21 =>
    bnd (f_next X21) fun _ X22 =>
    bnd (f_isSign (58 : Int32) X22) fun x23 X24 =>
    if x23.toInt = 0 then
      some (0, X24)
    else
      bnd (f_next X24) fun _ X25 =>
      letV ((4 : Int32) * a1) fun x26 =>
      letV (X25.1 0 20) fun x27 =>
      letV (x26 + x27) fun x28 =>
      letV (x28 - (1 : Int32)) fun x29 =>
      bnd (f_kind X25) fun x30 X31 =>
      chk (inR x29 164) (letV (wI X31 16 (ix x29) x30) fun X32 =>
      some (0, X32)))))
set_option maxHeartbeats 4000000 in
set_option maxRecDepth 100000 in
theorem c_param_76 (Γ : Gx) (As : List Value) (a1 : Int32) (X : St) : T YR Γ cX11_param 3 "BlameCourtModel" none R_param As qV 76 [(0, .ref (Γ.2.2.2.1 0)), (1, .int a1)] [] X (f_param_76 a1 X) := by
  unfold f_param_76
  refine T.aload_n dX11_param_76 rfl 0 rfl ?_
  refine T.callV_i 0 (As1 := []) (rest := []) (c_isWell Γ X) ka_X11_isWell kv_X11_isWell oR rfl k1800 rfl rfl rfl rfl ⟨Nat.le_of_ble_eq_true rfl, Nat.le_of_ble_eq_true rfl⟩ (Nat.le_of_ble_eq_true rfl) dX11_param_77 (fun x7 X8 => ?_)
  refine T.if_ne (pc1 := 84) dX11_param_80 (by decide) ?_ ?_
  · refine T.aload_n dX11_param_84 rfl 0 rfl ?_
    refine cR77 k1416 dX11_param_85 ?_
    refine T.aload_n dX11_param_88 rfl 0 rfl ?_
    refine gR20 k1415 dX11_param_89 (fun x9 => ?_)
    refine T.aload_n dX11_param_92 rfl 0 rfl ?_
    refine gR47 k1376 dX11_param_93 (fun y10 => ?_)
    refine asR30 dX11_param_96 (fun X11 => ?_)
    refine T.aload_n dX11_param_97 rfl 0 rfl ?_
    refine T.dupr dX11_param_98 ?_
    refine gR20 k1415 dX11_param_99 (fun x12 => ?_)
    refine T.iconst (w := 1) dX11_param_102 (by decide) ?_
    refine T.iadd dX11_param_103 (fun x13 => ?_)
    refine pR20 k1415 dX11_param_104 (fun X14 => ?_)
    refine T.aload_n dX11_param_107 rfl 0 rfl ?_
    refine cR62 k1399 dX11_param_108 ?_
    refine T.iload_n dX11_param_111 rfl 1 rfl ?_
    refine T.aload_n dX11_param_112 rfl 0 rfl ?_
    refine gR20 k1415 dX11_param_113 (fun x15 => ?_)
    refine asR15 dX11_param_116 (fun X16 => ?_)
    refine T.aload_n dX11_param_117 rfl 0 rfl ?_
    refine cR63 k1400 dX11_param_118 ?_
    refine T.iconst (w := 4) dX11_param_121 (by decide) ?_
    refine T.iload_n dX11_param_122 rfl 1 rfl ?_
    refine T.imul dX11_param_123 (fun x17 => ?_)
    refine T.aload_n dX11_param_124 rfl 0 rfl ?_
    refine gR20 k1415 dX11_param_125 (fun x18 => ?_)
    refine T.iadd dX11_param_128 (fun x19 => ?_)
    refine T.iconst (w := 1) dX11_param_129 (by decide) ?_
    refine T.isub dX11_param_130 (fun x20 => ?_)
    refine T.iconst (w := 2) dX11_param_131 (by decide) ?_
    refine asR16 dX11_param_132 (fun X21 => ?_)
    refine T.aload_n dX11_param_133 rfl 0 rfl ?_
    refine T.callV_v 0 (As1 := []) (rest := []) (c_next Γ X21) ka_X11_next kv_X11_next oR rfl k1776 rfl rfl rfl rfl ⟨Nat.le_of_ble_eq_true rfl, Nat.le_of_ble_eq_true rfl⟩ (Nat.le_of_ble_eq_true rfl) dX11_param_134 (fun _ X22 => ?_)
    refine T.aload_n dX11_param_137 rfl 0 rfl ?_
    refine T.bipush (w := 58) dX11_param_138 (by decide) ?_
    refine T.callV_i 0 (As1 := [.int 58]) (rest := []) (c_isSign Γ (58 : Int32) X22) ka_X11_isSign kv_X11_isSign oR rfl k1824 rfl rfl rfl rfl ⟨Nat.le_of_ble_eq_true rfl, Nat.le_of_ble_eq_true rfl⟩ (Nat.le_of_ble_eq_true rfl) dX11_param_140 (fun x23 X24 => ?_)
    refine T.if_eq (pc1 := 169) dX11_param_143 (by decide) ?_ ?_
    · exact T.ret_v rfl dX11_param_169
    · refine T.aload_n dX11_param_146 rfl 0 rfl ?_
      refine T.callV_v 0 (As1 := []) (rest := []) (c_next Γ X24) ka_X11_next kv_X11_next oR rfl k1776 rfl rfl rfl rfl ⟨Nat.le_of_ble_eq_true rfl, Nat.le_of_ble_eq_true rfl⟩ (Nat.le_of_ble_eq_true rfl) dX11_param_147 (fun _ X25 => ?_)
      refine T.aload_n dX11_param_150 rfl 0 rfl ?_
      refine cR63 k1400 dX11_param_151 ?_
      refine T.iconst (w := 4) dX11_param_154 (by decide) ?_
      refine T.iload_n dX11_param_155 rfl 1 rfl ?_
      refine T.imul dX11_param_156 (fun x26 => ?_)
      refine T.aload_n dX11_param_157 rfl 0 rfl ?_
      refine gR20 k1415 dX11_param_158 (fun x27 => ?_)
      refine T.iadd dX11_param_161 (fun x28 => ?_)
      refine T.iconst (w := 1) dX11_param_162 (by decide) ?_
      refine T.isub dX11_param_163 (fun x29 => ?_)
      refine T.aload_n dX11_param_164 rfl 0 rfl ?_
      refine T.callV_i 0 (As1 := []) (rest := [.int x29, .ref (Γ.2.2.2.1 16)]) (c_kind Γ X25) ka_X11_kind kv_X11_kind oR rfl k1844 rfl rfl rfl rfl ⟨Nat.le_of_ble_eq_true rfl, Nat.le_of_ble_eq_true rfl⟩ (Nat.le_of_ble_eq_true rfl) dX11_param_165 (fun x30 X31 => ?_)
      refine asR16 dX11_param_168 (fun X32 => ?_)
      exact T.ret_v rfl dX11_param_169
  · exact T.ret_v rfl dX11_param_83
noncomputable def f_param_53 (r22 : Int32 → Int32 → St → Option (Int32 × St)) (a1 : Int32) (a2 : Int32) (X : St) : Option (Int32 × St) :=
  letV (a2 + Int32.ofInt (1)) fun x38 =>
  r22 a1 x38 X
set_option maxHeartbeats 4000000 in
set_option maxRecDepth 100000 in
theorem c_param_53 (Γ : Gx) (As : List Value) (r22 : Int32 → Int32 → St → Option (Int32 × St)) (hr22 : ∀ (a1 : Int32) (a2 : Int32) (X : St), T YR Γ cX11_param 3 "BlameCourtModel" none R_param As qV 22 [(0, .ref (Γ.2.2.2.1 0)), (1, .int a1), (2, .int a2)] [] X (r22 a1 a2 X)) (a1 : Int32) (a2 : Int32) (X : St) : T YR Γ cX11_param 3 "BlameCourtModel" none R_param As qV 53 [(0, .ref (Γ.2.2.2.1 0)), (1, .int a1), (2, .int a2)] [] X (f_param_53 r22 a1 a2 X) := by
  unfold f_param_53
  refine T.iinc dX11_param_53 2 rfl (by decide) (lvf := fun x38 => [(2, .int x38), (0, .ref (Γ.2.2.2.1 0)), (1, .int a1)]) (fun _ => rfl) (fun x38 => ?_)
  refine T.goto (pc1 := 22) dX11_param_56 (by decide) ?_
  refine T.sub [1, 2, 0] rfl ?_
  exact hr22 a1 x38 X
noncomputable def f_param_22_s (r22 : Int32 → Int32 → St → Option (Int32 × St)) (a1 : Int32) (a2 : Int32) (X : St) : Option (Int32 × St) :=
  letV (X.1 0 20) fun x5 =>
  if x5.toInt ≤ a2.toInt then
    letV (X.1 0 20) fun x6 =>
    if x6.toInt = 4 then
      letV (X.1 0 6) fun x33 =>
      bnd (f_fails (3 : Int32) x33 X) fun _ X34 =>
      f_param_76 a1 X34
    else
      f_param_76 a1 X
  else
    chk (inR a2 60) (letV (X.2.1 30 (ix a2)) fun y35 =>
    letV (X.2.1 0 47) fun y36 =>
    letV (lg_cmp y35 y36) fun x37 =>
    if x37.toInt = 0 then
      letV (X.1 0 6) fun x39 =>
      bnd (f_fails (2 : Int32) x39 X) fun _ X40 =>
      f_param_53 r22 a1 a2 X40
    else
      f_param_53 r22 a1 a2 X)
noncomputable def f_param_22 (n : Nat) : Int32 → Int32 → St → Option (Int32 × St) := lp (fun _ _ _ => none) (f_param_22_s) n
set_option maxHeartbeats 4000000 in
set_option maxRecDepth 100000 in
theorem c_param_22 (Γ : Gx) (As : List Value) (n : Nat) : ∀ (a1 : Int32) (a2 : Int32) (X : St), T YR Γ cX11_param 3 "BlameCourtModel" none R_param As qV 22 [(0, .ref (Γ.2.2.2.1 0)), (1, .int a1), (2, .int a2)] [] X (f_param_22 n a1 a2 X) := by
  unfold f_param_22
  refine lp_ind (P := fun (r22 : Int32 → Int32 → St → Option (Int32 × St)) => ∀ (a1 : Int32) (a2 : Int32) (X : St), T YR Γ cX11_param 3 "BlameCourtModel" none R_param As qV 22 [(0, .ref (Γ.2.2.2.1 0)), (1, .int a1), (2, .int a2)] [] X (r22 a1 a2 X)) (fun _ _ _ => T.no) ?_ n
  intro r22 hr22 a1 a2 X
  unfold f_param_22_s
  refine T.iload_n dX11_param_22 rfl 2 rfl ?_
  refine T.aload_n dX11_param_23 rfl 0 rfl ?_
  refine gR20 k1415 dX11_param_24 (fun x5 => ?_)
  refine T.icmp_ge (pc1 := 59) dX11_param_27 (by decide) rfl ?_ ?_
  · refine T.aload_n dX11_param_59 rfl 0 rfl ?_
    refine gR20 k1415 dX11_param_60 (fun x6 => ?_)
    refine T.iconst (w := 4) dX11_param_63 (by decide) ?_
    refine T.icmp_ne (pc1 := 76) dX11_param_64 (by decide) rfl ?_ ?_
    · refine T.sub [0, 1] rfl ?_
      exact c_param_76 Γ _ a1 X
    · refine T.aload_n dX11_param_67 rfl 0 rfl ?_
      refine T.iconst (w := 3) dX11_param_68 (by decide) ?_
      refine T.aload_n dX11_param_69 rfl 0 rfl ?_
      refine gR6 k1374 dX11_param_70 (fun x33 => ?_)
      refine T.callV_v 0 (As1 := [.int 3, .int x33]) (rest := []) (c_fails Γ (3 : Int32) x33 X) ka_X11_fails kv_X11_fails oR rfl k1812 rfl rfl rfl rfl ⟨Nat.le_of_ble_eq_true rfl, Nat.le_of_ble_eq_true rfl⟩ (Nat.le_of_ble_eq_true rfl) dX11_param_73 (fun _ X34 => ?_)
      refine T.sub [0, 1] rfl ?_
      exact c_param_76 Γ _ a1 X34
  · refine T.aload_n dX11_param_30 rfl 0 rfl ?_
    refine cR77 k1416 dX11_param_31 ?_
    refine T.iload_n dX11_param_34 rfl 2 rfl ?_
    refine alR30 dX11_param_35 (fun y35 => ?_)
    refine T.aload_n dX11_param_36 rfl 0 rfl ?_
    refine gR47 k1376 dX11_param_37 (fun y36 => ?_)
    refine T.lcmp dX11_param_40 (fun x37 => ?_)
    refine T.if_ne (pc1 := 53) dX11_param_41 (by decide) ?_ ?_
    · exact c_param_53 Γ _ r22 hr22 a1 a2 X
    · refine T.aload_n dX11_param_44 rfl 0 rfl ?_
      refine T.iconst (w := 2) dX11_param_45 (by decide) ?_
      refine T.aload_n dX11_param_46 rfl 0 rfl ?_
      refine gR6 k1374 dX11_param_47 (fun x39 => ?_)
      refine T.callV_v 0 (As1 := [.int 2, .int x39]) (rest := []) (c_fails Γ (2 : Int32) x39 X) ka_X11_fails kv_X11_fails oR rfl k1812 rfl rfl rfl rfl ⟨Nat.le_of_ble_eq_true rfl, Nat.le_of_ble_eq_true rfl⟩ (Nat.le_of_ble_eq_true rfl) dX11_param_50 (fun _ X40 => ?_)
      exact c_param_53 Γ _ r22 hr22 a1 a2 X40
noncomputable def f_param (p1 : Int32) (X : St) : Option (Int32 × St) :=
  bnd (f_isWell X) fun x1 X2 =>
  if x1.toInt = 0 then
    f_param_15 X2
  else
    letV (X2.1 0 7) fun x4 =>
    if x4.toInt = 1 then
      f_param_22 BIG p1 (0 : Int32) X2
    else
      f_param_15 X2
set_option maxHeartbeats 4000000 in
set_option maxRecDepth 100000 in
theorem c_param (Γ : Gx) (p1 : Int32) (X : St) : TMV YR Γ yX11_param cX11_param 3 "BlameCourtModel" none R_param [.ref (Γ.2.2.2.1 0), .int p1] X (f_param p1 X) := by
  refine TMV.of (by decide) (Nat.le_of_ble_eq_true rfl) rfl ?_
  show T YR Γ cX11_param 3 "BlameCourtModel" none R_param _ qV 0 [(0, .ref (Γ.2.2.2.1 0)), (1, .int p1)] [] X (f_param p1 X)
  unfold f_param
  refine T.aload_n dX11_param_0 rfl 0 rfl ?_
  refine T.callV_i 0 (As1 := []) (rest := []) (c_isWell Γ X) ka_X11_isWell kv_X11_isWell oR rfl k1800 rfl rfl rfl rfl ⟨Nat.le_of_ble_eq_true rfl, Nat.le_of_ble_eq_true rfl⟩ (Nat.le_of_ble_eq_true rfl) dX11_param_1 (fun x1 X2 => ?_)
  refine T.if_eq (pc1 := 15) dX11_param_4 (by decide) ?_ ?_
  · refine T.sub [0] rfl ?_
    exact c_param_15 Γ _ X2
  · refine T.aload_n dX11_param_7 rfl 0 rfl ?_
    refine gR7 k1375 dX11_param_8 (fun x4 => ?_)
    refine T.iconst (w := 1) dX11_param_11 (by decide) ?_
    refine T.icmp_eq (pc1 := 20) dX11_param_12 (by decide) rfl ?_ ?_
    · refine T.iconst (w := 0) dX11_param_20 (by decide) ?_
      refine T.istore_n (lv1 := [(2, .int 0), (0, .ref (Γ.2.2.2.1 0)), (1, .int p1)]) dX11_param_21 rfl (by decide) rfl ?_
      refine T.sub [1, 2, 0] rfl ?_
      exact c_param_22 Γ _ BIG p1 (0 : Int32) X2
    · refine T.sub [0] rfl ?_
      exact c_param_15 Γ _ X2
abbrev R_part__V : Room := { frames := 50, cells := 0, slots := 0, locals := 750 }
noncomputable def f_part__V_19 (X : St) : Option (Int32 × St) :=
  bnd (f_stray X) fun _ X4 =>
  some (0, X4)
set_option maxHeartbeats 4000000 in
set_option maxRecDepth 100000 in
theorem c_part__V_19 (Γ : Gx) (As : List Value) (X : St) : T YR Γ cX11_part 2 "BlameCourtModel" none R_part__V As qV 19 [(0, .ref (Γ.2.2.2.1 0))] [] X (f_part__V_19 X) := by
  unfold f_part__V_19
  refine T.aload_n dX11_part_19 rfl 0 rfl ?_
  refine T.callV_v 0 (As1 := []) (rest := []) (c_stray Γ X) ka_X11_stray kv_X11_stray oR rfl k1808 rfl rfl rfl rfl ⟨Nat.le_of_ble_eq_true rfl, Nat.le_of_ble_eq_true rfl⟩ (Nat.le_of_ble_eq_true rfl) dX11_part_20 (fun _ X4 => ?_)
  exact T.ret_v rfl dX11_part_23
noncomputable def f_part__V_166 (a1 : Int32) (X : St) : Option (Int32 × St) :=
  bnd (f_takes (61 : Int32) X) fun _ X27 =>
  bnd (f_isWell X27) fun x28 X29 =>
  if x28.toInt = 0 then
    some (0, X29)
  else
    bnd (f_expression X29) fun x30 X31 =>
    chk (inR a1 41) (letV (wI X31 18 (ix a1) x30) fun X32 =>
    bnd (f_takes (59 : Int32) X32) fun _ X33 =>
    letV (X33.1 0 18) fun x34 =>
    letV (x34 + (1 : Int32)) fun x35 =>
    letV (wI X33 0 18 x35) fun X36 =>
    some (0, X36))
set_option maxHeartbeats 4000000 in
set_option maxRecDepth 100000 in
theorem c_part__V_166 (Γ : Gx) (As : List Value) (a1 : Int32) (X : St) : T YR Γ cX11_part 2 "BlameCourtModel" none R_part__V As qV 166 [(0, .ref (Γ.2.2.2.1 0)), (1, .int a1)] [] X (f_part__V_166 a1 X) := by
  unfold f_part__V_166
  refine T.aload_n dX11_part_166 rfl 0 rfl ?_
  refine T.bipush (w := 61) dX11_part_167 (by decide) ?_
  refine T.callV_v 0 (As1 := [.int 61]) (rest := []) (c_takes Γ (61 : Int32) X) ka_X11_takes kv_X11_takes oR rfl k1836 rfl rfl rfl rfl ⟨Nat.le_of_ble_eq_true rfl, Nat.le_of_ble_eq_true rfl⟩ (Nat.le_of_ble_eq_true rfl) dX11_part_169 (fun _ X27 => ?_)
  refine T.aload_n dX11_part_172 rfl 0 rfl ?_
  refine T.callV_i 0 (As1 := []) (rest := []) (c_isWell Γ X27) ka_X11_isWell kv_X11_isWell oR rfl k1800 rfl rfl rfl rfl ⟨Nat.le_of_ble_eq_true rfl, Nat.le_of_ble_eq_true rfl⟩ (Nat.le_of_ble_eq_true rfl) dX11_part_173 (fun x28 X29 => ?_)
  refine T.if_eq (pc1 := 205) dX11_part_176 (by decide) ?_ ?_
  · exact T.ret_v rfl dX11_part_205
  · refine T.aload_n dX11_part_179 rfl 0 rfl ?_
    refine cR65 k1402 dX11_part_180 ?_
    refine T.iload_n dX11_part_183 rfl 1 rfl ?_
    refine T.aload_n dX11_part_184 rfl 0 rfl ?_
    refine T.callV_i 0 (As1 := []) (rest := [.int a1, .ref (Γ.2.2.2.1 18)]) (c_expression Γ X29) ka_X11_expression kv_X11_expression oR rfl k1860 rfl rfl rfl rfl ⟨Nat.le_of_ble_eq_true rfl, Nat.le_of_ble_eq_true rfl⟩ (Nat.le_of_ble_eq_true rfl) dX11_part_185 (fun x30 X31 => ?_)
    refine asR18 dX11_part_188 (fun X32 => ?_)
    refine T.aload_n dX11_part_189 rfl 0 rfl ?_
    refine T.bipush (w := 59) dX11_part_190 (by decide) ?_
    refine T.callV_v 0 (As1 := [.int 59]) (rest := []) (c_takes Γ (59 : Int32) X32) ka_X11_takes kv_X11_takes oR rfl k1836 rfl rfl rfl rfl ⟨Nat.le_of_ble_eq_true rfl, Nat.le_of_ble_eq_true rfl⟩ (Nat.le_of_ble_eq_true rfl) dX11_part_192 (fun _ X33 => ?_)
    refine T.aload_n dX11_part_195 rfl 0 rfl ?_
    refine T.dupr dX11_part_196 ?_
    refine gR18 k1394 dX11_part_197 (fun x34 => ?_)
    refine T.iconst (w := 1) dX11_part_200 (by decide) ?_
    refine T.iadd dX11_part_201 (fun x35 => ?_)
    refine pR18 k1394 dX11_part_202 (fun X36 => ?_)
    exact T.ret_v rfl dX11_part_205
noncomputable def f_part__V_143 (a1 : Int32) (X : St) : Option (Int32 × St) :=
  bnd (f_isSign (58 : Int32) X) fun x25 X26 =>
  if x25.toInt = 0 then
    f_part__V_166 a1 X26
  else
    bnd (f_next X26) fun _ X37 =>
    bnd (f_kind X37) fun x38 X39 =>
    chk (inR a1 41) (letV (wI X39 17 (ix a1) x38) fun X40 =>
    f_part__V_166 a1 X40)
set_option maxHeartbeats 4000000 in
set_option maxRecDepth 100000 in
theorem c_part__V_143 (Γ : Gx) (As : List Value) (a1 : Int32) (X : St) : T YR Γ cX11_part 2 "BlameCourtModel" none R_part__V As qV 143 [(0, .ref (Γ.2.2.2.1 0)), (1, .int a1)] [] X (f_part__V_143 a1 X) := by
  unfold f_part__V_143
  refine T.aload_n dX11_part_143 rfl 0 rfl ?_
  refine T.bipush (w := 58) dX11_part_144 (by decide) ?_
  refine T.callV_i 0 (As1 := [.int 58]) (rest := []) (c_isSign Γ (58 : Int32) X) ka_X11_isSign kv_X11_isSign oR rfl k1824 rfl rfl rfl rfl ⟨Nat.le_of_ble_eq_true rfl, Nat.le_of_ble_eq_true rfl⟩ (Nat.le_of_ble_eq_true rfl) dX11_part_146 (fun x25 X26 => ?_)
  refine T.if_eq (pc1 := 166) dX11_part_149 (by decide) ?_ ?_
  · exact c_part__V_166 Γ _ a1 X26
  · refine T.aload_n dX11_part_152 rfl 0 rfl ?_
    refine T.callV_v 0 (As1 := []) (rest := []) (c_next Γ X26) ka_X11_next kv_X11_next oR rfl k1776 rfl rfl rfl rfl ⟨Nat.le_of_ble_eq_true rfl, Nat.le_of_ble_eq_true rfl⟩ (Nat.le_of_ble_eq_true rfl) dX11_part_153 (fun _ X37 => ?_)
    refine T.aload_n dX11_part_156 rfl 0 rfl ?_
    refine cR64 k1401 dX11_part_157 ?_
    refine T.iload_n dX11_part_160 rfl 1 rfl ?_
    refine T.aload_n dX11_part_161 rfl 0 rfl ?_
    refine T.callV_i 0 (As1 := []) (rest := [.int a1, .ref (Γ.2.2.2.1 17)]) (c_kind Γ X37) ka_X11_kind kv_X11_kind oR rfl k1844 rfl rfl rfl rfl ⟨Nat.le_of_ble_eq_true rfl, Nat.le_of_ble_eq_true rfl⟩ (Nat.le_of_ble_eq_true rfl) dX11_part_162 (fun x38 X39 => ?_)
    refine asR17 dX11_part_165 (fun X40 => ?_)
    exact c_part__V_166 Γ _ a1 X40
noncomputable def f_part__V_116_s (r116 : Int32 → St → Option (Int32 × St)) (a1 : Int32) (X : St) : Option (Int32 × St) :=
  bnd (f_isSign (44 : Int32) X) fun x22 X23 =>
  if x22.toInt = 0 then
    bnd (f_closes (41 : Int32) X23) fun _ X24 =>
    f_part__V_143 a1 X24
  else
    bnd (f_next X23) fun _ X41 =>
    bnd (f_param a1 X41) fun _ X42 =>
    r116 a1 X42
noncomputable def f_part__V_116 (n : Nat) : Int32 → St → Option (Int32 × St) := lp (fun _ _ => none) (f_part__V_116_s) n
set_option maxHeartbeats 4000000 in
set_option maxRecDepth 100000 in
theorem c_part__V_116 (Γ : Gx) (As : List Value) (n : Nat) : ∀ (a1 : Int32) (X : St), T YR Γ cX11_part 2 "BlameCourtModel" none R_part__V As qV 116 [(0, .ref (Γ.2.2.2.1 0)), (1, .int a1)] [] X (f_part__V_116 n a1 X) := by
  unfold f_part__V_116
  refine lp_ind (P := fun (r116 : Int32 → St → Option (Int32 × St)) => ∀ (a1 : Int32) (X : St), T YR Γ cX11_part 2 "BlameCourtModel" none R_part__V As qV 116 [(0, .ref (Γ.2.2.2.1 0)), (1, .int a1)] [] X (r116 a1 X)) (fun _ _ => T.no) ?_ n
  intro r116 hr116 a1 X
  unfold f_part__V_116_s
  refine T.aload_n dX11_part_116 rfl 0 rfl ?_
  refine T.bipush (w := 44) dX11_part_117 (by decide) ?_
  refine T.callV_i 0 (As1 := [.int 44]) (rest := []) (c_isSign Γ (44 : Int32) X) ka_X11_isSign kv_X11_isSign oR rfl k1824 rfl rfl rfl rfl ⟨Nat.le_of_ble_eq_true rfl, Nat.le_of_ble_eq_true rfl⟩ (Nat.le_of_ble_eq_true rfl) dX11_part_119 (fun x22 X23 => ?_)
  refine T.if_eq (pc1 := 137) dX11_part_122 (by decide) ?_ ?_
  · refine T.aload_n dX11_part_137 rfl 0 rfl ?_
    refine T.bipush (w := 41) dX11_part_138 (by decide) ?_
    refine T.callV_v 0 (As1 := [.int 41]) (rest := []) (c_closes Γ (41 : Int32) X23) ka_X11_closes kv_X11_closes oR rfl k1832 rfl rfl rfl rfl ⟨Nat.le_of_ble_eq_true rfl, Nat.le_of_ble_eq_true rfl⟩ (Nat.le_of_ble_eq_true rfl) dX11_part_140 (fun _ X24 => ?_)
    exact c_part__V_143 Γ _ a1 X24
  · refine T.aload_n dX11_part_125 rfl 0 rfl ?_
    refine T.callV_v 0 (As1 := []) (rest := []) (c_next Γ X23) ka_X11_next kv_X11_next oR rfl k1776 rfl rfl rfl rfl ⟨Nat.le_of_ble_eq_true rfl, Nat.le_of_ble_eq_true rfl⟩ (Nat.le_of_ble_eq_true rfl) dX11_part_126 (fun _ X41 => ?_)
    refine T.aload_n dX11_part_129 rfl 0 rfl ?_
    refine T.iload_n dX11_part_130 rfl 1 rfl ?_
    refine T.callV_v 0 (As1 := [.int a1]) (rest := []) (c_param Γ a1 X41) ka_X11_param kv_X11_param oR rfl k1840 rfl rfl rfl rfl ⟨Nat.le_of_ble_eq_true rfl, Nat.le_of_ble_eq_true rfl⟩ (Nat.le_of_ble_eq_true rfl) dX11_part_131 (fun _ X42 => ?_)
    refine T.goto (pc1 := 116) dX11_part_134 (by decide) ?_
    exact hr116 a1 X42
noncomputable def f_part__V (X : St) : Option (Int32 × St) :=
  bnd (f_next X) fun _ X1 =>
  bnd (f_isWell X1) fun x2 X3 =>
  if x2.toInt = 0 then
    f_part__V_19 X3
  else
    letV (X3.1 0 7) fun x5 =>
    if x5.toInt = 1 then
      letV (X3.1 0 18) fun x6 =>
      letV (X3.2.1 0 47) fun y7 =>
      chk (inR x6 41) (letV (wL X3 11 (ix x6) y7) fun X8 =>
      letV (X8.1 0 6) fun x9 =>
      chk (inR x6 41) (letV (wI X8 12 (ix x6) x9) fun X10 =>
      letV (X10.1 0 8) fun x11 =>
      chk (inR x6 41) (letV (wI X10 13 (ix x6) x11) fun X12 =>
      chk (inR x6 41) (letV (wI X12 15 (ix x6) (0 : Int32)) fun X13 =>
      chk (inR x6 41) (letV (wI X13 17 (ix x6) (2 : Int32)) fun X14 =>
      letV (wI X14 0 20 ((0 : Int32))) fun X15 =>
      letV (wI X15 0 21 ((0 : Int32))) fun X16 =>
      bnd (f_next X16) fun _ X17 =>
      bnd (f_opens (40 : Int32) X17) fun _ X18 =>
      bnd (f_isSign (41 : Int32) X18) fun x19 X20 =>
      if x19.toInt = 0 then
        bnd (f_param x6 X20) fun _ X21 =>
        f_part__V_116 BIG x6 X21
      else
        bnd (f_closes (41 : Int32) X20) fun _ X43 =>
        f_part__V_143 x6 X43)))))
    else
      f_part__V_19 X3
set_option maxHeartbeats 4000000 in
set_option maxRecDepth 100000 in
theorem c_part__V (Γ : Gx) (X : St) : TMV YR Γ yX11_part cX11_part 2 "BlameCourtModel" none R_part__V [.ref (Γ.2.2.2.1 0)] X (f_part__V X) := by
  refine TMV.of (by decide) (Nat.le_of_ble_eq_true rfl) rfl ?_
  show T YR Γ cX11_part 2 "BlameCourtModel" none R_part__V _ qV 0 [(0, .ref (Γ.2.2.2.1 0))] [] X (f_part__V X)
  unfold f_part__V
  refine T.aload_n dX11_part_0 rfl 0 rfl ?_
  refine T.callV_v 0 (As1 := []) (rest := []) (c_next Γ X) ka_X11_next kv_X11_next oR rfl k1776 rfl rfl rfl rfl ⟨Nat.le_of_ble_eq_true rfl, Nat.le_of_ble_eq_true rfl⟩ (Nat.le_of_ble_eq_true rfl) dX11_part_1 (fun _ X1 => ?_)
  refine T.aload_n dX11_part_4 rfl 0 rfl ?_
  refine T.callV_i 0 (As1 := []) (rest := []) (c_isWell Γ X1) ka_X11_isWell kv_X11_isWell oR rfl k1800 rfl rfl rfl rfl ⟨Nat.le_of_ble_eq_true rfl, Nat.le_of_ble_eq_true rfl⟩ (Nat.le_of_ble_eq_true rfl) dX11_part_5 (fun x2 X3 => ?_)
  refine T.if_eq (pc1 := 19) dX11_part_8 (by decide) ?_ ?_
  · exact c_part__V_19 Γ _ X3
  · refine T.aload_n dX11_part_11 rfl 0 rfl ?_
    refine gR7 k1375 dX11_part_12 (fun x5 => ?_)
    refine T.iconst (w := 1) dX11_part_15 (by decide) ?_
    refine T.icmp_eq (pc1 := 24) dX11_part_16 (by decide) rfl ?_ ?_
    · refine T.aload_n dX11_part_24 rfl 0 rfl ?_
      refine gR18 k1394 dX11_part_25 (fun x6 => ?_)
      refine T.istore_n (lv1 := [(1, .int x6), (0, .ref (Γ.2.2.2.1 0))]) dX11_part_28 rfl (by decide) rfl ?_
      refine T.aload_n dX11_part_29 rfl 1 rfl ?_
      refine cR58 k1395 dX11_part_30 ?_
      refine T.iload_n dX11_part_33 rfl 0 rfl ?_
      refine T.aload_n dX11_part_34 rfl 1 rfl ?_
      refine gR47 k1376 dX11_part_35 (fun y7 => ?_)
      refine asR11 dX11_part_38 (fun X8 => ?_)
      refine T.aload_n dX11_part_39 rfl 1 rfl ?_
      refine cR59 k1396 dX11_part_40 ?_
      refine T.iload_n dX11_part_43 rfl 0 rfl ?_
      refine T.aload_n dX11_part_44 rfl 1 rfl ?_
      refine gR6 k1374 dX11_part_45 (fun x9 => ?_)
      refine asR12 dX11_part_48 (fun X10 => ?_)
      refine T.aload_n dX11_part_49 rfl 1 rfl ?_
      refine cR60 k1397 dX11_part_50 ?_
      refine T.iload_n dX11_part_53 rfl 0 rfl ?_
      refine T.aload_n dX11_part_54 rfl 1 rfl ?_
      refine gR8 k1377 dX11_part_55 (fun x11 => ?_)
      refine asR13 dX11_part_58 (fun X12 => ?_)
      refine T.aload_n dX11_part_59 rfl 1 rfl ?_
      refine cR62 k1399 dX11_part_60 ?_
      refine T.iload_n dX11_part_63 rfl 0 rfl ?_
      refine T.iconst (w := 0) dX11_part_64 (by decide) ?_
      refine asR15 dX11_part_65 (fun X13 => ?_)
      refine T.aload_n dX11_part_66 rfl 1 rfl ?_
      refine cR64 k1401 dX11_part_67 ?_
      refine T.iload_n dX11_part_70 rfl 0 rfl ?_
      refine T.iconst (w := 2) dX11_part_71 (by decide) ?_
      refine asR17 dX11_part_72 (fun X14 => ?_)
      refine T.aload_n dX11_part_73 rfl 1 rfl ?_
      refine T.iconst (w := 0) dX11_part_74 (by decide) ?_
      refine pR20 k1415 dX11_part_75 (fun X15 => ?_)
      refine T.aload_n dX11_part_78 rfl 1 rfl ?_
      refine T.iconst (w := 0) dX11_part_79 (by decide) ?_
      refine pR21 k1419 dX11_part_80 (fun X16 => ?_)
      refine T.aload_n dX11_part_83 rfl 1 rfl ?_
      refine T.callV_v 0 (As1 := []) (rest := []) (c_next Γ X16) ka_X11_next kv_X11_next oR rfl k1776 rfl rfl rfl rfl ⟨Nat.le_of_ble_eq_true rfl, Nat.le_of_ble_eq_true rfl⟩ (Nat.le_of_ble_eq_true rfl) dX11_part_84 (fun _ X17 => ?_)
      refine T.aload_n dX11_part_87 rfl 1 rfl ?_
      refine T.bipush (w := 40) dX11_part_88 (by decide) ?_
      refine T.callV_v 0 (As1 := [.int 40]) (rest := []) (c_opens Γ (40 : Int32) X17) ka_X11_opens kv_X11_opens oR rfl k1820 rfl rfl rfl rfl ⟨Nat.le_of_ble_eq_true rfl, Nat.le_of_ble_eq_true rfl⟩ (Nat.le_of_ble_eq_true rfl) dX11_part_90 (fun _ X18 => ?_)
      refine T.aload_n dX11_part_93 rfl 1 rfl ?_
      refine T.bipush (w := 41) dX11_part_94 (by decide) ?_
      refine T.callV_i 0 (As1 := [.int 41]) (rest := []) (c_isSign Γ (41 : Int32) X18) ka_X11_isSign kv_X11_isSign oR rfl k1824 rfl rfl rfl rfl ⟨Nat.le_of_ble_eq_true rfl, Nat.le_of_ble_eq_true rfl⟩ (Nat.le_of_ble_eq_true rfl) dX11_part_96 (fun x19 X20 => ?_)
      refine T.if_eq (pc1 := 111) dX11_part_99 (by decide) ?_ ?_
      · refine T.aload_n dX11_part_111 rfl 1 rfl ?_
        refine T.iload_n dX11_part_112 rfl 0 rfl ?_
        refine T.callV_v 0 (As1 := [.int x6]) (rest := []) (c_param Γ x6 X20) ka_X11_param kv_X11_param oR rfl k1840 rfl rfl rfl rfl ⟨Nat.le_of_ble_eq_true rfl, Nat.le_of_ble_eq_true rfl⟩ (Nat.le_of_ble_eq_true rfl) dX11_part_113 (fun _ X21 => ?_)
        refine T.sub [1, 0] rfl ?_
        exact c_part__V_116 Γ _ BIG x6 X21
      · refine T.aload_n dX11_part_102 rfl 1 rfl ?_
        refine T.bipush (w := 41) dX11_part_103 (by decide) ?_
        refine T.callV_v 0 (As1 := [.int 41]) (rest := []) (c_closes Γ (41 : Int32) X20) ka_X11_closes kv_X11_closes oR rfl k1832 rfl rfl rfl rfl ⟨Nat.le_of_ble_eq_true rfl, Nat.le_of_ble_eq_true rfl⟩ (Nat.le_of_ble_eq_true rfl) dX11_part_105 (fun _ X43 => ?_)
        refine T.goto (pc1 := 143) dX11_part_108 (by decide) ?_
        refine T.sub [1, 0] rfl ?_
        exact c_part__V_143 Γ _ x6 X43
    · exact c_part__V_19 Γ _ X3
abbrev R_partOf : Room := { frames := 6, cells := 0, slots := 0, locals := 90 }
noncomputable def f_partOf_33 (r10 : Int64 → Int32 → Int32 → St → Option (Int32 × St)) (l1 : Int64) (a4 : Int32) (b0 : Int32) (X : St) : Option (Int32 × St) :=
  letV (a4 + Int32.ofInt (-1)) fun x5 =>
  r10 l1 b0 x5 X
set_option maxHeartbeats 4000000 in
set_option maxRecDepth 100000 in
theorem c_partOf_33 (Γ : Gx) (As : List Value) (r10 : Int64 → Int32 → Int32 → St → Option (Int32 × St)) (hr10 : ∀ (l1 : Int64) (a3 : Int32) (a4 : Int32) (X : St), T YR Γ cX11_partOf 5 "BlameCourtModel" (some .int) R_partOf As qI 10 [(0, .ref (Γ.2.2.2.1 0)), (1, .long l1), (3, .int a3), (4, .int a4)] [] X (r10 l1 a3 a4 X)) (l1 : Int64) (a4 : Int32) (b0 : Int32) (X : St) : T YR Γ cX11_partOf 5 "BlameCourtModel" (some .int) R_partOf As qI 33 [(0, .ref (Γ.2.2.2.1 0)), (1, .long l1), (4, .int a4)] [.int b0] X (f_partOf_33 r10 l1 a4 b0 X) := by
  unfold f_partOf_33
  refine T.istore_n (lv1 := [(3, .int b0), (0, .ref (Γ.2.2.2.1 0)), (1, .long l1), (4, .int a4)]) dX11_partOf_33 rfl (by decide) rfl ?_
  refine T.iinc dX11_partOf_34 3 rfl (by decide) (lvf := fun x5 => [(4, .int x5), (3, .int b0), (0, .ref (Γ.2.2.2.1 0)), (1, .long l1)]) (fun _ => rfl) (fun x5 => ?_)
  refine T.goto (pc1 := 10) dX11_partOf_37 (by decide) ?_
  refine T.sub [2, 3, 1, 0] rfl ?_
  exact hr10 l1 b0 x5 X
noncomputable def f_partOf_10_s (r10 : Int64 → Int32 → Int32 → St → Option (Int32 × St)) (l1 : Int64) (a3 : Int32) (a4 : Int32) (X : St) : Option (Int32 × St) :=
  if a4.toInt < 0 then
    some (a3, X)
  else
    chk (inR a4 41) (letV (X.2.1 11 (ix a4)) fun y3 =>
    letV (lg_cmp y3 l1) fun x4 =>
    if x4.toInt = 0 then
      f_partOf_33 r10 l1 a4 a4 X
    else
      f_partOf_33 r10 l1 a4 a3 X)
noncomputable def f_partOf_10 (n : Nat) : Int64 → Int32 → Int32 → St → Option (Int32 × St) := lp (fun _ _ _ _ => none) (f_partOf_10_s) n
set_option maxHeartbeats 4000000 in
set_option maxRecDepth 100000 in
theorem c_partOf_10 (Γ : Gx) (As : List Value) (n : Nat) : ∀ (l1 : Int64) (a3 : Int32) (a4 : Int32) (X : St), T YR Γ cX11_partOf 5 "BlameCourtModel" (some .int) R_partOf As qI 10 [(0, .ref (Γ.2.2.2.1 0)), (1, .long l1), (3, .int a3), (4, .int a4)] [] X (f_partOf_10 n l1 a3 a4 X) := by
  unfold f_partOf_10
  refine lp_ind (P := fun (r10 : Int64 → Int32 → Int32 → St → Option (Int32 × St)) => ∀ (l1 : Int64) (a3 : Int32) (a4 : Int32) (X : St), T YR Γ cX11_partOf 5 "BlameCourtModel" (some .int) R_partOf As qI 10 [(0, .ref (Γ.2.2.2.1 0)), (1, .long l1), (3, .int a3), (4, .int a4)] [] X (r10 l1 a3 a4 X)) (fun _ _ _ _ => T.no) ?_ n
  intro r10 hr10 l1 a3 a4 X
  unfold f_partOf_10_s
  refine T.iload dX11_partOf_10 3 rfl ?_
  refine T.if_lt (pc1 := 40) dX11_partOf_12 (by decide) ?_ ?_
  · refine T.iload_n dX11_partOf_40 rfl 2 rfl ?_
    exact T.ret_i rfl dX11_partOf_41
  · refine T.aload_n dX11_partOf_15 rfl 0 rfl ?_
    refine cR58 k1395 dX11_partOf_16 ?_
    refine T.iload dX11_partOf_19 3 rfl ?_
    refine alR11 dX11_partOf_21 (fun y3 => ?_)
    refine T.lload_n dX11_partOf_22 rfl 1 rfl ?_
    refine T.lcmp dX11_partOf_23 (fun x4 => ?_)
    refine T.if_ne (pc1 := 32) dX11_partOf_24 (by decide) ?_ ?_
    · refine T.iload_n dX11_partOf_32 rfl 2 rfl ?_
      refine T.sub [0, 1, 3] rfl ?_
      exact c_partOf_33 Γ _ r10 hr10 l1 a4 a3 X
    · refine T.iload dX11_partOf_27 3 rfl ?_
      refine T.goto (pc1 := 33) dX11_partOf_29 (by decide) ?_
      refine T.sub [0, 1, 3] rfl ?_
      exact c_partOf_33 Γ _ r10 hr10 l1 a4 a4 X
noncomputable def f_partOf (q1 : Int64) (X : St) : Option (Int32 × St) :=
  letV (X.1 0 18) fun x1 =>
  letV (x1 - (1 : Int32)) fun x2 =>
  f_partOf_10 BIG q1 (-1 : Int32) x2 X
set_option maxHeartbeats 4000000 in
set_option maxRecDepth 100000 in
theorem c_partOf (Γ : Gx) (q1 : Int64) (X : St) : TMI YR Γ yX11_partOf cX11_partOf 5 "BlameCourtModel" (some .int) R_partOf [.ref (Γ.2.2.2.1 0), .long q1] X (f_partOf q1 X) := by
  refine TMI.of (by decide) (Nat.le_of_ble_eq_true rfl) rfl ?_
  show T YR Γ cX11_partOf 5 "BlameCourtModel" (some .int) R_partOf _ qI 0 [(0, .ref (Γ.2.2.2.1 0)), (1, .long q1)] [] X (f_partOf q1 X)
  unfold f_partOf
  refine T.iconst (w := (-1)) dX11_partOf_0 (by decide) ?_
  refine T.istore_n (lv1 := [(3, .int (-1)), (0, .ref (Γ.2.2.2.1 0)), (1, .long q1)]) dX11_partOf_1 rfl (by decide) rfl ?_
  refine T.aload_n dX11_partOf_2 rfl 1 rfl ?_
  refine gR18 k1394 dX11_partOf_3 (fun x1 => ?_)
  refine T.iconst (w := 1) dX11_partOf_6 (by decide) ?_
  refine T.isub dX11_partOf_7 (fun x2 => ?_)
  refine T.istore (lv1 := [(4, .int x2), (3, .int (-1)), (0, .ref (Γ.2.2.2.1 0)), (1, .long q1)]) dX11_partOf_8 (by decide) rfl ?_
  refine T.sub [2, 3, 1, 0] rfl ?_
  exact c_partOf_10 Γ _ BIG q1 (-1 : Int32) x2 X
abbrev R_knows : Room := { frames := 10, cells := 0, slots := 0, locals := 150 }
noncomputable def f_knows_126 (r60 : Int32 → Int32 → Int32 → St → Option (Int32 × St)) (a1 : Int32) (a2 : Int32) (a3 : Int32) (X : St) : Option (Int32 × St) :=
  letV (a3 + Int32.ofInt (1)) fun x12 =>
  r60 a1 a2 x12 X
set_option maxHeartbeats 4000000 in
set_option maxRecDepth 100000 in
theorem c_knows_126 (Γ : Gx) (As : List Value) (r60 : Int32 → Int32 → Int32 → St → Option (Int32 × St)) (hr60 : ∀ (a1 : Int32) (a2 : Int32) (a3 : Int32) (X : St), T YR Γ cX11_knows 4 "BlameCourtModel" none R_knows As qV 60 [(0, .ref (Γ.2.2.2.1 0)), (1, .int a1), (2, .int a2), (3, .int a3)] [] X (r60 a1 a2 a3 X)) (a1 : Int32) (a2 : Int32) (a3 : Int32) (X : St) : T YR Γ cX11_knows 4 "BlameCourtModel" none R_knows As qV 126 [(0, .ref (Γ.2.2.2.1 0)), (1, .int a1), (2, .int a2), (3, .int a3)] [] X (f_knows_126 r60 a1 a2 a3 X) := by
  unfold f_knows_126
  refine T.iinc dX11_knows_126 3 rfl (by decide) (lvf := fun x12 => [(3, .int x12), (0, .ref (Γ.2.2.2.1 0)), (1, .int a1), (2, .int a2)]) (fun _ => rfl) (fun x12 => ?_)
  refine T.goto (pc1 := 60) dX11_knows_129 (by decide) ?_
  refine T.sub [1, 2, 3, 0] rfl ?_
  exact hr60 a1 a2 x12 X
noncomputable def f_knows_60_s (r60 : Int32 → Int32 → Int32 → St → Option (Int32 × St)) (a1 : Int32) (a2 : Int32) (a3 : Int32) (X : St) : Option (Int32 × St) :=
  letV (X.1 0 19) fun x4 =>
  if x4.toInt ≤ a3.toInt then
    if a2.toInt ≤ 0 then
      some (0, X)
    else
      bnd (f_fails a2 a1 X) fun _ X5 =>
      some (0, X5)
  else
    chk (inR a3 3100) (letV (X.1 20 (ix a3)) fun x6 =>
    if x6.toInt = 3 then
      chk (inR a3 3100) (letV (X.2.1 29 (ix a3)) fun y7 =>
      bnd (f_partOf y7 X) fun x8 X9 =>
      chk (inR a3 3100) (letV (wI X9 26 (ix a3) x8) fun X10 =>
      chk (inR a3 3100) (letV (X10.1 26 (ix a3)) fun x11 =>
      if 0 ≤ x11.toInt then
        f_knows_126 r60 a1 a2 a3 X10
      else
        chk (inR a3 3100) (letV (X10.1 21 (ix a3)) fun x13 =>
        if a1.toInt ≤ x13.toInt then
          f_knows_126 r60 a1 a2 a3 X10
        else
          chk (inR a3 3100) (letV (X10.1 21 (ix a3)) fun x14 =>
          f_knows_126 r60 x14 (6 : Int32) a3 X10)))))
    else
      f_knows_126 r60 a1 a2 a3 X)
noncomputable def f_knows_60 (n : Nat) : Int32 → Int32 → Int32 → St → Option (Int32 × St) := lp (fun _ _ _ _ => none) (f_knows_60_s) n
set_option maxHeartbeats 4000000 in
set_option maxRecDepth 100000 in
theorem c_knows_60 (Γ : Gx) (As : List Value) (n : Nat) : ∀ (a1 : Int32) (a2 : Int32) (a3 : Int32) (X : St), T YR Γ cX11_knows 4 "BlameCourtModel" none R_knows As qV 60 [(0, .ref (Γ.2.2.2.1 0)), (1, .int a1), (2, .int a2), (3, .int a3)] [] X (f_knows_60 n a1 a2 a3 X) := by
  unfold f_knows_60
  refine lp_ind (P := fun (r60 : Int32 → Int32 → Int32 → St → Option (Int32 × St)) => ∀ (a1 : Int32) (a2 : Int32) (a3 : Int32) (X : St), T YR Γ cX11_knows 4 "BlameCourtModel" none R_knows As qV 60 [(0, .ref (Γ.2.2.2.1 0)), (1, .int a1), (2, .int a2), (3, .int a3)] [] X (r60 a1 a2 a3 X)) (fun _ _ _ _ => T.no) ?_ n
  intro r60 hr60 a1 a2 a3 X
  unfold f_knows_60_s
  refine T.iload_n dX11_knows_60 rfl 3 rfl ?_
  refine T.aload_n dX11_knows_61 rfl 0 rfl ?_
  refine gR19 k1404 dX11_knows_62 (fun x4 => ?_)
  refine T.icmp_ge (pc1 := 132) dX11_knows_65 (by decide) rfl ?_ ?_
  · refine T.iload_n dX11_knows_132 rfl 2 rfl ?_
    refine T.if_le (pc1 := 142) dX11_knows_133 (by decide) ?_ ?_
    · exact T.ret_v rfl dX11_knows_142
    · refine T.aload_n dX11_knows_136 rfl 0 rfl ?_
      refine T.iload_n dX11_knows_137 rfl 2 rfl ?_
      refine T.iload_n dX11_knows_138 rfl 1 rfl ?_
      refine T.callV_v 0 (As1 := [.int a2, .int a1]) (rest := []) (c_fails Γ a2 a1 X) ka_X11_fails kv_X11_fails oR rfl k1812 rfl rfl rfl rfl ⟨Nat.le_of_ble_eq_true rfl, Nat.le_of_ble_eq_true rfl⟩ (Nat.le_of_ble_eq_true rfl) dX11_knows_139 (fun _ X5 => ?_)
      exact T.ret_v rfl dX11_knows_142
  · refine T.aload_n dX11_knows_68 rfl 0 rfl ?_
    refine cR67 k1405 dX11_knows_69 ?_
    refine T.iload_n dX11_knows_72 rfl 3 rfl ?_
    refine alR20 dX11_knows_73 (fun x6 => ?_)
    refine T.iconst (w := 3) dX11_knows_74 (by decide) ?_
    refine T.icmp_eq (pc1 := 81) dX11_knows_75 (by decide) rfl ?_ ?_
    · refine T.aload_n dX11_knows_81 rfl 0 rfl ?_
      refine cR73 k1411 dX11_knows_82 ?_
      refine T.iload_n dX11_knows_85 rfl 3 rfl ?_
      refine T.aload_n dX11_knows_86 rfl 0 rfl ?_
      refine T.aload_n dX11_knows_87 rfl 0 rfl ?_
      refine cR76 k1414 dX11_knows_88 ?_
      refine T.iload_n dX11_knows_91 rfl 3 rfl ?_
      refine alR29 dX11_knows_92 (fun y7 => ?_)
      refine T.callV_i 0 (As1 := [.long y7]) (rest := [.int a3, .ref (Γ.2.2.2.1 26)]) (c_partOf Γ y7 X) ka_X11_partOf kv_X11_partOf oR rfl k1963 rfl rfl rfl rfl ⟨Nat.le_of_ble_eq_true rfl, Nat.le_of_ble_eq_true rfl⟩ (Nat.le_of_ble_eq_true rfl) dX11_knows_93 (fun x8 X9 => ?_)
      refine asR26 dX11_knows_96 (fun X10 => ?_)
      refine T.aload_n dX11_knows_97 rfl 0 rfl ?_
      refine cR73 k1411 dX11_knows_98 ?_
      refine T.iload_n dX11_knows_101 rfl 3 rfl ?_
      refine alR26 dX11_knows_102 (fun x11 => ?_)
      refine T.if_ge (pc1 := 126) dX11_knows_103 (by decide) ?_ ?_
      · exact c_knows_126 Γ _ r60 hr60 a1 a2 a3 X10
      · refine T.aload_n dX11_knows_106 rfl 0 rfl ?_
        refine cR68 k1406 dX11_knows_107 ?_
        refine T.iload_n dX11_knows_110 rfl 3 rfl ?_
        refine alR21 dX11_knows_111 (fun x13 => ?_)
        refine T.iload_n dX11_knows_112 rfl 1 rfl ?_
        refine T.icmp_ge (pc1 := 126) dX11_knows_113 (by decide) rfl ?_ ?_
        · exact c_knows_126 Γ _ r60 hr60 a1 a2 a3 X10
        · refine T.aload_n dX11_knows_116 rfl 0 rfl ?_
          refine cR68 k1406 dX11_knows_117 ?_
          refine T.iload_n dX11_knows_120 rfl 3 rfl ?_
          refine alR21 dX11_knows_121 (fun x14 => ?_)
          refine T.istore_n (lv1 := [(1, .int x14), (0, .ref (Γ.2.2.2.1 0)), (2, .int a2), (3, .int a3)]) dX11_knows_122 rfl (by decide) rfl ?_
          refine T.bipush (w := 6) dX11_knows_123 (by decide) ?_
          refine T.istore_n (lv1 := [(2, .int 6), (1, .int x14), (0, .ref (Γ.2.2.2.1 0)), (3, .int a3)]) dX11_knows_125 rfl (by decide) rfl ?_
          refine T.sub [2, 1, 0, 3] rfl ?_
          exact c_knows_126 Γ _ r60 hr60 x14 (6 : Int32) a3 X10
    · refine T.goto (pc1 := 126) dX11_knows_78 (by decide) ?_
      exact c_knows_126 Γ _ r60 hr60 a1 a2 a3 X
noncomputable def f_knows_52 (r11 : Int32 → Int32 → Int32 → St → Option (Int32 × St)) (a1 : Int32) (a2 : Int32) (a3 : Int32) (X : St) : Option (Int32 × St) :=
  letV (a3 + Int32.ofInt (1)) fun x18 =>
  r11 a1 a2 x18 X
set_option maxHeartbeats 4000000 in
set_option maxRecDepth 100000 in
theorem c_knows_52 (Γ : Gx) (As : List Value) (r11 : Int32 → Int32 → Int32 → St → Option (Int32 × St)) (hr11 : ∀ (a1 : Int32) (a2 : Int32) (a3 : Int32) (X : St), T YR Γ cX11_knows 4 "BlameCourtModel" none R_knows As qV 11 [(0, .ref (Γ.2.2.2.1 0)), (1, .int a1), (2, .int a2), (3, .int a3)] [] X (r11 a1 a2 a3 X)) (a1 : Int32) (a2 : Int32) (a3 : Int32) (X : St) : T YR Γ cX11_knows 4 "BlameCourtModel" none R_knows As qV 52 [(0, .ref (Γ.2.2.2.1 0)), (1, .int a1), (2, .int a2), (3, .int a3)] [] X (f_knows_52 r11 a1 a2 a3 X) := by
  unfold f_knows_52
  refine T.iinc dX11_knows_52 3 rfl (by decide) (lvf := fun x18 => [(3, .int x18), (0, .ref (Γ.2.2.2.1 0)), (1, .int a1), (2, .int a2)]) (fun _ => rfl) (fun x18 => ?_)
  refine T.goto (pc1 := 11) dX11_knows_55 (by decide) ?_
  refine T.sub [1, 2, 3, 0] rfl ?_
  exact hr11 a1 a2 x18 X
noncomputable def f_knows_11_s (r11 : Int32 → Int32 → Int32 → St → Option (Int32 × St)) (a1 : Int32) (a2 : Int32) (a3 : Int32) (X : St) : Option (Int32 × St) :=
  letV (X.1 0 18) fun x3 =>
  if x3.toInt ≤ a3.toInt then
    f_knows_60 BIG a1 a2 (0 : Int32) X
  else
    chk (inR a3 41) (letV (X.2.1 11 (ix a3)) fun y15 =>
    bnd (f_partOf y15 X) fun x16 X17 =>
    if a3.toInt ≤ x16.toInt then
      f_knows_52 r11 a1 a2 a3 X17
    else
      chk (inR a3 41) (letV (X17.1 12 (ix a3)) fun x19 =>
      if a1.toInt ≤ x19.toInt then
        f_knows_52 r11 a1 a2 a3 X17
      else
        chk (inR a3 41) (letV (X17.1 12 (ix a3)) fun x20 =>
        f_knows_52 r11 x20 (5 : Int32) a3 X17)))
noncomputable def f_knows_11 (n : Nat) : Int32 → Int32 → Int32 → St → Option (Int32 × St) := lp (fun _ _ _ _ => none) (f_knows_11_s) n
set_option maxHeartbeats 4000000 in
set_option maxRecDepth 100000 in
theorem c_knows_11 (Γ : Gx) (As : List Value) (n : Nat) : ∀ (a1 : Int32) (a2 : Int32) (a3 : Int32) (X : St), T YR Γ cX11_knows 4 "BlameCourtModel" none R_knows As qV 11 [(0, .ref (Γ.2.2.2.1 0)), (1, .int a1), (2, .int a2), (3, .int a3)] [] X (f_knows_11 n a1 a2 a3 X) := by
  unfold f_knows_11
  refine lp_ind (P := fun (r11 : Int32 → Int32 → Int32 → St → Option (Int32 × St)) => ∀ (a1 : Int32) (a2 : Int32) (a3 : Int32) (X : St), T YR Γ cX11_knows 4 "BlameCourtModel" none R_knows As qV 11 [(0, .ref (Γ.2.2.2.1 0)), (1, .int a1), (2, .int a2), (3, .int a3)] [] X (r11 a1 a2 a3 X)) (fun _ _ _ _ => T.no) ?_ n
  intro r11 hr11 a1 a2 a3 X
  unfold f_knows_11_s
  refine T.iload_n dX11_knows_11 rfl 3 rfl ?_
  refine T.aload_n dX11_knows_12 rfl 0 rfl ?_
  refine gR18 k1394 dX11_knows_13 (fun x3 => ?_)
  refine T.icmp_ge (pc1 := 58) dX11_knows_16 (by decide) rfl ?_ ?_
  · refine T.iconst (w := 0) dX11_knows_58 (by decide) ?_
    refine T.istore_n (lv1 := [(3, .int 0), (0, .ref (Γ.2.2.2.1 0)), (1, .int a1), (2, .int a2)]) dX11_knows_59 rfl (by decide) rfl ?_
    refine T.sub [1, 2, 3, 0] rfl ?_
    exact c_knows_60 Γ _ BIG a1 a2 (0 : Int32) X
  · refine T.aload_n dX11_knows_19 rfl 0 rfl ?_
    refine T.aload_n dX11_knows_20 rfl 0 rfl ?_
    refine cR58 k1395 dX11_knows_21 ?_
    refine T.iload_n dX11_knows_24 rfl 3 rfl ?_
    refine alR11 dX11_knows_25 (fun y15 => ?_)
    refine T.callV_i 0 (As1 := [.long y15]) (rest := []) (c_partOf Γ y15 X) ka_X11_partOf kv_X11_partOf oR rfl k1963 rfl rfl rfl rfl ⟨Nat.le_of_ble_eq_true rfl, Nat.le_of_ble_eq_true rfl⟩ (Nat.le_of_ble_eq_true rfl) dX11_knows_26 (fun x16 X17 => ?_)
    refine T.iload_n dX11_knows_29 rfl 3 rfl ?_
    refine T.icmp_ge (pc1 := 52) dX11_knows_30 (by decide) rfl ?_ ?_
    · exact c_knows_52 Γ _ r11 hr11 a1 a2 a3 X17
    · refine T.aload_n dX11_knows_33 rfl 0 rfl ?_
      refine cR59 k1396 dX11_knows_34 ?_
      refine T.iload_n dX11_knows_37 rfl 3 rfl ?_
      refine alR12 dX11_knows_38 (fun x19 => ?_)
      refine T.iload_n dX11_knows_39 rfl 1 rfl ?_
      refine T.icmp_ge (pc1 := 52) dX11_knows_40 (by decide) rfl ?_ ?_
      · exact c_knows_52 Γ _ r11 hr11 a1 a2 a3 X17
      · refine T.aload_n dX11_knows_43 rfl 0 rfl ?_
        refine cR59 k1396 dX11_knows_44 ?_
        refine T.iload_n dX11_knows_47 rfl 3 rfl ?_
        refine alR12 dX11_knows_48 (fun x20 => ?_)
        refine T.istore_n (lv1 := [(1, .int x20), (0, .ref (Γ.2.2.2.1 0)), (2, .int a2), (3, .int a3)]) dX11_knows_49 rfl (by decide) rfl ?_
        refine T.iconst (w := 5) dX11_knows_50 (by decide) ?_
        refine T.istore_n (lv1 := [(2, .int 5), (1, .int x20), (0, .ref (Γ.2.2.2.1 0)), (3, .int a3)]) dX11_knows_51 rfl (by decide) rfl ?_
        refine T.sub [2, 1, 0, 3] rfl ?_
        exact c_knows_52 Γ _ r11 hr11 x20 (5 : Int32) a3 X17
noncomputable def f_knows (X : St) : Option (Int32 × St) :=
  letV (X.1 0 1) fun x1 =>
  letV (x1 + (1 : Int32)) fun x2 =>
  f_knows_11 BIG x2 (0 : Int32) (0 : Int32) X
set_option maxHeartbeats 4000000 in
set_option maxRecDepth 100000 in
theorem c_knows (Γ : Gx) (X : St) : TMV YR Γ yX11_knows cX11_knows 4 "BlameCourtModel" none R_knows [.ref (Γ.2.2.2.1 0)] X (f_knows X) := by
  refine TMV.of (by decide) (Nat.le_of_ble_eq_true rfl) rfl ?_
  show T YR Γ cX11_knows 4 "BlameCourtModel" none R_knows _ qV 0 [(0, .ref (Γ.2.2.2.1 0))] [] X (f_knows X)
  unfold f_knows
  refine T.aload_n dX11_knows_0 rfl 0 rfl ?_
  refine gR1 k1368 dX11_knows_1 (fun x1 => ?_)
  refine T.iconst (w := 1) dX11_knows_4 (by decide) ?_
  refine T.iadd dX11_knows_5 (fun x2 => ?_)
  refine T.istore_n (lv1 := [(1, .int x2), (0, .ref (Γ.2.2.2.1 0))]) dX11_knows_6 rfl (by decide) rfl ?_
  refine T.iconst (w := 0) dX11_knows_7 (by decide) ?_
  refine T.istore_n (lv1 := [(2, .int 0), (1, .int x2), (0, .ref (Γ.2.2.2.1 0))]) dX11_knows_8 rfl (by decide) rfl ?_
  refine T.iconst (w := 0) dX11_knows_9 (by decide) ?_
  refine T.istore_n (lv1 := [(3, .int 0), (2, .int 0), (1, .int x2), (0, .ref (Γ.2.2.2.1 0))]) dX11_knows_10 rfl (by decide) rfl ?_
  refine T.sub [3, 2, 1, 0] rfl ?_
  exact c_knows_11 Γ _ BIG x2 (0 : Int32) (0 : Int32) X
