theorem dX11_asks_0 : decode cX11_asks 0 = .ok (.iload_n 2, 1) := by decide +kernel
theorem dX11_asks_1 : decode cX11_asks 1 = .ok (.istore 7, 2) := by decide +kernel
theorem dX11_asks_3 : decode cX11_asks 3 = .ok (.iload_n 3, 1) := by decide +kernel
theorem dX11_asks_4 : decode cX11_asks 4 = .ok (.istore 8, 2) := by decide +kernel
theorem dX11_asks_6 : decode cX11_asks 6 = .ok (.iconst 1, 1) := by decide +kernel
theorem dX11_asks_7 : decode cX11_asks 7 = .ok (.istore 9, 2) := by decide +kernel
theorem dX11_asks_9 : decode cX11_asks 9 = .ok (.iload 9, 2) := by decide +kernel
theorem dX11_asks_11 : decode cX11_asks 11 = .ok (.ifCond .eq 232, 3) := by decide +kernel
theorem dX11_asks_14 : decode cX11_asks 14 = .ok (.iload 7, 2) := by decide +kernel
theorem dX11_asks_16 : decode cX11_asks 16 = .ok (.iload 8, 2) := by decide +kernel
theorem dX11_asks_18 : decode cX11_asks 18 = .ok (.if_icmp .eq 225, 3) := by decide +kernel
theorem dX11_asks_21 : decode cX11_asks 21 = .ok (.aload_n 0, 1) := by decide +kernel
theorem dX11_asks_22 : decode cX11_asks 22 = .ok (.getfield 257, 3) := by decide +kernel
theorem dX11_asks_25 : decode cX11_asks 25 = .ok (.bipush 41, 2) := by decide +kernel
theorem dX11_asks_27 : decode cX11_asks 27 = .ok (.iload 4, 2) := by decide +kernel
theorem dX11_asks_29 : decode cX11_asks 29 = .ok (.imul, 1) := by decide +kernel
theorem dX11_asks_30 : decode cX11_asks 30 = .ok (.iload 5, 2) := by decide +kernel
theorem dX11_asks_32 : decode cX11_asks 32 = .ok (.iadd, 1) := by decide +kernel
theorem dX11_asks_33 : decode cX11_asks 33 = .ok (.dup2, 1) := by decide +kernel
theorem dX11_asks_34 : decode cX11_asks 34 = .ok (.iaload, 1) := by decide +kernel
theorem dX11_asks_35 : decode cX11_asks 35 = .ok (.iconst 1, 1) := by decide +kernel
theorem dX11_asks_36 : decode cX11_asks 36 = .ok (.iadd, 1) := by decide +kernel
theorem dX11_asks_37 : decode cX11_asks 37 = .ok (.iastore, 1) := by decide +kernel
theorem dX11_asks_38 : decode cX11_asks 38 = .ok (.iload 8, 2) := by decide +kernel
theorem dX11_asks_40 : decode cX11_asks 40 = .ok (.iconst 2, 1) := by decide +kernel
theorem dX11_asks_41 : decode cX11_asks 41 = .ok (.if_icmp .ne 74, 3) := by decide +kernel
theorem dX11_asks_44 : decode cX11_asks 44 = .ok (.aload_n 0, 1) := by decide +kernel
theorem dX11_asks_45 : decode cX11_asks 45 = .ok (.getfield 26, 3) := by decide +kernel
theorem dX11_asks_48 : decode cX11_asks 48 = .ok (.iload 7, 2) := by decide +kernel
theorem dX11_asks_50 : decode cX11_asks 50 = .ok (.iaload, 1) := by decide +kernel
theorem dX11_asks_51 : decode cX11_asks 51 = .ok (.iconst 3, 1) := by decide +kernel
theorem dX11_asks_52 : decode cX11_asks 52 = .ok (.if_icmp .le 7, 3) := by decide +kernel
theorem dX11_asks_55 : decode cX11_asks 55 = .ok (.iconst 1, 1) := by decide +kernel
theorem dX11_asks_56 : decode cX11_asks 56 = .ok (.goto 4, 3) := by decide +kernel
theorem dX11_asks_59 : decode cX11_asks 59 = .ok (.iconst 0, 1) := by decide +kernel
theorem dX11_asks_60 : decode cX11_asks 60 = .ok (.istore 9, 2) := by decide +kernel
theorem dX11_asks_62 : decode cX11_asks 62 = .ok (.aload_n 0, 1) := by decide +kernel
theorem dX11_asks_63 : decode cX11_asks 63 = .ok (.getfield 26, 3) := by decide +kernel
theorem dX11_asks_66 : decode cX11_asks 66 = .ok (.iload 7, 2) := by decide +kernel
theorem dX11_asks_68 : decode cX11_asks 68 = .ok (.iaload, 1) := by decide +kernel
theorem dX11_asks_69 : decode cX11_asks 69 = .ok (.iconst 4, 1) := by decide +kernel
theorem dX11_asks_70 : decode cX11_asks 70 = .ok (.if_icmp .ne 11, 3) := by decide +kernel
theorem dX11_asks_73 : decode cX11_asks 73 = .ok (.aload_n 0, 1) := by decide +kernel
theorem dX11_asks_74 : decode cX11_asks 74 = .ok (.iconst 2, 1) := by decide +kernel
theorem dX11_asks_75 : decode cX11_asks 75 = .ok (.invokevirtual 380, 3) := by decide +kernel
theorem dX11_asks_78 : decode cX11_asks 78 = .ok (.goto 32, 3) := by decide +kernel
theorem dX11_asks_81 : decode cX11_asks 81 = .ok (.aload_n 0, 1) := by decide +kernel
theorem dX11_asks_82 : decode cX11_asks 82 = .ok (.getfield 26, 3) := by decide +kernel
theorem dX11_asks_85 : decode cX11_asks 85 = .ok (.iload 7, 2) := by decide +kernel
theorem dX11_asks_87 : decode cX11_asks 87 = .ok (.iaload, 1) := by decide +kernel
theorem dX11_asks_88 : decode cX11_asks 88 = .ok (.iconst 5, 1) := by decide +kernel
theorem dX11_asks_89 : decode cX11_asks 89 = .ok (.if_icmp .ne 19, 3) := by decide +kernel
theorem dX11_asks_92 : decode cX11_asks 92 = .ok (.aload_n 0, 1) := by decide +kernel
theorem dX11_asks_93 : decode cX11_asks 93 = .ok (.aload_n 0, 1) := by decide +kernel
theorem dX11_asks_94 : decode cX11_asks 94 = .ok (.getfield 30, 3) := by decide +kernel
theorem dX11_asks_97 : decode cX11_asks 97 = .ok (.iload 7, 2) := by decide +kernel
theorem dX11_asks_99 : decode cX11_asks 99 = .ok (.iaload, 1) := by decide +kernel
theorem dX11_asks_100 : decode cX11_asks 100 = .ok (.iconst 1, 1) := by decide +kernel
theorem dX11_asks_101 : decode cX11_asks 101 = .ok (.isub, 1) := by decide +kernel
theorem dX11_asks_102 : decode cX11_asks 102 = .ok (.invokevirtual 621, 3) := by decide +kernel
theorem dX11_asks_105 : decode cX11_asks 105 = .ok (.goto 5, 3) := by decide +kernel
theorem dX11_asks_108 : decode cX11_asks 108 = .ok (.iload 8, 2) := by decide +kernel
theorem dX11_asks_110 : decode cX11_asks 110 = .ok (.istore 8, 2) := by decide +kernel
theorem dX11_asks_112 : decode cX11_asks 112 = .ok (.goto (-103), 3) := by decide +kernel
theorem dX11_asks_115 : decode cX11_asks 115 = .ok (.iload 7, 2) := by decide +kernel
theorem dX11_asks_117 : decode cX11_asks 117 = .ok (.iconst 2, 1) := by decide +kernel
theorem dX11_asks_118 : decode cX11_asks 118 = .ok (.if_icmp .ne 104, 3) := by decide +kernel
theorem dX11_asks_121 : decode cX11_asks 121 = .ok (.aload_n 0, 1) := by decide +kernel
theorem dX11_asks_122 : decode cX11_asks 122 = .ok (.iload_n 1, 1) := by decide +kernel
theorem dX11_asks_123 : decode cX11_asks 123 = .ok (.iload 8, 2) := by decide +kernel
theorem dX11_asks_125 : decode cX11_asks 125 = .ok (.invokevirtual 645, 3) := by decide +kernel
theorem dX11_asks_128 : decode cX11_asks 128 = .ok (.ifCond .ne 16, 3) := by decide +kernel
theorem dX11_asks_131 : decode cX11_asks 131 = .ok (.aload_n 0, 1) := by decide +kernel
theorem dX11_asks_132 : decode cX11_asks 132 = .ok (.iload 4, 2) := by decide +kernel
theorem dX11_asks_134 : decode cX11_asks 134 = .ok (.putfield 648, 3) := by decide +kernel
theorem dX11_asks_137 : decode cX11_asks 137 = .ok (.aload_n 0, 1) := by decide +kernel
theorem dX11_asks_138 : decode cX11_asks 138 = .ok (.iconst 3, 1) := by decide +kernel
theorem dX11_asks_139 : decode cX11_asks 139 = .ok (.iload 6, 2) := by decide +kernel
theorem dX11_asks_141 : decode cX11_asks 141 = .ok (.invokevirtual 651, 3) := by decide +kernel
theorem dX11_asks_144 : decode cX11_asks 144 = .ok (.aload_n 0, 1) := by decide +kernel
theorem dX11_asks_145 : decode cX11_asks 145 = .ok (.getfield 26, 3) := by decide +kernel
theorem dX11_asks_148 : decode cX11_asks 148 = .ok (.iload 8, 2) := by decide +kernel
theorem dX11_asks_150 : decode cX11_asks 150 = .ok (.iaload, 1) := by decide +kernel
theorem dX11_asks_151 : decode cX11_asks 151 = .ok (.iconst 3, 1) := by decide +kernel
theorem dX11_asks_152 : decode cX11_asks 152 = .ok (.if_icmp .le 14, 3) := by decide +kernel
theorem dX11_asks_155 : decode cX11_asks 155 = .ok (.aload_n 0, 1) := by decide +kernel
theorem dX11_asks_156 : decode cX11_asks 156 = .ok (.invokevirtual 654, 3) := by decide +kernel
theorem dX11_asks_159 : decode cX11_asks 159 = .ok (.ifCond .eq 7, 3) := by decide +kernel
theorem dX11_asks_162 : decode cX11_asks 162 = .ok (.iconst 1, 1) := by decide +kernel
theorem dX11_asks_163 : decode cX11_asks 163 = .ok (.goto 4, 3) := by decide +kernel
theorem dX11_asks_166 : decode cX11_asks 166 = .ok (.iconst 0, 1) := by decide +kernel
theorem dX11_asks_167 : decode cX11_asks 167 = .ok (.istore 9, 2) := by decide +kernel
theorem dX11_asks_169 : decode cX11_asks 169 = .ok (.aload_n 0, 1) := by decide +kernel
theorem dX11_asks_170 : decode cX11_asks 170 = .ok (.getfield 26, 3) := by decide +kernel
theorem dX11_asks_173 : decode cX11_asks 173 = .ok (.iload 8, 2) := by decide +kernel
theorem dX11_asks_175 : decode cX11_asks 175 = .ok (.iaload, 1) := by decide +kernel
theorem dX11_asks_176 : decode cX11_asks 176 = .ok (.iconst 4, 1) := by decide +kernel
theorem dX11_asks_177 : decode cX11_asks 177 = .ok (.if_icmp .ne 11, 3) := by decide +kernel
theorem dX11_asks_180 : decode cX11_asks 180 = .ok (.aload_n 0, 1) := by decide +kernel
theorem dX11_asks_181 : decode cX11_asks 181 = .ok (.iconst 2, 1) := by decide +kernel
theorem dX11_asks_182 : decode cX11_asks 182 = .ok (.invokevirtual 380, 3) := by decide +kernel
theorem dX11_asks_185 : decode cX11_asks 185 = .ok (.goto 32, 3) := by decide +kernel
theorem dX11_asks_188 : decode cX11_asks 188 = .ok (.aload_n 0, 1) := by decide +kernel
theorem dX11_asks_189 : decode cX11_asks 189 = .ok (.getfield 26, 3) := by decide +kernel
theorem dX11_asks_192 : decode cX11_asks 192 = .ok (.iload 8, 2) := by decide +kernel
theorem dX11_asks_194 : decode cX11_asks 194 = .ok (.iaload, 1) := by decide +kernel
theorem dX11_asks_195 : decode cX11_asks 195 = .ok (.iconst 5, 1) := by decide +kernel
theorem dX11_asks_196 : decode cX11_asks 196 = .ok (.if_icmp .ne 19, 3) := by decide +kernel
theorem dX11_asks_199 : decode cX11_asks 199 = .ok (.aload_n 0, 1) := by decide +kernel
theorem dX11_asks_200 : decode cX11_asks 200 = .ok (.aload_n 0, 1) := by decide +kernel
theorem dX11_asks_201 : decode cX11_asks 201 = .ok (.getfield 30, 3) := by decide +kernel
theorem dX11_asks_204 : decode cX11_asks 204 = .ok (.iload 8, 2) := by decide +kernel
theorem dX11_asks_206 : decode cX11_asks 206 = .ok (.iaload, 1) := by decide +kernel
theorem dX11_asks_207 : decode cX11_asks 207 = .ok (.iconst 1, 1) := by decide +kernel
theorem dX11_asks_208 : decode cX11_asks 208 = .ok (.isub, 1) := by decide +kernel
theorem dX11_asks_209 : decode cX11_asks 209 = .ok (.invokevirtual 621, 3) := by decide +kernel
theorem dX11_asks_212 : decode cX11_asks 212 = .ok (.goto 5, 3) := by decide +kernel
theorem dX11_asks_215 : decode cX11_asks 215 = .ok (.iload 7, 2) := by decide +kernel
theorem dX11_asks_217 : decode cX11_asks 217 = .ok (.istore 7, 2) := by decide +kernel
theorem dX11_asks_219 : decode cX11_asks 219 = .ok (.goto (-210), 3) := by decide +kernel
theorem dX11_asks_222 : decode cX11_asks 222 = .ok (.aload_n 0, 1) := by decide +kernel
theorem dX11_asks_223 : decode cX11_asks 223 = .ok (.iload_n 1, 1) := by decide +kernel
theorem dX11_asks_224 : decode cX11_asks 224 = .ok (.iload 7, 2) := by decide +kernel
theorem dX11_asks_226 : decode cX11_asks 226 = .ok (.iload 8, 2) := by decide +kernel
theorem dX11_asks_228 : decode cX11_asks 228 = .ok (.iload 4, 2) := by decide +kernel
theorem dX11_asks_230 : decode cX11_asks 230 = .ok (.iload 5, 2) := by decide +kernel
theorem dX11_asks_232 : decode cX11_asks 232 = .ok (.iload 6, 2) := by decide +kernel
theorem dX11_asks_234 : decode cX11_asks 234 = .ok (.invokevirtual 657, 3) := by decide +kernel
theorem dX11_asks_237 : decode cX11_asks 237 = .ok (.iconst 0, 1) := by decide +kernel
theorem dX11_asks_238 : decode cX11_asks 238 = .ok (.istore 9, 2) := by decide +kernel
theorem dX11_asks_240 : decode cX11_asks 240 = .ok (.goto (-231), 3) := by decide +kernel
theorem dX11_asks_243 : decode cX11_asks 243 = .ok (.return_, 1) := by decide +kernel
theorem dX11_call_0 : decode cX11_call 0 = .ok (.aload_n 0, 1) := by decide +kernel
theorem dX11_call_1 : decode cX11_call 1 = .ok (.getfield 98, 3) := by decide +kernel
theorem dX11_call_4 : decode cX11_call 4 = .ok (.iload_n 2, 1) := by decide +kernel
theorem dX11_call_5 : decode cX11_call 5 = .ok (.iaload, 1) := by decide +kernel
theorem dX11_call_6 : decode cX11_call 6 = .ok (.istore_n 3, 1) := by decide +kernel
theorem dX11_call_7 : decode cX11_call 7 = .ok (.aload_n 0, 1) := by decide +kernel
theorem dX11_call_8 : decode cX11_call 8 = .ok (.getfield 642, 3) := by decide +kernel
theorem dX11_call_11 : decode cX11_call 11 = .ok (.iconst 1, 1) := by decide +kernel
theorem dX11_call_12 : decode cX11_call 12 = .ok (.isub, 1) := by decide +kernel
theorem dX11_call_13 : decode cX11_call 13 = .ok (.iload_n 3, 1) := by decide +kernel
theorem dX11_call_14 : decode cX11_call 14 = .ok (.isub, 1) := by decide +kernel
theorem dX11_call_15 : decode cX11_call 15 = .ok (.istore 4, 2) := by decide +kernel
theorem dX11_call_17 : decode cX11_call 17 = .ok (.aload_n 0, 1) := by decide +kernel
theorem dX11_call_18 : decode cX11_call 18 = .ok (.invokevirtual 654, 3) := by decide +kernel
theorem dX11_call_21 : decode cX11_call 21 = .ok (.ifCond .eq 145, 3) := by decide +kernel
theorem dX11_call_24 : decode cX11_call 24 = .ok (.aload_n 0, 1) := by decide +kernel
theorem dX11_call_25 : decode cX11_call 25 = .ok (.getfield 200, 3) := by decide +kernel
theorem dX11_call_28 : decode cX11_call 28 = .ok (.iload 4, 2) := by decide +kernel
theorem dX11_call_30 : decode cX11_call 30 = .ok (.iaload, 1) := by decide +kernel
theorem dX11_call_31 : decode cX11_call 31 = .ok (.bipush 100, 2) := by decide +kernel
theorem dX11_call_33 : decode cX11_call 33 = .ok (.if_icmp .lt 133, 3) := by decide +kernel
theorem dX11_call_36 : decode cX11_call 36 = .ok (.aload_n 0, 1) := by decide +kernel
theorem dX11_call_37 : decode cX11_call 37 = .ok (.getfield 200, 3) := by decide +kernel
theorem dX11_call_40 : decode cX11_call 40 = .ok (.iload 4, 2) := by decide +kernel
theorem dX11_call_42 : decode cX11_call 42 = .ok (.iaload, 1) := by decide +kernel
theorem dX11_call_43 : decode cX11_call 43 = .ok (.bipush 100, 2) := by decide +kernel
theorem dX11_call_45 : decode cX11_call 45 = .ok (.isub, 1) := by decide +kernel
theorem dX11_call_46 : decode cX11_call 46 = .ok (.istore 5, 2) := by decide +kernel
theorem dX11_call_48 : decode cX11_call 48 = .ok (.iconst 0, 1) := by decide +kernel
theorem dX11_call_49 : decode cX11_call 49 = .ok (.istore 6, 2) := by decide +kernel
theorem dX11_call_51 : decode cX11_call 51 = .ok (.iload 6, 2) := by decide +kernel
theorem dX11_call_53 : decode cX11_call 53 = .ok (.iload_n 3, 1) := by decide +kernel
theorem dX11_call_54 : decode cX11_call 54 = .ok (.if_icmp .ge 74, 3) := by decide +kernel
theorem dX11_call_57 : decode cX11_call 57 = .ok (.aload_n 0, 1) := by decide +kernel
theorem dX11_call_58 : decode cX11_call 58 = .ok (.invokevirtual 654, 3) := by decide +kernel
theorem dX11_call_61 : decode cX11_call 61 = .ok (.ifCond .eq 67, 3) := by decide +kernel
theorem dX11_call_64 : decode cX11_call 64 = .ok (.aload_n 0, 1) := by decide +kernel
theorem dX11_call_65 : decode cX11_call 65 = .ok (.iload 4, 2) := by decide +kernel
theorem dX11_call_67 : decode cX11_call 67 = .ok (.iconst 1, 1) := by decide +kernel
theorem dX11_call_68 : decode cX11_call 68 = .ok (.iadd, 1) := by decide +kernel
theorem dX11_call_69 : decode cX11_call 69 = .ok (.iload 6, 2) := by decide +kernel
theorem dX11_call_71 : decode cX11_call 71 = .ok (.iadd, 1) := by decide +kernel
theorem dX11_call_72 : decode cX11_call 72 = .ok (.aload_n 0, 1) := by decide +kernel
theorem dX11_call_73 : decode cX11_call 73 = .ok (.aload_n 0, 1) := by decide +kernel
theorem dX11_call_74 : decode cX11_call 74 = .ok (.getfield 224, 3) := by decide +kernel
theorem dX11_call_77 : decode cX11_call 77 = .ok (.iload 5, 2) := by decide +kernel
theorem dX11_call_79 : decode cX11_call 79 = .ok (.iaload, 1) := by decide +kernel
theorem dX11_call_80 : decode cX11_call 80 = .ok (.iload 6, 2) := by decide +kernel
theorem dX11_call_82 : decode cX11_call 82 = .ok (.invokevirtual 612, 3) := by decide +kernel
theorem dX11_call_85 : decode cX11_call 85 = .ok (.aload_n 0, 1) := by decide +kernel
theorem dX11_call_86 : decode cX11_call 86 = .ok (.aload_n 0, 1) := by decide +kernel
theorem dX11_call_87 : decode cX11_call 87 = .ok (.getfield 221, 3) := by decide +kernel
theorem dX11_call_90 : decode cX11_call 90 = .ok (.iload 5, 2) := by decide +kernel
theorem dX11_call_92 : decode cX11_call 92 = .ok (.iaload, 1) := by decide +kernel
theorem dX11_call_93 : decode cX11_call 93 = .ok (.iload 6, 2) := by decide +kernel
theorem dX11_call_95 : decode cX11_call 95 = .ok (.invokevirtual 612, 3) := by decide +kernel
theorem dX11_call_98 : decode cX11_call 98 = .ok (.aload_n 0, 1) := by decide +kernel
theorem dX11_call_99 : decode cX11_call 99 = .ok (.getfield 230, 3) := by decide +kernel
theorem dX11_call_102 : decode cX11_call 102 = .ok (.iload 5, 2) := by decide +kernel
theorem dX11_call_104 : decode cX11_call 104 = .ok (.iaload, 1) := by decide +kernel
theorem dX11_call_105 : decode cX11_call 105 = .ok (.aload_n 0, 1) := by decide +kernel
theorem dX11_call_106 : decode cX11_call 106 = .ok (.getfield 227, 3) := by decide +kernel
theorem dX11_call_109 : decode cX11_call 109 = .ok (.iload 5, 2) := by decide +kernel
theorem dX11_call_111 : decode cX11_call 111 = .ok (.iaload, 1) := by decide +kernel
theorem dX11_call_112 : decode cX11_call 112 = .ok (.aload_n 0, 1) := by decide +kernel
theorem dX11_call_113 : decode cX11_call 113 = .ok (.getfield 233, 3) := by decide +kernel
theorem dX11_call_116 : decode cX11_call 116 = .ok (.iload 5, 2) := by decide +kernel
theorem dX11_call_118 : decode cX11_call 118 = .ok (.iaload, 1) := by decide +kernel
theorem dX11_call_119 : decode cX11_call 119 = .ok (.invokevirtual 701, 3) := by decide +kernel
theorem dX11_call_122 : decode cX11_call 122 = .ok (.iinc 6 1, 3) := by decide +kernel
theorem dX11_call_125 : decode cX11_call 125 = .ok (.goto (-74), 3) := by decide +kernel
theorem dX11_call_128 : decode cX11_call 128 = .ok (.aload_n 0, 1) := by decide +kernel
theorem dX11_call_129 : decode cX11_call 129 = .ok (.getfield 245, 3) := by decide +kernel
theorem dX11_call_132 : decode cX11_call 132 = .ok (.aload_n 0, 1) := by decide +kernel
theorem dX11_call_133 : decode cX11_call 133 = .ok (.getfield 681, 3) := by decide +kernel
theorem dX11_call_136 : decode cX11_call 136 = .ok (.iload 5, 2) := by decide +kernel
theorem dX11_call_138 : decode cX11_call 138 = .ok (.iastore, 1) := by decide +kernel
theorem dX11_call_139 : decode cX11_call 139 = .ok (.aload_n 0, 1) := by decide +kernel
theorem dX11_call_140 : decode cX11_call 140 = .ok (.dup, 1) := by decide +kernel
theorem dX11_call_141 : decode cX11_call 141 = .ok (.getfield 681, 3) := by decide +kernel
theorem dX11_call_144 : decode cX11_call 144 = .ok (.iconst 1, 1) := by decide +kernel
theorem dX11_call_145 : decode cX11_call 145 = .ok (.iadd, 1) := by decide +kernel
theorem dX11_call_146 : decode cX11_call 146 = .ok (.putfield 681, 3) := by decide +kernel
theorem dX11_call_149 : decode cX11_call 149 = .ok (.aload_n 0, 1) := by decide +kernel
theorem dX11_call_150 : decode cX11_call 150 = .ok (.getfield 200, 3) := by decide +kernel
theorem dX11_call_153 : decode cX11_call 153 = .ok (.iload 4, 2) := by decide +kernel
theorem dX11_call_155 : decode cX11_call 155 = .ok (.aload_n 0, 1) := by decide +kernel
theorem dX11_call_156 : decode cX11_call 156 = .ok (.getfield 218, 3) := by decide +kernel
theorem dX11_call_159 : decode cX11_call 159 = .ok (.iload 5, 2) := by decide +kernel
theorem dX11_call_161 : decode cX11_call 161 = .ok (.iaload, 1) := by decide +kernel
theorem dX11_call_162 : decode cX11_call 162 = .ok (.iastore, 1) := by decide +kernel
theorem dX11_call_163 : decode cX11_call 163 = .ok (.goto (-146), 3) := by decide +kernel
theorem dX11_call_166 : decode cX11_call 166 = .ok (.aload_n 0, 1) := by decide +kernel
theorem dX11_call_167 : decode cX11_call 167 = .ok (.invokevirtual 654, 3) := by decide +kernel
theorem dX11_call_170 : decode cX11_call 170 = .ok (.ifCond .ne 5, 3) := by decide +kernel
theorem dX11_call_173 : decode cX11_call 173 = .ok (.iconst (-1), 1) := by decide +kernel
theorem dX11_call_174 : decode cX11_call 174 = .ok (.ireturn, 1) := by decide +kernel
theorem dX11_call_175 : decode cX11_call 175 = .ok (.aload_n 0, 1) := by decide +kernel
theorem dX11_call_176 : decode cX11_call 176 = .ok (.getfield 200, 3) := by decide +kernel
theorem dX11_call_179 : decode cX11_call 179 = .ok (.iload 4, 2) := by decide +kernel
theorem dX11_call_181 : decode cX11_call 181 = .ok (.iaload, 1) := by decide +kernel
theorem dX11_call_182 : decode cX11_call 182 = .ok (.istore 5, 2) := by decide +kernel
theorem dX11_call_184 : decode cX11_call 184 = .ok (.aload_n 0, 1) := by decide +kernel
theorem dX11_call_185 : decode cX11_call 185 = .ok (.iload 5, 2) := by decide +kernel
theorem dX11_call_187 : decode cX11_call 187 = .ok (.iload_n 1, 1) := by decide +kernel
theorem dX11_call_188 : decode cX11_call 188 = .ok (.iconst 1, 1) := by decide +kernel
theorem dX11_call_189 : decode cX11_call 189 = .ok (.iadd, 1) := by decide +kernel
theorem dX11_call_190 : decode cX11_call 190 = .ok (.aload_n 0, 1) := by decide +kernel
theorem dX11_call_191 : decode cX11_call 191 = .ok (.getfield 83, 3) := by decide +kernel
theorem dX11_call_194 : decode cX11_call 194 = .ok (.iload_n 2, 1) := by decide +kernel
theorem dX11_call_195 : decode cX11_call 195 = .ok (.iaload, 1) := by decide +kernel
theorem dX11_call_196 : decode cX11_call 196 = .ok (.invokevirtual 693, 3) := by decide +kernel
theorem dX11_call_199 : decode cX11_call 199 = .ok (.aload_n 0, 1) := by decide +kernel
theorem dX11_call_200 : decode cX11_call 200 = .ok (.aload_n 0, 1) := by decide +kernel
theorem dX11_call_201 : decode cX11_call 201 = .ok (.invokevirtual 654, 3) := by decide +kernel
theorem dX11_call_204 : decode cX11_call 204 = .ok (.ifCond .eq 12, 3) := by decide +kernel
theorem dX11_call_207 : decode cX11_call 207 = .ok (.aload_n 0, 1) := by decide +kernel
theorem dX11_call_208 : decode cX11_call 208 = .ok (.getfield 642, 3) := by decide +kernel
theorem dX11_call_211 : decode cX11_call 211 = .ok (.iconst 1, 1) := by decide +kernel
theorem dX11_call_212 : decode cX11_call 212 = .ok (.isub, 1) := by decide +kernel
theorem dX11_call_213 : decode cX11_call 213 = .ok (.goto 7, 3) := by decide +kernel
theorem dX11_call_216 : decode cX11_call 216 = .ok (.aload_n 0, 1) := by decide +kernel
theorem dX11_call_217 : decode cX11_call 217 = .ok (.getfield 642, 3) := by decide +kernel
theorem dX11_call_220 : decode cX11_call 220 = .ok (.putfield 642, 3) := by decide +kernel
theorem dX11_call_223 : decode cX11_call 223 = .ok (.aload_n 0, 1) := by decide +kernel
theorem dX11_call_224 : decode cX11_call 224 = .ok (.getfield 149, 3) := by decide +kernel
theorem dX11_call_227 : decode cX11_call 227 = .ok (.iload 5, 2) := by decide +kernel
theorem dX11_call_229 : decode cX11_call 229 = .ok (.iaload, 1) := by decide +kernel
theorem dX11_call_230 : decode cX11_call 230 = .ok (.ireturn, 1) := by decide +kernel
theorem dX11_calls_0 : decode cX11_calls 0 = .ok (.aload_n 0, 1) := by decide +kernel
theorem dX11_calls_1 : decode cX11_calls 1 = .ok (.getfield 684, 3) := by decide +kernel
theorem dX11_calls_4 : decode cX11_calls 4 = .ok (.bipush 100, 2) := by decide +kernel
theorem dX11_calls_6 : decode cX11_calls 6 = .ok (.if_icmp .ne 10, 3) := by decide +kernel
theorem dX11_calls_9 : decode cX11_calls 9 = .ok (.aload_n 0, 1) := by decide +kernel
theorem dX11_calls_10 : decode cX11_calls 10 = .ok (.iconst 5, 1) := by decide +kernel
theorem dX11_calls_11 : decode cX11_calls 11 = .ok (.iload_n 3, 1) := by decide +kernel
theorem dX11_calls_12 : decode cX11_calls 12 = .ok (.invokevirtual 651, 3) := by decide +kernel
theorem dX11_calls_15 : decode cX11_calls 15 = .ok (.return_, 1) := by decide +kernel
theorem dX11_calls_16 : decode cX11_calls 16 = .ok (.aload_n 0, 1) := by decide +kernel
theorem dX11_calls_17 : decode cX11_calls 17 = .ok (.dup, 1) := by decide +kernel
theorem dX11_calls_18 : decode cX11_calls 18 = .ok (.getfield 684, 3) := by decide +kernel
theorem dX11_calls_21 : decode cX11_calls 21 = .ok (.iconst 1, 1) := by decide +kernel
theorem dX11_calls_22 : decode cX11_calls 22 = .ok (.iadd, 1) := by decide +kernel
theorem dX11_calls_23 : decode cX11_calls 23 = .ok (.putfield 684, 3) := by decide +kernel
theorem dX11_calls_26 : decode cX11_calls 26 = .ok (.aload_n 0, 1) := by decide +kernel
theorem dX11_calls_27 : decode cX11_calls 27 = .ok (.getfield 245, 3) := by decide +kernel
theorem dX11_calls_30 : decode cX11_calls 30 = .ok (.aload_n 0, 1) := by decide +kernel
theorem dX11_calls_31 : decode cX11_calls 31 = .ok (.getfield 681, 3) := by decide +kernel
theorem dX11_calls_34 : decode cX11_calls 34 = .ok (.iconst (-1), 1) := by decide +kernel
theorem dX11_calls_35 : decode cX11_calls 35 = .ok (.iastore, 1) := by decide +kernel
theorem dX11_calls_36 : decode cX11_calls 36 = .ok (.aload_n 0, 1) := by decide +kernel
theorem dX11_calls_37 : decode cX11_calls 37 = .ok (.getfield 248, 3) := by decide +kernel
theorem dX11_calls_40 : decode cX11_calls 40 = .ok (.aload_n 0, 1) := by decide +kernel
theorem dX11_calls_41 : decode cX11_calls 41 = .ok (.getfield 681, 3) := by decide +kernel
theorem dX11_calls_44 : decode cX11_calls 44 = .ok (.iload_n 2, 1) := by decide +kernel
theorem dX11_calls_45 : decode cX11_calls 45 = .ok (.iastore, 1) := by decide +kernel
theorem dX11_calls_46 : decode cX11_calls 46 = .ok (.aload_n 0, 1) := by decide +kernel
theorem dX11_calls_47 : decode cX11_calls 47 = .ok (.getfield 251, 3) := by decide +kernel
theorem dX11_calls_50 : decode cX11_calls 50 = .ok (.aload_n 0, 1) := by decide +kernel
theorem dX11_calls_51 : decode cX11_calls 51 = .ok (.getfield 681, 3) := by decide +kernel
theorem dX11_calls_54 : decode cX11_calls 54 = .ok (.aload_n 0, 1) := by decide +kernel
theorem dX11_calls_55 : decode cX11_calls 55 = .ok (.getfield 678, 3) := by decide +kernel
theorem dX11_calls_58 : decode cX11_calls 58 = .ok (.iastore, 1) := by decide +kernel
theorem dX11_calls_59 : decode cX11_calls 59 = .ok (.aload_n 0, 1) := by decide +kernel
theorem dX11_calls_60 : decode cX11_calls 60 = .ok (.dup, 1) := by decide +kernel
theorem dX11_calls_61 : decode cX11_calls 61 = .ok (.getfield 681, 3) := by decide +kernel
theorem dX11_calls_64 : decode cX11_calls 64 = .ok (.iconst 1, 1) := by decide +kernel
theorem dX11_calls_65 : decode cX11_calls 65 = .ok (.iadd, 1) := by decide +kernel
theorem dX11_calls_66 : decode cX11_calls 66 = .ok (.putfield 681, 3) := by decide +kernel
theorem dX11_calls_69 : decode cX11_calls 69 = .ok (.aload_n 0, 1) := by decide +kernel
theorem dX11_calls_70 : decode cX11_calls 70 = .ok (.bipush 45, 2) := by decide +kernel
theorem dX11_calls_72 : decode cX11_calls 72 = .ok (.aload_n 0, 1) := by decide +kernel
theorem dX11_calls_73 : decode cX11_calls 73 = .ok (.getfield 684, 3) := by decide +kernel
theorem dX11_calls_76 : decode cX11_calls 76 = .ok (.iconst 1, 1) := by decide +kernel
theorem dX11_calls_77 : decode cX11_calls 77 = .ok (.isub, 1) := by decide +kernel
theorem dX11_calls_78 : decode cX11_calls 78 = .ok (.imul, 1) := by decide +kernel
theorem dX11_calls_79 : decode cX11_calls 79 = .ok (.putfield 678, 3) := by decide +kernel
theorem dX11_calls_82 : decode cX11_calls 82 = .ok (.aload_n 0, 1) := by decide +kernel
theorem dX11_calls_83 : decode cX11_calls 83 = .ok (.getfield 62, 3) := by decide +kernel
theorem dX11_calls_86 : decode cX11_calls 86 = .ok (.iload_n 1, 1) := by decide +kernel
theorem dX11_calls_87 : decode cX11_calls 87 = .ok (.iaload, 1) := by decide +kernel
theorem dX11_calls_88 : decode cX11_calls 88 = .ok (.iconst 1, 1) := by decide +kernel
theorem dX11_calls_89 : decode cX11_calls 89 = .ok (.isub, 1) := by decide +kernel
theorem dX11_calls_90 : decode cX11_calls 90 = .ok (.istore 4, 2) := by decide +kernel
theorem dX11_calls_92 : decode cX11_calls 92 = .ok (.iload 4, 2) := by decide +kernel
theorem dX11_calls_94 : decode cX11_calls 94 = .ok (.ifCond .lt 61, 3) := by decide +kernel
theorem dX11_calls_97 : decode cX11_calls 97 = .ok (.aload_n 0, 1) := by decide +kernel
theorem dX11_calls_98 : decode cX11_calls 98 = .ok (.dup, 1) := by decide +kernel
theorem dX11_calls_99 : decode cX11_calls 99 = .ok (.getfield 642, 3) := by decide +kernel
theorem dX11_calls_102 : decode cX11_calls 102 = .ok (.iconst 1, 1) := by decide +kernel
theorem dX11_calls_103 : decode cX11_calls 103 = .ok (.isub, 1) := by decide +kernel
theorem dX11_calls_104 : decode cX11_calls 104 = .ok (.putfield 642, 3) := by decide +kernel
theorem dX11_calls_107 : decode cX11_calls 107 = .ok (.aload_n 0, 1) := by decide +kernel
theorem dX11_calls_108 : decode cX11_calls 108 = .ok (.getfield 203, 3) := by decide +kernel
theorem dX11_calls_111 : decode cX11_calls 111 = .ok (.aload_n 0, 1) := by decide +kernel
theorem dX11_calls_112 : decode cX11_calls 112 = .ok (.getfield 678, 3) := by decide +kernel
theorem dX11_calls_115 : decode cX11_calls 115 = .ok (.iload 4, 2) := by decide +kernel
theorem dX11_calls_117 : decode cX11_calls 117 = .ok (.iadd, 1) := by decide +kernel
theorem dX11_calls_118 : decode cX11_calls 118 = .ok (.aload_n 0, 1) := by decide +kernel
theorem dX11_calls_119 : decode cX11_calls 119 = .ok (.getfield 197, 3) := by decide +kernel
theorem dX11_calls_122 : decode cX11_calls 122 = .ok (.aload_n 0, 1) := by decide +kernel
theorem dX11_calls_123 : decode cX11_calls 123 = .ok (.getfield 642, 3) := by decide +kernel
theorem dX11_calls_126 : decode cX11_calls 126 = .ok (.iaload, 1) := by decide +kernel
theorem dX11_calls_127 : decode cX11_calls 127 = .ok (.iastore, 1) := by decide +kernel
theorem dX11_calls_128 : decode cX11_calls 128 = .ok (.aload_n 0, 1) := by decide +kernel
theorem dX11_calls_129 : decode cX11_calls 129 = .ok (.getfield 206, 3) := by decide +kernel
theorem dX11_calls_132 : decode cX11_calls 132 = .ok (.aload_n 0, 1) := by decide +kernel
theorem dX11_calls_133 : decode cX11_calls 133 = .ok (.getfield 678, 3) := by decide +kernel
theorem dX11_calls_136 : decode cX11_calls 136 = .ok (.iload 4, 2) := by decide +kernel
theorem dX11_calls_138 : decode cX11_calls 138 = .ok (.iadd, 1) := by decide +kernel
theorem dX11_calls_139 : decode cX11_calls 139 = .ok (.aload_n 0, 1) := by decide +kernel
theorem dX11_calls_140 : decode cX11_calls 140 = .ok (.getfield 200, 3) := by decide +kernel
theorem dX11_calls_143 : decode cX11_calls 143 = .ok (.aload_n 0, 1) := by decide +kernel
theorem dX11_calls_144 : decode cX11_calls 144 = .ok (.getfield 642, 3) := by decide +kernel
theorem dX11_calls_147 : decode cX11_calls 147 = .ok (.iaload, 1) := by decide +kernel
theorem dX11_calls_148 : decode cX11_calls 148 = .ok (.iastore, 1) := by decide +kernel
theorem dX11_calls_149 : decode cX11_calls 149 = .ok (.iinc 4 (-1), 3) := by decide +kernel
theorem dX11_calls_152 : decode cX11_calls 152 = .ok (.goto (-60), 3) := by decide +kernel
theorem dX11_calls_155 : decode cX11_calls 155 = .ok (.return_, 1) := by decide +kernel
theorem dX11_deep_0 : decode cX11_deep 0 = .ok (.iload_n 1, 1) := by decide +kernel
theorem dX11_deep_1 : decode cX11_deep 1 = .ok (.iconst 3, 1) := by decide +kernel
theorem dX11_deep_2 : decode cX11_deep 2 = .ok (.if_icmp .ne 23, 3) := by decide +kernel
theorem dX11_deep_5 : decode cX11_deep 5 = .ok (.aload_n 0, 1) := by decide +kernel
theorem dX11_deep_6 : decode cX11_deep 6 = .ok (.getfield 209, 3) := by decide +kernel
theorem dX11_deep_9 : decode cX11_deep 9 = .ok (.iload_n 2, 1) := by decide +kernel
theorem dX11_deep_10 : decode cX11_deep 10 = .ok (.baload, 1) := by decide +kernel
theorem dX11_deep_11 : decode cX11_deep 11 = .ok (.ifCond .eq 12, 3) := by decide +kernel
theorem dX11_deep_14 : decode cX11_deep 14 = .ok (.aload_n 0, 1) := by decide +kernel
theorem dX11_deep_15 : decode cX11_deep 15 = .ok (.getfield 236, 3) := by decide +kernel
theorem dX11_deep_18 : decode cX11_deep 18 = .ok (.iload_n 2, 1) := by decide +kernel
theorem dX11_deep_19 : decode cX11_deep 19 = .ok (.iaload, 1) := by decide +kernel
theorem dX11_deep_20 : decode cX11_deep 20 = .ok (.goto 4, 3) := by decide +kernel
theorem dX11_deep_23 : decode cX11_deep 23 = .ok (.iconst 0, 1) := by decide +kernel
theorem dX11_deep_24 : decode cX11_deep 24 = .ok (.ireturn, 1) := by decide +kernel
theorem dX11_deep_25 : decode cX11_deep 25 = .ok (.iload_n 1, 1) := by decide +kernel
theorem dX11_deep_26 : decode cX11_deep 26 = .ok (.iconst 4, 1) := by decide +kernel
theorem dX11_deep_27 : decode cX11_deep 27 = .ok (.if_icmp .ne 21, 3) := by decide +kernel
theorem dX11_deep_30 : decode cX11_deep 30 = .ok (.iload_n 2, 1) := by decide +kernel
theorem dX11_deep_31 : decode cX11_deep 31 = .ok (.bipush 100, 2) := by decide +kernel
theorem dX11_deep_33 : decode cX11_deep 33 = .ok (.if_icmp .lt 15, 3) := by decide +kernel
theorem dX11_deep_36 : decode cX11_deep 36 = .ok (.aload_n 0, 1) := by decide +kernel
theorem dX11_deep_37 : decode cX11_deep 37 = .ok (.getfield 236, 3) := by decide +kernel
theorem dX11_deep_40 : decode cX11_deep 40 = .ok (.iload_n 2, 1) := by decide +kernel
theorem dX11_deep_41 : decode cX11_deep 41 = .ok (.bipush 100, 2) := by decide +kernel
theorem dX11_deep_43 : decode cX11_deep 43 = .ok (.isub, 1) := by decide +kernel
theorem dX11_deep_44 : decode cX11_deep 44 = .ok (.iaload, 1) := by decide +kernel
theorem dX11_deep_45 : decode cX11_deep 45 = .ok (.goto 4, 3) := by decide +kernel
theorem dX11_deep_48 : decode cX11_deep 48 = .ok (.iconst 0, 1) := by decide +kernel
theorem dX11_deep_49 : decode cX11_deep 49 = .ok (.ireturn, 1) := by decide +kernel
theorem dX11_ends_0 : decode cX11_ends 0 = .ok (.aload_n 0, 1) := by decide +kernel
theorem dX11_ends_1 : decode cX11_ends 1 = .ok (.getfield 636, 3) := by decide +kernel
theorem dX11_ends_4 : decode cX11_ends 4 = .ok (.ifCond .ge 13, 3) := by decide +kernel
theorem dX11_ends_7 : decode cX11_ends 7 = .ok (.aload_n 0, 1) := by decide +kernel
theorem dX11_ends_8 : decode cX11_ends 8 = .ok (.iload_n 1, 1) := by decide +kernel
theorem dX11_ends_9 : decode cX11_ends 9 = .ok (.putfield 636, 3) := by decide +kernel
theorem dX11_ends_12 : decode cX11_ends 12 = .ok (.aload_n 0, 1) := by decide +kernel
theorem dX11_ends_13 : decode cX11_ends 13 = .ok (.iload_n 2, 1) := by decide +kernel
theorem dX11_ends_14 : decode cX11_ends 14 = .ok (.putfield 639, 3) := by decide +kernel
theorem dX11_ends_17 : decode cX11_ends 17 = .ok (.return_, 1) := by decide +kernel
theorem dX11_fault_0 : decode cX11_fault 0 = .ok (.iload_n 1, 1) := by decide +kernel
theorem dX11_fault_1 : decode cX11_fault 1 = .ok (.ifCond .ne 10, 3) := by decide +kernel
theorem dX11_fault_4 : decode cX11_fault 4 = .ok (.aload_n 0, 1) := by decide +kernel
theorem dX11_fault_5 : decode cX11_fault 5 = .ok (.getfield 19, 3) := by decide +kernel
theorem dX11_fault_8 : decode cX11_fault 8 = .ok (.goto 16, 3) := by decide +kernel
theorem dX11_fault_11 : decode cX11_fault 11 = .ok (.iload_n 1, 1) := by decide +kernel
theorem dX11_fault_12 : decode cX11_fault 12 = .ok (.iconst 1, 1) := by decide +kernel
theorem dX11_fault_13 : decode cX11_fault 13 = .ok (.if_icmp .ne 10, 3) := by decide +kernel
theorem dX11_fault_16 : decode cX11_fault 16 = .ok (.aload_n 0, 1) := by decide +kernel
theorem dX11_fault_17 : decode cX11_fault 17 = .ok (.getfield 23, 3) := by decide +kernel
theorem dX11_fault_20 : decode cX11_fault 20 = .ok (.goto 4, 3) := by decide +kernel
theorem dX11_fault_23 : decode cX11_fault 23 = .ok (.iconst (-1), 1) := by decide +kernel
theorem dX11_fault_24 : decode cX11_fault 24 = .ok (.ireturn, 1) := by decide +kernel
theorem dX11_guard_0 : decode cX11_guard 0 = .ok (.aload_n 0, 1) := by decide +kernel
theorem dX11_guard_1 : decode cX11_guard 1 = .ok (.getfield 509, 3) := by decide +kernel
theorem dX11_guard_4 : decode cX11_guard 4 = .ok (.ifCond .eq 17, 3) := by decide +kernel
theorem dX11_guard_7 : decode cX11_guard 7 = .ok (.iload_n 1, 1) := by decide +kernel
theorem dX11_guard_8 : decode cX11_guard 8 = .ok (.iconst 0, 1) := by decide +kernel
theorem dX11_guard_9 : decode cX11_guard 9 = .ok (.aload_n 0, 1) := by decide +kernel
theorem dX11_guard_10 : decode cX11_guard 10 = .ok (.getfield 588, 3) := by decide +kernel
theorem dX11_guard_13 : decode cX11_guard 13 = .ok (.iconst 1, 1) := by decide +kernel
theorem dX11_guard_14 : decode cX11_guard 14 = .ok (.isub, 1) := by decide +kernel
theorem dX11_guard_15 : decode cX11_guard 15 = .ok (.invokestatic 282, 3) := by decide +kernel
theorem dX11_guard_18 : decode cX11_guard 18 = .ok (.ifCond .ne 5, 3) := by decide +kernel
theorem dX11_guard_21 : decode cX11_guard 21 = .ok (.iconst (-1), 1) := by decide +kernel
theorem dX11_guard_22 : decode cX11_guard 22 = .ok (.ireturn, 1) := by decide +kernel
theorem dX11_guard_23 : decode cX11_guard 23 = .ok (.iload_n 2, 1) := by decide +kernel
theorem dX11_guard_24 : decode cX11_guard 24 = .ok (.tableswitch 81 0 4 #[36, 43, 50, 57, 69], 36) := by decide +kernel
theorem dX11_guard_60 : decode cX11_guard 60 = .ok (.aload_n 0, 1) := by decide +kernel
theorem dX11_guard_61 : decode cX11_guard 61 = .ok (.getfield 173, 3) := by decide +kernel
theorem dX11_guard_64 : decode cX11_guard 64 = .ok (.iload_n 1, 1) := by decide +kernel
theorem dX11_guard_65 : decode cX11_guard 65 = .ok (.iaload, 1) := by decide +kernel
theorem dX11_guard_66 : decode cX11_guard 66 = .ok (.ireturn, 1) := by decide +kernel
theorem dX11_guard_67 : decode cX11_guard 67 = .ok (.aload_n 0, 1) := by decide +kernel
theorem dX11_guard_68 : decode cX11_guard 68 = .ok (.getfield 182, 3) := by decide +kernel
theorem dX11_guard_71 : decode cX11_guard 71 = .ok (.iload_n 1, 1) := by decide +kernel
theorem dX11_guard_72 : decode cX11_guard 72 = .ok (.iaload, 1) := by decide +kernel
theorem dX11_guard_73 : decode cX11_guard 73 = .ok (.ireturn, 1) := by decide +kernel
theorem dX11_guard_74 : decode cX11_guard 74 = .ok (.aload_n 0, 1) := by decide +kernel
theorem dX11_guard_75 : decode cX11_guard 75 = .ok (.getfield 185, 3) := by decide +kernel
theorem dX11_guard_78 : decode cX11_guard 78 = .ok (.iload_n 1, 1) := by decide +kernel
theorem dX11_guard_79 : decode cX11_guard 79 = .ok (.iaload, 1) := by decide +kernel
theorem dX11_guard_80 : decode cX11_guard 80 = .ok (.ireturn, 1) := by decide +kernel
theorem dX11_guard_81 : decode cX11_guard 81 = .ok (.aload_n 0, 1) := by decide +kernel
theorem dX11_guard_82 : decode cX11_guard 82 = .ok (.getfield 36, 3) := by decide +kernel
theorem dX11_guard_85 : decode cX11_guard 85 = .ok (.aload_n 0, 1) := by decide +kernel
theorem dX11_guard_86 : decode cX11_guard 86 = .ok (.getfield 176, 3) := by decide +kernel
theorem dX11_guard_89 : decode cX11_guard 89 = .ok (.iload_n 1, 1) := by decide +kernel
theorem dX11_guard_90 : decode cX11_guard 90 = .ok (.iaload, 1) := by decide +kernel
theorem dX11_guard_91 : decode cX11_guard 91 = .ok (.iaload, 1) := by decide +kernel
theorem dX11_guard_92 : decode cX11_guard 92 = .ok (.ireturn, 1) := by decide +kernel
theorem dX11_guard_93 : decode cX11_guard 93 = .ok (.aload_n 0, 1) := by decide +kernel
theorem dX11_guard_94 : decode cX11_guard 94 = .ok (.getfield 36, 3) := by decide +kernel
theorem dX11_guard_97 : decode cX11_guard 97 = .ok (.aload_n 0, 1) := by decide +kernel
theorem dX11_guard_98 : decode cX11_guard 98 = .ok (.getfield 179, 3) := by decide +kernel
theorem dX11_guard_101 : decode cX11_guard 101 = .ok (.iload_n 1, 1) := by decide +kernel
theorem dX11_guard_102 : decode cX11_guard 102 = .ok (.iaload, 1) := by decide +kernel
theorem dX11_guard_103 : decode cX11_guard 103 = .ok (.iaload, 1) := by decide +kernel
theorem dX11_guard_104 : decode cX11_guard 104 = .ok (.ireturn, 1) := by decide +kernel
theorem dX11_guard_105 : decode cX11_guard 105 = .ok (.iconst (-1), 1) := by decide +kernel
theorem dX11_guard_106 : decode cX11_guard 106 = .ok (.ireturn, 1) := by decide +kernel
theorem dX11_guarded_0 : decode cX11_guarded 0 = .ok (.aload_n 0, 1) := by decide +kernel
theorem dX11_guarded_1 : decode cX11_guarded 1 = .ok (.getfield 698, 3) := by decide +kernel
theorem dX11_guarded_4 : decode cX11_guarded 4 = .ok (.ifCond .eq 64, 3) := by decide +kernel
theorem dX11_guarded_7 : decode cX11_guarded 7 = .ok (.aload_n 0, 1) := by decide +kernel
theorem dX11_guarded_8 : decode cX11_guarded 8 = .ok (.getfield 146, 3) := by decide +kernel
theorem dX11_guarded_11 : decode cX11_guarded 11 = .ok (.iload_n 1, 1) := by decide +kernel
theorem dX11_guarded_12 : decode cX11_guarded 12 = .ok (.iaload, 1) := by decide +kernel
theorem dX11_guarded_13 : decode cX11_guarded 13 = .ok (.istore 4, 2) := by decide +kernel
theorem dX11_guarded_15 : decode cX11_guarded 15 = .ok (.iload 4, 2) := by decide +kernel
theorem dX11_guarded_17 : decode cX11_guarded 17 = .ok (.ifCond .lt 48, 3) := by decide +kernel
theorem dX11_guarded_20 : decode cX11_guarded 20 = .ok (.aload_n 0, 1) := by decide +kernel
theorem dX11_guarded_21 : decode cX11_guarded 21 = .ok (.aload_n 0, 1) := by decide +kernel
theorem dX11_guarded_22 : decode cX11_guarded 22 = .ok (.getfield 642, 3) := by decide +kernel
theorem dX11_guarded_25 : decode cX11_guarded 25 = .ok (.iconst 1, 1) := by decide +kernel
theorem dX11_guarded_26 : decode cX11_guarded 26 = .ok (.isub, 1) := by decide +kernel
theorem dX11_guarded_27 : decode cX11_guarded 27 = .ok (.aload_n 0, 1) := by decide +kernel
theorem dX11_guarded_28 : decode cX11_guarded 28 = .ok (.getfield 176, 3) := by decide +kernel
theorem dX11_guarded_31 : decode cX11_guarded 31 = .ok (.iload 4, 2) := by decide +kernel
theorem dX11_guarded_33 : decode cX11_guarded 33 = .ok (.iaload, 1) := by decide +kernel
theorem dX11_guarded_34 : decode cX11_guarded 34 = .ok (.aload_n 0, 1) := by decide +kernel
theorem dX11_guarded_35 : decode cX11_guarded 35 = .ok (.getfield 179, 3) := by decide +kernel
theorem dX11_guarded_38 : decode cX11_guarded 38 = .ok (.iload 4, 2) := by decide +kernel
theorem dX11_guarded_40 : decode cX11_guarded 40 = .ok (.iaload, 1) := by decide +kernel
theorem dX11_guarded_41 : decode cX11_guarded 41 = .ok (.aload_n 0, 1) := by decide +kernel
theorem dX11_guarded_42 : decode cX11_guarded 42 = .ok (.getfield 182, 3) := by decide +kernel
theorem dX11_guarded_45 : decode cX11_guarded 45 = .ok (.iload 4, 2) := by decide +kernel
theorem dX11_guarded_47 : decode cX11_guarded 47 = .ok (.iaload, 1) := by decide +kernel
theorem dX11_guarded_48 : decode cX11_guarded 48 = .ok (.aload_n 0, 1) := by decide +kernel
theorem dX11_guarded_49 : decode cX11_guarded 49 = .ok (.getfield 185, 3) := by decide +kernel
theorem dX11_guarded_52 : decode cX11_guarded 52 = .ok (.iload 4, 2) := by decide +kernel
theorem dX11_guarded_54 : decode cX11_guarded 54 = .ok (.iaload, 1) := by decide +kernel
theorem dX11_guarded_55 : decode cX11_guarded 55 = .ok (.aload_n 0, 1) := by decide +kernel
theorem dX11_guarded_56 : decode cX11_guarded 56 = .ok (.getfield 173, 3) := by decide +kernel
theorem dX11_guarded_59 : decode cX11_guarded 59 = .ok (.iload 4, 2) := by decide +kernel
theorem dX11_guarded_61 : decode cX11_guarded 61 = .ok (.iaload, 1) := by decide +kernel
theorem dX11_guarded_62 : decode cX11_guarded 62 = .ok (.invokevirtual 701, 3) := by decide +kernel
theorem dX11_guarded_65 : decode cX11_guarded 65 = .ok (.goto 28, 3) := by decide +kernel
theorem dX11_guarded_68 : decode cX11_guarded 68 = .ok (.iload_n 2, 1) := by decide +kernel
theorem dX11_guarded_69 : decode cX11_guarded 69 = .ok (.ifCond .lt 24, 3) := by decide +kernel
theorem dX11_guarded_72 : decode cX11_guarded 72 = .ok (.aload_n 0, 1) := by decide +kernel
theorem dX11_guarded_73 : decode cX11_guarded 73 = .ok (.getfield 197, 3) := by decide +kernel
theorem dX11_guarded_76 : decode cX11_guarded 76 = .ok (.aload_n 0, 1) := by decide +kernel
theorem dX11_guarded_77 : decode cX11_guarded 77 = .ok (.getfield 642, 3) := by decide +kernel
theorem dX11_guarded_80 : decode cX11_guarded 80 = .ok (.iconst 1, 1) := by decide +kernel
theorem dX11_guarded_81 : decode cX11_guarded 81 = .ok (.isub, 1) := by decide +kernel
theorem dX11_guarded_82 : decode cX11_guarded 82 = .ok (.iaload, 1) := by decide +kernel
theorem dX11_guarded_83 : decode cX11_guarded 83 = .ok (.iload_n 2, 1) := by decide +kernel
theorem dX11_guarded_84 : decode cX11_guarded 84 = .ok (.if_icmp .eq 9, 3) := by decide +kernel
theorem dX11_guarded_87 : decode cX11_guarded 87 = .ok (.aload_n 0, 1) := by decide +kernel
theorem dX11_guarded_88 : decode cX11_guarded 88 = .ok (.iconst 4, 1) := by decide +kernel
theorem dX11_guarded_89 : decode cX11_guarded 89 = .ok (.iload_n 3, 1) := by decide +kernel
theorem dX11_guarded_90 : decode cX11_guarded 90 = .ok (.invokevirtual 651, 3) := by decide +kernel
theorem dX11_guarded_93 : decode cX11_guarded 93 = .ok (.return_, 1) := by decide +kernel
theorem dX11_isOfSort_0 : decode cX11_isOfSort 0 = .ok (.aload_n 0, 1) := by decide +kernel
theorem dX11_isOfSort_1 : decode cX11_isOfSort 1 = .ok (.getfield 197, 3) := by decide +kernel
theorem dX11_isOfSort_4 : decode cX11_isOfSort 4 = .ok (.iload_n 1, 1) := by decide +kernel
theorem dX11_isOfSort_5 : decode cX11_isOfSort 5 = .ok (.iaload, 1) := by decide +kernel
theorem dX11_isOfSort_6 : decode cX11_isOfSort 6 = .ok (.istore_n 3, 1) := by decide +kernel
theorem dX11_isOfSort_7 : decode cX11_isOfSort 7 = .ok (.aload_n 0, 1) := by decide +kernel
theorem dX11_isOfSort_8 : decode cX11_isOfSort 8 = .ok (.getfield 26, 3) := by decide +kernel
theorem dX11_isOfSort_11 : decode cX11_isOfSort 11 = .ok (.iload_n 2, 1) := by decide +kernel
theorem dX11_isOfSort_12 : decode cX11_isOfSort 12 = .ok (.iaload, 1) := by decide +kernel
theorem dX11_isOfSort_13 : decode cX11_isOfSort 13 = .ok (.tableswitch 63 1 4 #[31, 41, 63, 52], 31) := by decide +kernel
theorem dX11_isOfSort_44 : decode cX11_isOfSort 44 = .ok (.iload_n 3, 1) := by decide +kernel
theorem dX11_isOfSort_45 : decode cX11_isOfSort 45 = .ok (.ifCond .ne 7, 3) := by decide +kernel
theorem dX11_isOfSort_48 : decode cX11_isOfSort 48 = .ok (.iconst 1, 1) := by decide +kernel
theorem dX11_isOfSort_49 : decode cX11_isOfSort 49 = .ok (.goto 4, 3) := by decide +kernel
theorem dX11_isOfSort_52 : decode cX11_isOfSort 52 = .ok (.iconst 0, 1) := by decide +kernel
theorem dX11_isOfSort_53 : decode cX11_isOfSort 53 = .ok (.ireturn, 1) := by decide +kernel
theorem dX11_isOfSort_54 : decode cX11_isOfSort 54 = .ok (.iload_n 3, 1) := by decide +kernel
theorem dX11_isOfSort_55 : decode cX11_isOfSort 55 = .ok (.iconst 1, 1) := by decide +kernel
theorem dX11_isOfSort_56 : decode cX11_isOfSort 56 = .ok (.if_icmp .ne 7, 3) := by decide +kernel
theorem dX11_isOfSort_59 : decode cX11_isOfSort 59 = .ok (.iconst 1, 1) := by decide +kernel
theorem dX11_isOfSort_60 : decode cX11_isOfSort 60 = .ok (.goto 4, 3) := by decide +kernel
theorem dX11_isOfSort_63 : decode cX11_isOfSort 63 = .ok (.iconst 0, 1) := by decide +kernel
theorem dX11_isOfSort_64 : decode cX11_isOfSort 64 = .ok (.ireturn, 1) := by decide +kernel
theorem dX11_isOfSort_65 : decode cX11_isOfSort 65 = .ok (.iload_n 3, 1) := by decide +kernel
theorem dX11_isOfSort_66 : decode cX11_isOfSort 66 = .ok (.iconst 3, 1) := by decide +kernel
theorem dX11_isOfSort_67 : decode cX11_isOfSort 67 = .ok (.if_icmp .ne 7, 3) := by decide +kernel
theorem dX11_isOfSort_70 : decode cX11_isOfSort 70 = .ok (.iconst 1, 1) := by decide +kernel
theorem dX11_isOfSort_71 : decode cX11_isOfSort 71 = .ok (.goto 4, 3) := by decide +kernel
theorem dX11_isOfSort_74 : decode cX11_isOfSort 74 = .ok (.iconst 0, 1) := by decide +kernel
theorem dX11_isOfSort_75 : decode cX11_isOfSort 75 = .ok (.ireturn, 1) := by decide +kernel
theorem dX11_isOfSort_76 : decode cX11_isOfSort 76 = .ok (.iload_n 3, 1) := by decide +kernel
theorem dX11_isOfSort_77 : decode cX11_isOfSort 77 = .ok (.iconst 4, 1) := by decide +kernel
theorem dX11_isOfSort_78 : decode cX11_isOfSort 78 = .ok (.if_icmp .ne 34, 3) := by decide +kernel
theorem dX11_isOfSort_81 : decode cX11_isOfSort 81 = .ok (.aload_n 0, 1) := by decide +kernel
theorem dX11_isOfSort_82 : decode cX11_isOfSort 82 = .ok (.getfield 62, 3) := by decide +kernel
theorem dX11_isOfSort_85 : decode cX11_isOfSort 85 = .ok (.aload_n 0, 1) := by decide +kernel
theorem dX11_isOfSort_86 : decode cX11_isOfSort 86 = .ok (.iconst 4, 1) := by decide +kernel
theorem dX11_isOfSort_87 : decode cX11_isOfSort 87 = .ok (.aload_n 0, 1) := by decide +kernel
theorem dX11_isOfSort_88 : decode cX11_isOfSort 88 = .ok (.getfield 200, 3) := by decide +kernel
theorem dX11_isOfSort_91 : decode cX11_isOfSort 91 = .ok (.iload_n 1, 1) := by decide +kernel
theorem dX11_isOfSort_92 : decode cX11_isOfSort 92 = .ok (.iaload, 1) := by decide +kernel
theorem dX11_isOfSort_93 : decode cX11_isOfSort 93 = .ok (.invokevirtual 661, 3) := by decide +kernel
theorem dX11_isOfSort_96 : decode cX11_isOfSort 96 = .ok (.iaload, 1) := by decide +kernel
theorem dX11_isOfSort_97 : decode cX11_isOfSort 97 = .ok (.aload_n 0, 1) := by decide +kernel
theorem dX11_isOfSort_98 : decode cX11_isOfSort 98 = .ok (.getfield 30, 3) := by decide +kernel
theorem dX11_isOfSort_101 : decode cX11_isOfSort 101 = .ok (.iload_n 2, 1) := by decide +kernel
theorem dX11_isOfSort_102 : decode cX11_isOfSort 102 = .ok (.iaload, 1) := by decide +kernel
theorem dX11_isOfSort_103 : decode cX11_isOfSort 103 = .ok (.iconst 1, 1) := by decide +kernel
theorem dX11_isOfSort_104 : decode cX11_isOfSort 104 = .ok (.isub, 1) := by decide +kernel
theorem dX11_isOfSort_105 : decode cX11_isOfSort 105 = .ok (.if_icmp .ne 7, 3) := by decide +kernel
theorem dX11_isOfSort_108 : decode cX11_isOfSort 108 = .ok (.iconst 1, 1) := by decide +kernel
theorem dX11_isOfSort_109 : decode cX11_isOfSort 109 = .ok (.goto 4, 3) := by decide +kernel
theorem dX11_isOfSort_112 : decode cX11_isOfSort 112 = .ok (.iconst 0, 1) := by decide +kernel
theorem dX11_isOfSort_113 : decode cX11_isOfSort 113 = .ok (.ireturn, 1) := by decide +kernel
theorem dX11_isOn_0 : decode cX11_isOn 0 = .ok (.aload_n 0, 1) := by decide +kernel
theorem dX11_isOn_1 : decode cX11_isOn 1 = .ok (.getfield 636, 3) := by decide +kernel
theorem dX11_isOn_4 : decode cX11_isOn 4 = .ok (.ifCond .ge 7, 3) := by decide +kernel
theorem dX11_isOn_7 : decode cX11_isOn 7 = .ok (.iconst 1, 1) := by decide +kernel
theorem dX11_isOn_8 : decode cX11_isOn 8 = .ok (.goto 4, 3) := by decide +kernel
theorem dX11_isOn_11 : decode cX11_isOn 11 = .ok (.iconst 0, 1) := by decide +kernel
theorem dX11_isOn_12 : decode cX11_isOn 12 = .ok (.ireturn, 1) := by decide +kernel
theorem dX11_judge_0 : decode cX11_judge 0 = .ok (.aload_n 0, 1) := by decide +kernel
theorem dX11_judge_1 : decode cX11_judge 1 = .ok (.getfield 533, 3) := by decide +kernel
theorem dX11_judge_4 : decode cX11_judge 4 = .ok (.ifCond .ne 5, 3) := by decide +kernel
theorem dX11_judge_7 : decode cX11_judge 7 = .ok (.iconst (-1), 1) := by decide +kernel
theorem dX11_judge_8 : decode cX11_judge 8 = .ok (.ireturn, 1) := by decide +kernel
theorem dX11_judge_9 : decode cX11_judge 9 = .ok (.aload_n 0, 1) := by decide +kernel
theorem dX11_judge_10 : decode cX11_judge 10 = .ok (.invokevirtual 542, 3) := by decide +kernel
theorem dX11_judge_13 : decode cX11_judge 13 = .ok (.aload_n 0, 1) := by decide +kernel
theorem dX11_judge_14 : decode cX11_judge 14 = .ok (.aload_n 0, 1) := by decide +kernel
theorem dX11_judge_15 : decode cX11_judge 15 = .ok (.getfield 286, 3) := by decide +kernel
theorem dX11_judge_18 : decode cX11_judge 18 = .ok (.putfield 19, 3) := by decide +kernel
theorem dX11_judge_21 : decode cX11_judge 21 = .ok (.aload_n 0, 1) := by decide +kernel
theorem dX11_judge_22 : decode cX11_judge 22 = .ok (.aload_n 0, 1) := by decide +kernel
theorem dX11_judge_23 : decode cX11_judge 23 = .ok (.getfield 289, 3) := by decide +kernel
theorem dX11_judge_26 : decode cX11_judge 26 = .ok (.putfield 23, 3) := by decide +kernel
theorem dX11_judge_29 : decode cX11_judge 29 = .ok (.aload_n 0, 1) := by decide +kernel
theorem dX11_judge_30 : decode cX11_judge 30 = .ok (.getfield 509, 3) := by decide +kernel
theorem dX11_judge_33 : decode cX11_judge 33 = .ok (.ifCond .eq 10, 3) := by decide +kernel
theorem dX11_judge_36 : decode cX11_judge 36 = .ok (.aload_n 0, 1) := by decide +kernel
theorem dX11_judge_37 : decode cX11_judge 37 = .ok (.getfield 588, 3) := by decide +kernel
theorem dX11_judge_40 : decode cX11_judge 40 = .ok (.goto 4, 3) := by decide +kernel
theorem dX11_judge_43 : decode cX11_judge 43 = .ok (.iconst (-1), 1) := by decide +kernel
theorem dX11_judge_44 : decode cX11_judge 44 = .ok (.ireturn, 1) := by decide +kernel
theorem dX11_part__0 : decode cX11_part_ 0 = .ok (.aload_n 0, 1) := by decide +kernel
theorem dX11_part__1 : decode cX11_part_ 1 = .ok (.getfield 533, 3) := by decide +kernel
theorem dX11_part__4 : decode cX11_part_ 4 = .ok (.ifCond .eq 17, 3) := by decide +kernel
theorem dX11_part__7 : decode cX11_part_ 7 = .ok (.iload_n 1, 1) := by decide +kernel
theorem dX11_part__8 : decode cX11_part_ 8 = .ok (.iconst 0, 1) := by decide +kernel
theorem dX11_part__9 : decode cX11_part_ 9 = .ok (.aload_n 0, 1) := by decide +kernel
theorem dX11_part__10 : decode cX11_part_ 10 = .ok (.getfield 497, 3) := by decide +kernel
theorem dX11_part__13 : decode cX11_part_ 13 = .ok (.iconst 1, 1) := by decide +kernel
theorem dX11_part__14 : decode cX11_part_ 14 = .ok (.isub, 1) := by decide +kernel
theorem dX11_part__15 : decode cX11_part_ 15 = .ok (.invokestatic 282, 3) := by decide +kernel
theorem dX11_part__18 : decode cX11_part_ 18 = .ok (.ifCond .ne 5, 3) := by decide +kernel
theorem dX11_part__21 : decode cX11_part_ 21 = .ok (.iconst (-1), 1) := by decide +kernel
theorem dX11_part__22 : decode cX11_part_ 22 = .ok (.ireturn, 1) := by decide +kernel
theorem dX11_part__23 : decode cX11_part_ 23 = .ok (.iload_n 2, 1) := by decide +kernel
theorem dX11_part__24 : decode cX11_part_ 24 = .ok (.tableswitch 98 0 4 #[36, 51, 58, 65, 91], 36) := by decide +kernel
theorem dX11_part__60 : decode cX11_part_ 60 = .ok (.aload_n 0, 1) := by decide +kernel
theorem dX11_part__61 : decode cX11_part_ 61 = .ok (.getfield 74, 3) := by decide +kernel
theorem dX11_part__64 : decode cX11_part_ 64 = .ok (.iload_n 1, 1) := by decide +kernel
theorem dX11_part__65 : decode cX11_part_ 65 = .ok (.baload, 1) := by decide +kernel
theorem dX11_part__66 : decode cX11_part_ 66 = .ok (.ifCond .eq 7, 3) := by decide +kernel
theorem dX11_part__69 : decode cX11_part_ 69 = .ok (.iconst 1, 1) := by decide +kernel
theorem dX11_part__70 : decode cX11_part_ 70 = .ok (.goto 4, 3) := by decide +kernel
theorem dX11_part__73 : decode cX11_part_ 73 = .ok (.iconst 0, 1) := by decide +kernel
theorem dX11_part__74 : decode cX11_part_ 74 = .ok (.ireturn, 1) := by decide +kernel
theorem dX11_part__75 : decode cX11_part_ 75 = .ok (.aload_n 0, 1) := by decide +kernel
theorem dX11_part__76 : decode cX11_part_ 76 = .ok (.getfield 62, 3) := by decide +kernel
theorem dX11_part__79 : decode cX11_part_ 79 = .ok (.iload_n 1, 1) := by decide +kernel
theorem dX11_part__80 : decode cX11_part_ 80 = .ok (.iaload, 1) := by decide +kernel
theorem dX11_part__81 : decode cX11_part_ 81 = .ok (.ireturn, 1) := by decide +kernel
theorem dX11_part__82 : decode cX11_part_ 82 = .ok (.aload_n 0, 1) := by decide +kernel
theorem dX11_part__83 : decode cX11_part_ 83 = .ok (.getfield 56, 3) := by decide +kernel
theorem dX11_part__86 : decode cX11_part_ 86 = .ok (.iload_n 1, 1) := by decide +kernel
theorem dX11_part__87 : decode cX11_part_ 87 = .ok (.iaload, 1) := by decide +kernel
theorem dX11_part__88 : decode cX11_part_ 88 = .ok (.ireturn, 1) := by decide +kernel
theorem dX11_part__89 : decode cX11_part_ 89 = .ok (.aload_n 0, 1) := by decide +kernel
theorem dX11_part__90 : decode cX11_part_ 90 = .ok (.getfield 509, 3) := by decide +kernel
theorem dX11_part__93 : decode cX11_part_ 93 = .ok (.ifCond .ne 7, 3) := by decide +kernel
theorem dX11_part__96 : decode cX11_part_ 96 = .ok (.iconst (-1), 1) := by decide +kernel
theorem dX11_part__97 : decode cX11_part_ 97 = .ok (.goto 17, 3) := by decide +kernel
theorem dX11_part__100 : decode cX11_part_ 100 = .ok (.aload_n 0, 1) := by decide +kernel
theorem dX11_part__101 : decode cX11_part_ 101 = .ok (.getfield 188, 3) := by decide +kernel
theorem dX11_part__104 : decode cX11_part_ 104 = .ok (.iload_n 1, 1) := by decide +kernel
theorem dX11_part__105 : decode cX11_part_ 105 = .ok (.baload, 1) := by decide +kernel
theorem dX11_part__106 : decode cX11_part_ 106 = .ok (.ifCond .eq 7, 3) := by decide +kernel
theorem dX11_part__109 : decode cX11_part_ 109 = .ok (.iconst 1, 1) := by decide +kernel
theorem dX11_part__110 : decode cX11_part_ 110 = .ok (.goto 4, 3) := by decide +kernel
theorem dX11_part__113 : decode cX11_part_ 113 = .ok (.iconst 0, 1) := by decide +kernel
theorem dX11_part__114 : decode cX11_part_ 114 = .ok (.ireturn, 1) := by decide +kernel
theorem dX11_part__115 : decode cX11_part_ 115 = .ok (.aload_n 0, 1) := by decide +kernel
theorem dX11_part__116 : decode cX11_part_ 116 = .ok (.getfield 59, 3) := by decide +kernel
theorem dX11_part__119 : decode cX11_part_ 119 = .ok (.iload_n 1, 1) := by decide +kernel
theorem dX11_part__120 : decode cX11_part_ 120 = .ok (.iaload, 1) := by decide +kernel
theorem dX11_part__121 : decode cX11_part_ 121 = .ok (.ireturn, 1) := by decide +kernel
theorem dX11_part__122 : decode cX11_part_ 122 = .ok (.iload_n 2, 1) := by decide +kernel
theorem dX11_part__123 : decode cX11_part_ 123 = .ok (.bipush 100, 2) := by decide +kernel
theorem dX11_part__125 : decode cX11_part_ 125 = .ok (.bipush 99, 2) := by decide +kernel
theorem dX11_part__127 : decode cX11_part_ 127 = .ok (.aload_n 0, 1) := by decide +kernel
theorem dX11_part__128 : decode cX11_part_ 128 = .ok (.getfield 56, 3) := by decide +kernel
theorem dX11_part__131 : decode cX11_part_ 131 = .ok (.iload_n 1, 1) := by decide +kernel
theorem dX11_part__132 : decode cX11_part_ 132 = .ok (.iaload, 1) := by decide +kernel
theorem dX11_part__133 : decode cX11_part_ 133 = .ok (.iadd, 1) := by decide +kernel
theorem dX11_part__134 : decode cX11_part_ 134 = .ok (.invokestatic 282, 3) := by decide +kernel
theorem dX11_part__137 : decode cX11_part_ 137 = .ok (.ifCond .eq 22, 3) := by decide +kernel
theorem dX11_part__140 : decode cX11_part_ 140 = .ok (.aload_n 0, 1) := by decide +kernel
theorem dX11_part__141 : decode cX11_part_ 141 = .ok (.getfield 13, 3) := by decide +kernel
theorem dX11_part__144 : decode cX11_part_ 144 = .ok (.aload_n 0, 1) := by decide +kernel
theorem dX11_part__145 : decode cX11_part_ 145 = .ok (.getfield 53, 3) := by decide +kernel
theorem dX11_part__148 : decode cX11_part_ 148 = .ok (.iload_n 1, 1) := by decide +kernel
theorem dX11_part__149 : decode cX11_part_ 149 = .ok (.iaload, 1) := by decide +kernel
theorem dX11_part__150 : decode cX11_part_ 150 = .ok (.iload_n 2, 1) := by decide +kernel
theorem dX11_part__151 : decode cX11_part_ 151 = .ok (.iadd, 1) := by decide +kernel
theorem dX11_part__152 : decode cX11_part_ 152 = .ok (.bipush 100, 2) := by decide +kernel
theorem dX11_part__154 : decode cX11_part_ 154 = .ok (.isub, 1) := by decide +kernel
theorem dX11_part__155 : decode cX11_part_ 155 = .ok (.baload, 1) := by decide +kernel
theorem dX11_part__156 : decode cX11_part_ 156 = .ok (.goto 4, 3) := by decide +kernel
theorem dX11_part__159 : decode cX11_part_ 159 = .ok (.iconst (-1), 1) := by decide +kernel
theorem dX11_part__160 : decode cX11_part_ 160 = .ok (.ireturn, 1) := by decide +kernel
theorem dX11_row_0 : decode cX11_row 0 = .ok (.aload_n 0, 1) := by decide +kernel
theorem dX11_row_1 : decode cX11_row 1 = .ok (.getfield 672, 3) := by decide +kernel
theorem dX11_row_4 : decode cX11_row 4 = .ok (.iload_n 1, 1) := by decide +kernel
theorem dX11_row_5 : decode cX11_row 5 = .ok (.iadd, 1) := by decide +kernel
theorem dX11_row_6 : decode cX11_row 6 = .ok (.sipush 4000, 3) := by decide +kernel
theorem dX11_row_9 : decode cX11_row 9 = .ok (.if_icmp .gt 13, 3) := by decide +kernel
theorem dX11_row_12 : decode cX11_row 12 = .ok (.aload_n 0, 1) := by decide +kernel
theorem dX11_row_13 : decode cX11_row 13 = .ok (.getfield 667, 3) := by decide +kernel
theorem dX11_row_16 : decode cX11_row 16 = .ok (.sipush 1000, 3) := by decide +kernel
theorem dX11_row_19 : decode cX11_row 19 = .ok (.if_icmp .ne 12, 3) := by decide +kernel
theorem dX11_row_22 : decode cX11_row 22 = .ok (.aload_n 0, 1) := by decide +kernel
theorem dX11_row_23 : decode cX11_row 23 = .ok (.bipush 6, 2) := by decide +kernel
theorem dX11_row_25 : decode cX11_row 25 = .ok (.iload_n 2, 1) := by decide +kernel
theorem dX11_row_26 : decode cX11_row 26 = .ok (.invokevirtual 651, 3) := by decide +kernel
theorem dX11_row_29 : decode cX11_row 29 = .ok (.iconst 0, 1) := by decide +kernel
theorem dX11_row_30 : decode cX11_row 30 = .ok (.ireturn, 1) := by decide +kernel
theorem dX11_row_31 : decode cX11_row 31 = .ok (.aload_n 0, 1) := by decide +kernel
theorem dX11_row_32 : decode cX11_row 32 = .ok (.getfield 209, 3) := by decide +kernel
theorem dX11_row_35 : decode cX11_row 35 = .ok (.aload_n 0, 1) := by decide +kernel
theorem dX11_row_36 : decode cX11_row 36 = .ok (.getfield 667, 3) := by decide +kernel
theorem dX11_row_39 : decode cX11_row 39 = .ok (.iconst 0, 1) := by decide +kernel
theorem dX11_row_40 : decode cX11_row 40 = .ok (.bastore, 1) := by decide +kernel
theorem dX11_row_41 : decode cX11_row 41 = .ok (.aload_n 0, 1) := by decide +kernel
theorem dX11_row_42 : decode cX11_row 42 = .ok (.getfield 212, 3) := by decide +kernel
theorem dX11_row_45 : decode cX11_row 45 = .ok (.aload_n 0, 1) := by decide +kernel
theorem dX11_row_46 : decode cX11_row 46 = .ok (.getfield 667, 3) := by decide +kernel
theorem dX11_row_49 : decode cX11_row 49 = .ok (.aload_n 0, 1) := by decide +kernel
theorem dX11_row_50 : decode cX11_row 50 = .ok (.getfield 672, 3) := by decide +kernel
theorem dX11_row_53 : decode cX11_row 53 = .ok (.iastore, 1) := by decide +kernel
theorem dX11_row_54 : decode cX11_row 54 = .ok (.aload_n 0, 1) := by decide +kernel
theorem dX11_row_55 : decode cX11_row 55 = .ok (.getfield 215, 3) := by decide +kernel
theorem dX11_row_58 : decode cX11_row 58 = .ok (.aload_n 0, 1) := by decide +kernel
theorem dX11_row_59 : decode cX11_row 59 = .ok (.getfield 667, 3) := by decide +kernel
theorem dX11_row_62 : decode cX11_row 62 = .ok (.iload_n 1, 1) := by decide +kernel
theorem dX11_row_63 : decode cX11_row 63 = .ok (.iastore, 1) := by decide +kernel
theorem dX11_row_64 : decode cX11_row 64 = .ok (.aload_n 0, 1) := by decide +kernel
theorem dX11_row_65 : decode cX11_row 65 = .ok (.dup, 1) := by decide +kernel
theorem dX11_row_66 : decode cX11_row 66 = .ok (.getfield 672, 3) := by decide +kernel
theorem dX11_row_69 : decode cX11_row 69 = .ok (.iload_n 1, 1) := by decide +kernel
theorem dX11_row_70 : decode cX11_row 70 = .ok (.iadd, 1) := by decide +kernel
theorem dX11_row_71 : decode cX11_row 71 = .ok (.putfield 672, 3) := by decide +kernel
theorem dX11_row_74 : decode cX11_row 74 = .ok (.aload_n 0, 1) := by decide +kernel
theorem dX11_row_75 : decode cX11_row 75 = .ok (.dup, 1) := by decide +kernel
theorem dX11_row_76 : decode cX11_row 76 = .ok (.getfield 667, 3) := by decide +kernel
theorem dX11_row_79 : decode cX11_row 79 = .ok (.iconst 1, 1) := by decide +kernel
theorem dX11_row_80 : decode cX11_row 80 = .ok (.iadd, 1) := by decide +kernel
theorem dX11_row_81 : decode cX11_row 81 = .ok (.putfield 667, 3) := by decide +kernel
theorem dX11_row_84 : decode cX11_row 84 = .ok (.aload_n 0, 1) := by decide +kernel
theorem dX11_row_85 : decode cX11_row 85 = .ok (.dup, 1) := by decide +kernel
theorem dX11_row_86 : decode cX11_row 86 = .ok (.getfield 675, 3) := by decide +kernel
theorem dX11_row_89 : decode cX11_row 89 = .ok (.iconst 1, 1) := by decide +kernel
theorem dX11_row_90 : decode cX11_row 90 = .ok (.iadd, 1) := by decide +kernel
theorem dX11_row_91 : decode cX11_row 91 = .ok (.putfield 675, 3) := by decide +kernel
theorem dX11_row_94 : decode cX11_row 94 = .ok (.aload_n 0, 1) := by decide +kernel
theorem dX11_row_95 : decode cX11_row 95 = .ok (.getfield 667, 3) := by decide +kernel
theorem dX11_row_98 : decode cX11_row 98 = .ok (.iconst 1, 1) := by decide +kernel
theorem dX11_row_99 : decode cX11_row 99 = .ok (.isub, 1) := by decide +kernel
theorem dX11_row_100 : decode cX11_row 100 = .ok (.ireturn, 1) := by decide +kernel
theorem dX11_tell_0 : decode cX11_tell 0 = .ok (.aload_n 0, 1) := by decide +kernel
theorem dX11_tell_1 : decode cX11_tell 1 = .ok (.getfield 533, 3) := by decide +kernel
theorem dX11_tell_4 : decode cX11_tell 4 = .ok (.ifCond .eq 17, 3) := by decide +kernel
theorem dX11_tell_7 : decode cX11_tell 7 = .ok (.iload_n 1, 1) := by decide +kernel
theorem dX11_tell_8 : decode cX11_tell 8 = .ok (.iconst 0, 1) := by decide +kernel
theorem dX11_tell_9 : decode cX11_tell 9 = .ok (.aload_n 0, 1) := by decide +kernel
theorem dX11_tell_10 : decode cX11_tell 10 = .ok (.getfield 497, 3) := by decide +kernel
theorem dX11_tell_13 : decode cX11_tell 13 = .ok (.iconst 1, 1) := by decide +kernel
theorem dX11_tell_14 : decode cX11_tell 14 = .ok (.isub, 1) := by decide +kernel
theorem dX11_tell_15 : decode cX11_tell 15 = .ok (.invokestatic 282, 3) := by decide +kernel
theorem dX11_tell_18 : decode cX11_tell 18 = .ok (.ifCond .ne 5, 3) := by decide +kernel
theorem dX11_tell_21 : decode cX11_tell 21 = .ok (.iconst 0, 1) := by decide +kernel
theorem dX11_tell_22 : decode cX11_tell 22 = .ok (.ireturn, 1) := by decide +kernel
theorem dX11_tell_23 : decode cX11_tell 23 = .ok (.aload_n 0, 1) := by decide +kernel
theorem dX11_tell_24 : decode cX11_tell 24 = .ok (.getfield 74, 3) := by decide +kernel
theorem dX11_tell_27 : decode cX11_tell 27 = .ok (.iload_n 1, 1) := by decide +kernel
theorem dX11_tell_28 : decode cX11_tell 28 = .ok (.iload_n 2, 1) := by decide +kernel
theorem dX11_tell_29 : decode cX11_tell 29 = .ok (.bastore, 1) := by decide +kernel
theorem dX11_tell_30 : decode cX11_tell 30 = .ok (.aload_n 0, 1) := by decide +kernel
theorem dX11_tell_31 : decode cX11_tell 31 = .ok (.iconst 0, 1) := by decide +kernel
theorem dX11_tell_32 : decode cX11_tell 32 = .ok (.putfield 509, 3) := by decide +kernel
theorem dX11_tell_35 : decode cX11_tell 35 = .ok (.iconst 1, 1) := by decide +kernel
theorem dX11_tell_36 : decode cX11_tell 36 = .ok (.ireturn, 1) := by decide +kernel
theorem dX11_value_0 : decode cX11_value 0 = .ok (.aload_n 0, 1) := by decide +kernel
theorem dX11_value_1 : decode cX11_value 1 = .ok (.getfield 197, 3) := by decide +kernel
theorem dX11_value_4 : decode cX11_value 4 = .ok (.aload_n 0, 1) := by decide +kernel
theorem dX11_value_5 : decode cX11_value 5 = .ok (.getfield 642, 3) := by decide +kernel
theorem dX11_value_8 : decode cX11_value 8 = .ok (.iload_n 1, 1) := by decide +kernel
theorem dX11_value_9 : decode cX11_value 9 = .ok (.iastore, 1) := by decide +kernel
theorem dX11_value_10 : decode cX11_value 10 = .ok (.aload_n 0, 1) := by decide +kernel
theorem dX11_value_11 : decode cX11_value 11 = .ok (.getfield 200, 3) := by decide +kernel
theorem dX11_value_14 : decode cX11_value 14 = .ok (.aload_n 0, 1) := by decide +kernel
theorem dX11_value_15 : decode cX11_value 15 = .ok (.getfield 642, 3) := by decide +kernel
theorem dX11_value_18 : decode cX11_value 18 = .ok (.iload_n 2, 1) := by decide +kernel
theorem dX11_value_19 : decode cX11_value 19 = .ok (.iastore, 1) := by decide +kernel
theorem dX11_value_20 : decode cX11_value 20 = .ok (.aload_n 0, 1) := by decide +kernel
theorem dX11_value_21 : decode cX11_value 21 = .ok (.dup, 1) := by decide +kernel
theorem dX11_value_22 : decode cX11_value 22 = .ok (.getfield 642, 3) := by decide +kernel
theorem dX11_value_25 : decode cX11_value 25 = .ok (.iconst 1, 1) := by decide +kernel
theorem dX11_value_26 : decode cX11_value 26 = .ok (.iadd, 1) := by decide +kernel
theorem dX11_value_27 : decode cX11_value 27 = .ok (.putfield 642, 3) := by decide +kernel
theorem dX11_value_30 : decode cX11_value 30 = .ok (.return_, 1) := by decide +kernel
theorem dX11_within_0 : decode cX11_within 0 = .ok (.iload_n 2, 1) := by decide +kernel
theorem dX11_within_1 : decode cX11_within 1 = .ok (.istore_n 3, 1) := by decide +kernel
theorem dX11_within_2 : decode cX11_within 2 = .ok (.iload_n 1, 1) := by decide +kernel
theorem dX11_within_3 : decode cX11_within 3 = .ok (.iconst 3, 1) := by decide +kernel
theorem dX11_within_4 : decode cX11_within 4 = .ok (.if_icmp .ne 12, 3) := by decide +kernel
theorem dX11_within_7 : decode cX11_within 7 = .ok (.aload_n 0, 1) := by decide +kernel
theorem dX11_within_8 : decode cX11_within 8 = .ok (.getfield 209, 3) := by decide +kernel
theorem dX11_within_11 : decode cX11_within 11 = .ok (.iload_n 3, 1) := by decide +kernel
theorem dX11_within_12 : decode cX11_within 12 = .ok (.baload, 1) := by decide +kernel
theorem dX11_within_13 : decode cX11_within 13 = .ok (.ifCond .ne 14, 3) := by decide +kernel
theorem dX11_within_16 : decode cX11_within 16 = .ok (.iload_n 1, 1) := by decide +kernel
theorem dX11_within_17 : decode cX11_within 17 = .ok (.iconst 4, 1) := by decide +kernel
theorem dX11_within_18 : decode cX11_within 18 = .ok (.if_icmp .ne 31, 3) := by decide +kernel
theorem dX11_within_21 : decode cX11_within 21 = .ok (.iload_n 3, 1) := by decide +kernel
theorem dX11_within_22 : decode cX11_within 22 = .ok (.bipush 100, 2) := by decide +kernel
theorem dX11_within_24 : decode cX11_within 24 = .ok (.if_icmp .lt 25, 3) := by decide +kernel
theorem dX11_within_27 : decode cX11_within 27 = .ok (.aload_n 0, 1) := by decide +kernel
theorem dX11_within_28 : decode cX11_within 28 = .ok (.getfield 218, 3) := by decide +kernel
theorem dX11_within_31 : decode cX11_within 31 = .ok (.iload_n 1, 1) := by decide +kernel
theorem dX11_within_32 : decode cX11_within 32 = .ok (.iconst 3, 1) := by decide +kernel
theorem dX11_within_33 : decode cX11_within 33 = .ok (.if_icmp .ne 7, 3) := by decide +kernel
theorem dX11_within_36 : decode cX11_within 36 = .ok (.iload_n 3, 1) := by decide +kernel
theorem dX11_within_37 : decode cX11_within 37 = .ok (.goto 7, 3) := by decide +kernel
theorem dX11_within_40 : decode cX11_within 40 = .ok (.iload_n 3, 1) := by decide +kernel
theorem dX11_within_41 : decode cX11_within 41 = .ok (.bipush 100, 2) := by decide +kernel
theorem dX11_within_43 : decode cX11_within 43 = .ok (.isub, 1) := by decide +kernel
theorem dX11_within_44 : decode cX11_within 44 = .ok (.iaload, 1) := by decide +kernel
theorem dX11_within_45 : decode cX11_within 45 = .ok (.istore_n 3, 1) := by decide +kernel
theorem dX11_within_46 : decode cX11_within 46 = .ok (.goto (-44), 3) := by decide +kernel
theorem dX11_within_49 : decode cX11_within 49 = .ok (.iload_n 3, 1) := by decide +kernel
theorem dX11_within_50 : decode cX11_within 50 = .ok (.ireturn, 1) := by decide +kernel
theorem dX11_wraps_0 : decode cX11_wraps 0 = .ok (.aload_n 0, 1) := by decide +kernel
theorem dX11_wraps_1 : decode cX11_wraps 1 = .ok (.getfield 197, 3) := by decide +kernel
theorem dX11_wraps_4 : decode cX11_wraps 4 = .ok (.iload_n 1, 1) := by decide +kernel
theorem dX11_wraps_5 : decode cX11_wraps 5 = .ok (.iaload, 1) := by decide +kernel
theorem dX11_wraps_6 : decode cX11_wraps 6 = .ok (.istore 7, 2) := by decide +kernel
theorem dX11_wraps_8 : decode cX11_wraps 8 = .ok (.aload_n 0, 1) := by decide +kernel
theorem dX11_wraps_9 : decode cX11_wraps 9 = .ok (.iload 7, 2) := by decide +kernel
theorem dX11_wraps_11 : decode cX11_wraps 11 = .ok (.aload_n 0, 1) := by decide +kernel
theorem dX11_wraps_12 : decode cX11_wraps 12 = .ok (.getfield 200, 3) := by decide +kernel
theorem dX11_wraps_15 : decode cX11_wraps 15 = .ok (.iload_n 1, 1) := by decide +kernel
theorem dX11_wraps_16 : decode cX11_wraps 16 = .ok (.iaload, 1) := by decide +kernel
theorem dX11_wraps_17 : decode cX11_wraps 17 = .ok (.invokevirtual 664, 3) := by decide +kernel
theorem dX11_wraps_20 : decode cX11_wraps 20 = .ok (.istore 8, 2) := by decide +kernel
theorem dX11_wraps_22 : decode cX11_wraps 22 = .ok (.aload_n 0, 1) := by decide +kernel
theorem dX11_wraps_23 : decode cX11_wraps 23 = .ok (.getfield 667, 3) := by decide +kernel
theorem dX11_wraps_26 : decode cX11_wraps 26 = .ok (.sipush 1000, 3) := by decide +kernel
theorem dX11_wraps_29 : decode cX11_wraps 29 = .ok (.if_icmp .eq 10, 3) := by decide +kernel
theorem dX11_wraps_32 : decode cX11_wraps 32 = .ok (.iload 8, 2) := by decide +kernel
theorem dX11_wraps_34 : decode cX11_wraps 34 = .ok (.bipush 20, 2) := by decide +kernel
theorem dX11_wraps_36 : decode cX11_wraps 36 = .ok (.if_icmp .ne 12, 3) := by decide +kernel
theorem dX11_wraps_39 : decode cX11_wraps 39 = .ok (.aload_n 0, 1) := by decide +kernel
theorem dX11_wraps_40 : decode cX11_wraps 40 = .ok (.bipush 6, 2) := by decide +kernel
theorem dX11_wraps_42 : decode cX11_wraps 42 = .ok (.iload 6, 2) := by decide +kernel
theorem dX11_wraps_44 : decode cX11_wraps 44 = .ok (.invokevirtual 651, 3) := by decide +kernel
theorem dX11_wraps_47 : decode cX11_wraps 47 = .ok (.return_, 1) := by decide +kernel
theorem dX11_wraps_48 : decode cX11_wraps 48 = .ok (.aload_n 0, 1) := by decide +kernel
theorem dX11_wraps_49 : decode cX11_wraps 49 = .ok (.getfield 209, 3) := by decide +kernel
theorem dX11_wraps_52 : decode cX11_wraps 52 = .ok (.aload_n 0, 1) := by decide +kernel
theorem dX11_wraps_53 : decode cX11_wraps 53 = .ok (.getfield 667, 3) := by decide +kernel
theorem dX11_wraps_56 : decode cX11_wraps 56 = .ok (.iconst 1, 1) := by decide +kernel
theorem dX11_wraps_57 : decode cX11_wraps 57 = .ok (.bastore, 1) := by decide +kernel
theorem dX11_wraps_58 : decode cX11_wraps 58 = .ok (.aload_n 0, 1) := by decide +kernel
theorem dX11_wraps_59 : decode cX11_wraps 59 = .ok (.getfield 218, 3) := by decide +kernel
theorem dX11_wraps_62 : decode cX11_wraps 62 = .ok (.aload_n 0, 1) := by decide +kernel
theorem dX11_wraps_63 : decode cX11_wraps 63 = .ok (.getfield 667, 3) := by decide +kernel
theorem dX11_wraps_66 : decode cX11_wraps 66 = .ok (.aload_n 0, 1) := by decide +kernel
theorem dX11_wraps_67 : decode cX11_wraps 67 = .ok (.getfield 200, 3) := by decide +kernel
theorem dX11_wraps_70 : decode cX11_wraps 70 = .ok (.iload_n 1, 1) := by decide +kernel
theorem dX11_wraps_71 : decode cX11_wraps 71 = .ok (.iaload, 1) := by decide +kernel
theorem dX11_wraps_72 : decode cX11_wraps 72 = .ok (.iastore, 1) := by decide +kernel
theorem dX11_wraps_73 : decode cX11_wraps 73 = .ok (.aload_n 0, 1) := by decide +kernel
theorem dX11_wraps_74 : decode cX11_wraps 74 = .ok (.getfield 221, 3) := by decide +kernel
theorem dX11_wraps_77 : decode cX11_wraps 77 = .ok (.aload_n 0, 1) := by decide +kernel
theorem dX11_wraps_78 : decode cX11_wraps 78 = .ok (.getfield 667, 3) := by decide +kernel
theorem dX11_wraps_81 : decode cX11_wraps 81 = .ok (.iload_n 2, 1) := by decide +kernel
theorem dX11_wraps_82 : decode cX11_wraps 82 = .ok (.iastore, 1) := by decide +kernel
theorem dX11_wraps_83 : decode cX11_wraps 83 = .ok (.aload_n 0, 1) := by decide +kernel
theorem dX11_wraps_84 : decode cX11_wraps 84 = .ok (.getfield 224, 3) := by decide +kernel
theorem dX11_wraps_87 : decode cX11_wraps 87 = .ok (.aload_n 0, 1) := by decide +kernel
theorem dX11_wraps_88 : decode cX11_wraps 88 = .ok (.getfield 667, 3) := by decide +kernel
theorem dX11_wraps_91 : decode cX11_wraps 91 = .ok (.iload_n 3, 1) := by decide +kernel
theorem dX11_wraps_92 : decode cX11_wraps 92 = .ok (.iastore, 1) := by decide +kernel
theorem dX11_wraps_93 : decode cX11_wraps 93 = .ok (.aload_n 0, 1) := by decide +kernel
theorem dX11_wraps_94 : decode cX11_wraps 94 = .ok (.getfield 227, 3) := by decide +kernel
theorem dX11_wraps_97 : decode cX11_wraps 97 = .ok (.aload_n 0, 1) := by decide +kernel
theorem dX11_wraps_98 : decode cX11_wraps 98 = .ok (.getfield 667, 3) := by decide +kernel
theorem dX11_wraps_101 : decode cX11_wraps 101 = .ok (.iload 4, 2) := by decide +kernel
theorem dX11_wraps_103 : decode cX11_wraps 103 = .ok (.iastore, 1) := by decide +kernel
theorem dX11_wraps_104 : decode cX11_wraps 104 = .ok (.aload_n 0, 1) := by decide +kernel
theorem dX11_wraps_105 : decode cX11_wraps 105 = .ok (.getfield 230, 3) := by decide +kernel
theorem dX11_wraps_108 : decode cX11_wraps 108 = .ok (.aload_n 0, 1) := by decide +kernel
theorem dX11_wraps_109 : decode cX11_wraps 109 = .ok (.getfield 667, 3) := by decide +kernel
theorem dX11_wraps_112 : decode cX11_wraps 112 = .ok (.iload 5, 2) := by decide +kernel
theorem dX11_wraps_114 : decode cX11_wraps 114 = .ok (.iastore, 1) := by decide +kernel
theorem dX11_wraps_115 : decode cX11_wraps 115 = .ok (.aload_n 0, 1) := by decide +kernel
theorem dX11_wraps_116 : decode cX11_wraps 116 = .ok (.getfield 233, 3) := by decide +kernel
theorem dX11_wraps_119 : decode cX11_wraps 119 = .ok (.aload_n 0, 1) := by decide +kernel
theorem dX11_wraps_120 : decode cX11_wraps 120 = .ok (.getfield 667, 3) := by decide +kernel
theorem dX11_wraps_123 : decode cX11_wraps 123 = .ok (.iload 6, 2) := by decide +kernel
theorem dX11_wraps_125 : decode cX11_wraps 125 = .ok (.iastore, 1) := by decide +kernel
theorem dX11_wraps_126 : decode cX11_wraps 126 = .ok (.aload_n 0, 1) := by decide +kernel
theorem dX11_wraps_127 : decode cX11_wraps 127 = .ok (.getfield 236, 3) := by decide +kernel
theorem dX11_wraps_130 : decode cX11_wraps 130 = .ok (.aload_n 0, 1) := by decide +kernel
theorem dX11_wraps_131 : decode cX11_wraps 131 = .ok (.getfield 667, 3) := by decide +kernel
theorem dX11_wraps_134 : decode cX11_wraps 134 = .ok (.iload 8, 2) := by decide +kernel
theorem dX11_wraps_136 : decode cX11_wraps 136 = .ok (.iconst 1, 1) := by decide +kernel
theorem dX11_wraps_137 : decode cX11_wraps 137 = .ok (.iadd, 1) := by decide +kernel
theorem dX11_wraps_138 : decode cX11_wraps 138 = .ok (.iastore, 1) := by decide +kernel
theorem dX11_wraps_139 : decode cX11_wraps 139 = .ok (.aload_n 0, 1) := by decide +kernel
theorem dX11_wraps_140 : decode cX11_wraps 140 = .ok (.getfield 200, 3) := by decide +kernel
theorem dX11_wraps_143 : decode cX11_wraps 143 = .ok (.iload_n 1, 1) := by decide +kernel
theorem dX11_wraps_144 : decode cX11_wraps 144 = .ok (.iload 7, 2) := by decide +kernel
theorem dX11_wraps_146 : decode cX11_wraps 146 = .ok (.iconst 3, 1) := by decide +kernel
theorem dX11_wraps_147 : decode cX11_wraps 147 = .ok (.if_icmp .ne 10, 3) := by decide +kernel
theorem dX11_wraps_150 : decode cX11_wraps 150 = .ok (.aload_n 0, 1) := by decide +kernel
theorem dX11_wraps_151 : decode cX11_wraps 151 = .ok (.getfield 667, 3) := by decide +kernel
theorem dX11_wraps_154 : decode cX11_wraps 154 = .ok (.goto 10, 3) := by decide +kernel
theorem dX11_wraps_157 : decode cX11_wraps 157 = .ok (.bipush 100, 2) := by decide +kernel
theorem dX11_wraps_159 : decode cX11_wraps 159 = .ok (.aload_n 0, 1) := by decide +kernel
theorem dX11_wraps_160 : decode cX11_wraps 160 = .ok (.getfield 667, 3) := by decide +kernel
theorem dX11_wraps_163 : decode cX11_wraps 163 = .ok (.iadd, 1) := by decide +kernel
theorem dX11_wraps_164 : decode cX11_wraps 164 = .ok (.iastore, 1) := by decide +kernel
theorem dX11_wraps_165 : decode cX11_wraps 165 = .ok (.aload_n 0, 1) := by decide +kernel
theorem dX11_wraps_166 : decode cX11_wraps 166 = .ok (.dup, 1) := by decide +kernel
theorem dX11_wraps_167 : decode cX11_wraps 167 = .ok (.getfield 667, 3) := by decide +kernel
theorem dX11_wraps_170 : decode cX11_wraps 170 = .ok (.iconst 1, 1) := by decide +kernel
theorem dX11_wraps_171 : decode cX11_wraps 171 = .ok (.iadd, 1) := by decide +kernel
theorem dX11_wraps_172 : decode cX11_wraps 172 = .ok (.putfield 667, 3) := by decide +kernel
theorem dX11_wraps_175 : decode cX11_wraps 175 = .ok (.aload_n 0, 1) := by decide +kernel
theorem dX11_wraps_176 : decode cX11_wraps 176 = .ok (.dup, 1) := by decide +kernel
theorem dX11_wraps_177 : decode cX11_wraps 177 = .ok (.getfield 670, 3) := by decide +kernel
theorem dX11_wraps_180 : decode cX11_wraps 180 = .ok (.iconst 1, 1) := by decide +kernel
theorem dX11_wraps_181 : decode cX11_wraps 181 = .ok (.iadd, 1) := by decide +kernel
theorem dX11_wraps_182 : decode cX11_wraps 182 = .ok (.putfield 670, 3) := by decide +kernel
theorem dX11_wraps_185 : decode cX11_wraps 185 = .ok (.return_, 1) := by decide +kernel
theorem k1456 : Cond.fieldLink "BlameCourtModel" 642 "BlameCourtModel" "top" "I" ∈ gtb := gtm (in_tables_1_6 (List.mem_of_getElem? (i := 70) rfl)) rfl
theorem k1457 : Cond.fieldLink "BlameCourtModel" 197 "BlameCourtModel" "vSort" "[I" ∈ gtb := gtm (in_tables_1_6 (List.mem_of_getElem? (i := 71) rfl)) rfl
theorem k1458 : Cond.fieldLink "BlameCourtModel" 200 "BlameCourtModel" "vWhat" "[I" ∈ gtb := gtm (in_tables_1_6 (List.mem_of_getElem? (i := 72) rfl)) rfl
theorem k1459 : Cond.fieldLink "BlameCourtModel" 678 "BlameCourtModel" "base" "I" ∈ gtb := gtm (in_tables_1_6 (List.mem_of_getElem? (i := 73) rfl)) rfl
theorem k1460 : Cond.fieldLink "BlameCourtModel" 203 "BlameCourtModel" "lSort" "[I" ∈ gtb := gtm (in_tables_1_6 (List.mem_of_getElem? (i := 74) rfl)) rfl
theorem k1461 : Cond.fieldLink "BlameCourtModel" 206 "BlameCourtModel" "lWhat" "[I" ∈ gtb := gtm (in_tables_1_6 (List.mem_of_getElem? (i := 75) rfl)) rfl
theorem k1462 : Cond.fieldLink "BlameCourtModel" 667 "BlameCourtModel" "things" "I" ∈ gtb := gtm (in_tables_1_6 (List.mem_of_getElem? (i := 76) rfl)) rfl
theorem k1463 : Cond.fieldLink "BlameCourtModel" 209 "BlameCourtModel" "isWrap" "[Z" ∈ gtb := gtm (in_tables_1_6 (List.mem_of_getElem? (i := 77) rfl)) rfl
theorem k1464 : Cond.fieldLink "BlameCourtModel" 212 "BlameCourtModel" "tFirst" "[I" ∈ gtb := gtm (in_tables_1_6 (List.mem_of_getElem? (i := 78) rfl)) rfl
theorem k1465 : Cond.fieldLink "BlameCourtModel" 215 "BlameCourtModel" "tMany" "[I" ∈ gtb := gtm (in_tables_1_6 (List.mem_of_getElem? (i := 79) rfl)) rfl
theorem k1466 : Cond.fieldLink "BlameCourtModel" 218 "BlameCourtModel" "tWithin" "[I" ∈ gtb := gtm (in_tables_1_6 (List.mem_of_getElem? (i := 80) rfl)) rfl
theorem k1467 : Cond.fieldLink "BlameCourtModel" 221 "BlameCourtModel" "tFrom" "[I" ∈ gtb := gtm (in_tables_1_6 (List.mem_of_getElem? (i := 81) rfl)) rfl
theorem k1468 : Cond.fieldLink "BlameCourtModel" 224 "BlameCourtModel" "tTo" "[I" ∈ gtb := gtm (in_tables_1_6 (List.mem_of_getElem? (i := 82) rfl)) rfl
theorem k1469 : Cond.fieldLink "BlameCourtModel" 227 "BlameCourtModel" "tGive\x72" "[I" ∈ gtb := gtm (in_tables_1_6 (List.mem_of_getElem? (i := 83) rfl)) rfl
theorem k1470 : Cond.fieldLink "BlameCourtModel" 230 "BlameCourtModel" "tTake\x72" "[I" ∈ gtb := gtm (in_tables_1_6 (List.mem_of_getElem? (i := 84) rfl)) rfl
theorem k1471 : Cond.fieldLink "BlameCourtModel" 233 "BlameCourtModel" "tPlace" "[I" ∈ gtb := gtm (in_tables_1_6 (List.mem_of_getElem? (i := 85) rfl)) rfl
theorem k1472 : Cond.fieldLink "BlameCourtModel" 236 "BlameCourtModel" "tDeep" "[I" ∈ gtb := gtm (in_tables_1_6 (List.mem_of_getElem? (i := 86) rfl)) rfl
theorem k1473 : Cond.fieldLink "BlameCourtModel" 672 "BlameCourtModel" "placed" "I" ∈ gtb := gtm (in_tables_1_6 (List.mem_of_getElem? (i := 87) rfl)) rfl
theorem k1476 : Cond.fieldLink "BlameCourtModel" 675 "BlameCourtModel" "rows" "I" ∈ gtb := gtm (in_tables_1_6 (List.mem_of_getElem? (i := 90) rfl)) rfl
theorem k1477 : Cond.fieldLink "BlameCourtModel" 670 "BlameCourtModel" "wraps" "I" ∈ gtb := gtm (in_tables_1_6 (List.mem_of_getElem? (i := 91) rfl)) rfl
theorem k1478 : Cond.fieldLink "BlameCourtModel" 681 "BlameCourtModel" "backs" "I" ∈ gtb := gtm (in_tables_1_6 (List.mem_of_getElem? (i := 92) rfl)) rfl
theorem k1479 : Cond.fieldLink "BlameCourtModel" 684 "BlameCourtModel" "calls" "I" ∈ gtb := gtm (in_tables_1_6 (List.mem_of_getElem? (i := 93) rfl)) rfl
theorem k1480 : Cond.fieldLink "BlameCourtModel" 245 "BlameCourtModel" "backWrap" "[I" ∈ gtb := gtm (in_tables_1_6 (List.mem_of_getElem? (i := 94) rfl)) rfl
theorem k1481 : Cond.fieldLink "BlameCourtModel" 248 "BlameCourtModel" "backTo" "[I" ∈ gtb := gtm (in_tables_1_6 (List.mem_of_getElem? (i := 95) rfl)) rfl
theorem k1482 : Cond.fieldLink "BlameCourtModel" 251 "BlameCourtModel" "backBase" "[I" ∈ gtb := gtm (in_tables_1_6 (List.mem_of_getElem? (i := 96) rfl)) rfl
theorem k1486 : Cond.fieldLink "BlameCourtModel" 698 "BlameCourtModel" "isGuarded" "Z" ∈ gtb := gtm (in_tables_1_6 (List.mem_of_getElem? (i := 100) rfl)) rfl
theorem k1487 : Cond.fieldLink "BlameCourtModel" 636 "BlameCourtModel" "ended" "I" ∈ gtb := gtm (in_tables_1_6 (List.mem_of_getElem? (i := 101) rfl)) rfl
theorem k1488 : Cond.fieldLink "BlameCourtModel" 639 "BlameCourtModel" "endedAt" "I" ∈ gtb := gtm (in_tables_1_6 (List.mem_of_getElem? (i := 102) rfl)) rfl
theorem k1489 : Cond.fieldLink "BlameCourtModel" 648 "BlameCourtModel" "blamed" "I" ∈ gtb := gtm (in_tables_1_6 (List.mem_of_getElem? (i := 103) rfl)) rfl
theorem k1492 : Cond.fieldLink "BlameCourtModel" 257 "BlameCourtModel" "asks" "[I" ∈ gtb := gtm (in_tables_1_6 (List.mem_of_getElem? (i := 106) rfl)) rfl
theorem k2100 : Cond.methodLink "BlameCourtModel" 693 yX11_calls ∈ gtb := gtm (in_tables_1_8 (List.mem_of_getElem? (i := 234) rfl)) rfl
theorem k2104 : Cond.methodLink "BlameCourtModel" 651 yX11_ends ∈ gtb := gtm (in_tables_1_8 (List.mem_of_getElem? (i := 238) rfl)) rfl
theorem k2108 : Cond.methodLink "BlameCourtModel" 654 yX11_isOn ∈ gtb := gtm (in_tables_1_9 (List.mem_of_getElem? (i := 2) rfl)) rfl
theorem k2124 : Cond.methodLink "BlameCourtModel" 701 yX11_asks ∈ gtb := gtm (in_tables_1_9 (List.mem_of_getElem? (i := 18) rfl)) rfl
theorem k2128 : Cond.methodLink "BlameCourtModel" 645 yX11_isOfSort ∈ gtb := gtm (in_tables_1_9 (List.mem_of_getElem? (i := 22) rfl)) rfl
theorem k2132 : Cond.methodLink "BlameCourtModel" 661 yX11_within ∈ gtb := gtm (in_tables_1_9 (List.mem_of_getElem? (i := 26) rfl)) rfl
theorem k2136 : Cond.methodLink "BlameCourtModel" 657 yX11_wraps ∈ gtb := gtm (in_tables_1_9 (List.mem_of_getElem? (i := 30) rfl)) rfl
theorem k2140 : Cond.methodLink "BlameCourtModel" 664 yX11_deep ∈ gtb := gtm (in_tables_1_9 (List.mem_of_getElem? (i := 34) rfl)) rfl
theorem k2127 : Cond.code yX11_asks cX11_asks 10 none ∈ gtb := gtm (in_tables_1_9 (List.mem_of_getElem? (i := 21) rfl)) rfl
theorem ka_X11_asks : KA yX11_asks cX11_asks 10 none 6 := ⟨k2127, k197, by decide, by decide, by decide +kernel⟩
theorem k2126 : Cond.instanceMethod yX11_asks ∈ gtb := gtm (in_tables_1_9 (List.mem_of_getElem? (i := 20) rfl)) rfl
theorem k172 : Cond.selects "BlameCourtModel" yX11_asks yX11_asks ∈ gtb := gtm (in_lw_privs_11 (q := (yX11_asks, 129)) (List.mem_of_getElem? (i := 12) rfl)) rfl
theorem kv_X11_asks : KV yX11_asks := ⟨k2126, k172⟩
theorem k2147 : Cond.code yX11_call cX11_call 7 (some .int) ∈ gtb := gtm (in_tables_1_9 (List.mem_of_getElem? (i := 41) rfl)) rfl
theorem ka_X11_call : KA yX11_call cX11_call 7 (some .int) 2 := ⟨k2147, k197, by decide, by decide, by decide +kernel⟩
theorem k2146 : Cond.instanceMethod yX11_call ∈ gtb := gtm (in_tables_1_9 (List.mem_of_getElem? (i := 40) rfl)) rfl
theorem k177 : Cond.selects "BlameCourtModel" yX11_call yX11_call ∈ gtb := gtm (in_lw_privs_12 (q := (yX11_call, 129)) (List.mem_of_getElem? (i := 1) rfl)) rfl
theorem kv_X11_call : KV yX11_call := ⟨k2146, k177⟩
theorem k2103 : Cond.code yX11_calls cX11_calls 5 none ∈ gtb := gtm (in_tables_1_8 (List.mem_of_getElem? (i := 237) rfl)) rfl
theorem ka_X11_calls : KA yX11_calls cX11_calls 5 none 3 := ⟨k2103, k197, by decide, by decide, by decide +kernel⟩
theorem k2102 : Cond.instanceMethod yX11_calls ∈ gtb := gtm (in_tables_1_8 (List.mem_of_getElem? (i := 236) rfl)) rfl
theorem k166 : Cond.selects "BlameCourtModel" yX11_calls yX11_calls ∈ gtb := gtm (in_lw_privs_11 (q := (yX11_calls, 129)) (List.mem_of_getElem? (i := 6) rfl)) rfl
theorem kv_X11_calls : KV yX11_calls := ⟨k2102, k166⟩
theorem k2143 : Cond.code yX11_deep cX11_deep 3 (some .int) ∈ gtb := gtm (in_tables_1_9 (List.mem_of_getElem? (i := 37) rfl)) rfl
theorem ka_X11_deep : KA yX11_deep cX11_deep 3 (some .int) 2 := ⟨k2143, k197, by decide, by decide, by decide +kernel⟩
theorem k2142 : Cond.instanceMethod yX11_deep ∈ gtb := gtm (in_tables_1_9 (List.mem_of_getElem? (i := 36) rfl)) rfl
theorem k176 : Cond.selects "BlameCourtModel" yX11_deep yX11_deep ∈ gtb := gtm (in_lw_privs_12 (q := (yX11_deep, 129)) (List.mem_of_getElem? (i := 0) rfl)) rfl
theorem kv_X11_deep : KV yX11_deep := ⟨k2142, k176⟩
theorem k2107 : Cond.code yX11_ends cX11_ends 3 none ∈ gtb := gtm (in_tables_1_9 (List.mem_of_getElem? (i := 1) rfl)) rfl
theorem ka_X11_ends : KA yX11_ends cX11_ends 3 none 2 := ⟨k2107, k197, by decide, by decide, by decide +kernel⟩
theorem k2106 : Cond.instanceMethod yX11_ends ∈ gtb := gtm (in_tables_1_9 (List.mem_of_getElem? (i := 0) rfl)) rfl
theorem k167 : Cond.selects "BlameCourtModel" yX11_ends yX11_ends ∈ gtb := gtm (in_lw_privs_11 (q := (yX11_ends, 129)) (List.mem_of_getElem? (i := 7) rfl)) rfl
theorem kv_X11_ends : KV yX11_ends := ⟨k2106, k167⟩
theorem k2075 : Cond.code yX11_fault cX11_fault 2 (some .int) ∈ gtb := gtm (in_tables_1_8 (List.mem_of_getElem? (i := 209) rfl)) rfl
theorem ka_X11_fault : KA yX11_fault cX11_fault 2 (some .int) 1 := ⟨k2075, k197, by decide, by decide, by decide +kernel⟩
theorem k2073 : Cond.instanceMethod yX11_fault ∈ gtb := gtm (in_tables_1_8 (List.mem_of_getElem? (i := 207) rfl)) rfl
theorem k2074 : Cond.selects "BlameCourtModel" yX11_fault yX11_fault ∈ gtb := gtm (in_tables_1_8 (List.mem_of_getElem? (i := 208) rfl)) rfl
theorem kv_X11_fault : KV yX11_fault := ⟨k2073, k2074⟩
theorem k2087 : Cond.code yX11_guard cX11_guard 3 (some .int) ∈ gtb := gtm (in_tables_1_8 (List.mem_of_getElem? (i := 221) rfl)) rfl
theorem ka_X11_guard : KA yX11_guard cX11_guard 3 (some .int) 2 := ⟨k2087, k197, by decide, by decide, by decide +kernel⟩
theorem k2085 : Cond.instanceMethod yX11_guard ∈ gtb := gtm (in_tables_1_8 (List.mem_of_getElem? (i := 219) rfl)) rfl
theorem k2086 : Cond.selects "BlameCourtModel" yX11_guard yX11_guard ∈ gtb := gtm (in_tables_1_8 (List.mem_of_getElem? (i := 220) rfl)) rfl
theorem kv_X11_guard : KV yX11_guard := ⟨k2085, k2086⟩
theorem k2123 : Cond.code yX11_guarded cX11_guarded 5 none ∈ gtb := gtm (in_tables_1_9 (List.mem_of_getElem? (i := 17) rfl)) rfl
theorem ka_X11_guarded : KA yX11_guarded cX11_guarded 5 none 3 := ⟨k2123, k197, by decide, by decide, by decide +kernel⟩
theorem k2122 : Cond.instanceMethod yX11_guarded ∈ gtb := gtm (in_tables_1_9 (List.mem_of_getElem? (i := 16) rfl)) rfl
theorem k171 : Cond.selects "BlameCourtModel" yX11_guarded yX11_guarded ∈ gtb := gtm (in_lw_privs_11 (q := (yX11_guarded, 129)) (List.mem_of_getElem? (i := 11) rfl)) rfl
theorem kv_X11_guarded : KV yX11_guarded := ⟨k2122, k171⟩
theorem k2131 : Cond.code yX11_isOfSort cX11_isOfSort 4 (some .boolean) ∈ gtb := gtm (in_tables_1_9 (List.mem_of_getElem? (i := 25) rfl)) rfl
theorem ka_X11_isOfSort : KA yX11_isOfSort cX11_isOfSort 4 (some .boolean) 2 := ⟨k2131, k197, by decide, by decide, by decide +kernel⟩
theorem k2130 : Cond.instanceMethod yX11_isOfSort ∈ gtb := gtm (in_tables_1_9 (List.mem_of_getElem? (i := 24) rfl)) rfl
theorem k173 : Cond.selects "BlameCourtModel" yX11_isOfSort yX11_isOfSort ∈ gtb := gtm (in_lw_privs_11 (q := (yX11_isOfSort, 129)) (List.mem_of_getElem? (i := 13) rfl)) rfl
theorem kv_X11_isOfSort : KV yX11_isOfSort := ⟨k2130, k173⟩
theorem k2111 : Cond.code yX11_isOn cX11_isOn 1 (some .boolean) ∈ gtb := gtm (in_tables_1_9 (List.mem_of_getElem? (i := 5) rfl)) rfl
theorem ka_X11_isOn : KA yX11_isOn cX11_isOn 1 (some .boolean) 0 := ⟨k2111, k197, by decide, by decide, by decide +kernel⟩
theorem k2110 : Cond.instanceMethod yX11_isOn ∈ gtb := gtm (in_tables_1_9 (List.mem_of_getElem? (i := 4) rfl)) rfl
theorem k168 : Cond.selects "BlameCourtModel" yX11_isOn yX11_isOn ∈ gtb := gtm (in_lw_privs_11 (q := (yX11_isOn, 129)) (List.mem_of_getElem? (i := 8) rfl)) rfl
theorem kv_X11_isOn : KV yX11_isOn := ⟨k2110, k168⟩
theorem k2083 : Cond.code yX11_judge cX11_judge 1 (some .int) ∈ gtb := gtm (in_tables_1_8 (List.mem_of_getElem? (i := 217) rfl)) rfl
theorem ka_X11_judge : KA yX11_judge cX11_judge 1 (some .int) 0 := ⟨k2083, k197, by decide, by decide, by decide +kernel⟩
theorem k2081 : Cond.instanceMethod yX11_judge ∈ gtb := gtm (in_tables_1_8 (List.mem_of_getElem? (i := 215) rfl)) rfl
theorem k2082 : Cond.selects "BlameCourtModel" yX11_judge yX11_judge ∈ gtb := gtm (in_tables_1_8 (List.mem_of_getElem? (i := 216) rfl)) rfl
theorem kv_X11_judge : KV yX11_judge := ⟨k2081, k2082⟩
theorem k2091 : Cond.code yX11_part_ cX11_part_ 3 (some .int) ∈ gtb := gtm (in_tables_1_8 (List.mem_of_getElem? (i := 225) rfl)) rfl
theorem ka_X11_part_ : KA yX11_part_ cX11_part_ 3 (some .int) 2 := ⟨k2091, k197, by decide, by decide, by decide +kernel⟩
theorem k2089 : Cond.instanceMethod yX11_part_ ∈ gtb := gtm (in_tables_1_8 (List.mem_of_getElem? (i := 223) rfl)) rfl
theorem k2090 : Cond.selects "BlameCourtModel" yX11_part_ yX11_part_ ∈ gtb := gtm (in_tables_1_8 (List.mem_of_getElem? (i := 224) rfl)) rfl
theorem kv_X11_part_ : KV yX11_part_ := ⟨k2089, k2090⟩
theorem k2159 : Cond.code yX11_row cX11_row 3 (some .int) ∈ gtb := gtm (in_tables_1_9 (List.mem_of_getElem? (i := 53) rfl)) rfl
theorem ka_X11_row : KA yX11_row cX11_row 3 (some .int) 2 := ⟨k2159, k197, by decide, by decide, by decide +kernel⟩
theorem k2158 : Cond.instanceMethod yX11_row ∈ gtb := gtm (in_tables_1_9 (List.mem_of_getElem? (i := 52) rfl)) rfl
theorem k180 : Cond.selects "BlameCourtModel" yX11_row yX11_row ∈ gtb := gtm (in_lw_privs_12 (q := (yX11_row, 129)) (List.mem_of_getElem? (i := 4) rfl)) rfl
theorem kv_X11_row : KV yX11_row := ⟨k2158, k180⟩
theorem k2079 : Cond.code yX11_tell cX11_tell 3 (some .boolean) ∈ gtb := gtm (in_tables_1_8 (List.mem_of_getElem? (i := 213) rfl)) rfl
theorem ka_X11_tell : KA yX11_tell cX11_tell 3 (some .boolean) 2 := ⟨k2079, k197, by decide, by decide, by decide +kernel⟩
theorem k2077 : Cond.instanceMethod yX11_tell ∈ gtb := gtm (in_tables_1_8 (List.mem_of_getElem? (i := 211) rfl)) rfl
theorem k2078 : Cond.selects "BlameCourtModel" yX11_tell yX11_tell ∈ gtb := gtm (in_tables_1_8 (List.mem_of_getElem? (i := 212) rfl)) rfl
theorem kv_X11_tell : KV yX11_tell := ⟨k2077, k2078⟩
theorem k2119 : Cond.code yX11_value cX11_value 3 none ∈ gtb := gtm (in_tables_1_9 (List.mem_of_getElem? (i := 13) rfl)) rfl
theorem ka_X11_value : KA yX11_value cX11_value 3 none 2 := ⟨k2119, k197, by decide, by decide, by decide +kernel⟩
theorem k2118 : Cond.instanceMethod yX11_value ∈ gtb := gtm (in_tables_1_9 (List.mem_of_getElem? (i := 12) rfl)) rfl
theorem k170 : Cond.selects "BlameCourtModel" yX11_value yX11_value ∈ gtb := gtm (in_lw_privs_11 (q := (yX11_value, 129)) (List.mem_of_getElem? (i := 10) rfl)) rfl
theorem kv_X11_value : KV yX11_value := ⟨k2118, k170⟩
theorem k2135 : Cond.code yX11_within cX11_within 4 (some .int) ∈ gtb := gtm (in_tables_1_9 (List.mem_of_getElem? (i := 29) rfl)) rfl
theorem ka_X11_within : KA yX11_within cX11_within 4 (some .int) 2 := ⟨k2135, k197, by decide, by decide, by decide +kernel⟩
theorem k2134 : Cond.instanceMethod yX11_within ∈ gtb := gtm (in_tables_1_9 (List.mem_of_getElem? (i := 28) rfl)) rfl
theorem k174 : Cond.selects "BlameCourtModel" yX11_within yX11_within ∈ gtb := gtm (in_lw_privs_11 (q := (yX11_within, 129)) (List.mem_of_getElem? (i := 14) rfl)) rfl
theorem kv_X11_within : KV yX11_within := ⟨k2134, k174⟩
theorem k2139 : Cond.code yX11_wraps cX11_wraps 9 none ∈ gtb := gtm (in_tables_1_9 (List.mem_of_getElem? (i := 33) rfl)) rfl
theorem ka_X11_wraps : KA yX11_wraps cX11_wraps 9 none 6 := ⟨k2139, k197, by decide, by decide, by decide +kernel⟩
theorem k2138 : Cond.instanceMethod yX11_wraps ∈ gtb := gtm (in_tables_1_9 (List.mem_of_getElem? (i := 32) rfl)) rfl
theorem k175 : Cond.selects "BlameCourtModel" yX11_wraps yX11_wraps ∈ gtb := gtm (in_lw_privs_11 (q := (yX11_wraps, 129)) (List.mem_of_getElem? (i := 15) rfl)) rfl
theorem kv_X11_wraps : KV yX11_wraps := ⟨k2138, k175⟩
abbrev R_fault : Room := { frames := 6, cells := 0, slots := 0, locals := 90 }
noncomputable def f_fault (p1 : Int32) (X : St) : Option (Int32 × St) :=
  if p1.toInt = 0 then
    letV (X.1 0 11) fun x2 =>
    some (x2, X)
  else
    if p1.toInt = 1 then
      letV (X.1 0 12) fun x1 =>
      some (x1, X)
    else
      some ((-1), X)
set_option maxHeartbeats 4000000 in
set_option maxRecDepth 100000 in
theorem c_fault (Γ : Gx) (p1 : Int32) (X : St) : TMI YR Γ yX11_fault cX11_fault 2 "BlameCourtModel" (some .int) R_fault [.ref (Γ.2.2.2.1 0), .int p1] X (f_fault p1 X) := by
  refine TMI.of (by decide) (Nat.le_of_ble_eq_true rfl) rfl ?_
  show T YR Γ cX11_fault 2 "BlameCourtModel" (some .int) R_fault _ qI 0 [(0, .ref (Γ.2.2.2.1 0)), (1, .int p1)] [] X (f_fault p1 X)
  unfold f_fault
  refine T.iload_n dX11_fault_0 rfl 1 rfl ?_
  refine T.if_ne (pc1 := 11) dX11_fault_1 (by decide) ?_ ?_
  · refine T.iload_n dX11_fault_11 rfl 1 rfl ?_
    refine T.iconst (w := 1) dX11_fault_12 (by decide) ?_
    refine T.icmp_ne (pc1 := 23) dX11_fault_13 (by decide) rfl ?_ ?_
    · refine T.iconst (w := (-1)) dX11_fault_23 (by decide) ?_
      exact T.ret_i rfl dX11_fault_24
    · refine T.aload_n dX11_fault_16 rfl 0 rfl ?_
      refine gR12 k1381 dX11_fault_17 (fun x1 => ?_)
      refine T.goto (pc1 := 24) dX11_fault_20 (by decide) ?_
      exact T.ret_i rfl dX11_fault_24
  · refine T.aload_n dX11_fault_4 rfl 0 rfl ?_
    refine gR11 k1380 dX11_fault_5 (fun x2 => ?_)
    refine T.goto (pc1 := 24) dX11_fault_8 (by decide) ?_
    exact T.ret_i rfl dX11_fault_24
abbrev R_tell : Room := { frames := 10, cells := 0, slots := 0, locals := 150 }
noncomputable def f_tell (p1 : Int32) (p2 : Int32) (X : St) : Option (Int32 × St) :=
  letV (X.1 0 3) fun x1 =>
  if x1.toInt = 0 then
    some (0, X)
  else
    letV (X.1 0 18) fun x2 =>
    letV (x2 - (1 : Int32)) fun x3 =>
    bnd (f_in p1 (0 : Int32) x3 X) fun x4 X5 =>
    if x4.toInt = 0 then
      some (0, X5)
    else
      chk (inR p1 41) (letV (wI X5 19 (ix p1) (vp_nar .boolean p2)) fun X6 =>
      letV (wI X6 0 4 ((0 : Int32))) fun X7 =>
      some (1, X7))
set_option maxHeartbeats 4000000 in
set_option maxRecDepth 100000 in
theorem c_tell (Γ : Gx) (p1 : Int32) (p2 : Int32) (X : St) : TMI YR Γ yX11_tell cX11_tell 3 "BlameCourtModel" (some .boolean) R_tell [.ref (Γ.2.2.2.1 0), .int p1, .int p2] X (f_tell p1 p2 X) := by
  refine TMI.of (by decide) (Nat.le_of_ble_eq_true rfl) rfl ?_
  show T YR Γ cX11_tell 3 "BlameCourtModel" (some .boolean) R_tell _ qI 0 [(0, .ref (Γ.2.2.2.1 0)), (1, .int p1), (2, .int p2)] [] X (f_tell p1 p2 X)
  unfold f_tell
  refine T.aload_n dX11_tell_0 rfl 0 rfl ?_
  refine gR3 k1371 dX11_tell_1 (fun x1 => ?_)
  refine T.if_eq (pc1 := 21) dX11_tell_4 (by decide) ?_ ?_
  · refine T.iconst (w := 0) dX11_tell_21 (by decide) ?_
    exact T.ret_z rfl dX11_tell_22 rfl
  · refine T.iload_n dX11_tell_7 rfl 1 rfl ?_
    refine T.iconst (w := 0) dX11_tell_8 (by decide) ?_
    refine T.aload_n dX11_tell_9 rfl 0 rfl ?_
    refine gR18 k1394 dX11_tell_10 (fun x2 => ?_)
    refine T.iconst (w := 1) dX11_tell_13 (by decide) ?_
    refine T.isub dX11_tell_14 (fun x3 => ?_)
    refine T.callS_i (As1 := [.int p1, .int 0, .int x3]) (rest := []) (c_in Γ p1 (0 : Int32) x3 X) ka_X11_in k1766 k1765 rfl rfl rfl rfl ⟨Nat.le_of_ble_eq_true rfl, Nat.le_of_ble_eq_true rfl⟩ (Nat.le_of_ble_eq_true rfl) dX11_tell_15 (fun x4 X5 => ?_)
    refine T.if_ne (pc1 := 23) dX11_tell_18 (by decide) ?_ ?_
    · refine T.aload_n dX11_tell_23 rfl 0 rfl ?_
      refine cR66 k1403 dX11_tell_24 ?_
      refine T.iload_n dX11_tell_27 rfl 1 rfl ?_
      refine T.iload_n dX11_tell_28 rfl 2 rfl ?_
      refine asR19 dX11_tell_29 (fun X6 => ?_)
      refine T.aload_n dX11_tell_30 rfl 0 rfl ?_
      refine T.iconst (w := 0) dX11_tell_31 (by decide) ?_
      refine pR4 k1372 (by decide) dX11_tell_32 (fun X7 => ?_)
      refine T.iconst (w := 1) dX11_tell_35 (by decide) ?_
      exact T.ret_z rfl dX11_tell_36 rfl
    · refine T.iconst (w := 0) dX11_tell_21 (by decide) ?_
      exact T.ret_z rfl dX11_tell_22 rfl
abbrev R_judge : Room := { frames := 30, cells := 0, slots := 0, locals := 450 }
noncomputable def f_judge (X : St) : Option (Int32 × St) :=
  letV (X.1 0 3) fun x1 =>
  if x1.toInt = 0 then
    some ((-1), X)
  else
    bnd (f_judges X) fun _ X2 =>
    letV (X2.1 0 9) fun x3 =>
    letV (wI X2 0 11 x3) fun X4 =>
    letV (X4.1 0 10) fun x5 =>
    letV (wI X4 0 12 x5) fun X6 =>
    letV (X6.1 0 4) fun x7 =>
    if x7.toInt = 0 then
      some ((-1), X6)
    else
      letV (X6.1 0 28) fun x8 =>
      some (x8, X6)
set_option maxHeartbeats 4000000 in
set_option maxRecDepth 100000 in
theorem c_judge (Γ : Gx) (X : St) : TMI YR Γ yX11_judge cX11_judge 1 "BlameCourtModel" (some .int) R_judge [.ref (Γ.2.2.2.1 0)] X (f_judge X) := by
  refine TMI.of (by decide) (Nat.le_of_ble_eq_true rfl) rfl ?_
  show T YR Γ cX11_judge 1 "BlameCourtModel" (some .int) R_judge _ qI 0 [(0, .ref (Γ.2.2.2.1 0))] [] X (f_judge X)
  unfold f_judge
  refine T.aload_n dX11_judge_0 rfl 0 rfl ?_
  refine gR3 k1371 dX11_judge_1 (fun x1 => ?_)
  refine T.if_ne (pc1 := 9) dX11_judge_4 (by decide) ?_ ?_
  · refine T.aload_n dX11_judge_9 rfl 0 rfl ?_
    refine T.callV_v 0 (As1 := []) (rest := []) (c_judges Γ X) ka_X11_judges kv_X11_judges oR rfl k1968 rfl rfl rfl rfl ⟨Nat.le_of_ble_eq_true rfl, Nat.le_of_ble_eq_true rfl⟩ (Nat.le_of_ble_eq_true rfl) dX11_judge_10 (fun _ X2 => ?_)
    refine T.aload_n dX11_judge_13 rfl 0 rfl ?_
    refine T.aload_n dX11_judge_14 rfl 0 rfl ?_
    refine gR9 k1378 dX11_judge_15 (fun x3 => ?_)
    refine pR11 k1380 dX11_judge_18 (fun X4 => ?_)
    refine T.aload_n dX11_judge_21 rfl 0 rfl ?_
    refine T.aload_n dX11_judge_22 rfl 0 rfl ?_
    refine gR10 k1379 dX11_judge_23 (fun x5 => ?_)
    refine pR12 k1381 dX11_judge_26 (fun X6 => ?_)
    refine T.aload_n dX11_judge_29 rfl 0 rfl ?_
    refine gR4 k1372 dX11_judge_30 (fun x7 => ?_)
    refine T.if_eq (pc1 := 43) dX11_judge_33 (by decide) ?_ ?_
    · refine T.iconst (w := (-1)) dX11_judge_43 (by decide) ?_
      exact T.ret_i rfl dX11_judge_44
    · refine T.aload_n dX11_judge_36 rfl 0 rfl ?_
      refine gR28 k1445 dX11_judge_37 (fun x8 => ?_)
      refine T.goto (pc1 := 44) dX11_judge_40 (by decide) ?_
      exact T.ret_i rfl dX11_judge_44
  · refine T.iconst (w := (-1)) dX11_judge_7 (by decide) ?_
    exact T.ret_i rfl dX11_judge_8
abbrev R_guard : Room := { frames := 10, cells := 0, slots := 0, locals := 150 }
noncomputable def f_guard (p1 : Int32) (p2 : Int32) (X : St) : Option (Int32 × St) :=
  letV (X.1 0 4) fun x1 =>
  if x1.toInt = 0 then
    some ((-1), X)
  else
    letV (X.1 0 28) fun x2 =>
    letV (x2 - (1 : Int32)) fun x3 =>
    bnd (f_in p1 (0 : Int32) x3 X) fun x4 X5 =>
    if x4.toInt = 0 then
      some ((-1), X5)
    else
      if p2.toInt = 0 then
        chk (inR p1 12000) (letV (X5.1 52 (ix p1)) fun x7 =>
        some (x7, X5))
      else if p2.toInt = 1 then
        chk (inR p1 12000) (letV (X5.1 55 (ix p1)) fun x9 =>
        some (x9, X5))
      else if p2.toInt = 2 then
        chk (inR p1 12000) (letV (X5.1 56 (ix p1)) fun x11 =>
        some (x11, X5))
      else if p2.toInt = 3 then
        chk (inR p1 12000) (letV (X5.1 53 (ix p1)) fun x13 =>
        chk (inR x13 6000) (letV (X5.1 7 (ix x13)) fun x14 =>
        some (x14, X5)))
      else if p2.toInt = 4 then
        chk (inR p1 12000) (letV (X5.1 54 (ix p1)) fun x16 =>
        chk (inR x16 6000) (letV (X5.1 7 (ix x16)) fun x17 =>
        some (x17, X5)))
      else some ((-1), X5)
set_option maxHeartbeats 4000000 in
set_option maxRecDepth 100000 in
theorem c_guard (Γ : Gx) (p1 : Int32) (p2 : Int32) (X : St) : TMI YR Γ yX11_guard cX11_guard 3 "BlameCourtModel" (some .int) R_guard [.ref (Γ.2.2.2.1 0), .int p1, .int p2] X (f_guard p1 p2 X) := by
  refine TMI.of (by decide) (Nat.le_of_ble_eq_true rfl) rfl ?_
  show T YR Γ cX11_guard 3 "BlameCourtModel" (some .int) R_guard _ qI 0 [(0, .ref (Γ.2.2.2.1 0)), (1, .int p1), (2, .int p2)] [] X (f_guard p1 p2 X)
  unfold f_guard
  refine T.aload_n dX11_guard_0 rfl 0 rfl ?_
  refine gR4 k1372 dX11_guard_1 (fun x1 => ?_)
  refine T.if_eq (pc1 := 21) dX11_guard_4 (by decide) ?_ ?_
  · refine T.iconst (w := (-1)) dX11_guard_21 (by decide) ?_
    exact T.ret_i rfl dX11_guard_22
  · refine T.iload_n dX11_guard_7 rfl 1 rfl ?_
    refine T.iconst (w := 0) dX11_guard_8 (by decide) ?_
    refine T.aload_n dX11_guard_9 rfl 0 rfl ?_
    refine gR28 k1445 dX11_guard_10 (fun x2 => ?_)
    refine T.iconst (w := 1) dX11_guard_13 (by decide) ?_
    refine T.isub dX11_guard_14 (fun x3 => ?_)
    refine T.callS_i (As1 := [.int p1, .int 0, .int x3]) (rest := []) (c_in Γ p1 (0 : Int32) x3 X) ka_X11_in k1766 k1765 rfl rfl rfl rfl ⟨Nat.le_of_ble_eq_true rfl, Nat.le_of_ble_eq_true rfl⟩ (Nat.le_of_ble_eq_true rfl) dX11_guard_15 (fun x4 X5 => ?_)
    refine T.if_ne (pc1 := 23) dX11_guard_18 (by decide) ?_ ?_
    · refine T.iload_n dX11_guard_23 rfl 2 rfl ?_
      refine T.ite (fun s6 => ?_) (fun s6 => ?_)
      · refine T.tbl (pc1 := 60) dX11_guard_24 (by decide) (off := 36) (by rw [s6]; rfl) (by decide) ?_
        refine T.aload_n dX11_guard_60 rfl 0 rfl ?_
        refine cR99 k1446 dX11_guard_61 ?_
        refine T.iload_n dX11_guard_64 rfl 1 rfl ?_
        refine alR52 dX11_guard_65 (fun x7 => ?_)
        exact T.ret_i rfl dX11_guard_66
      refine T.ite (fun s8 => ?_) (fun s8 => ?_)
      · refine T.tbl (pc1 := 67) dX11_guard_24 (by decide) (off := 43) (by rw [s8]; rfl) (by decide) ?_
        refine T.aload_n dX11_guard_67 rfl 0 rfl ?_
        refine cR102 k1449 dX11_guard_68 ?_
        refine T.iload_n dX11_guard_71 rfl 1 rfl ?_
        refine alR55 dX11_guard_72 (fun x9 => ?_)
        exact T.ret_i rfl dX11_guard_73
      refine T.ite (fun s10 => ?_) (fun s10 => ?_)
      · refine T.tbl (pc1 := 74) dX11_guard_24 (by decide) (off := 50) (by rw [s10]; rfl) (by decide) ?_
        refine T.aload_n dX11_guard_74 rfl 0 rfl ?_
        refine cR103 k1450 dX11_guard_75 ?_
        refine T.iload_n dX11_guard_78 rfl 1 rfl ?_
        refine alR56 dX11_guard_79 (fun x11 => ?_)
        exact T.ret_i rfl dX11_guard_80
      refine T.ite (fun s12 => ?_) (fun s12 => ?_)
      · refine T.tbl (pc1 := 81) dX11_guard_24 (by decide) (off := 57) (by rw [s12]; rfl) (by decide) ?_
        refine T.aload_n dX11_guard_81 rfl 0 rfl ?_
        refine cR54 k1387 dX11_guard_82 ?_
        refine T.aload_n dX11_guard_85 rfl 0 rfl ?_
        refine cR100 k1447 dX11_guard_86 ?_
        refine T.iload_n dX11_guard_89 rfl 1 rfl ?_
        refine alR53 dX11_guard_90 (fun x13 => ?_)
        refine alR7 dX11_guard_91 (fun x14 => ?_)
        exact T.ret_i rfl dX11_guard_92
      refine T.ite (fun s15 => ?_) (fun s15 => ?_)
      · refine T.tbl (pc1 := 93) dX11_guard_24 (by decide) (off := 69) (by rw [s15]; rfl) (by decide) ?_
        refine T.aload_n dX11_guard_93 rfl 0 rfl ?_
        refine cR54 k1387 dX11_guard_94 ?_
        refine T.aload_n dX11_guard_97 rfl 0 rfl ?_
        refine cR101 k1448 dX11_guard_98 ?_
        refine T.iload_n dX11_guard_101 rfl 1 rfl ?_
        refine alR54 dX11_guard_102 (fun x16 => ?_)
        refine alR7 dX11_guard_103 (fun x17 => ?_)
        exact T.ret_i rfl dX11_guard_104
      refine T.tbl (pc1 := 105) dX11_guard_24 (by decide) (off := 81) (tbl_d [0, 1, 2, 3, 4] (by intro q; simp only [List.mem_cons, List.not_mem_nil, or_false] at q; omega) (by decide)) (by decide) ?_
      refine T.iconst (w := (-1)) dX11_guard_105 (by decide) ?_
      exact T.ret_i rfl dX11_guard_106
    · refine T.iconst (w := (-1)) dX11_guard_21 (by decide) ?_
      exact T.ret_i rfl dX11_guard_22
abbrev R_part_II_I : Room := { frames := 10, cells := 0, slots := 0, locals := 150 }
noncomputable def f_part_II_I (p1 : Int32) (p2 : Int32) (X : St) : Option (Int32 × St) :=
  letV (X.1 0 3) fun x1 =>
  if x1.toInt = 0 then
    some ((-1), X)
  else
    letV (X.1 0 18) fun x2 =>
    letV (x2 - (1 : Int32)) fun x3 =>
    bnd (f_in p1 (0 : Int32) x3 X) fun x4 X5 =>
    if x4.toInt = 0 then
      some ((-1), X5)
    else
      if p2.toInt = 0 then
        chk (inR p1 41) (letV (X5.1 19 (ix p1)) fun x7 =>
        if x7.toInt = 0 then
          some (0, X5)
        else
          some (1, X5))
      else if p2.toInt = 1 then
        chk (inR p1 41) (letV (X5.1 15 (ix p1)) fun x9 =>
        some (x9, X5))
      else if p2.toInt = 2 then
        chk (inR p1 41) (letV (X5.1 13 (ix p1)) fun x11 =>
        some (x11, X5))
      else if p2.toInt = 3 then
        letV (X5.1 0 4) fun x13 =>
        if x13.toInt = 0 then
          some ((-1), X5)
        else
          chk (inR p1 41) (letV (X5.1 57 (ix p1)) fun x14 =>
          if x14.toInt = 0 then
            some (0, X5)
          else
            some (1, X5))
      else if p2.toInt = 4 then
        chk (inR p1 41) (letV (X5.1 14 (ix p1)) fun x16 =>
        some (x16, X5))
      else chk (inR p1 41) (letV (X5.1 13 (ix p1)) fun x17 =>
      letV ((99 : Int32) + x17) fun x18 =>
      bnd (f_in p2 (100 : Int32) x18 X5) fun x19 X20 =>
      if x19.toInt = 0 then
        some ((-1), X20)
      else
        chk (inR p1 41) (letV (X20.1 12 (ix p1)) fun x21 =>
        letV (x21 + p2) fun x22 =>
        letV (x22 - (100 : Int32)) fun x23 =>
        chk (inR x23 3000) (letV (X20.1 2 (ix x23)) fun x24 =>
        some (x24, X20))))
set_option maxHeartbeats 4000000 in
set_option maxRecDepth 100000 in
theorem c_part_II_I (Γ : Gx) (p1 : Int32) (p2 : Int32) (X : St) : TMI YR Γ yX11_part_ cX11_part_ 3 "BlameCourtModel" (some .int) R_part_II_I [.ref (Γ.2.2.2.1 0), .int p1, .int p2] X (f_part_II_I p1 p2 X) := by
  refine TMI.of (by decide) (Nat.le_of_ble_eq_true rfl) rfl ?_
  show T YR Γ cX11_part_ 3 "BlameCourtModel" (some .int) R_part_II_I _ qI 0 [(0, .ref (Γ.2.2.2.1 0)), (1, .int p1), (2, .int p2)] [] X (f_part_II_I p1 p2 X)
  unfold f_part_II_I
  refine T.aload_n dX11_part__0 rfl 0 rfl ?_
  refine gR3 k1371 dX11_part__1 (fun x1 => ?_)
  refine T.if_eq (pc1 := 21) dX11_part__4 (by decide) ?_ ?_
  · refine T.iconst (w := (-1)) dX11_part__21 (by decide) ?_
    exact T.ret_i rfl dX11_part__22
  · refine T.iload_n dX11_part__7 rfl 1 rfl ?_
    refine T.iconst (w := 0) dX11_part__8 (by decide) ?_
    refine T.aload_n dX11_part__9 rfl 0 rfl ?_
    refine gR18 k1394 dX11_part__10 (fun x2 => ?_)
    refine T.iconst (w := 1) dX11_part__13 (by decide) ?_
    refine T.isub dX11_part__14 (fun x3 => ?_)
    refine T.callS_i (As1 := [.int p1, .int 0, .int x3]) (rest := []) (c_in Γ p1 (0 : Int32) x3 X) ka_X11_in k1766 k1765 rfl rfl rfl rfl ⟨Nat.le_of_ble_eq_true rfl, Nat.le_of_ble_eq_true rfl⟩ (Nat.le_of_ble_eq_true rfl) dX11_part__15 (fun x4 X5 => ?_)
    refine T.if_ne (pc1 := 23) dX11_part__18 (by decide) ?_ ?_
    · refine T.iload_n dX11_part__23 rfl 2 rfl ?_
      refine T.ite (fun s6 => ?_) (fun s6 => ?_)
      · refine T.tbl (pc1 := 60) dX11_part__24 (by decide) (off := 36) (by rw [s6]; rfl) (by decide) ?_
        refine T.aload_n dX11_part__60 rfl 0 rfl ?_
        refine cR66 k1403 dX11_part__61 ?_
        refine T.iload_n dX11_part__64 rfl 1 rfl ?_
        refine alR19 dX11_part__65 (fun x7 => ?_)
        refine T.if_eq (pc1 := 73) dX11_part__66 (by decide) ?_ ?_
        · refine T.iconst (w := 0) dX11_part__73 (by decide) ?_
          exact T.ret_i rfl dX11_part__74
        · refine T.iconst (w := 1) dX11_part__69 (by decide) ?_
          refine T.goto (pc1 := 74) dX11_part__70 (by decide) ?_
          exact T.ret_i rfl dX11_part__74
      refine T.ite (fun s8 => ?_) (fun s8 => ?_)
      · refine T.tbl (pc1 := 75) dX11_part__24 (by decide) (off := 51) (by rw [s8]; rfl) (by decide) ?_
        refine T.aload_n dX11_part__75 rfl 0 rfl ?_
        refine cR62 k1399 dX11_part__76 ?_
        refine T.iload_n dX11_part__79 rfl 1 rfl ?_
        refine alR15 dX11_part__80 (fun x9 => ?_)
        exact T.ret_i rfl dX11_part__81
      refine T.ite (fun s10 => ?_) (fun s10 => ?_)
      · refine T.tbl (pc1 := 82) dX11_part__24 (by decide) (off := 58) (by rw [s10]; rfl) (by decide) ?_
        refine T.aload_n dX11_part__82 rfl 0 rfl ?_
        refine cR60 k1397 dX11_part__83 ?_
        refine T.iload_n dX11_part__86 rfl 1 rfl ?_
        refine alR13 dX11_part__87 (fun x11 => ?_)
        exact T.ret_i rfl dX11_part__88
      refine T.ite (fun s12 => ?_) (fun s12 => ?_)
      · refine T.tbl (pc1 := 89) dX11_part__24 (by decide) (off := 65) (by rw [s12]; rfl) (by decide) ?_
        refine T.aload_n dX11_part__89 rfl 0 rfl ?_
        refine gR4 k1372 dX11_part__90 (fun x13 => ?_)
        refine T.if_ne (pc1 := 100) dX11_part__93 (by decide) ?_ ?_
        · refine T.aload_n dX11_part__100 rfl 0 rfl ?_
          refine cR104 k1451 dX11_part__101 ?_
          refine T.iload_n dX11_part__104 rfl 1 rfl ?_
          refine alR57 dX11_part__105 (fun x14 => ?_)
          refine T.if_eq (pc1 := 113) dX11_part__106 (by decide) ?_ ?_
          · refine T.iconst (w := 0) dX11_part__113 (by decide) ?_
            exact T.ret_i rfl dX11_part__114
          · refine T.iconst (w := 1) dX11_part__109 (by decide) ?_
            refine T.goto (pc1 := 114) dX11_part__110 (by decide) ?_
            exact T.ret_i rfl dX11_part__114
        · refine T.iconst (w := (-1)) dX11_part__96 (by decide) ?_
          refine T.goto (pc1 := 114) dX11_part__97 (by decide) ?_
          exact T.ret_i rfl dX11_part__114
      refine T.ite (fun s15 => ?_) (fun s15 => ?_)
      · refine T.tbl (pc1 := 115) dX11_part__24 (by decide) (off := 91) (by rw [s15]; rfl) (by decide) ?_
        refine T.aload_n dX11_part__115 rfl 0 rfl ?_
        refine cR61 k1398 dX11_part__116 ?_
        refine T.iload_n dX11_part__119 rfl 1 rfl ?_
        refine alR14 dX11_part__120 (fun x16 => ?_)
        exact T.ret_i rfl dX11_part__121
      refine T.tbl (pc1 := 122) dX11_part__24 (by decide) (off := 98) (tbl_d [0, 1, 2, 3, 4] (by intro q; simp only [List.mem_cons, List.not_mem_nil, or_false] at q; omega) (by decide)) (by decide) ?_
      refine T.iload_n dX11_part__122 rfl 2 rfl ?_
      refine T.bipush (w := 100) dX11_part__123 (by decide) ?_
      refine T.bipush (w := 99) dX11_part__125 (by decide) ?_
      refine T.aload_n dX11_part__127 rfl 0 rfl ?_
      refine cR60 k1397 dX11_part__128 ?_
      refine T.iload_n dX11_part__131 rfl 1 rfl ?_
      refine alR13 dX11_part__132 (fun x17 => ?_)
      refine T.iadd dX11_part__133 (fun x18 => ?_)
      refine T.callS_i (As1 := [.int p2, .int 100, .int x18]) (rest := []) (c_in Γ p2 (100 : Int32) x18 X5) ka_X11_in k1766 k1765 rfl rfl rfl rfl ⟨Nat.le_of_ble_eq_true rfl, Nat.le_of_ble_eq_true rfl⟩ (Nat.le_of_ble_eq_true rfl) dX11_part__134 (fun x19 X20 => ?_)
      refine T.if_eq (pc1 := 159) dX11_part__137 (by decide) ?_ ?_
      · refine T.iconst (w := (-1)) dX11_part__159 (by decide) ?_
        exact T.ret_i rfl dX11_part__160
      · refine T.aload_n dX11_part__140 rfl 0 rfl ?_
        refine cR49 k1367 dX11_part__141 ?_
        refine T.aload_n dX11_part__144 rfl 0 rfl ?_
        refine cR59 k1396 dX11_part__145 ?_
        refine T.iload_n dX11_part__148 rfl 1 rfl ?_
        refine alR12 dX11_part__149 (fun x21 => ?_)
        refine T.iload_n dX11_part__150 rfl 2 rfl ?_
        refine T.iadd dX11_part__151 (fun x22 => ?_)
        refine T.bipush (w := 100) dX11_part__152 (by decide) ?_
        refine T.isub dX11_part__154 (fun x23 => ?_)
        refine alR2 dX11_part__155 (fun x24 => ?_)
        refine T.goto (pc1 := 160) dX11_part__156 (by decide) ?_
        exact T.ret_i rfl dX11_part__160
    · refine T.iconst (w := (-1)) dX11_part__21 (by decide) ?_
      exact T.ret_i rfl dX11_part__22
abbrev R_ends : Room := { frames := 6, cells := 0, slots := 0, locals := 90 }
noncomputable def f_ends (p1 : Int32) (p2 : Int32) (X : St) : Option (Int32 × St) :=
  letV (X.1 0 43) fun x1 =>
  if 0 ≤ x1.toInt then
    some (0, X)
  else
    letV (wI X 0 43 p1) fun X2 =>
    letV (wI X2 0 44 p2) fun X3 =>
    some (0, X3)
set_option maxHeartbeats 4000000 in
set_option maxRecDepth 100000 in
theorem c_ends (Γ : Gx) (p1 : Int32) (p2 : Int32) (X : St) : TMV YR Γ yX11_ends cX11_ends 3 "BlameCourtModel" none R_ends [.ref (Γ.2.2.2.1 0), .int p1, .int p2] X (f_ends p1 p2 X) := by
  refine TMV.of (by decide) (Nat.le_of_ble_eq_true rfl) rfl ?_
  show T YR Γ cX11_ends 3 "BlameCourtModel" none R_ends _ qV 0 [(0, .ref (Γ.2.2.2.1 0)), (1, .int p1), (2, .int p2)] [] X (f_ends p1 p2 X)
  unfold f_ends
  refine T.aload_n dX11_ends_0 rfl 0 rfl ?_
  refine gR43 k1487 dX11_ends_1 (fun x1 => ?_)
  refine T.if_ge (pc1 := 17) dX11_ends_4 (by decide) ?_ ?_
  · exact T.ret_v rfl dX11_ends_17
  · refine T.aload_n dX11_ends_7 rfl 0 rfl ?_
    refine T.iload_n dX11_ends_8 rfl 1 rfl ?_
    refine pR43 k1487 dX11_ends_9 (fun X2 => ?_)
    refine T.aload_n dX11_ends_12 rfl 0 rfl ?_
    refine T.iload_n dX11_ends_13 rfl 2 rfl ?_
    refine pR44 k1488 dX11_ends_14 (fun X3 => ?_)
    exact T.ret_v rfl dX11_ends_17
abbrev R_isOn : Room := { frames := 6, cells := 0, slots := 0, locals := 90 }
noncomputable def f_isOn (X : St) : Option (Int32 × St) :=
  letV (X.1 0 43) fun x1 =>
  if 0 ≤ x1.toInt then
    some (0, X)
  else
    some (1, X)
set_option maxHeartbeats 4000000 in
set_option maxRecDepth 100000 in
theorem c_isOn (Γ : Gx) (X : St) : TMI YR Γ yX11_isOn cX11_isOn 1 "BlameCourtModel" (some .boolean) R_isOn [.ref (Γ.2.2.2.1 0)] X (f_isOn X) := by
  refine TMI.of (by decide) (Nat.le_of_ble_eq_true rfl) rfl ?_
  show T YR Γ cX11_isOn 1 "BlameCourtModel" (some .boolean) R_isOn _ qI 0 [(0, .ref (Γ.2.2.2.1 0))] [] X (f_isOn X)
  unfold f_isOn
  refine T.aload_n dX11_isOn_0 rfl 0 rfl ?_
  refine gR43 k1487 dX11_isOn_1 (fun x1 => ?_)
  refine T.if_ge (pc1 := 11) dX11_isOn_4 (by decide) ?_ ?_
  · refine T.iconst (w := 0) dX11_isOn_11 (by decide) ?_
    exact T.ret_z rfl dX11_isOn_12 rfl
  · refine T.iconst (w := 1) dX11_isOn_7 (by decide) ?_
    refine T.goto (pc1 := 12) dX11_isOn_8 (by decide) ?_
    exact T.ret_z rfl dX11_isOn_12 rfl
abbrev R_value : Room := { frames := 6, cells := 0, slots := 0, locals := 90 }
noncomputable def f_value (p1 : Int32) (p2 : Int32) (X : St) : Option (Int32 × St) :=
  letV (X.1 0 31) fun x1 =>
  chk (inR x1 20400) (letV (wI X 60 (ix x1) p1) fun X2 =>
  letV (X2.1 0 31) fun x3 =>
  chk (inR x3 20400) (letV (wI X2 61 (ix x3) p2) fun X4 =>
  letV (X4.1 0 31) fun x5 =>
  letV (x5 + (1 : Int32)) fun x6 =>
  letV (wI X4 0 31 x6) fun X7 =>
  some (0, X7)))
set_option maxHeartbeats 4000000 in
set_option maxRecDepth 100000 in
theorem c_value (Γ : Gx) (p1 : Int32) (p2 : Int32) (X : St) : TMV YR Γ yX11_value cX11_value 3 "BlameCourtModel" none R_value [.ref (Γ.2.2.2.1 0), .int p1, .int p2] X (f_value p1 p2 X) := by
  refine TMV.of (by decide) (Nat.le_of_ble_eq_true rfl) rfl ?_
  show T YR Γ cX11_value 3 "BlameCourtModel" none R_value _ qV 0 [(0, .ref (Γ.2.2.2.1 0)), (1, .int p1), (2, .int p2)] [] X (f_value p1 p2 X)
  unfold f_value
  refine T.aload_n dX11_value_0 rfl 0 rfl ?_
  refine cR107 k1457 dX11_value_1 ?_
  refine T.aload_n dX11_value_4 rfl 0 rfl ?_
  refine gR31 k1456 dX11_value_5 (fun x1 => ?_)
  refine T.iload_n dX11_value_8 rfl 1 rfl ?_
  refine asR60 dX11_value_9 (fun X2 => ?_)
  refine T.aload_n dX11_value_10 rfl 0 rfl ?_
  refine cR108 k1458 dX11_value_11 ?_
  refine T.aload_n dX11_value_14 rfl 0 rfl ?_
  refine gR31 k1456 dX11_value_15 (fun x3 => ?_)
  refine T.iload_n dX11_value_18 rfl 2 rfl ?_
  refine asR61 dX11_value_19 (fun X4 => ?_)
  refine T.aload_n dX11_value_20 rfl 0 rfl ?_
  refine T.dupr dX11_value_21 ?_
  refine gR31 k1456 dX11_value_22 (fun x5 => ?_)
  refine T.iconst (w := 1) dX11_value_25 (by decide) ?_
  refine T.iadd dX11_value_26 (fun x6 => ?_)
  refine pR31 k1456 dX11_value_27 (fun X7 => ?_)
  exact T.ret_v rfl dX11_value_30
abbrev R_within : Room := { frames := 6, cells := 0, slots := 0, locals := 90 }
noncomputable def f_within_44 (r2 : Int32 → Int32 → St → Option (Int32 × St)) (a1 : Int32) (b0 : Int32) (X : St) : Option (Int32 × St) :=
  chk (inR b0 1000) (letV (X.1 67 (ix b0)) fun x2 =>
  r2 a1 x2 X)
set_option maxHeartbeats 4000000 in
set_option maxRecDepth 100000 in
theorem c_within_44 (Γ : Gx) (As : List Value) (r2 : Int32 → Int32 → St → Option (Int32 × St)) (hr2 : ∀ (a1 : Int32) (a3 : Int32) (X : St), T YR Γ cX11_within 4 "BlameCourtModel" (some .int) R_within As qI 2 [(0, .ref (Γ.2.2.2.1 0)), (1, .int a1), (3, .int a3)] [] X (r2 a1 a3 X)) (a1 : Int32) (b0 : Int32) (X : St) : T YR Γ cX11_within 4 "BlameCourtModel" (some .int) R_within As qI 44 [(0, .ref (Γ.2.2.2.1 0)), (1, .int a1)] [.int b0, .ref (Γ.2.2.2.1 67)] X (f_within_44 r2 a1 b0 X) := by
  unfold f_within_44
  refine alR67 dX11_within_44 (fun x2 => ?_)
  refine T.istore_n (lv1 := [(3, .int x2), (0, .ref (Γ.2.2.2.1 0)), (1, .int a1)]) dX11_within_45 rfl (by decide) rfl ?_
  refine T.goto (pc1 := 2) dX11_within_46 (by decide) ?_
  refine T.sub [1, 2, 0] rfl ?_
  exact hr2 a1 x2 X
noncomputable def f_within_27 (r2 : Int32 → Int32 → St → Option (Int32 × St)) (a1 : Int32) (a3 : Int32) (X : St) : Option (Int32 × St) :=
  if a1.toInt = 3 then
    f_within_44 r2 a1 a3 X
  else
    letV (a3 - (100 : Int32)) fun x1 =>
    f_within_44 r2 a1 x1 X
set_option maxHeartbeats 4000000 in
set_option maxRecDepth 100000 in
theorem c_within_27 (Γ : Gx) (As : List Value) (r2 : Int32 → Int32 → St → Option (Int32 × St)) (hr2 : ∀ (a1 : Int32) (a3 : Int32) (X : St), T YR Γ cX11_within 4 "BlameCourtModel" (some .int) R_within As qI 2 [(0, .ref (Γ.2.2.2.1 0)), (1, .int a1), (3, .int a3)] [] X (r2 a1 a3 X)) (a1 : Int32) (a3 : Int32) (X : St) : T YR Γ cX11_within 4 "BlameCourtModel" (some .int) R_within As qI 27 [(0, .ref (Γ.2.2.2.1 0)), (1, .int a1), (3, .int a3)] [] X (f_within_27 r2 a1 a3 X) := by
  unfold f_within_27
  refine T.aload_n dX11_within_27 rfl 0 rfl ?_
  refine cR114 k1466 dX11_within_28 ?_
  refine T.iload_n dX11_within_31 rfl 1 rfl ?_
  refine T.iconst (w := 3) dX11_within_32 (by decide) ?_
  refine T.icmp_ne (pc1 := 40) dX11_within_33 (by decide) rfl ?_ ?_
  · refine T.iload_n dX11_within_40 rfl 2 rfl ?_
    refine T.bipush (w := 100) dX11_within_41 (by decide) ?_
    refine T.isub dX11_within_43 (fun x1 => ?_)
    refine T.sub [0, 1] rfl ?_
    exact c_within_44 Γ _ r2 hr2 a1 x1 X
  · refine T.iload_n dX11_within_36 rfl 2 rfl ?_
    refine T.goto (pc1 := 44) dX11_within_37 (by decide) ?_
    refine T.sub [0, 1] rfl ?_
    exact c_within_44 Γ _ r2 hr2 a1 a3 X
noncomputable def f_within_16 (r2 : Int32 → Int32 → St → Option (Int32 × St)) (a1 : Int32) (a3 : Int32) (X : St) : Option (Int32 × St) :=
  if a1.toInt = 4 then
    if a3.toInt < 100 then
      some (a3, X)
    else
      f_within_27 r2 a1 a3 X
  else
    some (a3, X)
set_option maxHeartbeats 4000000 in
set_option maxRecDepth 100000 in
theorem c_within_16 (Γ : Gx) (As : List Value) (r2 : Int32 → Int32 → St → Option (Int32 × St)) (hr2 : ∀ (a1 : Int32) (a3 : Int32) (X : St), T YR Γ cX11_within 4 "BlameCourtModel" (some .int) R_within As qI 2 [(0, .ref (Γ.2.2.2.1 0)), (1, .int a1), (3, .int a3)] [] X (r2 a1 a3 X)) (a1 : Int32) (a3 : Int32) (X : St) : T YR Γ cX11_within 4 "BlameCourtModel" (some .int) R_within As qI 16 [(0, .ref (Γ.2.2.2.1 0)), (1, .int a1), (3, .int a3)] [] X (f_within_16 r2 a1 a3 X) := by
  unfold f_within_16
  refine T.iload_n dX11_within_16 rfl 1 rfl ?_
  refine T.iconst (w := 4) dX11_within_17 (by decide) ?_
  refine T.icmp_ne (pc1 := 49) dX11_within_18 (by decide) rfl ?_ ?_
  · refine T.iload_n dX11_within_49 rfl 2 rfl ?_
    exact T.ret_i rfl dX11_within_50
  · refine T.iload_n dX11_within_21 rfl 2 rfl ?_
    refine T.bipush (w := 100) dX11_within_22 (by decide) ?_
    refine T.icmp_lt (pc1 := 49) dX11_within_24 (by decide) rfl ?_ ?_
    · refine T.iload_n dX11_within_49 rfl 2 rfl ?_
      exact T.ret_i rfl dX11_within_50
    · exact c_within_27 Γ _ r2 hr2 a1 a3 X
noncomputable def f_within_2_s (r2 : Int32 → Int32 → St → Option (Int32 × St)) (a1 : Int32) (a3 : Int32) (X : St) : Option (Int32 × St) :=
  if a1.toInt = 3 then
    chk (inR a3 1000) (letV (X.1 64 (ix a3)) fun x3 =>
    if x3.toInt = 0 then
      f_within_16 r2 a1 a3 X
    else
      f_within_27 r2 a1 a3 X)
  else
    f_within_16 r2 a1 a3 X
noncomputable def f_within_2 (n : Nat) : Int32 → Int32 → St → Option (Int32 × St) := lp (fun _ _ _ => none) (f_within_2_s) n
set_option maxHeartbeats 4000000 in
set_option maxRecDepth 100000 in
theorem c_within_2 (Γ : Gx) (As : List Value) (n : Nat) : ∀ (a1 : Int32) (a3 : Int32) (X : St), T YR Γ cX11_within 4 "BlameCourtModel" (some .int) R_within As qI 2 [(0, .ref (Γ.2.2.2.1 0)), (1, .int a1), (3, .int a3)] [] X (f_within_2 n a1 a3 X) := by
  unfold f_within_2
  refine lp_ind (P := fun (r2 : Int32 → Int32 → St → Option (Int32 × St)) => ∀ (a1 : Int32) (a3 : Int32) (X : St), T YR Γ cX11_within 4 "BlameCourtModel" (some .int) R_within As qI 2 [(0, .ref (Γ.2.2.2.1 0)), (1, .int a1), (3, .int a3)] [] X (r2 a1 a3 X)) (fun _ _ _ => T.no) ?_ n
  intro r2 hr2 a1 a3 X
  unfold f_within_2_s
  refine T.iload_n dX11_within_2 rfl 1 rfl ?_
  refine T.iconst (w := 3) dX11_within_3 (by decide) ?_
  refine T.icmp_ne (pc1 := 16) dX11_within_4 (by decide) rfl ?_ ?_
  · exact c_within_16 Γ _ r2 hr2 a1 a3 X
  · refine T.aload_n dX11_within_7 rfl 0 rfl ?_
    refine cR111 k1463 dX11_within_8 ?_
    refine T.iload_n dX11_within_11 rfl 2 rfl ?_
    refine alR64 dX11_within_12 (fun x3 => ?_)
    refine T.if_ne (pc1 := 27) dX11_within_13 (by decide) ?_ ?_
    · exact c_within_27 Γ _ r2 hr2 a1 a3 X
    · exact c_within_16 Γ _ r2 hr2 a1 a3 X
noncomputable def f_within (p1 : Int32) (p2 : Int32) (X : St) : Option (Int32 × St) :=
  f_within_2 BIG p1 p2 X
set_option maxHeartbeats 4000000 in
set_option maxRecDepth 100000 in
theorem c_within (Γ : Gx) (p1 : Int32) (p2 : Int32) (X : St) : TMI YR Γ yX11_within cX11_within 4 "BlameCourtModel" (some .int) R_within [.ref (Γ.2.2.2.1 0), .int p1, .int p2] X (f_within p1 p2 X) := by
  refine TMI.of (by decide) (Nat.le_of_ble_eq_true rfl) rfl ?_
  show T YR Γ cX11_within 4 "BlameCourtModel" (some .int) R_within _ qI 0 [(0, .ref (Γ.2.2.2.1 0)), (1, .int p1), (2, .int p2)] [] X (f_within p1 p2 X)
  unfold f_within
  refine T.iload_n dX11_within_0 rfl 2 rfl ?_
  refine T.istore_n (lv1 := [(3, .int p2), (0, .ref (Γ.2.2.2.1 0)), (1, .int p1), (2, .int p2)]) dX11_within_1 rfl (by decide) rfl ?_
  refine T.sub [1, 2, 0] rfl ?_
  exact c_within_2 Γ _ BIG p1 p2 X
abbrev R_deep : Room := { frames := 6, cells := 0, slots := 0, locals := 90 }
noncomputable def f_deep (p1 : Int32) (p2 : Int32) (X : St) : Option (Int32 × St) :=
  if p1.toInt = 3 then
    chk (inR p2 1000) (letV (X.1 64 (ix p2)) fun x3 =>
    if x3.toInt = 0 then
      some (0, X)
    else
      chk (inR p2 1000) (letV (X.1 73 (ix p2)) fun x4 =>
      some (x4, X)))
  else
    if p1.toInt = 4 then
      if p2.toInt < 100 then
        some (0, X)
      else
        letV (p2 - (100 : Int32)) fun x1 =>
        chk (inR x1 1000) (letV (X.1 73 (ix x1)) fun x2 =>
        some (x2, X))
    else
      some (0, X)
set_option maxHeartbeats 4000000 in
set_option maxRecDepth 100000 in
theorem c_deep (Γ : Gx) (p1 : Int32) (p2 : Int32) (X : St) : TMI YR Γ yX11_deep cX11_deep 3 "BlameCourtModel" (some .int) R_deep [.ref (Γ.2.2.2.1 0), .int p1, .int p2] X (f_deep p1 p2 X) := by
  refine TMI.of (by decide) (Nat.le_of_ble_eq_true rfl) rfl ?_
  show T YR Γ cX11_deep 3 "BlameCourtModel" (some .int) R_deep _ qI 0 [(0, .ref (Γ.2.2.2.1 0)), (1, .int p1), (2, .int p2)] [] X (f_deep p1 p2 X)
  unfold f_deep
  refine T.iload_n dX11_deep_0 rfl 1 rfl ?_
  refine T.iconst (w := 3) dX11_deep_1 (by decide) ?_
  refine T.icmp_ne (pc1 := 25) dX11_deep_2 (by decide) rfl ?_ ?_
  · refine T.iload_n dX11_deep_25 rfl 1 rfl ?_
    refine T.iconst (w := 4) dX11_deep_26 (by decide) ?_
    refine T.icmp_ne (pc1 := 48) dX11_deep_27 (by decide) rfl ?_ ?_
    · refine T.iconst (w := 0) dX11_deep_48 (by decide) ?_
      exact T.ret_i rfl dX11_deep_49
    · refine T.iload_n dX11_deep_30 rfl 2 rfl ?_
      refine T.bipush (w := 100) dX11_deep_31 (by decide) ?_
      refine T.icmp_lt (pc1 := 48) dX11_deep_33 (by decide) rfl ?_ ?_
      · refine T.iconst (w := 0) dX11_deep_48 (by decide) ?_
        exact T.ret_i rfl dX11_deep_49
      · refine T.aload_n dX11_deep_36 rfl 0 rfl ?_
        refine cR120 k1472 dX11_deep_37 ?_
        refine T.iload_n dX11_deep_40 rfl 2 rfl ?_
        refine T.bipush (w := 100) dX11_deep_41 (by decide) ?_
        refine T.isub dX11_deep_43 (fun x1 => ?_)
        refine alR73 dX11_deep_44 (fun x2 => ?_)
        refine T.goto (pc1 := 49) dX11_deep_45 (by decide) ?_
        exact T.ret_i rfl dX11_deep_49
  · refine T.aload_n dX11_deep_5 rfl 0 rfl ?_
    refine cR111 k1463 dX11_deep_6 ?_
    refine T.iload_n dX11_deep_9 rfl 2 rfl ?_
    refine alR64 dX11_deep_10 (fun x3 => ?_)
    refine T.if_eq (pc1 := 23) dX11_deep_11 (by decide) ?_ ?_
    · refine T.iconst (w := 0) dX11_deep_23 (by decide) ?_
      exact T.ret_i rfl dX11_deep_24
    · refine T.aload_n dX11_deep_14 rfl 0 rfl ?_
      refine cR120 k1472 dX11_deep_15 ?_
      refine T.iload_n dX11_deep_18 rfl 2 rfl ?_
      refine alR73 dX11_deep_19 (fun x4 => ?_)
      refine T.goto (pc1 := 24) dX11_deep_20 (by decide) ?_
      exact T.ret_i rfl dX11_deep_24
abbrev R_isOfSort : Room := { frames := 10, cells := 0, slots := 0, locals := 150 }
noncomputable def f_isOfSort (p1 : Int32) (p2 : Int32) (X : St) : Option (Int32 × St) :=
  chk (inR p1 20400) (letV (X.1 60 (ix p1)) fun x1 =>
  chk (inR p2 6000) (letV (X.1 4 (ix p2)) fun x2 =>
  if x2.toInt = 1 then
    if x1.toInt = 0 then
      some (1, X)
    else
      some (0, X)
  else if x2.toInt = 2 then
    if x1.toInt = 1 then
      some (1, X)
    else
      some (0, X)
  else if x2.toInt = 4 then
    if x1.toInt = 3 then
      some (1, X)
    else
      some (0, X)
  else if x1.toInt = 4 then
    chk (inR p1 20400) (letV (X.1 61 (ix p1)) fun x6 =>
    bnd (f_within (4 : Int32) x6 X) fun x7 X8 =>
    chk (inR x7 41) (letV (X8.1 15 (ix x7)) fun x9 =>
    chk (inR p2 6000) (letV (X8.1 5 (ix p2)) fun x10 =>
    letV (x10 - (1 : Int32)) fun x11 =>
    if x9.toInt = x11.toInt then
      some (1, X8)
    else
      some (0, X8))))
  else
    some (0, X)))
set_option maxHeartbeats 4000000 in
set_option maxRecDepth 100000 in
theorem c_isOfSort (Γ : Gx) (p1 : Int32) (p2 : Int32) (X : St) : TMI YR Γ yX11_isOfSort cX11_isOfSort 4 "BlameCourtModel" (some .boolean) R_isOfSort [.ref (Γ.2.2.2.1 0), .int p1, .int p2] X (f_isOfSort p1 p2 X) := by
  refine TMI.of (by decide) (Nat.le_of_ble_eq_true rfl) rfl ?_
  show T YR Γ cX11_isOfSort 4 "BlameCourtModel" (some .boolean) R_isOfSort _ qI 0 [(0, .ref (Γ.2.2.2.1 0)), (1, .int p1), (2, .int p2)] [] X (f_isOfSort p1 p2 X)
  unfold f_isOfSort
  refine T.aload_n dX11_isOfSort_0 rfl 0 rfl ?_
  refine cR107 k1457 dX11_isOfSort_1 ?_
  refine T.iload_n dX11_isOfSort_4 rfl 1 rfl ?_
  refine alR60 dX11_isOfSort_5 (fun x1 => ?_)
  refine T.istore_n (lv1 := [(3, .int x1), (0, .ref (Γ.2.2.2.1 0)), (1, .int p1), (2, .int p2)]) dX11_isOfSort_6 rfl (by decide) rfl ?_
  refine T.aload_n dX11_isOfSort_7 rfl 1 rfl ?_
  refine cR51 k1384 dX11_isOfSort_8 ?_
  refine T.iload_n dX11_isOfSort_11 rfl 3 rfl ?_
  refine alR4 dX11_isOfSort_12 (fun x2 => ?_)
  refine T.ite (fun s3 => ?_) (fun s3 => ?_)
  · refine T.tbl (pc1 := 44) dX11_isOfSort_13 (by decide) (off := 31) (by rw [s3]; rfl) (by decide) ?_
    refine T.iload_n dX11_isOfSort_44 rfl 0 rfl ?_
    refine T.if_ne (pc1 := 52) dX11_isOfSort_45 (by decide) ?_ ?_
    · refine T.iconst (w := 0) dX11_isOfSort_52 (by decide) ?_
      exact T.ret_z rfl dX11_isOfSort_53 rfl
    · refine T.iconst (w := 1) dX11_isOfSort_48 (by decide) ?_
      refine T.goto (pc1 := 53) dX11_isOfSort_49 (by decide) ?_
      exact T.ret_z rfl dX11_isOfSort_53 rfl
  refine T.ite (fun s4 => ?_) (fun s4 => ?_)
  · refine T.tbl (pc1 := 54) dX11_isOfSort_13 (by decide) (off := 41) (by rw [s4]; rfl) (by decide) ?_
    refine T.iload_n dX11_isOfSort_54 rfl 0 rfl ?_
    refine T.iconst (w := 1) dX11_isOfSort_55 (by decide) ?_
    refine T.icmp_ne (pc1 := 63) dX11_isOfSort_56 (by decide) rfl ?_ ?_
    · refine T.iconst (w := 0) dX11_isOfSort_63 (by decide) ?_
      exact T.ret_z rfl dX11_isOfSort_64 rfl
    · refine T.iconst (w := 1) dX11_isOfSort_59 (by decide) ?_
      refine T.goto (pc1 := 64) dX11_isOfSort_60 (by decide) ?_
      exact T.ret_z rfl dX11_isOfSort_64 rfl
  refine T.ite (fun s5 => ?_) (fun s5 => ?_)
  · refine T.tbl (pc1 := 65) dX11_isOfSort_13 (by decide) (off := 52) (by rw [s5]; rfl) (by decide) ?_
    refine T.iload_n dX11_isOfSort_65 rfl 0 rfl ?_
    refine T.iconst (w := 3) dX11_isOfSort_66 (by decide) ?_
    refine T.icmp_ne (pc1 := 74) dX11_isOfSort_67 (by decide) rfl ?_ ?_
    · refine T.iconst (w := 0) dX11_isOfSort_74 (by decide) ?_
      exact T.ret_z rfl dX11_isOfSort_75 rfl
    · refine T.iconst (w := 1) dX11_isOfSort_70 (by decide) ?_
      refine T.goto (pc1 := 75) dX11_isOfSort_71 (by decide) ?_
      exact T.ret_z rfl dX11_isOfSort_75 rfl
  refine T.tbl (pc1 := 76) dX11_isOfSort_13 (by decide) (off := 63) (tbl_d [1, 2, 4] (by intro q; simp only [List.mem_cons, List.not_mem_nil, or_false] at q; omega) (by decide)) (by decide) ?_
  refine T.iload_n dX11_isOfSort_76 rfl 0 rfl ?_
  refine T.iconst (w := 4) dX11_isOfSort_77 (by decide) ?_
  refine T.icmp_ne (pc1 := 112) dX11_isOfSort_78 (by decide) rfl ?_ ?_
  · refine T.iconst (w := 0) dX11_isOfSort_112 (by decide) ?_
    exact T.ret_z rfl dX11_isOfSort_113 rfl
  · refine T.aload_n dX11_isOfSort_81 rfl 1 rfl ?_
    refine cR62 k1399 dX11_isOfSort_82 ?_
    refine T.aload_n dX11_isOfSort_85 rfl 1 rfl ?_
    refine T.iconst (w := 4) dX11_isOfSort_86 (by decide) ?_
    refine T.aload_n dX11_isOfSort_87 rfl 1 rfl ?_
    refine cR108 k1458 dX11_isOfSort_88 ?_
    refine T.iload_n dX11_isOfSort_91 rfl 2 rfl ?_
    refine alR61 dX11_isOfSort_92 (fun x6 => ?_)
    refine T.callV_i 0 (As1 := [.int 4, .int x6]) (rest := [.ref (Γ.2.2.2.1 15)]) (c_within Γ (4 : Int32) x6 X) ka_X11_within kv_X11_within oR rfl k2132 rfl rfl rfl rfl ⟨Nat.le_of_ble_eq_true rfl, Nat.le_of_ble_eq_true rfl⟩ (Nat.le_of_ble_eq_true rfl) dX11_isOfSort_93 (fun x7 X8 => ?_)
    refine alR15 dX11_isOfSort_96 (fun x9 => ?_)
    refine T.aload_n dX11_isOfSort_97 rfl 1 rfl ?_
    refine cR52 k1385 dX11_isOfSort_98 ?_
    refine T.iload_n dX11_isOfSort_101 rfl 3 rfl ?_
    refine alR5 dX11_isOfSort_102 (fun x10 => ?_)
    refine T.iconst (w := 1) dX11_isOfSort_103 (by decide) ?_
    refine T.isub dX11_isOfSort_104 (fun x11 => ?_)
    refine T.icmp_ne (pc1 := 112) dX11_isOfSort_105 (by decide) rfl ?_ ?_
    · refine T.iconst (w := 0) dX11_isOfSort_112 (by decide) ?_
      exact T.ret_z rfl dX11_isOfSort_113 rfl
    · refine T.iconst (w := 1) dX11_isOfSort_108 (by decide) ?_
      refine T.goto (pc1 := 113) dX11_isOfSort_109 (by decide) ?_
      exact T.ret_z rfl dX11_isOfSort_113 rfl
abbrev R_wraps : Room := { frames := 10, cells := 0, slots := 0, locals := 150 }
noncomputable def f_wraps_39 (a6 : Int32) (X : St) : Option (Int32 × St) :=
  bnd (f_ends (6 : Int32) a6 X) fun _ X6 =>
  some (0, X6)
set_option maxHeartbeats 4000000 in
set_option maxRecDepth 100000 in
theorem c_wraps_39 (Γ : Gx) (As : List Value) (a6 : Int32) (X : St) : T YR Γ cX11_wraps 9 "BlameCourtModel" none R_wraps As qV 39 [(0, .ref (Γ.2.2.2.1 0)), (6, .int a6)] [] X (f_wraps_39 a6 X) := by
  unfold f_wraps_39
  refine T.aload_n dX11_wraps_39 rfl 0 rfl ?_
  refine T.bipush (w := 6) dX11_wraps_40 (by decide) ?_
  refine T.iload dX11_wraps_42 1 rfl ?_
  refine T.callV_v 0 (As1 := [.int 6, .int a6]) (rest := []) (c_ends Γ (6 : Int32) a6 X) ka_X11_ends kv_X11_ends oR rfl k2104 rfl rfl rfl rfl ⟨Nat.le_of_ble_eq_true rfl, Nat.le_of_ble_eq_true rfl⟩ (Nat.le_of_ble_eq_true rfl) dX11_wraps_44 (fun _ X6 => ?_)
  exact T.ret_v rfl dX11_wraps_47
noncomputable def f_wraps_164 (b0 : Int32) (b1 : Int32) (X : St) : Option (Int32 × St) :=
  chk (inR b1 20400) (letV (wI X 61 (ix b1) b0) fun X27 =>
  letV (X27.1 0 33) fun x28 =>
  letV (x28 + (1 : Int32)) fun x29 =>
  letV (wI X27 0 33 x29) fun X30 =>
  letV (X30.1 0 36) fun x31 =>
  letV (x31 + (1 : Int32)) fun x32 =>
  letV (wI X30 0 36 x32) fun X33 =>
  some (0, X33))
set_option maxHeartbeats 4000000 in
set_option maxRecDepth 100000 in
theorem c_wraps_164 (Γ : Gx) (As : List Value) (b0 : Int32) (b1 : Int32) (X : St) : T YR Γ cX11_wraps 9 "BlameCourtModel" none R_wraps As qV 164 [(0, .ref (Γ.2.2.2.1 0))] [.int b0, .int b1, .ref (Γ.2.2.2.1 61)] X (f_wraps_164 b0 b1 X) := by
  unfold f_wraps_164
  refine asR61 dX11_wraps_164 (fun X27 => ?_)
  refine T.aload_n dX11_wraps_165 rfl 0 rfl ?_
  refine T.dupr dX11_wraps_166 ?_
  refine gR33 k1462 dX11_wraps_167 (fun x28 => ?_)
  refine T.iconst (w := 1) dX11_wraps_170 (by decide) ?_
  refine T.iadd dX11_wraps_171 (fun x29 => ?_)
  refine pR33 k1462 dX11_wraps_172 (fun X30 => ?_)
  refine T.aload_n dX11_wraps_175 rfl 0 rfl ?_
  refine T.dupr dX11_wraps_176 ?_
  refine gR36 k1477 dX11_wraps_177 (fun x31 => ?_)
  refine T.iconst (w := 1) dX11_wraps_180 (by decide) ?_
  refine T.iadd dX11_wraps_181 (fun x32 => ?_)
  refine pR36 k1477 dX11_wraps_182 (fun X33 => ?_)
  exact T.ret_v rfl dX11_wraps_185
noncomputable def f_wraps (p1 : Int32) (p2 : Int32) (p3 : Int32) (p4 : Int32) (p5 : Int32) (p6 : Int32) (X : St) : Option (Int32 × St) :=
  chk (inR p1 20400) (letV (X.1 60 (ix p1)) fun x1 =>
  chk (inR p1 20400) (letV (X.1 61 (ix p1)) fun x2 =>
  bnd (f_deep x1 x2 X) fun x3 X4 =>
  letV (X4.1 0 33) fun x5 =>
  if x5.toInt = 1000 then
    f_wraps_39 p6 X4
  else
    if x3.toInt = 20 then
      f_wraps_39 p6 X4
    else
      letV (X4.1 0 33) fun x7 =>
      chk (inR x7 1000) (letV (wI X4 64 (ix x7) (vp_nar .boolean (1 : Int32))) fun X8 =>
      letV (X8.1 0 33) fun x9 =>
      chk (inR p1 20400) (letV (X8.1 61 (ix p1)) fun x10 =>
      chk (inR x9 1000) (letV (wI X8 67 (ix x9) x10) fun X11 =>
      letV (X11.1 0 33) fun x12 =>
      chk (inR x12 1000) (letV (wI X11 68 (ix x12) p2) fun X13 =>
      letV (X13.1 0 33) fun x14 =>
      chk (inR x14 1000) (letV (wI X13 69 (ix x14) p3) fun X15 =>
      letV (X15.1 0 33) fun x16 =>
      chk (inR x16 1000) (letV (wI X15 70 (ix x16) p4) fun X17 =>
      letV (X17.1 0 33) fun x18 =>
      chk (inR x18 1000) (letV (wI X17 71 (ix x18) p5) fun X19 =>
      letV (X19.1 0 33) fun x20 =>
      chk (inR x20 1000) (letV (wI X19 72 (ix x20) p6) fun X21 =>
      letV (X21.1 0 33) fun x22 =>
      letV (x3 + (1 : Int32)) fun x23 =>
      chk (inR x22 1000) (letV (wI X21 73 (ix x22) x23) fun X24 =>
      if x1.toInt = 3 then
        letV (X24.1 0 33) fun x34 =>
        f_wraps_164 x34 p1 X24
      else
        letV (X24.1 0 33) fun x25 =>
        letV ((100 : Int32) + x25) fun x26 =>
        f_wraps_164 x26 p1 X24)))))))))))
set_option maxHeartbeats 4000000 in
set_option maxRecDepth 100000 in
theorem c_wraps (Γ : Gx) (p1 : Int32) (p2 : Int32) (p3 : Int32) (p4 : Int32) (p5 : Int32) (p6 : Int32) (X : St) : TMV YR Γ yX11_wraps cX11_wraps 9 "BlameCourtModel" none R_wraps [.ref (Γ.2.2.2.1 0), .int p1, .int p2, .int p3, .int p4, .int p5, .int p6] X (f_wraps p1 p2 p3 p4 p5 p6 X) := by
  refine TMV.of (by decide) (Nat.le_of_ble_eq_true rfl) rfl ?_
  show T YR Γ cX11_wraps 9 "BlameCourtModel" none R_wraps _ qV 0 [(0, .ref (Γ.2.2.2.1 0)), (1, .int p1), (2, .int p2), (3, .int p3), (4, .int p4), (5, .int p5), (6, .int p6)] [] X (f_wraps p1 p2 p3 p4 p5 p6 X)
  unfold f_wraps
  refine T.aload_n dX11_wraps_0 rfl 0 rfl ?_
  refine cR107 k1457 dX11_wraps_1 ?_
  refine T.iload_n dX11_wraps_4 rfl 1 rfl ?_
  refine alR60 dX11_wraps_5 (fun x1 => ?_)
  refine T.istore (lv1 := [(7, .int x1), (0, .ref (Γ.2.2.2.1 0)), (1, .int p1), (2, .int p2), (3, .int p3), (4, .int p4), (5, .int p5), (6, .int p6)]) dX11_wraps_6 (by decide) rfl ?_
  refine T.aload_n dX11_wraps_8 rfl 1 rfl ?_
  refine T.iload dX11_wraps_9 0 rfl ?_
  refine T.aload_n dX11_wraps_11 rfl 1 rfl ?_
  refine cR108 k1458 dX11_wraps_12 ?_
  refine T.iload_n dX11_wraps_15 rfl 2 rfl ?_
  refine alR61 dX11_wraps_16 (fun x2 => ?_)
  refine T.callV_i 0 (As1 := [.int x1, .int x2]) (rest := []) (c_deep Γ x1 x2 X) ka_X11_deep kv_X11_deep oR rfl k2140 rfl rfl rfl rfl ⟨Nat.le_of_ble_eq_true rfl, Nat.le_of_ble_eq_true rfl⟩ (Nat.le_of_ble_eq_true rfl) dX11_wraps_17 (fun x3 X4 => ?_)
  refine T.istore (lv1 := [(8, .int x3), (7, .int x1), (0, .ref (Γ.2.2.2.1 0)), (1, .int p1), (2, .int p2), (3, .int p3), (4, .int p4), (5, .int p5), (6, .int p6)]) dX11_wraps_20 (by decide) rfl ?_
  refine T.aload_n dX11_wraps_22 rfl 2 rfl ?_
  refine gR33 k1462 dX11_wraps_23 (fun x5 => ?_)
  refine T.sipush (w := 1000) dX11_wraps_26 (by decide) ?_
  refine T.icmp_eq (pc1 := 39) dX11_wraps_29 (by decide) rfl ?_ ?_
  · refine T.sub [2, 8] rfl ?_
    exact c_wraps_39 Γ _ p6 X4
  · refine T.iload dX11_wraps_32 0 rfl ?_
    refine T.bipush (w := 20) dX11_wraps_34 (by decide) ?_
    refine T.icmp_ne (pc1 := 48) dX11_wraps_36 (by decide) rfl ?_ ?_
    · refine T.aload_n dX11_wraps_48 rfl 2 rfl ?_
      refine cR111 k1463 dX11_wraps_49 ?_
      refine T.aload_n dX11_wraps_52 rfl 2 rfl ?_
      refine gR33 k1462 dX11_wraps_53 (fun x7 => ?_)
      refine T.iconst (w := 1) dX11_wraps_56 (by decide) ?_
      refine asR64 dX11_wraps_57 (fun X8 => ?_)
      refine T.aload_n dX11_wraps_58 rfl 2 rfl ?_
      refine cR114 k1466 dX11_wraps_59 ?_
      refine T.aload_n dX11_wraps_62 rfl 2 rfl ?_
      refine gR33 k1462 dX11_wraps_63 (fun x9 => ?_)
      refine T.aload_n dX11_wraps_66 rfl 2 rfl ?_
      refine cR108 k1458 dX11_wraps_67 ?_
      refine T.iload_n dX11_wraps_70 rfl 3 rfl ?_
      refine alR61 dX11_wraps_71 (fun x10 => ?_)
      refine asR67 dX11_wraps_72 (fun X11 => ?_)
      refine T.aload_n dX11_wraps_73 rfl 2 rfl ?_
      refine cR115 k1467 dX11_wraps_74 ?_
      refine T.aload_n dX11_wraps_77 rfl 2 rfl ?_
      refine gR33 k1462 dX11_wraps_78 (fun x12 => ?_)
      refine T.iload_n dX11_wraps_81 rfl 4 rfl ?_
      refine asR68 dX11_wraps_82 (fun X13 => ?_)
      refine T.aload_n dX11_wraps_83 rfl 2 rfl ?_
      refine cR116 k1468 dX11_wraps_84 ?_
      refine T.aload_n dX11_wraps_87 rfl 2 rfl ?_
      refine gR33 k1462 dX11_wraps_88 (fun x14 => ?_)
      refine T.iload_n dX11_wraps_91 rfl 5 rfl ?_
      refine asR69 dX11_wraps_92 (fun X15 => ?_)
      refine T.aload_n dX11_wraps_93 rfl 2 rfl ?_
      refine cR117 k1469 dX11_wraps_94 ?_
      refine T.aload_n dX11_wraps_97 rfl 2 rfl ?_
      refine gR33 k1462 dX11_wraps_98 (fun x16 => ?_)
      refine T.iload dX11_wraps_101 6 rfl ?_
      refine asR70 dX11_wraps_103 (fun X17 => ?_)
      refine T.aload_n dX11_wraps_104 rfl 2 rfl ?_
      refine cR118 k1470 dX11_wraps_105 ?_
      refine T.aload_n dX11_wraps_108 rfl 2 rfl ?_
      refine gR33 k1462 dX11_wraps_109 (fun x18 => ?_)
      refine T.iload dX11_wraps_112 7 rfl ?_
      refine asR71 dX11_wraps_114 (fun X19 => ?_)
      refine T.aload_n dX11_wraps_115 rfl 2 rfl ?_
      refine cR119 k1471 dX11_wraps_116 ?_
      refine T.aload_n dX11_wraps_119 rfl 2 rfl ?_
      refine gR33 k1462 dX11_wraps_120 (fun x20 => ?_)
      refine T.iload dX11_wraps_123 8 rfl ?_
      refine asR72 dX11_wraps_125 (fun X21 => ?_)
      refine T.aload_n dX11_wraps_126 rfl 2 rfl ?_
      refine cR120 k1472 dX11_wraps_127 ?_
      refine T.aload_n dX11_wraps_130 rfl 2 rfl ?_
      refine gR33 k1462 dX11_wraps_131 (fun x22 => ?_)
      refine T.iload dX11_wraps_134 0 rfl ?_
      refine T.iconst (w := 1) dX11_wraps_136 (by decide) ?_
      refine T.iadd dX11_wraps_137 (fun x23 => ?_)
      refine asR73 dX11_wraps_138 (fun X24 => ?_)
      refine T.aload_n dX11_wraps_139 rfl 2 rfl ?_
      refine cR108 k1458 dX11_wraps_140 ?_
      refine T.iload_n dX11_wraps_143 rfl 3 rfl ?_
      refine T.iload dX11_wraps_144 1 rfl ?_
      refine T.iconst (w := 3) dX11_wraps_146 (by decide) ?_
      refine T.icmp_ne (pc1 := 157) dX11_wraps_147 (by decide) rfl ?_ ?_
      · refine T.bipush (w := 100) dX11_wraps_157 (by decide) ?_
        refine T.aload_n dX11_wraps_159 rfl 2 rfl ?_
        refine gR33 k1462 dX11_wraps_160 (fun x25 => ?_)
        refine T.iadd dX11_wraps_163 (fun x26 => ?_)
        refine T.sub [2] rfl ?_
        exact c_wraps_164 Γ _ x26 p1 X24
      · refine T.aload_n dX11_wraps_150 rfl 2 rfl ?_
        refine gR33 k1462 dX11_wraps_151 (fun x34 => ?_)
        refine T.goto (pc1 := 164) dX11_wraps_154 (by decide) ?_
        refine T.sub [2] rfl ?_
        exact c_wraps_164 Γ _ x34 p1 X24
    · refine T.sub [2, 8] rfl ?_
      exact c_wraps_39 Γ _ p6 X4
abbrev R_asks : Room := { frames := 14, cells := 0, slots := 0, locals := 210 }
noncomputable def f_asks_217 (r9 : Int32 → Int32 → Int32 → Int32 → Int32 → Int32 → Int32 → St → Option (Int32 × St)) (a1 : Int32) (a4 : Int32) (a5 : Int32) (a6 : Int32) (a8 : Int32) (a9 : Int32) (b0 : Int32) (X : St) : Option (Int32 × St) :=
  r9 a1 a4 a5 a6 b0 a8 a9 X
set_option maxHeartbeats 4000000 in
set_option maxRecDepth 100000 in
theorem c_asks_217 (Γ : Gx) (As : List Value) (r9 : Int32 → Int32 → Int32 → Int32 → Int32 → Int32 → Int32 → St → Option (Int32 × St)) (hr9 : ∀ (a1 : Int32) (a4 : Int32) (a5 : Int32) (a6 : Int32) (a7 : Int32) (a8 : Int32) (a9 : Int32) (X : St), T YR Γ cX11_asks 10 "BlameCourtModel" none R_asks As qV 9 [(0, .ref (Γ.2.2.2.1 0)), (1, .int a1), (4, .int a4), (5, .int a5), (6, .int a6), (7, .int a7), (8, .int a8), (9, .int a9)] [] X (r9 a1 a4 a5 a6 a7 a8 a9 X)) (a1 : Int32) (a4 : Int32) (a5 : Int32) (a6 : Int32) (a8 : Int32) (a9 : Int32) (b0 : Int32) (X : St) : T YR Γ cX11_asks 10 "BlameCourtModel" none R_asks As qV 217 [(0, .ref (Γ.2.2.2.1 0)), (1, .int a1), (4, .int a4), (5, .int a5), (6, .int a6), (8, .int a8), (9, .int a9)] [.int b0] X (f_asks_217 r9 a1 a4 a5 a6 a8 a9 b0 X) := by
  unfold f_asks_217
  refine T.istore (lv1 := [(7, .int b0), (0, .ref (Γ.2.2.2.1 0)), (1, .int a1), (4, .int a4), (5, .int a5), (6, .int a6), (8, .int a8), (9, .int a9)]) dX11_asks_217 (by decide) rfl ?_
  refine T.goto (pc1 := 9) dX11_asks_219 (by decide) ?_
  refine T.sub [1, 2, 3, 4, 5, 0, 6, 7] rfl ?_
  exact hr9 a1 a4 a5 a6 b0 a8 a9 X
noncomputable def f_asks_167 (r9 : Int32 → Int32 → Int32 → Int32 → Int32 → Int32 → Int32 → St → Option (Int32 × St)) (a1 : Int32) (a4 : Int32) (a5 : Int32) (a6 : Int32) (a7 : Int32) (a8 : Int32) (b0 : Int32) (X : St) : Option (Int32 × St) :=
  chk (inR a8 6000) (letV (X.1 4 (ix a8)) fun x10 =>
  if x10.toInt = 4 then
    bnd (f_rowOf (2 : Int32) X) fun x16 X17 =>
    f_asks_217 r9 a1 a4 a5 a6 a8 b0 x16 X17
  else
    chk (inR a8 6000) (letV (X.1 4 (ix a8)) fun x11 =>
    if x11.toInt = 5 then
      chk (inR a8 6000) (letV (X.1 5 (ix a8)) fun x12 =>
      letV (x12 - (1 : Int32)) fun x13 =>
      bnd (f_anyFunction x13 X) fun x14 X15 =>
      f_asks_217 r9 a1 a4 a5 a6 a8 b0 x14 X15)
    else
      f_asks_217 r9 a1 a4 a5 a6 a8 b0 a7 X))
set_option maxHeartbeats 4000000 in
set_option maxRecDepth 100000 in
theorem c_asks_167 (Γ : Gx) (As : List Value) (r9 : Int32 → Int32 → Int32 → Int32 → Int32 → Int32 → Int32 → St → Option (Int32 × St)) (hr9 : ∀ (a1 : Int32) (a4 : Int32) (a5 : Int32) (a6 : Int32) (a7 : Int32) (a8 : Int32) (a9 : Int32) (X : St), T YR Γ cX11_asks 10 "BlameCourtModel" none R_asks As qV 9 [(0, .ref (Γ.2.2.2.1 0)), (1, .int a1), (4, .int a4), (5, .int a5), (6, .int a6), (7, .int a7), (8, .int a8), (9, .int a9)] [] X (r9 a1 a4 a5 a6 a7 a8 a9 X)) (a1 : Int32) (a4 : Int32) (a5 : Int32) (a6 : Int32) (a7 : Int32) (a8 : Int32) (b0 : Int32) (X : St) : T YR Γ cX11_asks 10 "BlameCourtModel" none R_asks As qV 167 [(0, .ref (Γ.2.2.2.1 0)), (1, .int a1), (4, .int a4), (5, .int a5), (6, .int a6), (7, .int a7), (8, .int a8)] [.int b0] X (f_asks_167 r9 a1 a4 a5 a6 a7 a8 b0 X) := by
  unfold f_asks_167
  refine T.istore (lv1 := [(9, .int b0), (0, .ref (Γ.2.2.2.1 0)), (1, .int a1), (4, .int a4), (5, .int a5), (6, .int a6), (7, .int a7), (8, .int a8)]) dX11_asks_167 (by decide) rfl ?_
  refine T.aload_n dX11_asks_169 rfl 1 rfl ?_
  refine cR51 k1384 dX11_asks_170 ?_
  refine T.iload dX11_asks_173 7 rfl ?_
  refine alR4 dX11_asks_175 (fun x10 => ?_)
  refine T.iconst (w := 4) dX11_asks_176 (by decide) ?_
  refine T.icmp_ne (pc1 := 188) dX11_asks_177 (by decide) rfl ?_ ?_
  · refine T.aload_n dX11_asks_188 rfl 1 rfl ?_
    refine cR51 k1384 dX11_asks_189 ?_
    refine T.iload dX11_asks_192 7 rfl ?_
    refine alR4 dX11_asks_194 (fun x11 => ?_)
    refine T.iconst (w := 5) dX11_asks_195 (by decide) ?_
    refine T.icmp_ne (pc1 := 215) dX11_asks_196 (by decide) rfl ?_ ?_
    · refine T.iload dX11_asks_215 6 rfl ?_
      refine T.sub [1, 2, 3, 4, 5, 7, 0] rfl ?_
      exact c_asks_217 Γ _ r9 hr9 a1 a4 a5 a6 a8 b0 a7 X
    · refine T.aload_n dX11_asks_199 rfl 1 rfl ?_
      refine T.aload_n dX11_asks_200 rfl 1 rfl ?_
      refine cR52 k1385 dX11_asks_201 ?_
      refine T.iload dX11_asks_204 7 rfl ?_
      refine alR5 dX11_asks_206 (fun x12 => ?_)
      refine T.iconst (w := 1) dX11_asks_207 (by decide) ?_
      refine T.isub dX11_asks_208 (fun x13 => ?_)
      refine T.callV_i 0 (As1 := [.int x13]) (rest := []) (c_anyFunction Γ x13 X) ka_X11_anyFunction kv_X11_anyFunction oR rfl k2036 rfl rfl rfl rfl ⟨Nat.le_of_ble_eq_true rfl, Nat.le_of_ble_eq_true rfl⟩ (Nat.le_of_ble_eq_true rfl) dX11_asks_209 (fun x14 X15 => ?_)
      refine T.goto (pc1 := 217) dX11_asks_212 (by decide) ?_
      refine T.sub [1, 2, 3, 4, 5, 7, 0] rfl ?_
      exact c_asks_217 Γ _ r9 hr9 a1 a4 a5 a6 a8 b0 x14 X15
  · refine T.aload_n dX11_asks_180 rfl 1 rfl ?_
    refine T.iconst (w := 2) dX11_asks_181 (by decide) ?_
    refine T.callV_i 0 (As1 := [.int 2]) (rest := []) (c_rowOf Γ (2 : Int32) X) ka_X11_rowOf kv_X11_rowOf oR rfl k1852 rfl rfl rfl rfl ⟨Nat.le_of_ble_eq_true rfl, Nat.le_of_ble_eq_true rfl⟩ (Nat.le_of_ble_eq_true rfl) dX11_asks_182 (fun x16 X17 => ?_)
    refine T.goto (pc1 := 217) dX11_asks_185 (by decide) ?_
    refine T.sub [1, 2, 3, 4, 5, 7, 0] rfl ?_
    exact c_asks_217 Γ _ r9 hr9 a1 a4 a5 a6 a8 b0 x16 X17
noncomputable def f_asks_166 (r9 : Int32 → Int32 → Int32 → Int32 → Int32 → Int32 → Int32 → St → Option (Int32 × St)) (a1 : Int32) (a4 : Int32) (a5 : Int32) (a6 : Int32) (a7 : Int32) (a8 : Int32) (X : St) : Option (Int32 × St) :=
  f_asks_167 r9 a1 a4 a5 a6 a7 a8 (0 : Int32) X
set_option maxHeartbeats 4000000 in
set_option maxRecDepth 100000 in
theorem c_asks_166 (Γ : Gx) (As : List Value) (r9 : Int32 → Int32 → Int32 → Int32 → Int32 → Int32 → Int32 → St → Option (Int32 × St)) (hr9 : ∀ (a1 : Int32) (a4 : Int32) (a5 : Int32) (a6 : Int32) (a7 : Int32) (a8 : Int32) (a9 : Int32) (X : St), T YR Γ cX11_asks 10 "BlameCourtModel" none R_asks As qV 9 [(0, .ref (Γ.2.2.2.1 0)), (1, .int a1), (4, .int a4), (5, .int a5), (6, .int a6), (7, .int a7), (8, .int a8), (9, .int a9)] [] X (r9 a1 a4 a5 a6 a7 a8 a9 X)) (a1 : Int32) (a4 : Int32) (a5 : Int32) (a6 : Int32) (a7 : Int32) (a8 : Int32) (X : St) : T YR Γ cX11_asks 10 "BlameCourtModel" none R_asks As qV 166 [(0, .ref (Γ.2.2.2.1 0)), (1, .int a1), (4, .int a4), (5, .int a5), (6, .int a6), (7, .int a7), (8, .int a8)] [] X (f_asks_166 r9 a1 a4 a5 a6 a7 a8 X) := by
  unfold f_asks_166
  refine T.iconst (w := 0) dX11_asks_166 (by decide) ?_
  exact c_asks_167 Γ _ r9 hr9 a1 a4 a5 a6 a7 a8 (0 : Int32) X
noncomputable def f_asks_144 (r9 : Int32 → Int32 → Int32 → Int32 → Int32 → Int32 → Int32 → St → Option (Int32 × St)) (a1 : Int32) (a4 : Int32) (a5 : Int32) (a6 : Int32) (a7 : Int32) (a8 : Int32) (X : St) : Option (Int32 × St) :=
  chk (inR a8 6000) (letV (X.1 4 (ix a8)) fun x9 =>
  if x9.toInt ≤ 3 then
    f_asks_166 r9 a1 a4 a5 a6 a7 a8 X
  else
    bnd (f_isOn X) fun x18 X19 =>
    if x18.toInt = 0 then
      f_asks_166 r9 a1 a4 a5 a6 a7 a8 X19
    else
      f_asks_167 r9 a1 a4 a5 a6 a7 a8 (1 : Int32) X19)
set_option maxHeartbeats 4000000 in
set_option maxRecDepth 100000 in
theorem c_asks_144 (Γ : Gx) (As : List Value) (r9 : Int32 → Int32 → Int32 → Int32 → Int32 → Int32 → Int32 → St → Option (Int32 × St)) (hr9 : ∀ (a1 : Int32) (a4 : Int32) (a5 : Int32) (a6 : Int32) (a7 : Int32) (a8 : Int32) (a9 : Int32) (X : St), T YR Γ cX11_asks 10 "BlameCourtModel" none R_asks As qV 9 [(0, .ref (Γ.2.2.2.1 0)), (1, .int a1), (4, .int a4), (5, .int a5), (6, .int a6), (7, .int a7), (8, .int a8), (9, .int a9)] [] X (r9 a1 a4 a5 a6 a7 a8 a9 X)) (a1 : Int32) (a4 : Int32) (a5 : Int32) (a6 : Int32) (a7 : Int32) (a8 : Int32) (X : St) : T YR Γ cX11_asks 10 "BlameCourtModel" none R_asks As qV 144 [(0, .ref (Γ.2.2.2.1 0)), (1, .int a1), (4, .int a4), (5, .int a5), (6, .int a6), (7, .int a7), (8, .int a8)] [] X (f_asks_144 r9 a1 a4 a5 a6 a7 a8 X) := by
  unfold f_asks_144
  refine T.aload_n dX11_asks_144 rfl 0 rfl ?_
  refine cR51 k1384 dX11_asks_145 ?_
  refine T.iload dX11_asks_148 6 rfl ?_
  refine alR4 dX11_asks_150 (fun x9 => ?_)
  refine T.iconst (w := 3) dX11_asks_151 (by decide) ?_
  refine T.icmp_le (pc1 := 166) dX11_asks_152 (by decide) rfl ?_ ?_
  · exact c_asks_166 Γ _ r9 hr9 a1 a4 a5 a6 a7 a8 X
  · refine T.aload_n dX11_asks_155 rfl 0 rfl ?_
    refine T.callV_i 0 (As1 := []) (rest := []) (c_isOn Γ X) ka_X11_isOn kv_X11_isOn oR rfl k2108 rfl rfl rfl rfl ⟨Nat.le_of_ble_eq_true rfl, Nat.le_of_ble_eq_true rfl⟩ (Nat.le_of_ble_eq_true rfl) dX11_asks_156 (fun x18 X19 => ?_)
    refine T.if_eq (pc1 := 166) dX11_asks_159 (by decide) ?_ ?_
    · exact c_asks_166 Γ _ r9 hr9 a1 a4 a5 a6 a7 a8 X19
    · refine T.iconst (w := 1) dX11_asks_162 (by decide) ?_
      refine T.goto (pc1 := 167) dX11_asks_163 (by decide) ?_
      exact c_asks_167 Γ _ r9 hr9 a1 a4 a5 a6 a7 a8 (1 : Int32) X19
noncomputable def f_asks_110 (r9 : Int32 → Int32 → Int32 → Int32 → Int32 → Int32 → Int32 → St → Option (Int32 × St)) (a1 : Int32) (a4 : Int32) (a5 : Int32) (a6 : Int32) (a7 : Int32) (a9 : Int32) (b0 : Int32) (X : St) : Option (Int32 × St) :=
  r9 a1 a4 a5 a6 a7 b0 a9 X
set_option maxHeartbeats 4000000 in
set_option maxRecDepth 100000 in
theorem c_asks_110 (Γ : Gx) (As : List Value) (r9 : Int32 → Int32 → Int32 → Int32 → Int32 → Int32 → Int32 → St → Option (Int32 × St)) (hr9 : ∀ (a1 : Int32) (a4 : Int32) (a5 : Int32) (a6 : Int32) (a7 : Int32) (a8 : Int32) (a9 : Int32) (X : St), T YR Γ cX11_asks 10 "BlameCourtModel" none R_asks As qV 9 [(0, .ref (Γ.2.2.2.1 0)), (1, .int a1), (4, .int a4), (5, .int a5), (6, .int a6), (7, .int a7), (8, .int a8), (9, .int a9)] [] X (r9 a1 a4 a5 a6 a7 a8 a9 X)) (a1 : Int32) (a4 : Int32) (a5 : Int32) (a6 : Int32) (a7 : Int32) (a9 : Int32) (b0 : Int32) (X : St) : T YR Γ cX11_asks 10 "BlameCourtModel" none R_asks As qV 110 [(0, .ref (Γ.2.2.2.1 0)), (1, .int a1), (4, .int a4), (5, .int a5), (6, .int a6), (7, .int a7), (9, .int a9)] [.int b0] X (f_asks_110 r9 a1 a4 a5 a6 a7 a9 b0 X) := by
  unfold f_asks_110
  refine T.istore (lv1 := [(8, .int b0), (0, .ref (Γ.2.2.2.1 0)), (1, .int a1), (4, .int a4), (5, .int a5), (6, .int a6), (7, .int a7), (9, .int a9)]) dX11_asks_110 (by decide) rfl ?_
  refine T.goto (pc1 := 9) dX11_asks_112 (by decide) ?_
  refine T.sub [1, 2, 3, 4, 5, 6, 0, 7] rfl ?_
  exact hr9 a1 a4 a5 a6 a7 b0 a9 X
noncomputable def f_asks_60 (r9 : Int32 → Int32 → Int32 → Int32 → Int32 → Int32 → Int32 → St → Option (Int32 × St)) (a1 : Int32) (a4 : Int32) (a5 : Int32) (a6 : Int32) (a7 : Int32) (a8 : Int32) (b0 : Int32) (X : St) : Option (Int32 × St) :=
  chk (inR a7 6000) (letV (X.1 4 (ix a7)) fun x23 =>
  if x23.toInt = 4 then
    bnd (f_rowOf (2 : Int32) X) fun x29 X30 =>
    f_asks_110 r9 a1 a4 a5 a6 a7 b0 x29 X30
  else
    chk (inR a7 6000) (letV (X.1 4 (ix a7)) fun x24 =>
    if x24.toInt = 5 then
      chk (inR a7 6000) (letV (X.1 5 (ix a7)) fun x25 =>
      letV (x25 - (1 : Int32)) fun x26 =>
      bnd (f_anyFunction x26 X) fun x27 X28 =>
      f_asks_110 r9 a1 a4 a5 a6 a7 b0 x27 X28)
    else
      f_asks_110 r9 a1 a4 a5 a6 a7 b0 a8 X))
set_option maxHeartbeats 4000000 in
set_option maxRecDepth 100000 in
theorem c_asks_60 (Γ : Gx) (As : List Value) (r9 : Int32 → Int32 → Int32 → Int32 → Int32 → Int32 → Int32 → St → Option (Int32 × St)) (hr9 : ∀ (a1 : Int32) (a4 : Int32) (a5 : Int32) (a6 : Int32) (a7 : Int32) (a8 : Int32) (a9 : Int32) (X : St), T YR Γ cX11_asks 10 "BlameCourtModel" none R_asks As qV 9 [(0, .ref (Γ.2.2.2.1 0)), (1, .int a1), (4, .int a4), (5, .int a5), (6, .int a6), (7, .int a7), (8, .int a8), (9, .int a9)] [] X (r9 a1 a4 a5 a6 a7 a8 a9 X)) (a1 : Int32) (a4 : Int32) (a5 : Int32) (a6 : Int32) (a7 : Int32) (a8 : Int32) (b0 : Int32) (X : St) : T YR Γ cX11_asks 10 "BlameCourtModel" none R_asks As qV 60 [(0, .ref (Γ.2.2.2.1 0)), (1, .int a1), (4, .int a4), (5, .int a5), (6, .int a6), (7, .int a7), (8, .int a8)] [.int b0] X (f_asks_60 r9 a1 a4 a5 a6 a7 a8 b0 X) := by
  unfold f_asks_60
  refine T.istore (lv1 := [(9, .int b0), (0, .ref (Γ.2.2.2.1 0)), (1, .int a1), (4, .int a4), (5, .int a5), (6, .int a6), (7, .int a7), (8, .int a8)]) dX11_asks_60 (by decide) rfl ?_
  refine T.aload_n dX11_asks_62 rfl 1 rfl ?_
  refine cR51 k1384 dX11_asks_63 ?_
  refine T.iload dX11_asks_66 6 rfl ?_
  refine alR4 dX11_asks_68 (fun x23 => ?_)
  refine T.iconst (w := 4) dX11_asks_69 (by decide) ?_
  refine T.icmp_ne (pc1 := 81) dX11_asks_70 (by decide) rfl ?_ ?_
  · refine T.aload_n dX11_asks_81 rfl 1 rfl ?_
    refine cR51 k1384 dX11_asks_82 ?_
    refine T.iload dX11_asks_85 6 rfl ?_
    refine alR4 dX11_asks_87 (fun x24 => ?_)
    refine T.iconst (w := 5) dX11_asks_88 (by decide) ?_
    refine T.icmp_ne (pc1 := 108) dX11_asks_89 (by decide) rfl ?_ ?_
    · refine T.iload dX11_asks_108 7 rfl ?_
      refine T.sub [1, 2, 3, 4, 5, 6, 0] rfl ?_
      exact c_asks_110 Γ _ r9 hr9 a1 a4 a5 a6 a7 b0 a8 X
    · refine T.aload_n dX11_asks_92 rfl 1 rfl ?_
      refine T.aload_n dX11_asks_93 rfl 1 rfl ?_
      refine cR52 k1385 dX11_asks_94 ?_
      refine T.iload dX11_asks_97 6 rfl ?_
      refine alR5 dX11_asks_99 (fun x25 => ?_)
      refine T.iconst (w := 1) dX11_asks_100 (by decide) ?_
      refine T.isub dX11_asks_101 (fun x26 => ?_)
      refine T.callV_i 0 (As1 := [.int x26]) (rest := []) (c_anyFunction Γ x26 X) ka_X11_anyFunction kv_X11_anyFunction oR rfl k2036 rfl rfl rfl rfl ⟨Nat.le_of_ble_eq_true rfl, Nat.le_of_ble_eq_true rfl⟩ (Nat.le_of_ble_eq_true rfl) dX11_asks_102 (fun x27 X28 => ?_)
      refine T.goto (pc1 := 110) dX11_asks_105 (by decide) ?_
      refine T.sub [1, 2, 3, 4, 5, 6, 0] rfl ?_
      exact c_asks_110 Γ _ r9 hr9 a1 a4 a5 a6 a7 b0 x27 X28
  · refine T.aload_n dX11_asks_73 rfl 1 rfl ?_
    refine T.iconst (w := 2) dX11_asks_74 (by decide) ?_
    refine T.callV_i 0 (As1 := [.int 2]) (rest := []) (c_rowOf Γ (2 : Int32) X) ka_X11_rowOf kv_X11_rowOf oR rfl k1852 rfl rfl rfl rfl ⟨Nat.le_of_ble_eq_true rfl, Nat.le_of_ble_eq_true rfl⟩ (Nat.le_of_ble_eq_true rfl) dX11_asks_75 (fun x29 X30 => ?_)
    refine T.goto (pc1 := 110) dX11_asks_78 (by decide) ?_
    refine T.sub [1, 2, 3, 4, 5, 6, 0] rfl ?_
    exact c_asks_110 Γ _ r9 hr9 a1 a4 a5 a6 a7 b0 x29 X30
noncomputable def f_asks_9_s (r9 : Int32 → Int32 → Int32 → Int32 → Int32 → Int32 → Int32 → St → Option (Int32 × St)) (a1 : Int32) (a4 : Int32) (a5 : Int32) (a6 : Int32) (a7 : Int32) (a8 : Int32) (a9 : Int32) (X : St) : Option (Int32 × St) :=
  if a9.toInt = 0 then
    some (0, X)
  else
    if a7.toInt = a8.toInt then
      some (0, X)
    else
      letV ((41 : Int32) * a4) fun x1 =>
      letV (x1 + a5) fun x2 =>
      chk (inR x2 1681) (letV (X.1 80 (ix x2)) fun x3 =>
      letV (x3 + (1 : Int32)) fun x4 =>
      chk (inR x2 1681) (letV (wI X 80 (ix x2) x4) fun X5 =>
      if a8.toInt = 2 then
        chk (inR a7 6000) (letV (X5.1 4 (ix a7)) fun x22 =>
        if x22.toInt ≤ 3 then
          f_asks_60 r9 a1 a4 a5 a6 a7 a8 (0 : Int32) X5
        else
          f_asks_60 r9 a1 a4 a5 a6 a7 a8 (1 : Int32) X5)
      else
        if a7.toInt = 2 then
          bnd (f_isOfSort a1 a8 X5) fun x7 X8 =>
          if x7.toInt = 0 then
            letV (wI X8 0 45 a4) fun X20 =>
            bnd (f_ends (3 : Int32) a6 X20) fun _ X21 =>
            f_asks_144 r9 a1 a4 a5 a6 a7 a8 X21
          else
            f_asks_144 r9 a1 a4 a5 a6 a7 a8 X8
        else
          bnd (f_wraps a1 a7 a8 a4 a5 a6 X5) fun _ X6 =>
          r9 a1 a4 a5 a6 a7 a8 (0 : Int32) X6))
noncomputable def f_asks_9 (n : Nat) : Int32 → Int32 → Int32 → Int32 → Int32 → Int32 → Int32 → St → Option (Int32 × St) := lp (fun _ _ _ _ _ _ _ _ => none) (f_asks_9_s) n
set_option maxHeartbeats 4000000 in
set_option maxRecDepth 100000 in
theorem c_asks_9 (Γ : Gx) (As : List Value) (n : Nat) : ∀ (a1 : Int32) (a4 : Int32) (a5 : Int32) (a6 : Int32) (a7 : Int32) (a8 : Int32) (a9 : Int32) (X : St), T YR Γ cX11_asks 10 "BlameCourtModel" none R_asks As qV 9 [(0, .ref (Γ.2.2.2.1 0)), (1, .int a1), (4, .int a4), (5, .int a5), (6, .int a6), (7, .int a7), (8, .int a8), (9, .int a9)] [] X (f_asks_9 n a1 a4 a5 a6 a7 a8 a9 X) := by
  unfold f_asks_9
  refine lp_ind (P := fun (r9 : Int32 → Int32 → Int32 → Int32 → Int32 → Int32 → Int32 → St → Option (Int32 × St)) => ∀ (a1 : Int32) (a4 : Int32) (a5 : Int32) (a6 : Int32) (a7 : Int32) (a8 : Int32) (a9 : Int32) (X : St), T YR Γ cX11_asks 10 "BlameCourtModel" none R_asks As qV 9 [(0, .ref (Γ.2.2.2.1 0)), (1, .int a1), (4, .int a4), (5, .int a5), (6, .int a6), (7, .int a7), (8, .int a8), (9, .int a9)] [] X (r9 a1 a4 a5 a6 a7 a8 a9 X)) (fun _ _ _ _ _ _ _ _ => T.no) ?_ n
  intro r9 hr9 a1 a4 a5 a6 a7 a8 a9 X
  unfold f_asks_9_s
  refine T.iload dX11_asks_9 7 rfl ?_
  refine T.if_eq (pc1 := 243) dX11_asks_11 (by decide) ?_ ?_
  · exact T.ret_v rfl dX11_asks_243
  · refine T.iload dX11_asks_14 5 rfl ?_
    refine T.iload dX11_asks_16 6 rfl ?_
    refine T.icmp_eq (pc1 := 243) dX11_asks_18 (by decide) rfl ?_ ?_
    · exact T.ret_v rfl dX11_asks_243
    · refine T.aload_n dX11_asks_21 rfl 0 rfl ?_
      refine cR127 k1492 dX11_asks_22 ?_
      refine T.bipush (w := 41) dX11_asks_25 (by decide) ?_
      refine T.iload dX11_asks_27 2 rfl ?_
      refine T.imul dX11_asks_29 (fun x1 => ?_)
      refine T.iload dX11_asks_30 3 rfl ?_
      refine T.iadd dX11_asks_32 (fun x2 => ?_)
      refine T.dup2 dX11_asks_33 ?_
      refine alR80 dX11_asks_34 (fun x3 => ?_)
      refine T.iconst (w := 1) dX11_asks_35 (by decide) ?_
      refine T.iadd dX11_asks_36 (fun x4 => ?_)
      refine asR80 dX11_asks_37 (fun X5 => ?_)
      refine T.iload dX11_asks_38 6 rfl ?_
      refine T.iconst (w := 2) dX11_asks_40 (by decide) ?_
      refine T.icmp_ne (pc1 := 115) dX11_asks_41 (by decide) rfl ?_ ?_
      · refine T.iload dX11_asks_115 5 rfl ?_
        refine T.iconst (w := 2) dX11_asks_117 (by decide) ?_
        refine T.icmp_ne (pc1 := 222) dX11_asks_118 (by decide) rfl ?_ ?_
        · refine T.aload_n dX11_asks_222 rfl 0 rfl ?_
          refine T.iload_n dX11_asks_223 rfl 1 rfl ?_
          refine T.iload dX11_asks_224 5 rfl ?_
          refine T.iload dX11_asks_226 6 rfl ?_
          refine T.iload dX11_asks_228 2 rfl ?_
          refine T.iload dX11_asks_230 3 rfl ?_
          refine T.iload dX11_asks_232 4 rfl ?_
          refine T.callV_v 0 (As1 := [.int a1, .int a7, .int a8, .int a4, .int a5, .int a6]) (rest := []) (c_wraps Γ a1 a7 a8 a4 a5 a6 X5) ka_X11_wraps kv_X11_wraps oR rfl k2136 rfl rfl rfl rfl ⟨Nat.le_of_ble_eq_true rfl, Nat.le_of_ble_eq_true rfl⟩ (Nat.le_of_ble_eq_true rfl) dX11_asks_234 (fun _ X6 => ?_)
          refine T.iconst (w := 0) dX11_asks_237 (by decide) ?_
          refine T.istore (lv1 := [(9, .int 0), (0, .ref (Γ.2.2.2.1 0)), (1, .int a1), (4, .int a4), (5, .int a5), (6, .int a6), (7, .int a7), (8, .int a8)]) dX11_asks_238 (by decide) rfl ?_
          refine T.goto (pc1 := 9) dX11_asks_240 (by decide) ?_
          refine T.sub [1, 2, 3, 4, 5, 6, 7, 0] rfl ?_
          exact hr9 a1 a4 a5 a6 a7 a8 (0 : Int32) X6
        · refine T.aload_n dX11_asks_121 rfl 0 rfl ?_
          refine T.iload_n dX11_asks_122 rfl 1 rfl ?_
          refine T.iload dX11_asks_123 6 rfl ?_
          refine T.callV_i 0 (As1 := [.int a1, .int a8]) (rest := []) (c_isOfSort Γ a1 a8 X5) ka_X11_isOfSort kv_X11_isOfSort oR rfl k2128 rfl rfl rfl rfl ⟨Nat.le_of_ble_eq_true rfl, Nat.le_of_ble_eq_true rfl⟩ (Nat.le_of_ble_eq_true rfl) dX11_asks_125 (fun x7 X8 => ?_)
          refine T.if_ne (pc1 := 144) dX11_asks_128 (by decide) ?_ ?_
          · refine T.sub [0, 1, 2, 3, 4, 5, 6] rfl ?_
            exact c_asks_144 Γ _ r9 hr9 a1 a4 a5 a6 a7 a8 X8
          · refine T.aload_n dX11_asks_131 rfl 0 rfl ?_
            refine T.iload dX11_asks_132 2 rfl ?_
            refine pR45 k1489 dX11_asks_134 (fun X20 => ?_)
            refine T.aload_n dX11_asks_137 rfl 0 rfl ?_
            refine T.iconst (w := 3) dX11_asks_138 (by decide) ?_
            refine T.iload dX11_asks_139 4 rfl ?_
            refine T.callV_v 0 (As1 := [.int 3, .int a6]) (rest := []) (c_ends Γ (3 : Int32) a6 X20) ka_X11_ends kv_X11_ends oR rfl k2104 rfl rfl rfl rfl ⟨Nat.le_of_ble_eq_true rfl, Nat.le_of_ble_eq_true rfl⟩ (Nat.le_of_ble_eq_true rfl) dX11_asks_141 (fun _ X21 => ?_)
            refine T.sub [0, 1, 2, 3, 4, 5, 6] rfl ?_
            exact c_asks_144 Γ _ r9 hr9 a1 a4 a5 a6 a7 a8 X21
      · refine T.aload_n dX11_asks_44 rfl 0 rfl ?_
        refine cR51 k1384 dX11_asks_45 ?_
        refine T.iload dX11_asks_48 5 rfl ?_
        refine alR4 dX11_asks_50 (fun x22 => ?_)
        refine T.iconst (w := 3) dX11_asks_51 (by decide) ?_
        refine T.icmp_le (pc1 := 59) dX11_asks_52 (by decide) rfl ?_ ?_
        · refine T.iconst (w := 0) dX11_asks_59 (by decide) ?_
          refine T.sub [0, 1, 2, 3, 4, 5, 6] rfl ?_
          exact c_asks_60 Γ _ r9 hr9 a1 a4 a5 a6 a7 a8 (0 : Int32) X5
        · refine T.iconst (w := 1) dX11_asks_55 (by decide) ?_
          refine T.goto (pc1 := 60) dX11_asks_56 (by decide) ?_
          refine T.sub [0, 1, 2, 3, 4, 5, 6] rfl ?_
          exact c_asks_60 Γ _ r9 hr9 a1 a4 a5 a6 a7 a8 (1 : Int32) X5
noncomputable def f_asks (p1 : Int32) (p2 : Int32) (p3 : Int32) (p4 : Int32) (p5 : Int32) (p6 : Int32) (X : St) : Option (Int32 × St) :=
  f_asks_9 BIG p1 p4 p5 p6 p2 p3 (1 : Int32) X
set_option maxHeartbeats 4000000 in
set_option maxRecDepth 100000 in
theorem c_asks (Γ : Gx) (p1 : Int32) (p2 : Int32) (p3 : Int32) (p4 : Int32) (p5 : Int32) (p6 : Int32) (X : St) : TMV YR Γ yX11_asks cX11_asks 10 "BlameCourtModel" none R_asks [.ref (Γ.2.2.2.1 0), .int p1, .int p2, .int p3, .int p4, .int p5, .int p6] X (f_asks p1 p2 p3 p4 p5 p6 X) := by
  refine TMV.of (by decide) (Nat.le_of_ble_eq_true rfl) rfl ?_
  show T YR Γ cX11_asks 10 "BlameCourtModel" none R_asks _ qV 0 [(0, .ref (Γ.2.2.2.1 0)), (1, .int p1), (2, .int p2), (3, .int p3), (4, .int p4), (5, .int p5), (6, .int p6)] [] X (f_asks p1 p2 p3 p4 p5 p6 X)
  unfold f_asks
  refine T.iload_n dX11_asks_0 rfl 2 rfl ?_
  refine T.istore (lv1 := [(7, .int p2), (0, .ref (Γ.2.2.2.1 0)), (1, .int p1), (2, .int p2), (3, .int p3), (4, .int p4), (5, .int p5), (6, .int p6)]) dX11_asks_1 (by decide) rfl ?_
  refine T.iload_n dX11_asks_3 rfl 4 rfl ?_
  refine T.istore (lv1 := [(8, .int p3), (7, .int p2), (0, .ref (Γ.2.2.2.1 0)), (1, .int p1), (2, .int p2), (3, .int p3), (4, .int p4), (5, .int p5), (6, .int p6)]) dX11_asks_4 (by decide) rfl ?_
  refine T.iconst (w := 1) dX11_asks_6 (by decide) ?_
  refine T.istore (lv1 := [(9, .int 1), (8, .int p3), (7, .int p2), (0, .ref (Γ.2.2.2.1 0)), (1, .int p1), (2, .int p2), (3, .int p3), (4, .int p4), (5, .int p5), (6, .int p6)]) dX11_asks_7 (by decide) rfl ?_
  refine T.sub [3, 4, 7, 8, 9, 2, 1, 0] rfl ?_
  exact c_asks_9 Γ _ BIG p1 p4 p5 p6 p2 p3 (1 : Int32) X
abbrev R_row : Room := { frames := 10, cells := 0, slots := 0, locals := 150 }
noncomputable def f_row_22 (a2 : Int32) (X : St) : Option (Int32 × St) :=
  bnd (f_ends (6 : Int32) a2 X) fun _ X3 =>
  some (0, X3)
set_option maxHeartbeats 4000000 in
set_option maxRecDepth 100000 in
theorem c_row_22 (Γ : Gx) (As : List Value) (a2 : Int32) (X : St) : T YR Γ cX11_row 3 "BlameCourtModel" (some .int) R_row As qI 22 [(0, .ref (Γ.2.2.2.1 0)), (2, .int a2)] [] X (f_row_22 a2 X) := by
  unfold f_row_22
  refine T.aload_n dX11_row_22 rfl 0 rfl ?_
  refine T.bipush (w := 6) dX11_row_23 (by decide) ?_
  refine T.iload_n dX11_row_25 rfl 1 rfl ?_
  refine T.callV_v 0 (As1 := [.int 6, .int a2]) (rest := []) (c_ends Γ (6 : Int32) a2 X) ka_X11_ends kv_X11_ends oR rfl k2104 rfl rfl rfl rfl ⟨Nat.le_of_ble_eq_true rfl, Nat.le_of_ble_eq_true rfl⟩ (Nat.le_of_ble_eq_true rfl) dX11_row_26 (fun _ X3 => ?_)
  refine T.iconst (w := 0) dX11_row_29 (by decide) ?_
  exact T.ret_i rfl dX11_row_30
noncomputable def f_row (p1 : Int32) (p2 : Int32) (X : St) : Option (Int32 × St) :=
  letV (X.1 0 34) fun x1 =>
  letV (x1 + p1) fun x2 =>
  if 4000 < x2.toInt then
    f_row_22 p2 X
  else
    letV (X.1 0 33) fun x4 =>
    if x4.toInt = 1000 then
      f_row_22 p2 X
    else
      letV (X.1 0 33) fun x5 =>
      chk (inR x5 1000) (letV (wI X 64 (ix x5) (vp_nar .boolean (0 : Int32))) fun X6 =>
      letV (X6.1 0 33) fun x7 =>
      letV (X6.1 0 34) fun x8 =>
      chk (inR x7 1000) (letV (wI X6 65 (ix x7) x8) fun X9 =>
      letV (X9.1 0 33) fun x10 =>
      chk (inR x10 1000) (letV (wI X9 66 (ix x10) p1) fun X11 =>
      letV (X11.1 0 34) fun x12 =>
      letV (x12 + p1) fun x13 =>
      letV (wI X11 0 34 x13) fun X14 =>
      letV (X14.1 0 33) fun x15 =>
      letV (x15 + (1 : Int32)) fun x16 =>
      letV (wI X14 0 33 x16) fun X17 =>
      letV (X17.1 0 35) fun x18 =>
      letV (x18 + (1 : Int32)) fun x19 =>
      letV (wI X17 0 35 x19) fun X20 =>
      letV (X20.1 0 33) fun x21 =>
      letV (x21 - (1 : Int32)) fun x22 =>
      some (x22, X20))))
set_option maxHeartbeats 4000000 in
set_option maxRecDepth 100000 in
theorem c_row (Γ : Gx) (p1 : Int32) (p2 : Int32) (X : St) : TMI YR Γ yX11_row cX11_row 3 "BlameCourtModel" (some .int) R_row [.ref (Γ.2.2.2.1 0), .int p1, .int p2] X (f_row p1 p2 X) := by
  refine TMI.of (by decide) (Nat.le_of_ble_eq_true rfl) rfl ?_
  show T YR Γ cX11_row 3 "BlameCourtModel" (some .int) R_row _ qI 0 [(0, .ref (Γ.2.2.2.1 0)), (1, .int p1), (2, .int p2)] [] X (f_row p1 p2 X)
  unfold f_row
  refine T.aload_n dX11_row_0 rfl 0 rfl ?_
  refine gR34 k1473 dX11_row_1 (fun x1 => ?_)
  refine T.iload_n dX11_row_4 rfl 1 rfl ?_
  refine T.iadd dX11_row_5 (fun x2 => ?_)
  refine T.sipush (w := 4000) dX11_row_6 (by decide) ?_
  refine T.icmp_gt (pc1 := 22) dX11_row_9 (by decide) rfl ?_ ?_
  · refine T.sub [0, 2] rfl ?_
    exact c_row_22 Γ _ p2 X
  · refine T.aload_n dX11_row_12 rfl 0 rfl ?_
    refine gR33 k1462 dX11_row_13 (fun x4 => ?_)
    refine T.sipush (w := 1000) dX11_row_16 (by decide) ?_
    refine T.icmp_ne (pc1 := 31) dX11_row_19 (by decide) rfl ?_ ?_
    · refine T.aload_n dX11_row_31 rfl 0 rfl ?_
      refine cR111 k1463 dX11_row_32 ?_
      refine T.aload_n dX11_row_35 rfl 0 rfl ?_
      refine gR33 k1462 dX11_row_36 (fun x5 => ?_)
      refine T.iconst (w := 0) dX11_row_39 (by decide) ?_
      refine asR64 dX11_row_40 (fun X6 => ?_)
      refine T.aload_n dX11_row_41 rfl 0 rfl ?_
      refine cR112 k1464 dX11_row_42 ?_
      refine T.aload_n dX11_row_45 rfl 0 rfl ?_
      refine gR33 k1462 dX11_row_46 (fun x7 => ?_)
      refine T.aload_n dX11_row_49 rfl 0 rfl ?_
      refine gR34 k1473 dX11_row_50 (fun x8 => ?_)
      refine asR65 dX11_row_53 (fun X9 => ?_)
      refine T.aload_n dX11_row_54 rfl 0 rfl ?_
      refine cR113 k1465 dX11_row_55 ?_
      refine T.aload_n dX11_row_58 rfl 0 rfl ?_
      refine gR33 k1462 dX11_row_59 (fun x10 => ?_)
      refine T.iload_n dX11_row_62 rfl 1 rfl ?_
      refine asR66 dX11_row_63 (fun X11 => ?_)
      refine T.aload_n dX11_row_64 rfl 0 rfl ?_
      refine T.dupr dX11_row_65 ?_
      refine gR34 k1473 dX11_row_66 (fun x12 => ?_)
      refine T.iload_n dX11_row_69 rfl 1 rfl ?_
      refine T.iadd dX11_row_70 (fun x13 => ?_)
      refine pR34 k1473 dX11_row_71 (fun X14 => ?_)
      refine T.aload_n dX11_row_74 rfl 0 rfl ?_
      refine T.dupr dX11_row_75 ?_
      refine gR33 k1462 dX11_row_76 (fun x15 => ?_)
      refine T.iconst (w := 1) dX11_row_79 (by decide) ?_
      refine T.iadd dX11_row_80 (fun x16 => ?_)
      refine pR33 k1462 dX11_row_81 (fun X17 => ?_)
      refine T.aload_n dX11_row_84 rfl 0 rfl ?_
      refine T.dupr dX11_row_85 ?_
      refine gR35 k1476 dX11_row_86 (fun x18 => ?_)
      refine T.iconst (w := 1) dX11_row_89 (by decide) ?_
      refine T.iadd dX11_row_90 (fun x19 => ?_)
      refine pR35 k1476 dX11_row_91 (fun X20 => ?_)
      refine T.aload_n dX11_row_94 rfl 0 rfl ?_
      refine gR33 k1462 dX11_row_95 (fun x21 => ?_)
      refine T.iconst (w := 1) dX11_row_98 (by decide) ?_
      refine T.isub dX11_row_99 (fun x22 => ?_)
      exact T.ret_i rfl dX11_row_100
    · refine T.sub [0, 2] rfl ?_
      exact c_row_22 Γ _ p2 X
abbrev R_calls : Room := { frames := 10, cells := 0, slots := 0, locals := 150 }
noncomputable def f_calls_92_s (r92 : Int32 → St → Option (Int32 × St)) (a4 : Int32) (X : St) : Option (Int32 × St) :=
  if a4.toInt < 0 then
    some (0, X)
  else
    letV (X.1 0 31) fun x21 =>
    letV (x21 - (1 : Int32)) fun x22 =>
    letV (wI X 0 31 x22) fun X23 =>
    letV (X23.1 0 32) fun x24 =>
    letV (x24 + a4) fun x25 =>
    letV (X23.1 0 31) fun x26 =>
    chk (inR x26 20400) (letV (X23.1 60 (ix x26)) fun x27 =>
    chk (inR x25 5000) (letV (wI X23 62 (ix x25) x27) fun X28 =>
    letV (X28.1 0 32) fun x29 =>
    letV (x29 + a4) fun x30 =>
    letV (X28.1 0 31) fun x31 =>
    chk (inR x31 20400) (letV (X28.1 61 (ix x31)) fun x32 =>
    chk (inR x30 5000) (letV (wI X28 63 (ix x30) x32) fun X33 =>
    letV (a4 + Int32.ofInt (-1)) fun x34 =>
    r92 x34 X33))))
noncomputable def f_calls_92 (n : Nat) : Int32 → St → Option (Int32 × St) := lp (fun _ _ => none) (f_calls_92_s) n
set_option maxHeartbeats 4000000 in
set_option maxRecDepth 100000 in
theorem c_calls_92 (Γ : Gx) (As : List Value) (n : Nat) : ∀ (a4 : Int32) (X : St), T YR Γ cX11_calls 5 "BlameCourtModel" none R_calls As qV 92 [(0, .ref (Γ.2.2.2.1 0)), (4, .int a4)] [] X (f_calls_92 n a4 X) := by
  unfold f_calls_92
  refine lp_ind (P := fun (r92 : Int32 → St → Option (Int32 × St)) => ∀ (a4 : Int32) (X : St), T YR Γ cX11_calls 5 "BlameCourtModel" none R_calls As qV 92 [(0, .ref (Γ.2.2.2.1 0)), (4, .int a4)] [] X (r92 a4 X)) (fun _ _ => T.no) ?_ n
  intro r92 hr92 a4 X
  unfold f_calls_92_s
  refine T.iload dX11_calls_92 1 rfl ?_
  refine T.if_lt (pc1 := 155) dX11_calls_94 (by decide) ?_ ?_
  · exact T.ret_v rfl dX11_calls_155
  · refine T.aload_n dX11_calls_97 rfl 0 rfl ?_
    refine T.dupr dX11_calls_98 ?_
    refine gR31 k1456 dX11_calls_99 (fun x21 => ?_)
    refine T.iconst (w := 1) dX11_calls_102 (by decide) ?_
    refine T.isub dX11_calls_103 (fun x22 => ?_)
    refine pR31 k1456 dX11_calls_104 (fun X23 => ?_)
    refine T.aload_n dX11_calls_107 rfl 0 rfl ?_
    refine cR109 k1460 dX11_calls_108 ?_
    refine T.aload_n dX11_calls_111 rfl 0 rfl ?_
    refine gR32 k1459 dX11_calls_112 (fun x24 => ?_)
    refine T.iload dX11_calls_115 1 rfl ?_
    refine T.iadd dX11_calls_117 (fun x25 => ?_)
    refine T.aload_n dX11_calls_118 rfl 0 rfl ?_
    refine cR107 k1457 dX11_calls_119 ?_
    refine T.aload_n dX11_calls_122 rfl 0 rfl ?_
    refine gR31 k1456 dX11_calls_123 (fun x26 => ?_)
    refine alR60 dX11_calls_126 (fun x27 => ?_)
    refine asR62 dX11_calls_127 (fun X28 => ?_)
    refine T.aload_n dX11_calls_128 rfl 0 rfl ?_
    refine cR110 k1461 dX11_calls_129 ?_
    refine T.aload_n dX11_calls_132 rfl 0 rfl ?_
    refine gR32 k1459 dX11_calls_133 (fun x29 => ?_)
    refine T.iload dX11_calls_136 1 rfl ?_
    refine T.iadd dX11_calls_138 (fun x30 => ?_)
    refine T.aload_n dX11_calls_139 rfl 0 rfl ?_
    refine cR108 k1458 dX11_calls_140 ?_
    refine T.aload_n dX11_calls_143 rfl 0 rfl ?_
    refine gR31 k1456 dX11_calls_144 (fun x31 => ?_)
    refine alR61 dX11_calls_147 (fun x32 => ?_)
    refine asR63 dX11_calls_148 (fun X33 => ?_)
    refine T.iinc dX11_calls_149 1 rfl (by decide) (lvf := fun x34 => [(4, .int x34), (0, .ref (Γ.2.2.2.1 0))]) (fun _ => rfl) (fun x34 => ?_)
    refine T.goto (pc1 := 92) dX11_calls_152 (by decide) ?_
    refine T.sub [1, 0] rfl ?_
    exact hr92 x34 X33
noncomputable def f_calls (p1 : Int32) (p2 : Int32) (p3 : Int32) (X : St) : Option (Int32 × St) :=
  letV (X.1 0 38) fun x1 =>
  if x1.toInt = 100 then
    bnd (f_ends (5 : Int32) p3 X) fun _ X35 =>
    some (0, X35)
  else
    letV (X.1 0 38) fun x2 =>
    letV (x2 + (1 : Int32)) fun x3 =>
    letV (wI X 0 38 x3) fun X4 =>
    letV (X4.1 0 37) fun x5 =>
    chk (inR x5 2300) (letV (wI X4 76 (ix x5) (-1 : Int32)) fun X6 =>
    letV (X6.1 0 37) fun x7 =>
    chk (inR x7 2300) (letV (wI X6 77 (ix x7) p2) fun X8 =>
    letV (X8.1 0 37) fun x9 =>
    letV (X8.1 0 32) fun x10 =>
    chk (inR x9 2300) (letV (wI X8 78 (ix x9) x10) fun X11 =>
    letV (X11.1 0 37) fun x12 =>
    letV (x12 + (1 : Int32)) fun x13 =>
    letV (wI X11 0 37 x13) fun X14 =>
    letV (X14.1 0 38) fun x15 =>
    letV (x15 - (1 : Int32)) fun x16 =>
    letV ((45 : Int32) * x16) fun x17 =>
    letV (wI X14 0 32 x17) fun X18 =>
    chk (inR p1 41) (letV (X18.1 15 (ix p1)) fun x19 =>
    letV (x19 - (1 : Int32)) fun x20 =>
    f_calls_92 BIG x20 X18))))
set_option maxHeartbeats 4000000 in
set_option maxRecDepth 100000 in
theorem c_calls (Γ : Gx) (p1 : Int32) (p2 : Int32) (p3 : Int32) (X : St) : TMV YR Γ yX11_calls cX11_calls 5 "BlameCourtModel" none R_calls [.ref (Γ.2.2.2.1 0), .int p1, .int p2, .int p3] X (f_calls p1 p2 p3 X) := by
  refine TMV.of (by decide) (Nat.le_of_ble_eq_true rfl) rfl ?_
  show T YR Γ cX11_calls 5 "BlameCourtModel" none R_calls _ qV 0 [(0, .ref (Γ.2.2.2.1 0)), (1, .int p1), (2, .int p2), (3, .int p3)] [] X (f_calls p1 p2 p3 X)
  unfold f_calls
  refine T.aload_n dX11_calls_0 rfl 0 rfl ?_
  refine gR38 k1479 dX11_calls_1 (fun x1 => ?_)
  refine T.bipush (w := 100) dX11_calls_4 (by decide) ?_
  refine T.icmp_ne (pc1 := 16) dX11_calls_6 (by decide) rfl ?_ ?_
  · refine T.aload_n dX11_calls_16 rfl 0 rfl ?_
    refine T.dupr dX11_calls_17 ?_
    refine gR38 k1479 dX11_calls_18 (fun x2 => ?_)
    refine T.iconst (w := 1) dX11_calls_21 (by decide) ?_
    refine T.iadd dX11_calls_22 (fun x3 => ?_)
    refine pR38 k1479 dX11_calls_23 (fun X4 => ?_)
    refine T.aload_n dX11_calls_26 rfl 0 rfl ?_
    refine cR123 k1480 dX11_calls_27 ?_
    refine T.aload_n dX11_calls_30 rfl 0 rfl ?_
    refine gR37 k1478 dX11_calls_31 (fun x5 => ?_)
    refine T.iconst (w := (-1)) dX11_calls_34 (by decide) ?_
    refine asR76 dX11_calls_35 (fun X6 => ?_)
    refine T.aload_n dX11_calls_36 rfl 0 rfl ?_
    refine cR124 k1481 dX11_calls_37 ?_
    refine T.aload_n dX11_calls_40 rfl 0 rfl ?_
    refine gR37 k1478 dX11_calls_41 (fun x7 => ?_)
    refine T.iload_n dX11_calls_44 rfl 2 rfl ?_
    refine asR77 dX11_calls_45 (fun X8 => ?_)
    refine T.aload_n dX11_calls_46 rfl 0 rfl ?_
    refine cR125 k1482 dX11_calls_47 ?_
    refine T.aload_n dX11_calls_50 rfl 0 rfl ?_
    refine gR37 k1478 dX11_calls_51 (fun x9 => ?_)
    refine T.aload_n dX11_calls_54 rfl 0 rfl ?_
    refine gR32 k1459 dX11_calls_55 (fun x10 => ?_)
    refine asR78 dX11_calls_58 (fun X11 => ?_)
    refine T.aload_n dX11_calls_59 rfl 0 rfl ?_
    refine T.dupr dX11_calls_60 ?_
    refine gR37 k1478 dX11_calls_61 (fun x12 => ?_)
    refine T.iconst (w := 1) dX11_calls_64 (by decide) ?_
    refine T.iadd dX11_calls_65 (fun x13 => ?_)
    refine pR37 k1478 dX11_calls_66 (fun X14 => ?_)
    refine T.aload_n dX11_calls_69 rfl 0 rfl ?_
    refine T.bipush (w := 45) dX11_calls_70 (by decide) ?_
    refine T.aload_n dX11_calls_72 rfl 0 rfl ?_
    refine gR38 k1479 dX11_calls_73 (fun x15 => ?_)
    refine T.iconst (w := 1) dX11_calls_76 (by decide) ?_
    refine T.isub dX11_calls_77 (fun x16 => ?_)
    refine T.imul dX11_calls_78 (fun x17 => ?_)
    refine pR32 k1459 dX11_calls_79 (fun X18 => ?_)
    refine T.aload_n dX11_calls_82 rfl 0 rfl ?_
    refine cR62 k1399 dX11_calls_83 ?_
    refine T.iload_n dX11_calls_86 rfl 1 rfl ?_
    refine alR15 dX11_calls_87 (fun x19 => ?_)
    refine T.iconst (w := 1) dX11_calls_88 (by decide) ?_
    refine T.isub dX11_calls_89 (fun x20 => ?_)
    refine T.istore (lv1 := [(4, .int x20), (0, .ref (Γ.2.2.2.1 0)), (1, .int p1), (2, .int p2), (3, .int p3)]) dX11_calls_90 (by decide) rfl ?_
    refine T.sub [1, 0] rfl ?_
    exact c_calls_92 Γ _ BIG x20 X18
  · refine T.aload_n dX11_calls_9 rfl 0 rfl ?_
    refine T.iconst (w := 5) dX11_calls_10 (by decide) ?_
    refine T.iload_n dX11_calls_11 rfl 3 rfl ?_
    refine T.callV_v 0 (As1 := [.int 5, .int p3]) (rest := []) (c_ends Γ (5 : Int32) p3 X) ka_X11_ends kv_X11_ends oR rfl k2104 rfl rfl rfl rfl ⟨Nat.le_of_ble_eq_true rfl, Nat.le_of_ble_eq_true rfl⟩ (Nat.le_of_ble_eq_true rfl) dX11_calls_12 (fun _ X35 => ?_)
    exact T.ret_v rfl dX11_calls_15
abbrev R_guarded : Room := { frames := 18, cells := 0, slots := 0, locals := 270 }
noncomputable def f_guarded (p1 : Int32) (p2 : Int32) (p3 : Int32) (X : St) : Option (Int32 × St) :=
  letV (X.1 0 42) fun x1 =>
  if x1.toInt = 0 then
    if p2.toInt < 0 then
      some (0, X)
    else
      letV (X.1 0 31) fun x2 =>
      letV (x2 - (1 : Int32)) fun x3 =>
      chk (inR x3 20400) (letV (X.1 60 (ix x3)) fun x4 =>
      if x4.toInt = p2.toInt then
        some (0, X)
      else
        bnd (f_ends (4 : Int32) p3 X) fun _ X5 =>
        some (0, X5))
  else
    chk (inR p1 24000) (letV (X.1 43 (ix p1)) fun x6 =>
    if x6.toInt < 0 then
      some (0, X)
    else
      letV (X.1 0 31) fun x7 =>
      letV (x7 - (1 : Int32)) fun x8 =>
      chk (inR x6 12000) (letV (X.1 53 (ix x6)) fun x9 =>
      chk (inR x6 12000) (letV (X.1 54 (ix x6)) fun x10 =>
      chk (inR x6 12000) (letV (X.1 55 (ix x6)) fun x11 =>
      chk (inR x6 12000) (letV (X.1 56 (ix x6)) fun x12 =>
      chk (inR x6 12000) (letV (X.1 52 (ix x6)) fun x13 =>
      bnd (f_asks x8 x9 x10 x11 x12 x13 X) fun _ X14 =>
      some (0, X14)))))))
set_option maxHeartbeats 4000000 in
set_option maxRecDepth 100000 in
theorem c_guarded (Γ : Gx) (p1 : Int32) (p2 : Int32) (p3 : Int32) (X : St) : TMV YR Γ yX11_guarded cX11_guarded 5 "BlameCourtModel" none R_guarded [.ref (Γ.2.2.2.1 0), .int p1, .int p2, .int p3] X (f_guarded p1 p2 p3 X) := by
  refine TMV.of (by decide) (Nat.le_of_ble_eq_true rfl) rfl ?_
  show T YR Γ cX11_guarded 5 "BlameCourtModel" none R_guarded _ qV 0 [(0, .ref (Γ.2.2.2.1 0)), (1, .int p1), (2, .int p2), (3, .int p3)] [] X (f_guarded p1 p2 p3 X)
  unfold f_guarded
  refine T.aload_n dX11_guarded_0 rfl 0 rfl ?_
  refine gR42 k1486 dX11_guarded_1 (fun x1 => ?_)
  refine T.if_eq (pc1 := 68) dX11_guarded_4 (by decide) ?_ ?_
  · refine T.iload_n dX11_guarded_68 rfl 2 rfl ?_
    refine T.if_lt (pc1 := 93) dX11_guarded_69 (by decide) ?_ ?_
    · exact T.ret_v rfl dX11_guarded_93
    · refine T.aload_n dX11_guarded_72 rfl 0 rfl ?_
      refine cR107 k1457 dX11_guarded_73 ?_
      refine T.aload_n dX11_guarded_76 rfl 0 rfl ?_
      refine gR31 k1456 dX11_guarded_77 (fun x2 => ?_)
      refine T.iconst (w := 1) dX11_guarded_80 (by decide) ?_
      refine T.isub dX11_guarded_81 (fun x3 => ?_)
      refine alR60 dX11_guarded_82 (fun x4 => ?_)
      refine T.iload_n dX11_guarded_83 rfl 2 rfl ?_
      refine T.icmp_eq (pc1 := 93) dX11_guarded_84 (by decide) rfl ?_ ?_
      · exact T.ret_v rfl dX11_guarded_93
      · refine T.aload_n dX11_guarded_87 rfl 0 rfl ?_
        refine T.iconst (w := 4) dX11_guarded_88 (by decide) ?_
        refine T.iload_n dX11_guarded_89 rfl 3 rfl ?_
        refine T.callV_v 0 (As1 := [.int 4, .int p3]) (rest := []) (c_ends Γ (4 : Int32) p3 X) ka_X11_ends kv_X11_ends oR rfl k2104 rfl rfl rfl rfl ⟨Nat.le_of_ble_eq_true rfl, Nat.le_of_ble_eq_true rfl⟩ (Nat.le_of_ble_eq_true rfl) dX11_guarded_90 (fun _ X5 => ?_)
        exact T.ret_v rfl dX11_guarded_93
  · refine T.aload_n dX11_guarded_7 rfl 0 rfl ?_
    refine cR90 k1435 dX11_guarded_8 ?_
    refine T.iload_n dX11_guarded_11 rfl 1 rfl ?_
    refine alR43 dX11_guarded_12 (fun x6 => ?_)
    refine T.istore (lv1 := [(4, .int x6), (0, .ref (Γ.2.2.2.1 0)), (1, .int p1), (2, .int p2), (3, .int p3)]) dX11_guarded_13 (by decide) rfl ?_
    refine T.iload dX11_guarded_15 0 rfl ?_
    refine T.if_lt (pc1 := 65) dX11_guarded_17 (by decide) ?_ ?_
    · refine T.goto (pc1 := 93) dX11_guarded_65 (by decide) ?_
      exact T.ret_v rfl dX11_guarded_93
    · refine T.aload_n dX11_guarded_20 rfl 1 rfl ?_
      refine T.aload_n dX11_guarded_21 rfl 1 rfl ?_
      refine gR31 k1456 dX11_guarded_22 (fun x7 => ?_)
      refine T.iconst (w := 1) dX11_guarded_25 (by decide) ?_
      refine T.isub dX11_guarded_26 (fun x8 => ?_)
      refine T.aload_n dX11_guarded_27 rfl 1 rfl ?_
      refine cR100 k1447 dX11_guarded_28 ?_
      refine T.iload dX11_guarded_31 0 rfl ?_
      refine alR53 dX11_guarded_33 (fun x9 => ?_)
      refine T.aload_n dX11_guarded_34 rfl 1 rfl ?_
      refine cR101 k1448 dX11_guarded_35 ?_
      refine T.iload dX11_guarded_38 0 rfl ?_
      refine alR54 dX11_guarded_40 (fun x10 => ?_)
      refine T.aload_n dX11_guarded_41 rfl 1 rfl ?_
      refine cR102 k1449 dX11_guarded_42 ?_
      refine T.iload dX11_guarded_45 0 rfl ?_
      refine alR55 dX11_guarded_47 (fun x11 => ?_)
      refine T.aload_n dX11_guarded_48 rfl 1 rfl ?_
      refine cR103 k1450 dX11_guarded_49 ?_
      refine T.iload dX11_guarded_52 0 rfl ?_
      refine alR56 dX11_guarded_54 (fun x12 => ?_)
      refine T.aload_n dX11_guarded_55 rfl 1 rfl ?_
      refine cR99 k1446 dX11_guarded_56 ?_
      refine T.iload dX11_guarded_59 0 rfl ?_
      refine alR52 dX11_guarded_61 (fun x13 => ?_)
      refine T.callV_v 0 (As1 := [.int x8, .int x9, .int x10, .int x11, .int x12, .int x13]) (rest := []) (c_asks Γ x8 x9 x10 x11 x12 x13 X) ka_X11_asks kv_X11_asks oR rfl k2124 rfl rfl rfl rfl ⟨Nat.le_of_ble_eq_true rfl, Nat.le_of_ble_eq_true rfl⟩ (Nat.le_of_ble_eq_true rfl) dX11_guarded_62 (fun _ X14 => ?_)
      refine T.goto (pc1 := 93) dX11_guarded_65 (by decide) ?_
      exact T.ret_v rfl dX11_guarded_93
abbrev R_call : Room := { frames := 18, cells := 0, slots := 0, locals := 270 }
noncomputable def f_call_220 (a5 : Int32) (b0 : Int32) (X : St) : Option (Int32 × St) :=
  letV (wI X 0 31 b0) fun X16 =>
  chk (inR a5 41) (letV (X16.1 44 (ix a5)) fun x17 =>
  some (x17, X16))
set_option maxHeartbeats 4000000 in
set_option maxRecDepth 100000 in
theorem c_call_220 (Γ : Gx) (As : List Value) (a5 : Int32) (b0 : Int32) (X : St) : T YR Γ cX11_call 7 "BlameCourtModel" (some .int) R_call As qI 220 [(0, .ref (Γ.2.2.2.1 0)), (5, .int a5)] [.int b0, .ref (Γ.2.2.2.1 0)] X (f_call_220 a5 b0 X) := by
  unfold f_call_220
  refine pR31 k1456 dX11_call_220 (fun X16 => ?_)
  refine T.aload_n dX11_call_223 rfl 0 rfl ?_
  refine cR91 k1436 dX11_call_224 ?_
  refine T.iload dX11_call_227 1 rfl ?_
  refine alR44 dX11_call_229 (fun x17 => ?_)
  exact T.ret_i rfl dX11_call_230
noncomputable def f_call_166 (a1 : Int32) (a2 : Int32) (a4 : Int32) (X : St) : Option (Int32 × St) :=
  bnd (f_isOn X) fun x7 X8 =>
  if x7.toInt = 0 then
    some ((-1), X8)
  else
    chk (inR a4 20400) (letV (X8.1 61 (ix a4)) fun x9 =>
    letV (a1 + (1 : Int32)) fun x10 =>
    chk (inR a2 3100) (letV (X8.1 22 (ix a2)) fun x11 =>
    bnd (f_calls x9 x10 x11 X8) fun _ X12 =>
    bnd (f_isOn X12) fun x13 X14 =>
    if x13.toInt = 0 then
      letV (X14.1 0 31) fun x15 =>
      f_call_220 x9 x15 X14
    else
      letV (X14.1 0 31) fun x18 =>
      letV (x18 - (1 : Int32)) fun x19 =>
      f_call_220 x9 x19 X14))
set_option maxHeartbeats 4000000 in
set_option maxRecDepth 100000 in
theorem c_call_166 (Γ : Gx) (As : List Value) (a1 : Int32) (a2 : Int32) (a4 : Int32) (X : St) : T YR Γ cX11_call 7 "BlameCourtModel" (some .int) R_call As qI 166 [(0, .ref (Γ.2.2.2.1 0)), (1, .int a1), (2, .int a2), (4, .int a4)] [] X (f_call_166 a1 a2 a4 X) := by
  unfold f_call_166
  refine T.aload_n dX11_call_166 rfl 0 rfl ?_
  refine T.callV_i 0 (As1 := []) (rest := []) (c_isOn Γ X) ka_X11_isOn kv_X11_isOn oR rfl k2108 rfl rfl rfl rfl ⟨Nat.le_of_ble_eq_true rfl, Nat.le_of_ble_eq_true rfl⟩ (Nat.le_of_ble_eq_true rfl) dX11_call_167 (fun x7 X8 => ?_)
  refine T.if_ne (pc1 := 175) dX11_call_170 (by decide) ?_ ?_
  · refine T.aload_n dX11_call_175 rfl 0 rfl ?_
    refine cR108 k1458 dX11_call_176 ?_
    refine T.iload dX11_call_179 3 rfl ?_
    refine alR61 dX11_call_181 (fun x9 => ?_)
    refine T.istore (lv1 := [(5, .int x9), (0, .ref (Γ.2.2.2.1 0)), (1, .int a1), (2, .int a2), (4, .int a4)]) dX11_call_182 (by decide) rfl ?_
    refine T.aload_n dX11_call_184 rfl 1 rfl ?_
    refine T.iload dX11_call_185 0 rfl ?_
    refine T.iload_n dX11_call_187 rfl 2 rfl ?_
    refine T.iconst (w := 1) dX11_call_188 (by decide) ?_
    refine T.iadd dX11_call_189 (fun x10 => ?_)
    refine T.aload_n dX11_call_190 rfl 1 rfl ?_
    refine cR69 k1407 dX11_call_191 ?_
    refine T.iload_n dX11_call_194 rfl 3 rfl ?_
    refine alR22 dX11_call_195 (fun x11 => ?_)
    refine T.callV_v 0 (As1 := [.int x9, .int x10, .int x11]) (rest := []) (c_calls Γ x9 x10 x11 X8) ka_X11_calls kv_X11_calls oR rfl k2100 rfl rfl rfl rfl ⟨Nat.le_of_ble_eq_true rfl, Nat.le_of_ble_eq_true rfl⟩ (Nat.le_of_ble_eq_true rfl) dX11_call_196 (fun _ X12 => ?_)
    refine T.aload_n dX11_call_199 rfl 1 rfl ?_
    refine T.aload_n dX11_call_200 rfl 1 rfl ?_
    refine T.callV_i 0 (As1 := []) (rest := [.ref (Γ.2.2.2.1 0)]) (c_isOn Γ X12) ka_X11_isOn kv_X11_isOn oR rfl k2108 rfl rfl rfl rfl ⟨Nat.le_of_ble_eq_true rfl, Nat.le_of_ble_eq_true rfl⟩ (Nat.le_of_ble_eq_true rfl) dX11_call_201 (fun x13 X14 => ?_)
    refine T.if_eq (pc1 := 216) dX11_call_204 (by decide) ?_ ?_
    · refine T.aload_n dX11_call_216 rfl 1 rfl ?_
      refine gR31 k1456 dX11_call_217 (fun x15 => ?_)
      refine T.sub [1, 0] rfl ?_
      exact c_call_220 Γ _ x9 x15 X14
    · refine T.aload_n dX11_call_207 rfl 1 rfl ?_
      refine gR31 k1456 dX11_call_208 (fun x18 => ?_)
      refine T.iconst (w := 1) dX11_call_211 (by decide) ?_
      refine T.isub dX11_call_212 (fun x19 => ?_)
      refine T.goto (pc1 := 220) dX11_call_213 (by decide) ?_
      refine T.sub [1, 0] rfl ?_
      exact c_call_220 Γ _ x9 x19 X14
  · refine T.iconst (w := (-1)) dX11_call_173 (by decide) ?_
    exact T.ret_i rfl dX11_call_174
noncomputable def f_call_128 (r17 : Int32 → Int32 → Int32 → Int32 → St → Option (Int32 × St)) (a1 : Int32) (a2 : Int32) (a3 : Int32) (a4 : Int32) (a5 : Int32) (X : St) : Option (Int32 × St) :=
  letV (X.1 0 37) fun x23 =>
  chk (inR x23 2300) (letV (wI X 76 (ix x23) a5) fun X24 =>
  letV (X24.1 0 37) fun x25 =>
  letV (x25 + (1 : Int32)) fun x26 =>
  letV (wI X24 0 37 x26) fun X27 =>
  chk (inR a5 1000) (letV (X27.1 67 (ix a5)) fun x28 =>
  chk (inR a4 20400) (letV (wI X27 61 (ix a4) x28) fun X29 =>
  r17 a1 a2 a3 a4 X29)))
set_option maxHeartbeats 4000000 in
set_option maxRecDepth 100000 in
theorem c_call_128 (Γ : Gx) (As : List Value) (r17 : Int32 → Int32 → Int32 → Int32 → St → Option (Int32 × St)) (hr17 : ∀ (a1 : Int32) (a2 : Int32) (a3 : Int32) (a4 : Int32) (X : St), T YR Γ cX11_call 7 "BlameCourtModel" (some .int) R_call As qI 17 [(0, .ref (Γ.2.2.2.1 0)), (1, .int a1), (2, .int a2), (3, .int a3), (4, .int a4)] [] X (r17 a1 a2 a3 a4 X)) (a1 : Int32) (a2 : Int32) (a3 : Int32) (a4 : Int32) (a5 : Int32) (X : St) : T YR Γ cX11_call 7 "BlameCourtModel" (some .int) R_call As qI 128 [(0, .ref (Γ.2.2.2.1 0)), (1, .int a1), (2, .int a2), (3, .int a3), (4, .int a4), (5, .int a5)] [] X (f_call_128 r17 a1 a2 a3 a4 a5 X) := by
  unfold f_call_128
  refine T.aload_n dX11_call_128 rfl 0 rfl ?_
  refine cR123 k1480 dX11_call_129 ?_
  refine T.aload_n dX11_call_132 rfl 0 rfl ?_
  refine gR37 k1478 dX11_call_133 (fun x23 => ?_)
  refine T.iload dX11_call_136 5 rfl ?_
  refine asR76 dX11_call_138 (fun X24 => ?_)
  refine T.aload_n dX11_call_139 rfl 0 rfl ?_
  refine T.dupr dX11_call_140 ?_
  refine gR37 k1478 dX11_call_141 (fun x25 => ?_)
  refine T.iconst (w := 1) dX11_call_144 (by decide) ?_
  refine T.iadd dX11_call_145 (fun x26 => ?_)
  refine pR37 k1478 dX11_call_146 (fun X27 => ?_)
  refine T.aload_n dX11_call_149 rfl 0 rfl ?_
  refine cR108 k1458 dX11_call_150 ?_
  refine T.iload dX11_call_153 4 rfl ?_
  refine T.aload_n dX11_call_155 rfl 0 rfl ?_
  refine cR114 k1466 dX11_call_156 ?_
  refine T.iload dX11_call_159 5 rfl ?_
  refine alR67 dX11_call_161 (fun x28 => ?_)
  refine asR61 dX11_call_162 (fun X29 => ?_)
  refine T.goto (pc1 := 17) dX11_call_163 (by decide) ?_
  refine T.sub [0, 1, 2, 3, 4] rfl ?_
  exact hr17 a1 a2 a3 a4 X29
noncomputable def f_call_51_s (r17 : Int32 → Int32 → Int32 → Int32 → St → Option (Int32 × St)) (r51 : Int32 → Int32 → Int32 → Int32 → Int32 → Int32 → St → Option (Int32 × St)) (a1 : Int32) (a2 : Int32) (a3 : Int32) (a4 : Int32) (a5 : Int32) (a6 : Int32) (X : St) : Option (Int32 × St) :=
  if a3.toInt ≤ a6.toInt then
    f_call_128 r17 a1 a2 a3 a4 a5 X
  else
    bnd (f_isOn X) fun x30 X31 =>
    if x30.toInt = 0 then
      f_call_128 r17 a1 a2 a3 a4 a5 X31
    else
      letV (a4 + (1 : Int32)) fun x32 =>
      letV (x32 + a6) fun x33 =>
      chk (inR a5 1000) (letV (X31.1 69 (ix a5)) fun x34 =>
      bnd (f_paramOf x34 a6 X31) fun x35 X36 =>
      chk (inR a5 1000) (letV (X36.1 68 (ix a5)) fun x37 =>
      bnd (f_paramOf x37 a6 X36) fun x38 X39 =>
      chk (inR a5 1000) (letV (X39.1 71 (ix a5)) fun x40 =>
      chk (inR a5 1000) (letV (X39.1 70 (ix a5)) fun x41 =>
      chk (inR a5 1000) (letV (X39.1 72 (ix a5)) fun x42 =>
      bnd (f_asks x33 x35 x38 x40 x41 x42 X39) fun _ X43 =>
      letV (a6 + Int32.ofInt (1)) fun x44 =>
      r51 a1 a2 a3 a4 a5 x44 X43)))))
noncomputable def f_call_51 (r17 : Int32 → Int32 → Int32 → Int32 → St → Option (Int32 × St)) (n : Nat) : Int32 → Int32 → Int32 → Int32 → Int32 → Int32 → St → Option (Int32 × St) := lp (fun _ _ _ _ _ _ _ => none) (f_call_51_s r17) n
set_option maxHeartbeats 4000000 in
set_option maxRecDepth 100000 in
theorem c_call_51 (Γ : Gx) (As : List Value) (r17 : Int32 → Int32 → Int32 → Int32 → St → Option (Int32 × St)) (hr17 : ∀ (a1 : Int32) (a2 : Int32) (a3 : Int32) (a4 : Int32) (X : St), T YR Γ cX11_call 7 "BlameCourtModel" (some .int) R_call As qI 17 [(0, .ref (Γ.2.2.2.1 0)), (1, .int a1), (2, .int a2), (3, .int a3), (4, .int a4)] [] X (r17 a1 a2 a3 a4 X)) (n : Nat) : ∀ (a1 : Int32) (a2 : Int32) (a3 : Int32) (a4 : Int32) (a5 : Int32) (a6 : Int32) (X : St), T YR Γ cX11_call 7 "BlameCourtModel" (some .int) R_call As qI 51 [(0, .ref (Γ.2.2.2.1 0)), (1, .int a1), (2, .int a2), (3, .int a3), (4, .int a4), (5, .int a5), (6, .int a6)] [] X (f_call_51 r17 n a1 a2 a3 a4 a5 a6 X) := by
  unfold f_call_51
  refine lp_ind (P := fun (r51 : Int32 → Int32 → Int32 → Int32 → Int32 → Int32 → St → Option (Int32 × St)) => ∀ (a1 : Int32) (a2 : Int32) (a3 : Int32) (a4 : Int32) (a5 : Int32) (a6 : Int32) (X : St), T YR Γ cX11_call 7 "BlameCourtModel" (some .int) R_call As qI 51 [(0, .ref (Γ.2.2.2.1 0)), (1, .int a1), (2, .int a2), (3, .int a3), (4, .int a4), (5, .int a5), (6, .int a6)] [] X (r51 a1 a2 a3 a4 a5 a6 X)) (fun _ _ _ _ _ _ _ => T.no) ?_ n
  intro r51 hr51 a1 a2 a3 a4 a5 a6 X
  unfold f_call_51_s
  refine T.iload dX11_call_51 6 rfl ?_
  refine T.iload_n dX11_call_53 rfl 3 rfl ?_
  refine T.icmp_ge (pc1 := 128) dX11_call_54 (by decide) rfl ?_ ?_
  · refine T.sub [0, 1, 2, 3, 4, 5] rfl ?_
    exact c_call_128 Γ _ r17 hr17 a1 a2 a3 a4 a5 X
  · refine T.aload_n dX11_call_57 rfl 0 rfl ?_
    refine T.callV_i 0 (As1 := []) (rest := []) (c_isOn Γ X) ka_X11_isOn kv_X11_isOn oR rfl k2108 rfl rfl rfl rfl ⟨Nat.le_of_ble_eq_true rfl, Nat.le_of_ble_eq_true rfl⟩ (Nat.le_of_ble_eq_true rfl) dX11_call_58 (fun x30 X31 => ?_)
    refine T.if_eq (pc1 := 128) dX11_call_61 (by decide) ?_ ?_
    · refine T.sub [0, 1, 2, 3, 4, 5] rfl ?_
      exact c_call_128 Γ _ r17 hr17 a1 a2 a3 a4 a5 X31
    · refine T.aload_n dX11_call_64 rfl 0 rfl ?_
      refine T.iload dX11_call_65 4 rfl ?_
      refine T.iconst (w := 1) dX11_call_67 (by decide) ?_
      refine T.iadd dX11_call_68 (fun x32 => ?_)
      refine T.iload dX11_call_69 6 rfl ?_
      refine T.iadd dX11_call_71 (fun x33 => ?_)
      refine T.aload_n dX11_call_72 rfl 0 rfl ?_
      refine T.aload_n dX11_call_73 rfl 0 rfl ?_
      refine cR116 k1468 dX11_call_74 ?_
      refine T.iload dX11_call_77 5 rfl ?_
      refine alR69 dX11_call_79 (fun x34 => ?_)
      refine T.iload dX11_call_80 6 rfl ?_
      refine T.callV_i 0 (As1 := [.int x34, .int a6]) (rest := [.int x33, .ref (Γ.2.2.2.1 0)]) (c_paramOf Γ x34 a6 X31) ka_X11_paramOf kv_X11_paramOf oR rfl k2044 rfl rfl rfl rfl ⟨Nat.le_of_ble_eq_true rfl, Nat.le_of_ble_eq_true rfl⟩ (Nat.le_of_ble_eq_true rfl) dX11_call_82 (fun x35 X36 => ?_)
      refine T.aload_n dX11_call_85 rfl 0 rfl ?_
      refine T.aload_n dX11_call_86 rfl 0 rfl ?_
      refine cR115 k1467 dX11_call_87 ?_
      refine T.iload dX11_call_90 5 rfl ?_
      refine alR68 dX11_call_92 (fun x37 => ?_)
      refine T.iload dX11_call_93 6 rfl ?_
      refine T.callV_i 0 (As1 := [.int x37, .int a6]) (rest := [.int x35, .int x33, .ref (Γ.2.2.2.1 0)]) (c_paramOf Γ x37 a6 X36) ka_X11_paramOf kv_X11_paramOf oR rfl k2044 rfl rfl rfl rfl ⟨Nat.le_of_ble_eq_true rfl, Nat.le_of_ble_eq_true rfl⟩ (Nat.le_of_ble_eq_true rfl) dX11_call_95 (fun x38 X39 => ?_)
      refine T.aload_n dX11_call_98 rfl 0 rfl ?_
      refine cR118 k1470 dX11_call_99 ?_
      refine T.iload dX11_call_102 5 rfl ?_
      refine alR71 dX11_call_104 (fun x40 => ?_)
      refine T.aload_n dX11_call_105 rfl 0 rfl ?_
      refine cR117 k1469 dX11_call_106 ?_
      refine T.iload dX11_call_109 5 rfl ?_
      refine alR70 dX11_call_111 (fun x41 => ?_)
      refine T.aload_n dX11_call_112 rfl 0 rfl ?_
      refine cR119 k1471 dX11_call_113 ?_
      refine T.iload dX11_call_116 5 rfl ?_
      refine alR72 dX11_call_118 (fun x42 => ?_)
      refine T.callV_v 0 (As1 := [.int x33, .int x35, .int x38, .int x40, .int x41, .int x42]) (rest := []) (c_asks Γ x33 x35 x38 x40 x41 x42 X39) ka_X11_asks kv_X11_asks oR rfl k2124 rfl rfl rfl rfl ⟨Nat.le_of_ble_eq_true rfl, Nat.le_of_ble_eq_true rfl⟩ (Nat.le_of_ble_eq_true rfl) dX11_call_119 (fun _ X43 => ?_)
      refine T.iinc dX11_call_122 6 rfl (by decide) (lvf := fun x44 => [(6, .int x44), (0, .ref (Γ.2.2.2.1 0)), (1, .int a1), (2, .int a2), (3, .int a3), (4, .int a4), (5, .int a5)]) (fun _ => rfl) (fun x44 => ?_)
      refine T.goto (pc1 := 51) dX11_call_125 (by decide) ?_
      refine T.sub [1, 2, 3, 4, 5, 6, 0] rfl ?_
      exact hr51 a1 a2 a3 a4 a5 x44 X43
noncomputable def f_call_17_s (r17 : Int32 → Int32 → Int32 → Int32 → St → Option (Int32 × St)) (a1 : Int32) (a2 : Int32) (a3 : Int32) (a4 : Int32) (X : St) : Option (Int32 × St) :=
  bnd (f_isOn X) fun x5 X6 =>
  if x5.toInt = 0 then
    f_call_166 a1 a2 a4 X6
  else
    chk (inR a4 20400) (letV (X6.1 61 (ix a4)) fun x20 =>
    if x20.toInt < 100 then
      f_call_166 a1 a2 a4 X6
    else
      chk (inR a4 20400) (letV (X6.1 61 (ix a4)) fun x21 =>
      letV (x21 - (100 : Int32)) fun x22 =>
      f_call_51 r17 BIG a1 a2 a3 a4 x22 (0 : Int32) X6))
noncomputable def f_call_17 (n : Nat) : Int32 → Int32 → Int32 → Int32 → St → Option (Int32 × St) := lp (fun _ _ _ _ _ => none) (f_call_17_s) n
set_option maxHeartbeats 4000000 in
set_option maxRecDepth 100000 in
theorem c_call_17 (Γ : Gx) (As : List Value) (n : Nat) : ∀ (a1 : Int32) (a2 : Int32) (a3 : Int32) (a4 : Int32) (X : St), T YR Γ cX11_call 7 "BlameCourtModel" (some .int) R_call As qI 17 [(0, .ref (Γ.2.2.2.1 0)), (1, .int a1), (2, .int a2), (3, .int a3), (4, .int a4)] [] X (f_call_17 n a1 a2 a3 a4 X) := by
  unfold f_call_17
  refine lp_ind (P := fun (r17 : Int32 → Int32 → Int32 → Int32 → St → Option (Int32 × St)) => ∀ (a1 : Int32) (a2 : Int32) (a3 : Int32) (a4 : Int32) (X : St), T YR Γ cX11_call 7 "BlameCourtModel" (some .int) R_call As qI 17 [(0, .ref (Γ.2.2.2.1 0)), (1, .int a1), (2, .int a2), (3, .int a3), (4, .int a4)] [] X (r17 a1 a2 a3 a4 X)) (fun _ _ _ _ _ => T.no) ?_ n
  intro r17 hr17 a1 a2 a3 a4 X
  unfold f_call_17_s
  refine T.aload_n dX11_call_17 rfl 0 rfl ?_
  refine T.callV_i 0 (As1 := []) (rest := []) (c_isOn Γ X) ka_X11_isOn kv_X11_isOn oR rfl k2108 rfl rfl rfl rfl ⟨Nat.le_of_ble_eq_true rfl, Nat.le_of_ble_eq_true rfl⟩ (Nat.le_of_ble_eq_true rfl) dX11_call_18 (fun x5 X6 => ?_)
  refine T.if_eq (pc1 := 166) dX11_call_21 (by decide) ?_ ?_
  · refine T.sub [0, 1, 2, 4] rfl ?_
    exact c_call_166 Γ _ a1 a2 a4 X6
  · refine T.aload_n dX11_call_24 rfl 0 rfl ?_
    refine cR108 k1458 dX11_call_25 ?_
    refine T.iload dX11_call_28 4 rfl ?_
    refine alR61 dX11_call_30 (fun x20 => ?_)
    refine T.bipush (w := 100) dX11_call_31 (by decide) ?_
    refine T.icmp_lt (pc1 := 166) dX11_call_33 (by decide) rfl ?_ ?_
    · refine T.sub [0, 1, 2, 4] rfl ?_
      exact c_call_166 Γ _ a1 a2 a4 X6
    · refine T.aload_n dX11_call_36 rfl 0 rfl ?_
      refine cR108 k1458 dX11_call_37 ?_
      refine T.iload dX11_call_40 4 rfl ?_
      refine alR61 dX11_call_42 (fun x21 => ?_)
      refine T.bipush (w := 100) dX11_call_43 (by decide) ?_
      refine T.isub dX11_call_45 (fun x22 => ?_)
      refine T.istore (lv1 := [(5, .int x22), (0, .ref (Γ.2.2.2.1 0)), (1, .int a1), (2, .int a2), (3, .int a3), (4, .int a4)]) dX11_call_46 (by decide) rfl ?_
      refine T.iconst (w := 0) dX11_call_48 (by decide) ?_
      refine T.istore (lv1 := [(6, .int 0), (5, .int x22), (0, .ref (Γ.2.2.2.1 0)), (1, .int a1), (2, .int a2), (3, .int a3), (4, .int a4)]) dX11_call_49 (by decide) rfl ?_
      refine T.sub [2, 3, 4, 5, 6, 1, 0] rfl ?_
      exact c_call_51 Γ _ r17 hr17 BIG a1 a2 a3 a4 x22 (0 : Int32) X6
noncomputable def f_call (p1 : Int32) (p2 : Int32) (X : St) : Option (Int32 × St) :=
  chk (inR p2 3100) (letV (X.1 27 (ix p2)) fun x1 =>
  letV (X.1 0 31) fun x2 =>
  letV (x2 - (1 : Int32)) fun x3 =>
  letV (x3 - x1) fun x4 =>
  f_call_17 BIG p1 p2 x1 x4 X)
set_option maxHeartbeats 4000000 in
set_option maxRecDepth 100000 in
theorem c_call (Γ : Gx) (p1 : Int32) (p2 : Int32) (X : St) : TMI YR Γ yX11_call cX11_call 7 "BlameCourtModel" (some .int) R_call [.ref (Γ.2.2.2.1 0), .int p1, .int p2] X (f_call p1 p2 X) := by
  refine TMI.of (by decide) (Nat.le_of_ble_eq_true rfl) rfl ?_
  show T YR Γ cX11_call 7 "BlameCourtModel" (some .int) R_call _ qI 0 [(0, .ref (Γ.2.2.2.1 0)), (1, .int p1), (2, .int p2)] [] X (f_call p1 p2 X)
  unfold f_call
  refine T.aload_n dX11_call_0 rfl 0 rfl ?_
  refine cR74 k1412 dX11_call_1 ?_
  refine T.iload_n dX11_call_4 rfl 2 rfl ?_
  refine alR27 dX11_call_5 (fun x1 => ?_)
  refine T.istore_n (lv1 := [(3, .int x1), (0, .ref (Γ.2.2.2.1 0)), (1, .int p1), (2, .int p2)]) dX11_call_6 rfl (by decide) rfl ?_
  refine T.aload_n dX11_call_7 rfl 1 rfl ?_
  refine gR31 k1456 dX11_call_8 (fun x2 => ?_)
  refine T.iconst (w := 1) dX11_call_11 (by decide) ?_
  refine T.isub dX11_call_12 (fun x3 => ?_)
  refine T.iload_n dX11_call_13 rfl 0 rfl ?_
  refine T.isub dX11_call_14 (fun x4 => ?_)
  refine T.istore (lv1 := [(4, .int x4), (3, .int x1), (0, .ref (Γ.2.2.2.1 0)), (1, .int p1), (2, .int p2)]) dX11_call_15 (by decide) rfl ?_
  refine T.sub [2, 3, 4, 1, 0] rfl ?_
  exact c_call_17 Γ _ BIG p1 p2 x1 x4 X
