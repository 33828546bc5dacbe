theorem dX11_name_0 : decode cX11_name 0 = .ok (.aload_n 0, 1) := by decide +kernel
theorem dX11_name_1 : decode cX11_name 1 = .ok (.iconst 0, 1) := by decide +kernel
theorem dX11_name_2 : decode cX11_name 2 = .ok (.putfield 328, 3) := by decide +kernel
theorem dX11_name_5 : decode cX11_name 5 = .ok (.aload_n 0, 1) := by decide +kernel
theorem dX11_name_6 : decode cX11_name 6 = .ok (.getfield 299, 3) := by decide +kernel
theorem dX11_name_9 : decode cX11_name 9 = .ok (.aload_n 0, 1) := by decide +kernel
theorem dX11_name_10 : decode cX11_name 10 = .ok (.getfield 302, 3) := by decide +kernel
theorem dX11_name_13 : decode cX11_name 13 = .ok (.if_icmp .ge 83, 3) := by decide +kernel
theorem dX11_name_16 : decode cX11_name 16 = .ok (.aload_n 0, 1) := by decide +kernel
theorem dX11_name_17 : decode cX11_name 17 = .ok (.getfield 13, 3) := by decide +kernel
theorem dX11_name_20 : decode cX11_name 20 = .ok (.aload_n 0, 1) := by decide +kernel
theorem dX11_name_21 : decode cX11_name 21 = .ok (.getfield 299, 3) := by decide +kernel
theorem dX11_name_24 : decode cX11_name 24 = .ok (.baload, 1) := by decide +kernel
theorem dX11_name_25 : decode cX11_name 25 = .ok (.invokestatic 312, 3) := by decide +kernel
theorem dX11_name_28 : decode cX11_name 28 = .ok (.ifCond .le 68, 3) := by decide +kernel
theorem dX11_name_31 : decode cX11_name 31 = .ok (.aload_n 0, 1) := by decide +kernel
theorem dX11_name_32 : decode cX11_name 32 = .ok (.aload_n 0, 1) := by decide +kernel
theorem dX11_name_33 : decode cX11_name 33 = .ok (.getfield 328, 3) := by decide +kernel
theorem dX11_name_36 : decode cX11_name 36 = .ok (.bipush 8, 2) := by decide +kernel
theorem dX11_name_38 : decode cX11_name 38 = .ok (.if_icmp .ge 28, 3) := by decide +kernel
theorem dX11_name_41 : decode cX11_name 41 = .ok (.ldc2_w 331, 3) := by decide +kernel
theorem dX11_name_44 : decode cX11_name 44 = .ok (.aload_n 0, 1) := by decide +kernel
theorem dX11_name_45 : decode cX11_name 45 = .ok (.getfield 305, 3) := by decide +kernel
theorem dX11_name_48 : decode cX11_name 48 = .ok (.lmul, 1) := by decide +kernel
theorem dX11_name_49 : decode cX11_name 49 = .ok (.aload_n 0, 1) := by decide +kernel
theorem dX11_name_50 : decode cX11_name 50 = .ok (.getfield 13, 3) := by decide +kernel
theorem dX11_name_53 : decode cX11_name 53 = .ok (.aload_n 0, 1) := by decide +kernel
theorem dX11_name_54 : decode cX11_name 54 = .ok (.getfield 299, 3) := by decide +kernel
theorem dX11_name_57 : decode cX11_name 57 = .ok (.baload, 1) := by decide +kernel
theorem dX11_name_58 : decode cX11_name 58 = .ok (.invokestatic 312, 3) := by decide +kernel
theorem dX11_name_61 : decode cX11_name 61 = .ok (.i2l, 1) := by decide +kernel
theorem dX11_name_62 : decode cX11_name 62 = .ok (.ladd, 1) := by decide +kernel
theorem dX11_name_63 : decode cX11_name 63 = .ok (.goto 7, 3) := by decide +kernel
theorem dX11_name_66 : decode cX11_name 66 = .ok (.aload_n 0, 1) := by decide +kernel
theorem dX11_name_67 : decode cX11_name 67 = .ok (.getfield 305, 3) := by decide +kernel
theorem dX11_name_70 : decode cX11_name 70 = .ok (.putfield 305, 3) := by decide +kernel
theorem dX11_name_73 : decode cX11_name 73 = .ok (.aload_n 0, 1) := by decide +kernel
theorem dX11_name_74 : decode cX11_name 74 = .ok (.dup, 1) := by decide +kernel
theorem dX11_name_75 : decode cX11_name 75 = .ok (.getfield 328, 3) := by decide +kernel
theorem dX11_name_78 : decode cX11_name 78 = .ok (.iconst 1, 1) := by decide +kernel
theorem dX11_name_79 : decode cX11_name 79 = .ok (.iadd, 1) := by decide +kernel
theorem dX11_name_80 : decode cX11_name 80 = .ok (.putfield 328, 3) := by decide +kernel
theorem dX11_name_83 : decode cX11_name 83 = .ok (.aload_n 0, 1) := by decide +kernel
theorem dX11_name_84 : decode cX11_name 84 = .ok (.dup, 1) := by decide +kernel
theorem dX11_name_85 : decode cX11_name 85 = .ok (.getfield 299, 3) := by decide +kernel
theorem dX11_name_88 : decode cX11_name 88 = .ok (.iconst 1, 1) := by decide +kernel
theorem dX11_name_89 : decode cX11_name 89 = .ok (.iadd, 1) := by decide +kernel
theorem dX11_name_90 : decode cX11_name 90 = .ok (.putfield 299, 3) := by decide +kernel
theorem dX11_name_93 : decode cX11_name 93 = .ok (.goto (-88), 3) := by decide +kernel
theorem dX11_name_96 : decode cX11_name 96 = .ok (.aload_n 0, 1) := by decide +kernel
theorem dX11_name_97 : decode cX11_name 97 = .ok (.getfield 328, 3) := by decide +kernel
theorem dX11_name_100 : decode cX11_name 100 = .ok (.iconst 5, 1) := by decide +kernel
theorem dX11_name_101 : decode cX11_name 101 = .ok (.if_icmp .le 7, 3) := by decide +kernel
theorem dX11_name_104 : decode cX11_name 104 = .ok (.iconst (-1), 1) := by decide +kernel
theorem dX11_name_105 : decode cX11_name 105 = .ok (.goto 10, 3) := by decide +kernel
theorem dX11_name_108 : decode cX11_name 108 = .ok (.aload_n 0, 1) := by decide +kernel
theorem dX11_name_109 : decode cX11_name 109 = .ok (.getfield 305, 3) := by decide +kernel
theorem dX11_name_112 : decode cX11_name 112 = .ok (.invokestatic 333, 3) := by decide +kernel
theorem dX11_name_115 : decode cX11_name 115 = .ok (.istore_n 1, 1) := by decide +kernel
theorem dX11_name_116 : decode cX11_name 116 = .ok (.aload_n 0, 1) := by decide +kernel
theorem dX11_name_117 : decode cX11_name 117 = .ok (.iload_n 1, 1) := by decide +kernel
theorem dX11_name_118 : decode cX11_name 118 = .ok (.ifCond .lt 7, 3) := by decide +kernel
theorem dX11_name_121 : decode cX11_name 121 = .ok (.iconst 2, 1) := by decide +kernel
theorem dX11_name_122 : decode cX11_name 122 = .ok (.goto 17, 3) := by decide +kernel
theorem dX11_name_125 : decode cX11_name 125 = .ok (.aload_n 0, 1) := by decide +kernel
theorem dX11_name_126 : decode cX11_name 126 = .ok (.getfield 328, 3) := by decide +kernel
theorem dX11_name_129 : decode cX11_name 129 = .ok (.bipush 8, 2) := by decide +kernel
theorem dX11_name_131 : decode cX11_name 131 = .ok (.if_icmp .le 7, 3) := by decide +kernel
theorem dX11_name_134 : decode cX11_name 134 = .ok (.iconst 5, 1) := by decide +kernel
theorem dX11_name_135 : decode cX11_name 135 = .ok (.goto 4, 3) := by decide +kernel
theorem dX11_name_138 : decode cX11_name 138 = .ok (.iconst 1, 1) := by decide +kernel
theorem dX11_name_139 : decode cX11_name 139 = .ok (.putfield 309, 3) := by decide +kernel
theorem dX11_name_142 : decode cX11_name 142 = .ok (.aload_n 0, 1) := by decide +kernel
theorem dX11_name_143 : decode cX11_name 143 = .ok (.iload_n 1, 1) := by decide +kernel
theorem dX11_name_144 : decode cX11_name 144 = .ok (.ifCond .lt 8, 3) := by decide +kernel
theorem dX11_name_147 : decode cX11_name 147 = .ok (.iload_n 1, 1) := by decide +kernel
theorem dX11_name_148 : decode cX11_name 148 = .ok (.i2l, 1) := by decide +kernel
theorem dX11_name_149 : decode cX11_name 149 = .ok (.goto 7, 3) := by decide +kernel
theorem dX11_name_152 : decode cX11_name 152 = .ok (.aload_n 0, 1) := by decide +kernel
theorem dX11_name_153 : decode cX11_name 153 = .ok (.getfield 305, 3) := by decide +kernel
theorem dX11_name_156 : decode cX11_name 156 = .ok (.putfield 305, 3) := by decide +kernel
theorem dX11_name_159 : decode cX11_name 159 = .ok (.return_, 1) := by decide +kernel
theorem dX11_next_0 : decode cX11_next 0 = .ok (.aload_n 0, 1) := by decide +kernel
theorem dX11_next_1 : decode cX11_next 1 = .ok (.getfield 299, 3) := by decide +kernel
theorem dX11_next_4 : decode cX11_next 4 = .ok (.aload_n 0, 1) := by decide +kernel
theorem dX11_next_5 : decode cX11_next 5 = .ok (.getfield 302, 3) := by decide +kernel
theorem dX11_next_8 : decode cX11_next 8 = .ok (.if_icmp .ge 44, 3) := by decide +kernel
theorem dX11_next_11 : decode cX11_next 11 = .ok (.aload_n 0, 1) := by decide +kernel
theorem dX11_next_12 : decode cX11_next 12 = .ok (.getfield 13, 3) := by decide +kernel
theorem dX11_next_15 : decode cX11_next 15 = .ok (.aload_n 0, 1) := by decide +kernel
theorem dX11_next_16 : decode cX11_next 16 = .ok (.getfield 299, 3) := by decide +kernel
theorem dX11_next_19 : decode cX11_next 19 = .ok (.baload, 1) := by decide +kernel
theorem dX11_next_20 : decode cX11_next 20 = .ok (.bipush 32, 2) := by decide +kernel
theorem dX11_next_22 : decode cX11_next 22 = .ok (.if_icmp .eq 17, 3) := by decide +kernel
theorem dX11_next_25 : decode cX11_next 25 = .ok (.aload_n 0, 1) := by decide +kernel
theorem dX11_next_26 : decode cX11_next 26 = .ok (.getfield 13, 3) := by decide +kernel
theorem dX11_next_29 : decode cX11_next 29 = .ok (.aload_n 0, 1) := by decide +kernel
theorem dX11_next_30 : decode cX11_next 30 = .ok (.getfield 299, 3) := by decide +kernel
theorem dX11_next_33 : decode cX11_next 33 = .ok (.baload, 1) := by decide +kernel
theorem dX11_next_34 : decode cX11_next 34 = .ok (.bipush 10, 2) := by decide +kernel
theorem dX11_next_36 : decode cX11_next 36 = .ok (.if_icmp .ne 16, 3) := by decide +kernel
theorem dX11_next_39 : decode cX11_next 39 = .ok (.aload_n 0, 1) := by decide +kernel
theorem dX11_next_40 : decode cX11_next 40 = .ok (.dup, 1) := by decide +kernel
theorem dX11_next_41 : decode cX11_next 41 = .ok (.getfield 299, 3) := by decide +kernel
theorem dX11_next_44 : decode cX11_next 44 = .ok (.iconst 1, 1) := by decide +kernel
theorem dX11_next_45 : decode cX11_next 45 = .ok (.iadd, 1) := by decide +kernel
theorem dX11_next_46 : decode cX11_next 46 = .ok (.putfield 299, 3) := by decide +kernel
theorem dX11_next_49 : decode cX11_next 49 = .ok (.goto (-49), 3) := by decide +kernel
theorem dX11_next_52 : decode cX11_next 52 = .ok (.aload_n 0, 1) := by decide +kernel
theorem dX11_next_53 : decode cX11_next 53 = .ok (.aload_n 0, 1) := by decide +kernel
theorem dX11_next_54 : decode cX11_next 54 = .ok (.getfield 299, 3) := by decide +kernel
theorem dX11_next_57 : decode cX11_next 57 = .ok (.putfield 292, 3) := by decide +kernel
theorem dX11_next_60 : decode cX11_next 60 = .ok (.aload_n 0, 1) := by decide +kernel
theorem dX11_next_61 : decode cX11_next 61 = .ok (.lconst 0, 1) := by decide +kernel
theorem dX11_next_62 : decode cX11_next 62 = .ok (.putfield 305, 3) := by decide +kernel
theorem dX11_next_65 : decode cX11_next 65 = .ok (.aload_n 0, 1) := by decide +kernel
theorem dX11_next_66 : decode cX11_next 66 = .ok (.getfield 299, 3) := by decide +kernel
theorem dX11_next_69 : decode cX11_next 69 = .ok (.aload_n 0, 1) := by decide +kernel
theorem dX11_next_70 : decode cX11_next 70 = .ok (.getfield 302, 3) := by decide +kernel
theorem dX11_next_73 : decode cX11_next 73 = .ok (.if_icmp .ne 9, 3) := by decide +kernel
theorem dX11_next_76 : decode cX11_next 76 = .ok (.aload_n 0, 1) := by decide +kernel
theorem dX11_next_77 : decode cX11_next 77 = .ok (.iconst 0, 1) := by decide +kernel
theorem dX11_next_78 : decode cX11_next 78 = .ok (.putfield 309, 3) := by decide +kernel
theorem dX11_next_81 : decode cX11_next 81 = .ok (.return_, 1) := by decide +kernel
theorem dX11_next_82 : decode cX11_next 82 = .ok (.aload_n 0, 1) := by decide +kernel
theorem dX11_next_83 : decode cX11_next 83 = .ok (.getfield 13, 3) := by decide +kernel
theorem dX11_next_86 : decode cX11_next 86 = .ok (.aload_n 0, 1) := by decide +kernel
theorem dX11_next_87 : decode cX11_next 87 = .ok (.getfield 299, 3) := by decide +kernel
theorem dX11_next_90 : decode cX11_next 90 = .ok (.baload, 1) := by decide +kernel
theorem dX11_next_91 : decode cX11_next 91 = .ok (.istore_n 1, 1) := by decide +kernel
theorem dX11_next_92 : decode cX11_next 92 = .ok (.iload_n 1, 1) := by decide +kernel
theorem dX11_next_93 : decode cX11_next 93 = .ok (.invokestatic 312, 3) := by decide +kernel
theorem dX11_next_96 : decode cX11_next 96 = .ok (.ifCond .le 10, 3) := by decide +kernel
theorem dX11_next_99 : decode cX11_next 99 = .ok (.aload_n 0, 1) := by decide +kernel
theorem dX11_next_100 : decode cX11_next 100 = .ok (.invokevirtual 316, 3) := by decide +kernel
theorem dX11_next_103 : decode cX11_next 103 = .ok (.goto 112, 3) := by decide +kernel
theorem dX11_next_106 : decode cX11_next 106 = .ok (.iload_n 1, 1) := by decide +kernel
theorem dX11_next_107 : decode cX11_next 107 = .ok (.bipush 48, 2) := by decide +kernel
theorem dX11_next_109 : decode cX11_next 109 = .ok (.bipush 57, 2) := by decide +kernel
theorem dX11_next_111 : decode cX11_next 111 = .ok (.invokestatic 282, 3) := by decide +kernel
theorem dX11_next_114 : decode cX11_next 114 = .ok (.ifCond .eq 96, 3) := by decide +kernel
theorem dX11_next_117 : decode cX11_next 117 = .ok (.aload_n 0, 1) := by decide +kernel
theorem dX11_next_118 : decode cX11_next 118 = .ok (.iconst 3, 1) := by decide +kernel
theorem dX11_next_119 : decode cX11_next 119 = .ok (.putfield 309, 3) := by decide +kernel
theorem dX11_next_122 : decode cX11_next 122 = .ok (.aload_n 0, 1) := by decide +kernel
theorem dX11_next_123 : decode cX11_next 123 = .ok (.getfield 299, 3) := by decide +kernel
theorem dX11_next_126 : decode cX11_next 126 = .ok (.aload_n 0, 1) := by decide +kernel
theorem dX11_next_127 : decode cX11_next 127 = .ok (.getfield 302, 3) := by decide +kernel
theorem dX11_next_130 : decode cX11_next 130 = .ok (.if_icmp .ge 85, 3) := by decide +kernel
theorem dX11_next_133 : decode cX11_next 133 = .ok (.aload_n 0, 1) := by decide +kernel
theorem dX11_next_134 : decode cX11_next 134 = .ok (.getfield 13, 3) := by decide +kernel
theorem dX11_next_137 : decode cX11_next 137 = .ok (.aload_n 0, 1) := by decide +kernel
theorem dX11_next_138 : decode cX11_next 138 = .ok (.getfield 299, 3) := by decide +kernel
theorem dX11_next_141 : decode cX11_next 141 = .ok (.baload, 1) := by decide +kernel
theorem dX11_next_142 : decode cX11_next 142 = .ok (.bipush 48, 2) := by decide +kernel
theorem dX11_next_144 : decode cX11_next 144 = .ok (.bipush 57, 2) := by decide +kernel
theorem dX11_next_146 : decode cX11_next 146 = .ok (.invokestatic 282, 3) := by decide +kernel
theorem dX11_next_149 : decode cX11_next 149 = .ok (.ifCond .eq 66, 3) := by decide +kernel
theorem dX11_next_152 : decode cX11_next 152 = .ok (.aload_n 0, 1) := by decide +kernel
theorem dX11_next_153 : decode cX11_next 153 = .ok (.aload_n 0, 1) := by decide +kernel
theorem dX11_next_154 : decode cX11_next 154 = .ok (.getfield 305, 3) := by decide +kernel
theorem dX11_next_157 : decode cX11_next 157 = .ok (.ldc2_w 319, 3) := by decide +kernel
theorem dX11_next_160 : decode cX11_next 160 = .ok (.lcmp, 1) := by decide +kernel
theorem dX11_next_161 : decode cX11_next 161 = .ok (.ifCond .le 10, 3) := by decide +kernel
theorem dX11_next_164 : decode cX11_next 164 = .ok (.aload_n 0, 1) := by decide +kernel
theorem dX11_next_165 : decode cX11_next 165 = .ok (.getfield 305, 3) := by decide +kernel
theorem dX11_next_168 : decode cX11_next 168 = .ok (.goto 26, 3) := by decide +kernel
theorem dX11_next_171 : decode cX11_next 171 = .ok (.ldc2_w 321, 3) := by decide +kernel
theorem dX11_next_174 : decode cX11_next 174 = .ok (.aload_n 0, 1) := by decide +kernel
theorem dX11_next_175 : decode cX11_next 175 = .ok (.getfield 305, 3) := by decide +kernel
theorem dX11_next_178 : decode cX11_next 178 = .ok (.lmul, 1) := by decide +kernel
theorem dX11_next_179 : decode cX11_next 179 = .ok (.aload_n 0, 1) := by decide +kernel
theorem dX11_next_180 : decode cX11_next 180 = .ok (.getfield 13, 3) := by decide +kernel
theorem dX11_next_183 : decode cX11_next 183 = .ok (.aload_n 0, 1) := by decide +kernel
theorem dX11_next_184 : decode cX11_next 184 = .ok (.getfield 299, 3) := by decide +kernel
theorem dX11_next_187 : decode cX11_next 187 = .ok (.baload, 1) := by decide +kernel
theorem dX11_next_188 : decode cX11_next 188 = .ok (.i2l, 1) := by decide +kernel
theorem dX11_next_189 : decode cX11_next 189 = .ok (.ladd, 1) := by decide +kernel
theorem dX11_next_190 : decode cX11_next 190 = .ok (.ldc2_w 323, 3) := by decide +kernel
theorem dX11_next_193 : decode cX11_next 193 = .ok (.lsub, 1) := by decide +kernel
theorem dX11_next_194 : decode cX11_next 194 = .ok (.putfield 305, 3) := by decide +kernel
theorem dX11_next_197 : decode cX11_next 197 = .ok (.aload_n 0, 1) := by decide +kernel
theorem dX11_next_198 : decode cX11_next 198 = .ok (.dup, 1) := by decide +kernel
theorem dX11_next_199 : decode cX11_next 199 = .ok (.getfield 299, 3) := by decide +kernel
theorem dX11_next_202 : decode cX11_next 202 = .ok (.iconst 1, 1) := by decide +kernel
theorem dX11_next_203 : decode cX11_next 203 = .ok (.iadd, 1) := by decide +kernel
theorem dX11_next_204 : decode cX11_next 204 = .ok (.putfield 299, 3) := by decide +kernel
theorem dX11_next_207 : decode cX11_next 207 = .ok (.goto (-85), 3) := by decide +kernel
theorem dX11_next_210 : decode cX11_next 210 = .ok (.aload_n 0, 1) := by decide +kernel
theorem dX11_next_211 : decode cX11_next 211 = .ok (.iload_n 1, 1) := by decide +kernel
theorem dX11_next_212 : decode cX11_next 212 = .ok (.invokevirtual 325, 3) := by decide +kernel
theorem dX11_next_215 : decode cX11_next 215 = .ok (.return_, 1) := by decide +kernel
theorem dX11_sign_0 : decode cX11_sign 0 = .ok (.aload_n 0, 1) := by decide +kernel
theorem dX11_sign_1 : decode cX11_sign 1 = .ok (.iconst 4, 1) := by decide +kernel
theorem dX11_sign_2 : decode cX11_sign 2 = .ok (.putfield 309, 3) := by decide +kernel
theorem dX11_sign_5 : decode cX11_sign 5 = .ok (.aload_n 0, 1) := by decide +kernel
theorem dX11_sign_6 : decode cX11_sign 6 = .ok (.iload_n 1, 1) := by decide +kernel
theorem dX11_sign_7 : decode cX11_sign 7 = .ok (.i2l, 1) := by decide +kernel
theorem dX11_sign_8 : decode cX11_sign 8 = .ok (.putfield 305, 3) := by decide +kernel
theorem dX11_sign_11 : decode cX11_sign 11 = .ok (.aload_n 0, 1) := by decide +kernel
theorem dX11_sign_12 : decode cX11_sign 12 = .ok (.dup, 1) := by decide +kernel
theorem dX11_sign_13 : decode cX11_sign 13 = .ok (.getfield 299, 3) := by decide +kernel
theorem dX11_sign_16 : decode cX11_sign 16 = .ok (.iconst 1, 1) := by decide +kernel
theorem dX11_sign_17 : decode cX11_sign 17 = .ok (.iadd, 1) := by decide +kernel
theorem dX11_sign_18 : decode cX11_sign 18 = .ok (.putfield 299, 3) := by decide +kernel
theorem dX11_sign_21 : decode cX11_sign 21 = .ok (.iload_n 1, 1) := by decide +kernel
theorem dX11_sign_22 : decode cX11_sign 22 = .ok (.bipush 58, 2) := by decide +kernel
theorem dX11_sign_24 : decode cX11_sign 24 = .ok (.if_icmp .ne 46, 3) := by decide +kernel
theorem dX11_sign_27 : decode cX11_sign 27 = .ok (.aload_n 0, 1) := by decide +kernel
theorem dX11_sign_28 : decode cX11_sign 28 = .ok (.getfield 299, 3) := by decide +kernel
theorem dX11_sign_31 : decode cX11_sign 31 = .ok (.aload_n 0, 1) := by decide +kernel
theorem dX11_sign_32 : decode cX11_sign 32 = .ok (.getfield 302, 3) := by decide +kernel
theorem dX11_sign_35 : decode cX11_sign 35 = .ok (.if_icmp .ge 35, 3) := by decide +kernel
theorem dX11_sign_38 : decode cX11_sign 38 = .ok (.aload_n 0, 1) := by decide +kernel
theorem dX11_sign_39 : decode cX11_sign 39 = .ok (.getfield 13, 3) := by decide +kernel
theorem dX11_sign_42 : decode cX11_sign 42 = .ok (.aload_n 0, 1) := by decide +kernel
theorem dX11_sign_43 : decode cX11_sign 43 = .ok (.getfield 299, 3) := by decide +kernel
theorem dX11_sign_46 : decode cX11_sign 46 = .ok (.baload, 1) := by decide +kernel
theorem dX11_sign_47 : decode cX11_sign 47 = .ok (.bipush 61, 2) := by decide +kernel
theorem dX11_sign_49 : decode cX11_sign 49 = .ok (.if_icmp .ne 21, 3) := by decide +kernel
theorem dX11_sign_52 : decode cX11_sign 52 = .ok (.aload_n 0, 1) := by decide +kernel
theorem dX11_sign_53 : decode cX11_sign 53 = .ok (.ldc2_w 339, 3) := by decide +kernel
theorem dX11_sign_56 : decode cX11_sign 56 = .ok (.putfield 305, 3) := by decide +kernel
theorem dX11_sign_59 : decode cX11_sign 59 = .ok (.aload_n 0, 1) := by decide +kernel
theorem dX11_sign_60 : decode cX11_sign 60 = .ok (.dup, 1) := by decide +kernel
theorem dX11_sign_61 : decode cX11_sign 61 = .ok (.getfield 299, 3) := by decide +kernel
theorem dX11_sign_64 : decode cX11_sign 64 = .ok (.iconst 1, 1) := by decide +kernel
theorem dX11_sign_65 : decode cX11_sign 65 = .ok (.iadd, 1) := by decide +kernel
theorem dX11_sign_66 : decode cX11_sign 66 = .ok (.putfield 299, 3) := by decide +kernel
theorem dX11_sign_69 : decode cX11_sign 69 = .ok (.return_, 1) := by decide +kernel
theorem dX11_sign_70 : decode cX11_sign 70 = .ok (.iload_n 1, 1) := by decide +kernel
theorem dX11_sign_71 : decode cX11_sign 71 = .ok (.lookupswitch 148 #[(33, 145), (37, 145), (40, 145), (41, 145), (42, 145), (43, 145), (44, 145), (45, 145), (47, 145), (58, 145), (59, 145), (60, 145), (61, 145), (91, 145), (93, 145), (123, 145), (125, 145)], 145) := by decide +kernel
theorem dX11_sign_216 : decode cX11_sign 216 = .ok (.goto 8, 3) := by decide +kernel
theorem dX11_sign_219 : decode cX11_sign 219 = .ok (.aload_n 0, 1) := by decide +kernel
theorem dX11_sign_220 : decode cX11_sign 220 = .ok (.iconst 5, 1) := by decide +kernel
theorem dX11_sign_221 : decode cX11_sign 221 = .ok (.putfield 309, 3) := by decide +kernel
theorem dX11_sign_224 : decode cX11_sign 224 = .ok (.return_, 1) := by decide +kernel
theorem k1367 : Cond.fieldLink "BlameCourtModel" 13 "BlameCourtModel" "text" "[B" ∈ gtb := gtm (in_tables_1_5 (List.mem_of_getElem? (i := 221) rfl)) rfl
theorem k1368 : Cond.fieldLink "BlameCourtModel" 302 "BlameCourtModel" "length" "I" ∈ gtb := gtm (in_tables_1_5 (List.mem_of_getElem? (i := 222) rfl)) rfl
theorem k1373 : Cond.fieldLink "BlameCourtModel" 299 "BlameCourtModel" "at" "I" ∈ gtb := gtm (in_tables_1_5 (List.mem_of_getElem? (i := 227) rfl)) rfl
theorem k1377 : Cond.fieldLink "BlameCourtModel" 328 "BlameCourtModel" "letters" "I" ∈ gtb := gtm (in_tables_1_5 (List.mem_of_getElem? (i := 231) rfl)) rfl
theorem k1780 : Cond.methodLink "BlameCourtModel" 312 yX11_letterOf ∈ gtb := gtm (in_tables_1_7 (List.mem_of_getElem? (i := 154) rfl)) rfl
theorem k1783 : Cond.methodLink "BlameCourtModel" 316 yX11_name ∈ gtb := gtm (in_tables_1_7 (List.mem_of_getElem? (i := 157) rfl)) rfl
theorem k1787 : Cond.constantLong "BlameCourtModel" 331 64 ∈ gtb := gtm (in_tables_1_7 (List.mem_of_getElem? (i := 161) rfl)) rfl
theorem k1788 : Cond.methodLink "BlameCourtModel" 333 yX11_wordOf ∈ gtb := gtm (in_tables_1_7 (List.mem_of_getElem? (i := 162) rfl)) rfl
theorem k1792 : Cond.constantLong "BlameCourtModel" 319 2147483647 ∈ gtb := gtm (in_tables_1_7 (List.mem_of_getElem? (i := 166) rfl)) rfl
theorem k1793 : Cond.constantLong "BlameCourtModel" 321 10 ∈ gtb := gtm (in_tables_1_7 (List.mem_of_getElem? (i := 167) rfl)) rfl
theorem k1794 : Cond.constantLong "BlameCourtModel" 323 48 ∈ gtb := gtm (in_tables_1_7 (List.mem_of_getElem? (i := 168) rfl)) rfl
theorem k1795 : Cond.methodLink "BlameCourtModel" 325 yX11_sign ∈ gtb := gtm (in_tables_1_7 (List.mem_of_getElem? (i := 169) rfl)) rfl
theorem k1799 : Cond.constantLong "BlameCourtModel" 339 1000 ∈ gtb := gtm (in_tables_1_7 (List.mem_of_getElem? (i := 173) rfl)) rfl
theorem k1786 : Cond.code yX11_name cX11_name 2 none ∈ gtb := gtm (in_tables_1_7 (List.mem_of_getElem? (i := 160) rfl)) rfl
theorem ka_X11_name : KA yX11_name cX11_name 2 none 0 := ⟨k1786, k197, by decide, by decide, by decide +kernel⟩
theorem k1785 : Cond.instanceMethod yX11_name ∈ gtb := gtm (in_tables_1_7 (List.mem_of_getElem? (i := 159) rfl)) rfl
theorem k100 : Cond.selects "BlameCourtModel" yX11_name yX11_name ∈ gtb := gtm (in_lw_privs_7 (q := (yX11_name, 129)) (List.mem_of_getElem? (i := 4) rfl)) rfl
theorem kv_X11_name : KV yX11_name := ⟨k1785, k100⟩
theorem k1779 : Cond.code yX11_next cX11_next 2 none ∈ gtb := gtm (in_tables_1_7 (List.mem_of_getElem? (i := 153) rfl)) rfl
theorem ka_X11_next : KA yX11_next cX11_next 2 none 0 := ⟨k1779, k197, by decide, by decide, by decide +kernel⟩
theorem k1778 : Cond.instanceMethod yX11_next ∈ gtb := gtm (in_tables_1_7 (List.mem_of_getElem? (i := 152) rfl)) rfl
theorem k99 : Cond.selects "BlameCourtModel" yX11_next yX11_next ∈ gtb := gtm (in_lw_privs_7 (q := (yX11_next, 129)) (List.mem_of_getElem? (i := 3) rfl)) rfl
theorem kv_X11_next : KV yX11_next := ⟨k1778, k99⟩
theorem k1798 : Cond.code yX11_sign cX11_sign 2 none ∈ gtb := gtm (in_tables_1_7 (List.mem_of_getElem? (i := 172) rfl)) rfl
theorem ka_X11_sign : KA yX11_sign cX11_sign 2 none 1 := ⟨k1798, k197, by decide, by decide, by decide +kernel⟩
theorem k1797 : Cond.instanceMethod yX11_sign ∈ gtb := gtm (in_tables_1_7 (List.mem_of_getElem? (i := 171) rfl)) rfl
theorem k101 : Cond.selects "BlameCourtModel" yX11_sign yX11_sign ∈ gtb := gtm (in_lw_privs_7 (q := (yX11_sign, 129)) (List.mem_of_getElem? (i := 5) rfl)) rfl
theorem kv_X11_sign : KV yX11_sign := ⟨k1797, k101⟩
def letV (x : Int32) : Int32 := if 97 ≤ x.toInt ∧ x.toInt ≤ 122 then x - 96 else if 65 ≤ x.toInt ∧ x.toInt ≤ 90 then x - 38 else 0

set_option maxHeartbeats 4000000 in
set_option maxRecDepth 100000 in
theorem m_letterV (l : Launch) (dC : Nat → ClassId) (dI : Nat → Nat → Nat) (x : Int32) (sz : Nat) : PCi l dC dI yX11_letterOf cX11_letterOf 1 (some .int) ({ frames := 10, cells := 0, slots := 0, locals := 150 } : Room) [.int x] (fun r => r = letV x) sz := by
  refine pbody_i (by decide) (Nat.le_of_ble_eq_true rfl) ?_
  intro p e s m below meth c ls A H hf hr hlk hw hl
  have hl : lv_has ls 1 [(0, .int x)] := hl
  refine lv_iload_n hf.1 hf.2.1 dX11_letterOf_0 rfl (lv_at hl 0 rfl) ?_
  refine lv_bipush (v := 97) hf.1 hf.2.1 dX11_letterOf_1 (by decide) ?_
  refine lv_bipush (v := 122) hf.1 hf.2.1 dX11_letterOf_3 (by decide) ?_
  refine pcall_i (As := [.int x, .int 97, .int 122]) (rest := []) hf hw (m_in l dC dI x 97 122 H.size) ka_X11_in k1766 k1765 rfl rfl hl.1 rfl rfl ⟨Nat.le_of_ble_eq_true rfl, Nat.le_of_ble_eq_true rfl⟩ (Nat.le_of_ble_eq_true rfl) ⟨Nat.le_refl _, Nat.le_refl _⟩ dX11_letterOf_5 (fun r_1 hr_1 H locs hw => ?_)
  have hr_1 : (r_1.toInt = 0 ∨ r_1.toInt = 1) ∧ (r_1.toInt = 1 → (97 : Int) ≤ x.toInt ∧ x.toInt ≤ (122 : Int)) ∧ (r_1.toInt = 0 → x.toInt < (97 : Int) ∨ (122 : Int) < x.toInt) := hr_1
  refine lv_if_eq (tgt := 18) hf.1 hf.2.1 dX11_letterOf_8 (by decide) (fun c_2 => ?_) (fun c_2 => ?_)
  · have ic_2 : r_1.toInt = (0 : Int) := ti_eq c_2
    refine lv_iload_n hf.1 hf.2.1 dX11_letterOf_18 rfl (lv_at hl 0 rfl) ?_
    refine lv_bipush (v := 65) hf.1 hf.2.1 dX11_letterOf_19 (by decide) ?_
    refine lv_bipush (v := 90) hf.1 hf.2.1 dX11_letterOf_21 (by decide) ?_
    refine pcall_i (As := [.int x, .int 65, .int 90]) (rest := []) hf hw (m_in l dC dI x 65 90 H.size) ka_X11_in k1766 k1765 rfl rfl hl.1 rfl rfl ⟨Nat.le_of_ble_eq_true rfl, Nat.le_of_ble_eq_true rfl⟩ (Nat.le_of_ble_eq_true rfl) ⟨Nat.le_refl _, Nat.le_refl _⟩ dX11_letterOf_23 (fun r_3 hr_3 H locs hw => ?_)
    have hr_3 : (r_3.toInt = 0 ∨ r_3.toInt = 1) ∧ (r_3.toInt = 1 → (65 : Int) ≤ x.toInt ∧ x.toInt ≤ (90 : Int)) ∧ (r_3.toInt = 0 → x.toInt < (65 : Int) ∨ (90 : Int) < x.toInt) := hr_3
    refine lv_if_eq (tgt := 36) hf.1 hf.2.1 dX11_letterOf_26 (by decide) (fun c_4 => ?_) (fun c_4 => ?_)
    · have ic_4 : r_3.toInt = (0 : Int) := ti_eq c_4
      refine lv_iconst (v := 0) hf.1 hf.2.1 dX11_letterOf_36 (by decide) ?_
      exact mret_i (v := 0) hf hr hlk hw () (by unfold letV; first | (rw [if_pos (by omega)]; done) | (rw [if_neg (by omega), if_pos (by omega)]; done) | (rw [if_neg (by omega), if_neg (by omega)]; done)) [] [] rfl rfl rfl (Nat.le_refl _) (Nat.le_refl _) dX11_letterOf_37
    · have ic_4 : ¬ r_3.toInt = (0 : Int) := ti_ne c_4
      refine lv_iload_n hf.1 hf.2.1 dX11_letterOf_29 rfl (lv_at hl 0 rfl) ?_
      refine lv_bipush (v := 38) hf.1 hf.2.1 dX11_letterOf_30 (by decide) ?_
      refine lv_isub hf.1 hf.2.1 dX11_letterOf_32 ?_
      refine lv_topi (fun x_5 ex_5 => ?_)
      refine lv_goto (tgt := 37) hf.1 hf.2.1 dX11_letterOf_33 (by decide) ?_
      exact mret_i (v := x_5) hf hr hlk hw () (by unfold letV; first | (rw [if_pos (by omega)]; exact ex_5; done) | (rw [if_neg (by omega), if_pos (by omega)]; exact ex_5; done) | (rw [if_neg (by omega), if_neg (by omega)]; done)) [] [] rfl rfl rfl (Nat.le_refl _) (Nat.le_refl _) dX11_letterOf_37
  · have ic_2 : ¬ r_1.toInt = (0 : Int) := ti_ne c_2
    refine lv_iload_n hf.1 hf.2.1 dX11_letterOf_11 rfl (lv_at hl 0 rfl) ?_
    refine lv_bipush (v := 96) hf.1 hf.2.1 dX11_letterOf_12 (by decide) ?_
    refine lv_isub hf.1 hf.2.1 dX11_letterOf_14 ?_
    refine lv_topi (fun x_6 ex_6 => ?_)
    refine lv_goto (tgt := 37) hf.1 hf.2.1 dX11_letterOf_15 (by decide) ?_
    exact mret_i (v := x_6) hf hr hlk hw () (by unfold letV; first | (rw [if_pos (by omega)]; exact ex_6; done) | (rw [if_neg (by omega), if_pos (by omega)]; exact ex_6; done) | (rw [if_neg (by omega), if_neg (by omega)]; done)) [] [] rfl rfl rfl (Nat.le_refl _) (Nat.le_refl _) dX11_letterOf_37

set_option maxHeartbeats 4000000 in
set_option maxRecDepth 100000 in
theorem m_name (l : Launch) (dC : Nat → ClassId) (dI : Nat → Nat → Nat) (h0 : Nat) (ad : Nat → Nat) (cA : Nat → ClassId) (σ : Nat → Int32) (τ : Int64) (α : Nat → Nat → Int32) (β : Nat → Nat → Int64) (sz : Nat) (hlen : (σ 1).toInt ≤ 3000) (hat : 0 ≤ (σ 5).toInt) (hal : (σ 5).toInt < (σ 1).toInt) (hlet : 0 < (letV (α 1 (σ 5).toNatClampNeg)).toInt) : MCv l dC dI h0 ad cA yX11_name cX11_name 2 ({ frames := 14, cells := 0, slots := 0, locals := 210 } : Room) [] σ τ α β (fun x => offS [5, 7, 8] σ x.1 ∧ offA [] α x.2.2.1 ∧ offA [] β x.2.2.2 ∧ ((σ 5).toInt < (x.1 5).toInt ∧ (x.1 5).toInt ≤ (σ 1).toInt ∧ 1 ≤ (x.1 7).toInt ∧ (x.1 7).toInt ≤ 5)) sz := by
  refine gbody_v (by decide) (Nat.le_of_ble_eq_true rfl) ?_
  intro p e s m below meth c ls A H hf hr hlk hw hl
  have hl : lv_has ls 2 [(0, .ref h0)] := hl
  refine lv_aload_n hf.1 hf.2.1 dX11_name_0 rfl (lv_at hl 0 rfl) ?_
  refine lv_iconst (v := 0) hf.1 hf.2.1 dX11_name_1 (by decide) ?_
  refine gput hf hw 8 (by decide) k1377 rfl rfl rfl dX11_name_2 (fun H locs hw => ?_)
  have J96 : ∀ (σq1 : Nat → Int32) (τq1 : Int64) (αq1 : Nat → Nat → Int32) (βq1 : Nat → Nat → Int64) (H : Heap) (locs : List Loc) (ls : Array Slot), offS [5, 7, 8] σ σq1 → offA [] α αq1 → offA [] β βq1 → ((σ 5).toInt < (σq1 5).toInt ∧ (σq1 5).toInt ≤ (σ 1).toInt ∧ 0 ≤ (σq1 8).toInt ∧ (σq1 8).toInt ≤ 3000) → Wd dC dI A (MW h0 ad cA σq1 τq1 αq1 βq1) (MT cA) s H locs → lv_has ls 2 [(0, .ref h0)] → W p l e ({ frames := 14, cells := 0, slots := 0, locals := 210 } : Room) s m (.ref h0 :: [] : List Value).toArray below meth c H locs 0 0 (MZv below (fun x => offS [5, 7, 8] σ x.1 ∧ offA [] α x.2.2.1 ∧ offA [] β x.2.2.2 ∧ ((σ 5).toInt < (x.1 5).toInt ∧ (x.1 5).toInt ≤ (σ 1).toInt ∧ 1 ≤ (x.1 7).toInt ∧ (x.1 7).toInt ≤ 5)) h0 ad cA dC dI A s (.ref h0 :: [])) (F0 m 96 ls []) := by
    intro σq1 τq1 αq1 βq1  H locs ls hSq1 hAq1 hBq1 hIq1  hw hl
    have fq1_0 : (σq1 0).toInt = (σ 0).toInt := congrArg Int32.toInt (hSq1 0 (by decide))
    have fq1_1 : (σq1 1).toInt = (σ 1).toInt := congrArg Int32.toInt (hSq1 1 (by decide))
    have fq1_6 : (σq1 6).toInt = (σ 6).toInt := congrArg Int32.toInt (hSq1 6 (by decide))
    have fq1_9 : (σq1 9).toInt = (σ 9).toInt := congrArg Int32.toInt (hSq1 9 (by decide))
    have fq1_13 : (σq1 13).toInt = (σ 13).toInt := congrArg Int32.toInt (hSq1 13 (by decide))
    have fq1_15 : (σq1 15).toInt = (σ 15).toInt := congrArg Int32.toInt (hSq1 15 (by decide))
    have fq1_17 : (σq1 17).toInt = (σ 17).toInt := congrArg Int32.toInt (hSq1 17 (by decide))
    have fq1_18 : (σq1 18).toInt = (σ 18).toInt := congrArg Int32.toInt (hSq1 18 (by decide))
    have fq1_19 : (σq1 19).toInt = (σ 19).toInt := congrArg Int32.toInt (hSq1 19 (by decide))
    have fq1_20 : (σq1 20).toInt = (σ 20).toInt := congrArg Int32.toInt (hSq1 20 (by decide))
    have fq1_21 : (σq1 21).toInt = (σ 21).toInt := congrArg Int32.toInt (hSq1 21 (by decide))
    have fq1_22 : (σq1 22).toInt = (σ 22).toInt := congrArg Int32.toInt (hSq1 22 (by decide))
    refine lv_aload_n hf.1 hf.2.1 dX11_name_96 rfl (lv_at hl 0 rfl) ?_
    refine gget hf hw 8 (by decide) k1377 (v := σq1 8) rfl dX11_name_97 ?_
    refine lv_iconst (v := 5) hf.1 hf.2.1 dX11_name_100 (by decide) ?_
    refine lv_icmp_le (tgt := 108) hf.1 hf.2.1 dX11_name_101 (by decide) (fun c_2 => ?_) (fun c_2 => ?_)
    · have ic_2 : (σq1 8).toInt ≤ (5 : Int) := ti_le c_2
      refine lv_aload_n hf.1 hf.2.1 dX11_name_108 rfl (lv_at hl 0 rfl) ?_
      refine ggetL hf hw k1376 dX11_name_109 ?_
      refine pcall_i (As := [.long τq1]) (rest := []) hf hw (m_wordOf l dC dI τq1 H.size) ka_X11_wordOf k1789 k1788 rfl rfl hl.1 rfl rfl ⟨Nat.le_of_ble_eq_true rfl, Nat.le_of_ble_eq_true rfl⟩ (Nat.le_of_ble_eq_true rfl) ⟨Nat.le_refl _, Nat.le_refl _⟩ dX11_name_112 (fun r_3 hr_3 H locs hw => ?_)
      have hr_3 : -1 ≤ r_3.toInt ∧ r_3.toInt ≤ 14 := hr_3
      refine lv_istore_n (lv' := [(1, .int r_3), (0, .ref h0)]) hf.1 hf.2.1 dX11_name_115 rfl hl (by decide) rfl (fun ls hl => ?_)
      refine lv_aload_n hf.1 hf.2.1 dX11_name_116 rfl (lv_at hl 1 rfl) ?_
      refine lv_iload_n hf.1 hf.2.1 dX11_name_117 rfl (lv_at hl 0 rfl) ?_
      refine lv_if_lt (tgt := 125) hf.1 hf.2.1 dX11_name_118 (by decide) (fun c_4 => ?_) (fun c_4 => ?_)
      · have ic_4 : r_3.toInt < (0 : Int) := ti_lt c_4
        refine lv_aload_n hf.1 hf.2.1 dX11_name_125 rfl (lv_at hl 1 rfl) ?_
        refine gget hf hw 8 (by decide) k1377 (v := σq1 8) rfl dX11_name_126 ?_
        refine lv_bipush (v := 8) hf.1 hf.2.1 dX11_name_129 (by decide) ?_
        refine lv_icmp_le (tgt := 138) hf.1 hf.2.1 dX11_name_131 (by decide) (fun c_5 => ?_) (fun c_5 => ?_)
        · have ic_5 : (σq1 8).toInt ≤ (8 : Int) := ti_le c_5
          refine lv_iconst (v := 1) hf.1 hf.2.1 dX11_name_138 (by decide) ?_
          refine gput hf hw 7 (by decide) k1375 rfl rfl rfl dX11_name_139 (fun H locs hw => ?_)
          refine lv_aload_n hf.1 hf.2.1 dX11_name_142 rfl (lv_at hl 1 rfl) ?_
          refine lv_iload_n hf.1 hf.2.1 dX11_name_143 rfl (lv_at hl 0 rfl) ?_
          refine lv_if_lt (tgt := 152) hf.1 hf.2.1 dX11_name_144 (by decide) (fun c_6 => ?_) (fun c_6 => ?_)
          · have ic_6 : r_3.toInt < (0 : Int) := ti_lt c_6
            refine lv_aload_n hf.1 hf.2.1 dX11_name_152 rfl (lv_at hl 1 rfl) ?_
            refine ggetL hf hw k1376 dX11_name_153 ?_
            refine gputL hf hw k1376 dX11_name_156 (fun H locs hw => ?_)
            exact gret_v hf hr hlk hw ⟨(hSq1.put 7 (by decide) 1), hAq1, hBq1, (by show (σ 5).toInt < (σq1 5).toInt ∧ (σq1 5).toInt ≤ (σ 1).toInt ∧ 1 ≤ (1 : Int) ∧ (1 : Int) ≤ 5; omega)⟩ dX11_name_159
          · have ic_6 : (0 : Int) ≤ r_3.toInt := ti_nlt c_6
            refine lv_iload_n hf.1 hf.2.1 dX11_name_147 rfl (lv_at hl 0 rfl) ?_
            refine lv_i2l hf.1 hf.2.1 dX11_name_148 rfl ?_
            refine lv_topl (fun y_7 ey_7 => ?_)
            refine lv_goto (tgt := 156) hf.1 hf.2.1 dX11_name_149 (by decide) ?_
            refine gputL hf hw k1376 dX11_name_156 (fun H locs hw => ?_)
            exact gret_v hf hr hlk hw ⟨(hSq1.put 7 (by decide) 1), hAq1, hBq1, (by show (σ 5).toInt < (σq1 5).toInt ∧ (σq1 5).toInt ≤ (σ 1).toInt ∧ 1 ≤ (1 : Int) ∧ (1 : Int) ≤ 5; omega)⟩ dX11_name_159
        · have ic_5 : (8 : Int) < (σq1 8).toInt := ti_nle c_5
          refine lv_iconst (v := 5) hf.1 hf.2.1 dX11_name_134 (by decide) ?_
          refine lv_goto (tgt := 139) hf.1 hf.2.1 dX11_name_135 (by decide) ?_
          refine gput hf hw 7 (by decide) k1375 rfl rfl rfl dX11_name_139 (fun H locs hw => ?_)
          refine lv_aload_n hf.1 hf.2.1 dX11_name_142 rfl (lv_at hl 1 rfl) ?_
          refine lv_iload_n hf.1 hf.2.1 dX11_name_143 rfl (lv_at hl 0 rfl) ?_
          refine lv_if_lt (tgt := 152) hf.1 hf.2.1 dX11_name_144 (by decide) (fun c_8 => ?_) (fun c_8 => ?_)
          · have ic_8 : r_3.toInt < (0 : Int) := ti_lt c_8
            refine lv_aload_n hf.1 hf.2.1 dX11_name_152 rfl (lv_at hl 1 rfl) ?_
            refine ggetL hf hw k1376 dX11_name_153 ?_
            refine gputL hf hw k1376 dX11_name_156 (fun H locs hw => ?_)
            exact gret_v hf hr hlk hw ⟨(hSq1.put 7 (by decide) 5), hAq1, hBq1, (by show (σ 5).toInt < (σq1 5).toInt ∧ (σq1 5).toInt ≤ (σ 1).toInt ∧ 1 ≤ (5 : Int) ∧ (5 : Int) ≤ 5; omega)⟩ dX11_name_159
          · have ic_8 : (0 : Int) ≤ r_3.toInt := ti_nlt c_8
            refine lv_iload_n hf.1 hf.2.1 dX11_name_147 rfl (lv_at hl 0 rfl) ?_
            refine lv_i2l hf.1 hf.2.1 dX11_name_148 rfl ?_
            refine lv_topl (fun y_9 ey_9 => ?_)
            refine lv_goto (tgt := 156) hf.1 hf.2.1 dX11_name_149 (by decide) ?_
            refine gputL hf hw k1376 dX11_name_156 (fun H locs hw => ?_)
            exact gret_v hf hr hlk hw ⟨(hSq1.put 7 (by decide) 5), hAq1, hBq1, (by show (σ 5).toInt < (σq1 5).toInt ∧ (σq1 5).toInt ≤ (σ 1).toInt ∧ 1 ≤ (5 : Int) ∧ (5 : Int) ≤ 5; omega)⟩ dX11_name_159
      · have ic_4 : (0 : Int) ≤ r_3.toInt := ti_nlt c_4
        refine lv_iconst (v := 2) hf.1 hf.2.1 dX11_name_121 (by decide) ?_
        refine lv_goto (tgt := 139) hf.1 hf.2.1 dX11_name_122 (by decide) ?_
        refine gput hf hw 7 (by decide) k1375 rfl rfl rfl dX11_name_139 (fun H locs hw => ?_)
        refine lv_aload_n hf.1 hf.2.1 dX11_name_142 rfl (lv_at hl 1 rfl) ?_
        refine lv_iload_n hf.1 hf.2.1 dX11_name_143 rfl (lv_at hl 0 rfl) ?_
        refine lv_if_lt (tgt := 152) hf.1 hf.2.1 dX11_name_144 (by decide) (fun c_10 => ?_) (fun c_10 => ?_)
        · have ic_10 : r_3.toInt < (0 : Int) := ti_lt c_10
          refine lv_aload_n hf.1 hf.2.1 dX11_name_152 rfl (lv_at hl 1 rfl) ?_
          refine ggetL hf hw k1376 dX11_name_153 ?_
          refine gputL hf hw k1376 dX11_name_156 (fun H locs hw => ?_)
          exact gret_v hf hr hlk hw ⟨(hSq1.put 7 (by decide) 2), hAq1, hBq1, (by show (σ 5).toInt < (σq1 5).toInt ∧ (σq1 5).toInt ≤ (σ 1).toInt ∧ 1 ≤ (2 : Int) ∧ (2 : Int) ≤ 5; omega)⟩ dX11_name_159
        · have ic_10 : (0 : Int) ≤ r_3.toInt := ti_nlt c_10
          refine lv_iload_n hf.1 hf.2.1 dX11_name_147 rfl (lv_at hl 0 rfl) ?_
          refine lv_i2l hf.1 hf.2.1 dX11_name_148 rfl ?_
          refine lv_topl (fun y_11 ey_11 => ?_)
          refine lv_goto (tgt := 156) hf.1 hf.2.1 dX11_name_149 (by decide) ?_
          refine gputL hf hw k1376 dX11_name_156 (fun H locs hw => ?_)
          exact gret_v hf hr hlk hw ⟨(hSq1.put 7 (by decide) 2), hAq1, hBq1, (by show (σ 5).toInt < (σq1 5).toInt ∧ (σq1 5).toInt ≤ (σ 1).toInt ∧ 1 ≤ (2 : Int) ∧ (2 : Int) ≤ 5; omega)⟩ dX11_name_159
    · have ic_2 : (5 : Int) < (σq1 8).toInt := ti_nle c_2
      refine lv_iconst (v := (-1)) hf.1 hf.2.1 dX11_name_104 (by decide) ?_
      refine lv_goto (tgt := 115) hf.1 hf.2.1 dX11_name_105 (by decide) ?_
      refine lv_istore_n (lv' := [(1, .int (-1)), (0, .ref h0)]) hf.1 hf.2.1 dX11_name_115 rfl hl (by decide) rfl (fun ls hl => ?_)
      refine lv_aload_n hf.1 hf.2.1 dX11_name_116 rfl (lv_at hl 1 rfl) ?_
      refine lv_iload_n hf.1 hf.2.1 dX11_name_117 rfl (lv_at hl 0 rfl) ?_
      refine lv_if_lt (tgt := 125) hf.1 hf.2.1 dX11_name_118 (by decide) (fun c_12 => ?_) (fun c_12 => absurd (by decide) c_12)
      refine lv_aload_n hf.1 hf.2.1 dX11_name_125 rfl (lv_at hl 1 rfl) ?_
      refine gget hf hw 8 (by decide) k1377 (v := σq1 8) rfl dX11_name_126 ?_
      refine lv_bipush (v := 8) hf.1 hf.2.1 dX11_name_129 (by decide) ?_
      refine lv_icmp_le (tgt := 138) hf.1 hf.2.1 dX11_name_131 (by decide) (fun c_13 => ?_) (fun c_13 => ?_)
      · have ic_13 : (σq1 8).toInt ≤ (8 : Int) := ti_le c_13
        refine lv_iconst (v := 1) hf.1 hf.2.1 dX11_name_138 (by decide) ?_
        refine gput hf hw 7 (by decide) k1375 rfl rfl rfl dX11_name_139 (fun H locs hw => ?_)
        refine lv_aload_n hf.1 hf.2.1 dX11_name_142 rfl (lv_at hl 1 rfl) ?_
        refine lv_iload_n hf.1 hf.2.1 dX11_name_143 rfl (lv_at hl 0 rfl) ?_
        refine lv_if_lt (tgt := 152) hf.1 hf.2.1 dX11_name_144 (by decide) (fun c_14 => ?_) (fun c_14 => absurd (by decide) c_14)
        refine lv_aload_n hf.1 hf.2.1 dX11_name_152 rfl (lv_at hl 1 rfl) ?_
        refine ggetL hf hw k1376 dX11_name_153 ?_
        refine gputL hf hw k1376 dX11_name_156 (fun H locs hw => ?_)
        exact gret_v hf hr hlk hw ⟨(hSq1.put 7 (by decide) 1), hAq1, hBq1, (by show (σ 5).toInt < (σq1 5).toInt ∧ (σq1 5).toInt ≤ (σ 1).toInt ∧ 1 ≤ (1 : Int) ∧ (1 : Int) ≤ 5; omega)⟩ dX11_name_159
      · have ic_13 : (8 : Int) < (σq1 8).toInt := ti_nle c_13
        refine lv_iconst (v := 5) hf.1 hf.2.1 dX11_name_134 (by decide) ?_
        refine lv_goto (tgt := 139) hf.1 hf.2.1 dX11_name_135 (by decide) ?_
        refine gput hf hw 7 (by decide) k1375 rfl rfl rfl dX11_name_139 (fun H locs hw => ?_)
        refine lv_aload_n hf.1 hf.2.1 dX11_name_142 rfl (lv_at hl 1 rfl) ?_
        refine lv_iload_n hf.1 hf.2.1 dX11_name_143 rfl (lv_at hl 0 rfl) ?_
        refine lv_if_lt (tgt := 152) hf.1 hf.2.1 dX11_name_144 (by decide) (fun c_15 => ?_) (fun c_15 => absurd (by decide) c_15)
        refine lv_aload_n hf.1 hf.2.1 dX11_name_152 rfl (lv_at hl 1 rfl) ?_
        refine ggetL hf hw k1376 dX11_name_153 ?_
        refine gputL hf hw k1376 dX11_name_156 (fun H locs hw => ?_)
        exact gret_v hf hr hlk hw ⟨(hSq1.put 7 (by decide) 5), hAq1, hBq1, (by show (σ 5).toInt < (σq1 5).toInt ∧ (σq1 5).toInt ≤ (σ 1).toInt ∧ 1 ≤ (5 : Int) ∧ (5 : Int) ≤ 5; omega)⟩ dX11_name_159
  have loop : ∀ (N : Nat) (σq16 : Nat → Int32) (τq16 : Int64) (αq16 : Nat → Nat → Int32) (βq16 : Nat → Nat → Int64) (H : Heap) (locs : List Loc) (ls : Array Slot), ((σ 1).toInt - (σq16 5).toInt).toNat < N → offS [5, 7, 8] σ σq16 → offA [] α αq16 → offA [] β βq16 → ((σ 5).toInt ≤ (σq16 5).toInt ∧ (σq16 5).toInt ≤ (σ 1).toInt ∧ 0 ≤ (σq16 8).toInt ∧ (σq16 8).toInt ≤ (σq16 5).toInt - (σ 5).toInt) → Wd dC dI A (MW h0 ad cA σq16 τq16 αq16 βq16) (MT cA) s H locs → lv_has ls 2 [(0, .ref h0)] → W p l e ({ frames := 14, cells := 0, slots := 0, locals := 210 } : Room) s m (.ref h0 :: [] : List Value).toArray below meth c H locs 0 0 (MZv below (fun x => offS [5, 7, 8] σ x.1 ∧ offA [] α x.2.2.1 ∧ offA [] β x.2.2.2 ∧ ((σ 5).toInt < (x.1 5).toInt ∧ (x.1 5).toInt ≤ (σ 1).toInt ∧ 1 ≤ (x.1 7).toInt ∧ (x.1 7).toInt ≤ 5)) h0 ad cA dC dI A s (.ref h0 :: [])) (F0 m 5 ls []) := by
    intro N
    induction N with
    | zero => intro σq16 τq16 αq16 βq16  H locs ls hm; exact absurd hm (Nat.not_lt_zero _)
    | succ N ih =>
      intro σq16 τq16 αq16 βq16  H locs ls hm hSq16 hAq16 hBq16 hIq16  hw hl
      have fq16_0 : (σq16 0).toInt = (σ 0).toInt := congrArg Int32.toInt (hSq16 0 (by decide))
      have fq16_1 : (σq16 1).toInt = (σ 1).toInt := congrArg Int32.toInt (hSq16 1 (by decide))
      have fq16_6 : (σq16 6).toInt = (σ 6).toInt := congrArg Int32.toInt (hSq16 6 (by decide))
      have fq16_9 : (σq16 9).toInt = (σ 9).toInt := congrArg Int32.toInt (hSq16 9 (by decide))
      have fq16_13 : (σq16 13).toInt = (σ 13).toInt := congrArg Int32.toInt (hSq16 13 (by decide))
      have fq16_15 : (σq16 15).toInt = (σ 15).toInt := congrArg Int32.toInt (hSq16 15 (by decide))
      have fq16_17 : (σq16 17).toInt = (σ 17).toInt := congrArg Int32.toInt (hSq16 17 (by decide))
      have fq16_18 : (σq16 18).toInt = (σ 18).toInt := congrArg Int32.toInt (hSq16 18 (by decide))
      have fq16_19 : (σq16 19).toInt = (σ 19).toInt := congrArg Int32.toInt (hSq16 19 (by decide))
      have fq16_20 : (σq16 20).toInt = (σ 20).toInt := congrArg Int32.toInt (hSq16 20 (by decide))
      have fq16_21 : (σq16 21).toInt = (σ 21).toInt := congrArg Int32.toInt (hSq16 21 (by decide))
      have fq16_22 : (σq16 22).toInt = (σ 22).toInt := congrArg Int32.toInt (hSq16 22 (by decide))
      refine lv_aload_n hf.1 hf.2.1 dX11_name_5 rfl (lv_at hl 0 rfl) ?_
      refine gget hf hw 5 (by decide) k1373 (v := σq16 5) rfl dX11_name_6 ?_
      refine lv_aload_n hf.1 hf.2.1 dX11_name_9 rfl (lv_at hl 0 rfl) ?_
      refine gget hf hw 1 (by decide) k1368 (v := σq16 1) rfl dX11_name_10 ?_
      refine lv_icmp_ge (tgt := 96) hf.1 hf.2.1 dX11_name_13 (by decide) (fun c_17 => ?_) (fun c_17 => ?_)
      · have ic_17 : (σq16 1).toInt ≤ (σq16 5).toInt := ti_le c_17
        exact J96 σq16 τq16 αq16 βq16  _ _ _ hSq16 hAq16 hBq16 (by show (σ 5).toInt < (σq16 5).toInt ∧ (σq16 5).toInt ≤ (σ 1).toInt ∧ 0 ≤ (σq16 8).toInt ∧ (σq16 8).toInt ≤ 3000; omega)  hw (lv_sub hl [0] rfl)
      · have ic_17 : (σq16 5).toInt < (σq16 1).toInt := ti_nle c_17
        refine lv_aload_n hf.1 hf.2.1 dX11_name_16 rfl (lv_at hl 0 rfl) ?_
        refine ggetA hf hw 1 (by decide) k1367 dX11_name_17 ?_
        refine lv_aload_n hf.1 hf.2.1 dX11_name_20 rfl (lv_at hl 0 rfl) ?_
        refine gget hf hw 5 (by decide) k1373 (v := σq16 5) rfl dX11_name_21 ?_
        refine gbld hf hw 1 (by decide) rfl (n := 3000) (f := αq16 1) rfl (ti_in (by omega) (by omega)) dX11_name_24 ?_
        refine lv_topi (fun x_18 ex_18 => ?_)
        refine pcall_i (As := [.int x_18]) (rest := []) hf hw (m_letterV l dC dI x_18 H.size) ka_X11_letterOf k1781 k1780 rfl rfl hl.1 rfl rfl ⟨Nat.le_of_ble_eq_true rfl, Nat.le_of_ble_eq_true rfl⟩ (Nat.le_of_ble_eq_true rfl) ⟨Nat.le_refl _, Nat.le_refl _⟩ dX11_name_25 (fun r_19 hr_19 H locs hw => ?_)
        refine lv_if_le (tgt := 96) hf.1 hf.2.1 dX11_name_28 (by decide) (fun c_20 => ?_) (fun c_20 => ?_)
        · have ic_20 : r_19.toInt ≤ (0 : Int) := ti_le c_20
          have hpr : (σ 5).toInt < (σq16 5).toInt := by
            rcases Int.lt_or_eq_of_le hIq16.1 with z | z
            · exact z
            · exfalso
              have e5 : σq16 5 = σ 5 := Int32.toInt_inj.mp z.symm
              have er : r_19 = letV (α 1 (σ 5).toNatClampNeg) := by rw [hr_19, ex_18, hAq16 1 (by decide), e5]
              rw [← er] at hlet
              omega
          exact J96 σq16 τq16 αq16 βq16  _ _ _ hSq16 hAq16 hBq16 (by show (σ 5).toInt < (σq16 5).toInt ∧ (σq16 5).toInt ≤ (σ 1).toInt ∧ 0 ≤ (σq16 8).toInt ∧ (σq16 8).toInt ≤ 3000; omega)  hw (lv_sub hl [0] rfl)
        · have ic_20 : (0 : Int) < r_19.toInt := ti_nle c_20
          refine lv_aload_n hf.1 hf.2.1 dX11_name_31 rfl (lv_at hl 0 rfl) ?_
          refine lv_aload_n hf.1 hf.2.1 dX11_name_32 rfl (lv_at hl 0 rfl) ?_
          refine gget hf hw 8 (by decide) k1377 (v := σq16 8) rfl dX11_name_33 ?_
          refine lv_bipush (v := 8) hf.1 hf.2.1 dX11_name_36 (by decide) ?_
          refine lv_icmp_ge (tgt := 66) hf.1 hf.2.1 dX11_name_38 (by decide) (fun c_21 => ?_) (fun c_21 => ?_)
          · have ic_21 : (8 : Int) ≤ (σq16 8).toInt := ti_le c_21
            refine lv_aload_n hf.1 hf.2.1 dX11_name_66 rfl (lv_at hl 0 rfl) ?_
            refine ggetL hf hw k1376 dX11_name_67 ?_
            refine gputL hf hw k1376 dX11_name_70 (fun H locs hw => ?_)
            refine lv_aload_n hf.1 hf.2.1 dX11_name_73 rfl (lv_at hl 0 rfl) ?_
            refine lv_dup hf.1 hf.2.1 dX11_name_74 rfl ?_
            refine gget hf hw 8 (by decide) k1377 (v := σq16 8) rfl dX11_name_75 ?_
            refine lv_iconst (v := 1) hf.1 hf.2.1 dX11_name_78 (by decide) ?_
            refine lv_iadd hf.1 hf.2.1 dX11_name_79 ?_
            refine lv_topi (fun x_22 ex_22 => ?_)
            have tx_22 : x_22.toInt = (σq16 8).toInt + (1 : Int) := by rw [ex_22]; exact ti_add (by show _ ≤ (σq16 8).toInt + (1 : Int); omega) (by show (σq16 8).toInt + (1 : Int) ≤ _; omega)
            refine gput hf hw 8 (by decide) k1377 rfl rfl rfl dX11_name_80 (fun H locs hw => ?_)
            refine lv_aload_n hf.1 hf.2.1 dX11_name_83 rfl (lv_at hl 0 rfl) ?_
            refine lv_dup hf.1 hf.2.1 dX11_name_84 rfl ?_
            refine gget hf hw 5 (by decide) k1373 (v := σq16 5) rfl dX11_name_85 ?_
            refine lv_iconst (v := 1) hf.1 hf.2.1 dX11_name_88 (by decide) ?_
            refine lv_iadd hf.1 hf.2.1 dX11_name_89 ?_
            refine lv_topi (fun x_23 ex_23 => ?_)
            have tx_23 : x_23.toInt = (σq16 5).toInt + (1 : Int) := by rw [ex_23]; exact ti_add (by show _ ≤ (σq16 5).toInt + (1 : Int); omega) (by show (σq16 5).toInt + (1 : Int) ≤ _; omega)
            refine gput hf hw 5 (by decide) k1373 rfl rfl rfl dX11_name_90 (fun H locs hw => ?_)
            refine lv_goto (tgt := 5) hf.1 hf.2.1 dX11_name_93 (by decide) ?_
            exact ih (uS (uS σq16 8 x_22) 5 x_23) τq16 αq16 βq16  _ _ _ (by show ((σ 1).toInt - x_23.toInt).toNat < _; omega) ((hSq16.put 8 (by decide) x_22).put 5 (by decide) x_23) hAq16 hBq16 (by show (σ 5).toInt ≤ x_23.toInt ∧ x_23.toInt ≤ (σ 1).toInt ∧ 0 ≤ x_22.toInt ∧ x_22.toInt ≤ x_23.toInt - (σ 5).toInt; omega)  hw (lv_sub hl [0] rfl)
          · have ic_21 : (σq16 8).toInt < (8 : Int) := ti_nle c_21
            refine lv_ldc2 (v := 64) hf.1 hf.2.1 hf.2.2.2.1 (hf.2.2.2.2.1 _ k1787) dX11_name_41 ?_
            refine lv_aload_n hf.1 hf.2.1 dX11_name_44 rfl (lv_at hl 0 rfl) ?_
            refine ggetL hf hw k1376 dX11_name_45 ?_
            refine lv_lmul hf.1 hf.2.1 dX11_name_48 ?_
            refine lv_topl (fun y_24 ey_24 => ?_)
            refine lv_aload_n hf.1 hf.2.1 dX11_name_49 rfl (lv_at hl 0 rfl) ?_
            refine ggetA hf hw 1 (by decide) k1367 dX11_name_50 ?_
            refine lv_aload_n hf.1 hf.2.1 dX11_name_53 rfl (lv_at hl 0 rfl) ?_
            refine gget hf hw 5 (by decide) k1373 (v := σq16 5) rfl dX11_name_54 ?_
            refine gbld hf hw 1 (by decide) rfl (n := 3000) (f := αq16 1) rfl (ti_in (by omega) (by omega)) dX11_name_57 ?_
            refine lv_topi (fun x_25 ex_25 => ?_)
            refine pcall_i (As := [.int x_25]) (rest := [.long y_24, .ref h0]) hf hw (m_letterV l dC dI x_25 H.size) ka_X11_letterOf k1781 k1780 rfl rfl hl.1 rfl rfl ⟨Nat.le_of_ble_eq_true rfl, Nat.le_of_ble_eq_true rfl⟩ (Nat.le_of_ble_eq_true rfl) ⟨Nat.le_refl _, Nat.le_refl _⟩ dX11_name_58 (fun r_26 hr_26 H locs hw => ?_)
            refine lv_i2l hf.1 hf.2.1 dX11_name_61 rfl ?_
            refine lv_topl (fun y_27 ey_27 => ?_)
            refine lv_ladd hf.1 hf.2.1 dX11_name_62 ?_
            refine lv_topl (fun y_28 ey_28 => ?_)
            refine lv_goto (tgt := 70) hf.1 hf.2.1 dX11_name_63 (by decide) ?_
            refine gputL hf hw k1376 dX11_name_70 (fun H locs hw => ?_)
            refine lv_aload_n hf.1 hf.2.1 dX11_name_73 rfl (lv_at hl 0 rfl) ?_
            refine lv_dup hf.1 hf.2.1 dX11_name_74 rfl ?_
            refine gget hf hw 8 (by decide) k1377 (v := σq16 8) rfl dX11_name_75 ?_
            refine lv_iconst (v := 1) hf.1 hf.2.1 dX11_name_78 (by decide) ?_
            refine lv_iadd hf.1 hf.2.1 dX11_name_79 ?_
            refine lv_topi (fun x_29 ex_29 => ?_)
            have tx_29 : x_29.toInt = (σq16 8).toInt + (1 : Int) := by rw [ex_29]; exact ti_add (by show _ ≤ (σq16 8).toInt + (1 : Int); omega) (by show (σq16 8).toInt + (1 : Int) ≤ _; omega)
            refine gput hf hw 8 (by decide) k1377 rfl rfl rfl dX11_name_80 (fun H locs hw => ?_)
            refine lv_aload_n hf.1 hf.2.1 dX11_name_83 rfl (lv_at hl 0 rfl) ?_
            refine lv_dup hf.1 hf.2.1 dX11_name_84 rfl ?_
            refine gget hf hw 5 (by decide) k1373 (v := σq16 5) rfl dX11_name_85 ?_
            refine lv_iconst (v := 1) hf.1 hf.2.1 dX11_name_88 (by decide) ?_
            refine lv_iadd hf.1 hf.2.1 dX11_name_89 ?_
            refine lv_topi (fun x_30 ex_30 => ?_)
            have tx_30 : x_30.toInt = (σq16 5).toInt + (1 : Int) := by rw [ex_30]; exact ti_add (by show _ ≤ (σq16 5).toInt + (1 : Int); omega) (by show (σq16 5).toInt + (1 : Int) ≤ _; omega)
            refine gput hf hw 5 (by decide) k1373 rfl rfl rfl dX11_name_90 (fun H locs hw => ?_)
            refine lv_goto (tgt := 5) hf.1 hf.2.1 dX11_name_93 (by decide) ?_
            exact ih (uS (uS σq16 8 x_29) 5 x_30) y_28 αq16 βq16  _ _ _ (by show ((σ 1).toInt - x_30.toInt).toNat < _; omega) ((hSq16.put 8 (by decide) x_29).put 5 (by decide) x_30) hAq16 hBq16 (by show (σ 5).toInt ≤ x_30.toInt ∧ x_30.toInt ≤ (σ 1).toInt ∧ 0 ≤ x_29.toInt ∧ x_29.toInt ≤ x_30.toInt - (σ 5).toInt; omega)  hw (lv_sub hl [0] rfl)
  exact loop (((σ 1).toInt - (σ 5).toInt).toNat + 1) (uS σ 8 0) τ α β  _ _ _ (Nat.lt_succ_self _) (offS.rf.put 8 (by decide) 0) offA.rf offA.rf (by show (σ 5).toInt ≤ (σ 5).toInt ∧ (σ 5).toInt ≤ (σ 1).toInt ∧ 0 ≤ (0 : Int) ∧ (0 : Int) ≤ (σ 5).toInt - (σ 5).toInt; omega)  hw (lv_sub hl [0] rfl)

set_option maxHeartbeats 4000000 in
set_option maxRecDepth 100000 in
theorem m_sign (l : Launch) (dC : Nat → ClassId) (dI : Nat → Nat → Nat) (h0 : Nat) (ad : Nat → Nat) (cA : Nat → ClassId) (σ : Nat → Int32) (τ : Int64) (α : Nat → Nat → Int32) (β : Nat → Nat → Int64) (v : Int32) (sz : Nat) (hlen : (σ 1).toInt ≤ 3000) (hat : 0 ≤ (σ 5).toInt) (hal : (σ 5).toInt < (σ 1).toInt) : MCv l dC dI h0 ad cA yX11_sign cX11_sign 2 ({ frames := 6, cells := 0, slots := 0, locals := 90 } : Room) [.int v] σ τ α β (fun x => offS [5, 7] σ x.1 ∧ offA [] α x.2.2.1 ∧ offA [] β x.2.2.2 ∧ ((σ 5).toInt < (x.1 5).toInt ∧ (x.1 5).toInt ≤ (σ 1).toInt ∧ 1 ≤ (x.1 7).toInt ∧ (x.1 7).toInt ≤ 5)) sz := by
  refine gbody_v (by decide) (Nat.le_of_ble_eq_true rfl) ?_
  intro p e s m below meth c ls A H hf hr hlk hw hl
  have hl : lv_has ls 2 [(0, .ref h0), (1, .int v)] := hl
  have J70 : ∀ (σq1 : Nat → Int32) (τq1 : Int64) (αq1 : Nat → Nat → Int32) (βq1 : Nat → Nat → Int64) (H : Heap) (locs : List Loc) (ls : Array Slot), offS [5, 7] σ σq1 → offA [] α αq1 → offA [] β βq1 → ((σ 5).toInt < (σq1 5).toInt ∧ (σq1 5).toInt ≤ (σ 1).toInt ∧ (σq1 7).toInt = 4) → Wd dC dI A (MW h0 ad cA σq1 τq1 αq1 βq1) (MT cA) s H locs → lv_has ls 2 [(0, .ref h0), (1, .int v)] → W p l e ({ frames := 6, cells := 0, slots := 0, locals := 90 } : Room) s m (.ref h0 :: [.int v] : List Value).toArray below meth c H locs 0 0 (MZv below (fun x => offS [5, 7] σ x.1 ∧ offA [] α x.2.2.1 ∧ offA [] β x.2.2.2 ∧ ((σ 5).toInt < (x.1 5).toInt ∧ (x.1 5).toInt ≤ (σ 1).toInt ∧ 1 ≤ (x.1 7).toInt ∧ (x.1 7).toInt ≤ 5)) h0 ad cA dC dI A s (.ref h0 :: [.int v])) (F0 m 70 ls []) := by
    intro σq1 τq1 αq1 βq1  H locs ls hSq1 hAq1 hBq1 hIq1  hw hl
    have fq1_0 : (σq1 0).toInt = (σ 0).toInt := congrArg Int32.toInt (hSq1 0 (by decide))
    have fq1_1 : (σq1 1).toInt = (σ 1).toInt := congrArg Int32.toInt (hSq1 1 (by decide))
    have fq1_6 : (σq1 6).toInt = (σ 6).toInt := congrArg Int32.toInt (hSq1 6 (by decide))
    have fq1_9 : (σq1 9).toInt = (σ 9).toInt := congrArg Int32.toInt (hSq1 9 (by decide))
    have fq1_13 : (σq1 13).toInt = (σ 13).toInt := congrArg Int32.toInt (hSq1 13 (by decide))
    have fq1_15 : (σq1 15).toInt = (σ 15).toInt := congrArg Int32.toInt (hSq1 15 (by decide))
    have fq1_17 : (σq1 17).toInt = (σ 17).toInt := congrArg Int32.toInt (hSq1 17 (by decide))
    have fq1_18 : (σq1 18).toInt = (σ 18).toInt := congrArg Int32.toInt (hSq1 18 (by decide))
    have fq1_19 : (σq1 19).toInt = (σ 19).toInt := congrArg Int32.toInt (hSq1 19 (by decide))
    have fq1_20 : (σq1 20).toInt = (σ 20).toInt := congrArg Int32.toInt (hSq1 20 (by decide))
    have fq1_21 : (σq1 21).toInt = (σ 21).toInt := congrArg Int32.toInt (hSq1 21 (by decide))
    have fq1_22 : (σq1 22).toInt = (σ 22).toInt := congrArg Int32.toInt (hSq1 22 (by decide))
    refine lv_iload_n hf.1 hf.2.1 dX11_sign_70 rfl (lv_at hl 1 rfl) ?_
    by_cases lk_2 : v = 33
    · refine lv_lookup (tgt := 216) (off := 145) hf.1 hf.2.1 dX11_sign_71 (by decide) (by rw [lk_2]; rfl) (by decide) ?_
      refine lv_goto (tgt := 224) hf.1 hf.2.1 dX11_sign_216 (by decide) ?_
      exact gret_v hf hr hlk hw ⟨hSq1, hAq1, hBq1, (by show (σ 5).toInt < (σq1 5).toInt ∧ (σq1 5).toInt ≤ (σ 1).toInt ∧ 1 ≤ (σq1 7).toInt ∧ (σq1 7).toInt ≤ 5; omega)⟩ dX11_sign_224
    · by_cases lk_3 : v = 37
      · refine lv_lookup (tgt := 216) (off := 145) hf.1 hf.2.1 dX11_sign_71 (by decide) (by rw [lk_3]; rfl) (by decide) ?_
        refine lv_goto (tgt := 224) hf.1 hf.2.1 dX11_sign_216 (by decide) ?_
        exact gret_v hf hr hlk hw ⟨hSq1, hAq1, hBq1, (by show (σ 5).toInt < (σq1 5).toInt ∧ (σq1 5).toInt ≤ (σ 1).toInt ∧ 1 ≤ (σq1 7).toInt ∧ (σq1 7).toInt ≤ 5; omega)⟩ dX11_sign_224
      · by_cases lk_4 : v = 40
        · refine lv_lookup (tgt := 216) (off := 145) hf.1 hf.2.1 dX11_sign_71 (by decide) (by rw [lk_4]; rfl) (by decide) ?_
          refine lv_goto (tgt := 224) hf.1 hf.2.1 dX11_sign_216 (by decide) ?_
          exact gret_v hf hr hlk hw ⟨hSq1, hAq1, hBq1, (by show (σ 5).toInt < (σq1 5).toInt ∧ (σq1 5).toInt ≤ (σ 1).toInt ∧ 1 ≤ (σq1 7).toInt ∧ (σq1 7).toInt ≤ 5; omega)⟩ dX11_sign_224
        · by_cases lk_5 : v = 41
          · refine lv_lookup (tgt := 216) (off := 145) hf.1 hf.2.1 dX11_sign_71 (by decide) (by rw [lk_5]; rfl) (by decide) ?_
            refine lv_goto (tgt := 224) hf.1 hf.2.1 dX11_sign_216 (by decide) ?_
            exact gret_v hf hr hlk hw ⟨hSq1, hAq1, hBq1, (by show (σ 5).toInt < (σq1 5).toInt ∧ (σq1 5).toInt ≤ (σ 1).toInt ∧ 1 ≤ (σq1 7).toInt ∧ (σq1 7).toInt ≤ 5; omega)⟩ dX11_sign_224
          · by_cases lk_6 : v = 42
            · refine lv_lookup (tgt := 216) (off := 145) hf.1 hf.2.1 dX11_sign_71 (by decide) (by rw [lk_6]; rfl) (by decide) ?_
              refine lv_goto (tgt := 224) hf.1 hf.2.1 dX11_sign_216 (by decide) ?_
              exact gret_v hf hr hlk hw ⟨hSq1, hAq1, hBq1, (by show (σ 5).toInt < (σq1 5).toInt ∧ (σq1 5).toInt ≤ (σ 1).toInt ∧ 1 ≤ (σq1 7).toInt ∧ (σq1 7).toInt ≤ 5; omega)⟩ dX11_sign_224
            · by_cases lk_7 : v = 43
              · refine lv_lookup (tgt := 216) (off := 145) hf.1 hf.2.1 dX11_sign_71 (by decide) (by rw [lk_7]; rfl) (by decide) ?_
                refine lv_goto (tgt := 224) hf.1 hf.2.1 dX11_sign_216 (by decide) ?_
                exact gret_v hf hr hlk hw ⟨hSq1, hAq1, hBq1, (by show (σ 5).toInt < (σq1 5).toInt ∧ (σq1 5).toInt ≤ (σ 1).toInt ∧ 1 ≤ (σq1 7).toInt ∧ (σq1 7).toInt ≤ 5; omega)⟩ dX11_sign_224
              · by_cases lk_8 : v = 44
                · refine lv_lookup (tgt := 216) (off := 145) hf.1 hf.2.1 dX11_sign_71 (by decide) (by rw [lk_8]; rfl) (by decide) ?_
                  refine lv_goto (tgt := 224) hf.1 hf.2.1 dX11_sign_216 (by decide) ?_
                  exact gret_v hf hr hlk hw ⟨hSq1, hAq1, hBq1, (by show (σ 5).toInt < (σq1 5).toInt ∧ (σq1 5).toInt ≤ (σ 1).toInt ∧ 1 ≤ (σq1 7).toInt ∧ (σq1 7).toInt ≤ 5; omega)⟩ dX11_sign_224
                · by_cases lk_9 : v = 45
                  · refine lv_lookup (tgt := 216) (off := 145) hf.1 hf.2.1 dX11_sign_71 (by decide) (by rw [lk_9]; rfl) (by decide) ?_
                    refine lv_goto (tgt := 224) hf.1 hf.2.1 dX11_sign_216 (by decide) ?_
                    exact gret_v hf hr hlk hw ⟨hSq1, hAq1, hBq1, (by show (σ 5).toInt < (σq1 5).toInt ∧ (σq1 5).toInt ≤ (σ 1).toInt ∧ 1 ≤ (σq1 7).toInt ∧ (σq1 7).toInt ≤ 5; omega)⟩ dX11_sign_224
                  · by_cases lk_10 : v = 47
                    · refine lv_lookup (tgt := 216) (off := 145) hf.1 hf.2.1 dX11_sign_71 (by decide) (by rw [lk_10]; rfl) (by decide) ?_
                      refine lv_goto (tgt := 224) hf.1 hf.2.1 dX11_sign_216 (by decide) ?_
                      exact gret_v hf hr hlk hw ⟨hSq1, hAq1, hBq1, (by show (σ 5).toInt < (σq1 5).toInt ∧ (σq1 5).toInt ≤ (σ 1).toInt ∧ 1 ≤ (σq1 7).toInt ∧ (σq1 7).toInt ≤ 5; omega)⟩ dX11_sign_224
                    · by_cases lk_11 : v = 58
                      · refine lv_lookup (tgt := 216) (off := 145) hf.1 hf.2.1 dX11_sign_71 (by decide) (by rw [lk_11]; rfl) (by decide) ?_
                        refine lv_goto (tgt := 224) hf.1 hf.2.1 dX11_sign_216 (by decide) ?_
                        exact gret_v hf hr hlk hw ⟨hSq1, hAq1, hBq1, (by show (σ 5).toInt < (σq1 5).toInt ∧ (σq1 5).toInt ≤ (σ 1).toInt ∧ 1 ≤ (σq1 7).toInt ∧ (σq1 7).toInt ≤ 5; omega)⟩ dX11_sign_224
                      · by_cases lk_12 : v = 59
                        · refine lv_lookup (tgt := 216) (off := 145) hf.1 hf.2.1 dX11_sign_71 (by decide) (by rw [lk_12]; rfl) (by decide) ?_
                          refine lv_goto (tgt := 224) hf.1 hf.2.1 dX11_sign_216 (by decide) ?_
                          exact gret_v hf hr hlk hw ⟨hSq1, hAq1, hBq1, (by show (σ 5).toInt < (σq1 5).toInt ∧ (σq1 5).toInt ≤ (σ 1).toInt ∧ 1 ≤ (σq1 7).toInt ∧ (σq1 7).toInt ≤ 5; omega)⟩ dX11_sign_224
                        · by_cases lk_13 : v = 60
                          · refine lv_lookup (tgt := 216) (off := 145) hf.1 hf.2.1 dX11_sign_71 (by decide) (by rw [lk_13]; rfl) (by decide) ?_
                            refine lv_goto (tgt := 224) hf.1 hf.2.1 dX11_sign_216 (by decide) ?_
                            exact gret_v hf hr hlk hw ⟨hSq1, hAq1, hBq1, (by show (σ 5).toInt < (σq1 5).toInt ∧ (σq1 5).toInt ≤ (σ 1).toInt ∧ 1 ≤ (σq1 7).toInt ∧ (σq1 7).toInt ≤ 5; omega)⟩ dX11_sign_224
                          · by_cases lk_14 : v = 61
                            · refine lv_lookup (tgt := 216) (off := 145) hf.1 hf.2.1 dX11_sign_71 (by decide) (by rw [lk_14]; rfl) (by decide) ?_
                              refine lv_goto (tgt := 224) hf.1 hf.2.1 dX11_sign_216 (by decide) ?_
                              exact gret_v hf hr hlk hw ⟨hSq1, hAq1, hBq1, (by show (σ 5).toInt < (σq1 5).toInt ∧ (σq1 5).toInt ≤ (σ 1).toInt ∧ 1 ≤ (σq1 7).toInt ∧ (σq1 7).toInt ≤ 5; omega)⟩ dX11_sign_224
                            · by_cases lk_15 : v = 91
                              · refine lv_lookup (tgt := 216) (off := 145) hf.1 hf.2.1 dX11_sign_71 (by decide) (by rw [lk_15]; rfl) (by decide) ?_
                                refine lv_goto (tgt := 224) hf.1 hf.2.1 dX11_sign_216 (by decide) ?_
                                exact gret_v hf hr hlk hw ⟨hSq1, hAq1, hBq1, (by show (σ 5).toInt < (σq1 5).toInt ∧ (σq1 5).toInt ≤ (σ 1).toInt ∧ 1 ≤ (σq1 7).toInt ∧ (σq1 7).toInt ≤ 5; omega)⟩ dX11_sign_224
                              · by_cases lk_16 : v = 93
                                · refine lv_lookup (tgt := 216) (off := 145) hf.1 hf.2.1 dX11_sign_71 (by decide) (by rw [lk_16]; rfl) (by decide) ?_
                                  refine lv_goto (tgt := 224) hf.1 hf.2.1 dX11_sign_216 (by decide) ?_
                                  exact gret_v hf hr hlk hw ⟨hSq1, hAq1, hBq1, (by show (σ 5).toInt < (σq1 5).toInt ∧ (σq1 5).toInt ≤ (σ 1).toInt ∧ 1 ≤ (σq1 7).toInt ∧ (σq1 7).toInt ≤ 5; omega)⟩ dX11_sign_224
                                · by_cases lk_17 : v = 123
                                  · refine lv_lookup (tgt := 216) (off := 145) hf.1 hf.2.1 dX11_sign_71 (by decide) (by rw [lk_17]; rfl) (by decide) ?_
                                    refine lv_goto (tgt := 224) hf.1 hf.2.1 dX11_sign_216 (by decide) ?_
                                    exact gret_v hf hr hlk hw ⟨hSq1, hAq1, hBq1, (by show (σ 5).toInt < (σq1 5).toInt ∧ (σq1 5).toInt ≤ (σ 1).toInt ∧ 1 ≤ (σq1 7).toInt ∧ (σq1 7).toInt ≤ 5; omega)⟩ dX11_sign_224
                                  · by_cases lk_18 : v = 125
                                    · refine lv_lookup (tgt := 216) (off := 145) hf.1 hf.2.1 dX11_sign_71 (by decide) (by rw [lk_18]; rfl) (by decide) ?_
                                      refine lv_goto (tgt := 224) hf.1 hf.2.1 dX11_sign_216 (by decide) ?_
                                      exact gret_v hf hr hlk hw ⟨hSq1, hAq1, hBq1, (by show (σ 5).toInt < (σq1 5).toInt ∧ (σq1 5).toInt ≤ (σ 1).toInt ∧ 1 ≤ (σq1 7).toInt ∧ (σq1 7).toInt ≤ 5; omega)⟩ dX11_sign_224
                                    · refine lv_lookup (tgt := 219) (off := 148) hf.1 hf.2.1 dX11_sign_71 (by decide) ((lv_osw lk_2 rfl).trans ((lv_osw lk_3 rfl).trans ((lv_osw lk_4 rfl).trans ((lv_osw lk_5 rfl).trans ((lv_osw lk_6 rfl).trans ((lv_osw lk_7 rfl).trans ((lv_osw lk_8 rfl).trans ((lv_osw lk_9 rfl).trans ((lv_osw lk_10 rfl).trans ((lv_osw lk_11 rfl).trans ((lv_osw lk_12 rfl).trans ((lv_osw lk_13 rfl).trans ((lv_osw lk_14 rfl).trans ((lv_osw lk_15 rfl).trans ((lv_osw lk_16 rfl).trans ((lv_osw lk_17 rfl).trans ((lv_osw lk_18 rfl).trans rfl))))))))))))))))) (by decide) ?_
                                      refine lv_aload_n hf.1 hf.2.1 dX11_sign_219 rfl (lv_at hl 0 rfl) ?_
                                      refine lv_iconst (v := 5) hf.1 hf.2.1 dX11_sign_220 (by decide) ?_
                                      refine gput hf hw 7 (by decide) k1375 rfl rfl rfl dX11_sign_221 (fun H locs hw => ?_)
                                      exact gret_v hf hr hlk hw ⟨(hSq1.put 7 (by decide) 5), hAq1, hBq1, (by show (σ 5).toInt < (σq1 5).toInt ∧ (σq1 5).toInt ≤ (σ 1).toInt ∧ 1 ≤ (5 : Int) ∧ (5 : Int) ≤ 5; omega)⟩ dX11_sign_224
  refine lv_aload_n hf.1 hf.2.1 dX11_sign_0 rfl (lv_at hl 0 rfl) ?_
  refine lv_iconst (v := 4) hf.1 hf.2.1 dX11_sign_1 (by decide) ?_
  refine gput hf hw 7 (by decide) k1375 rfl rfl rfl dX11_sign_2 (fun H locs hw => ?_)
  refine lv_aload_n hf.1 hf.2.1 dX11_sign_5 rfl (lv_at hl 0 rfl) ?_
  refine lv_iload_n hf.1 hf.2.1 dX11_sign_6 rfl (lv_at hl 1 rfl) ?_
  refine lv_i2l hf.1 hf.2.1 dX11_sign_7 rfl ?_
  refine lv_topl (fun y_19 ey_19 => ?_)
  refine gputL hf hw k1376 dX11_sign_8 (fun H locs hw => ?_)
  refine lv_aload_n hf.1 hf.2.1 dX11_sign_11 rfl (lv_at hl 0 rfl) ?_
  refine lv_dup hf.1 hf.2.1 dX11_sign_12 rfl ?_
  refine gget hf hw 5 (by decide) k1373 (v := σ 5) rfl dX11_sign_13 ?_
  refine lv_iconst (v := 1) hf.1 hf.2.1 dX11_sign_16 (by decide) ?_
  refine lv_iadd hf.1 hf.2.1 dX11_sign_17 ?_
  refine lv_topi (fun x_20 ex_20 => ?_)
  have tx_20 : x_20.toInt = (σ 5).toInt + (1 : Int) := by rw [ex_20]; exact ti_add (by show _ ≤ (σ 5).toInt + (1 : Int); omega) (by show (σ 5).toInt + (1 : Int) ≤ _; omega)
  refine gput hf hw 5 (by decide) k1373 rfl rfl rfl dX11_sign_18 (fun H locs hw => ?_)
  refine lv_iload_n hf.1 hf.2.1 dX11_sign_21 rfl (lv_at hl 1 rfl) ?_
  refine lv_bipush (v := 58) hf.1 hf.2.1 dX11_sign_22 (by decide) ?_
  refine lv_icmp_ne (tgt := 70) hf.1 hf.2.1 dX11_sign_24 (by decide) (fun c_21 => ?_) (fun c_21 => ?_)
  · have ic_21 : ¬ v.toInt = (58 : Int) := ti_ne c_21
    exact J70 (uS (uS σ 7 4) 5 x_20) y_19 α β  _ _ _ ((offS.rf.put 7 (by decide) 4).put 5 (by decide) x_20) offA.rf offA.rf (by show (σ 5).toInt < x_20.toInt ∧ x_20.toInt ≤ (σ 1).toInt ∧ (4 : Int) = 4; omega)  hw (lv_sub hl [0, 1] rfl)
  · have ic_21 : v.toInt = (58 : Int) := ti_eq c_21
    refine lv_aload_n hf.1 hf.2.1 dX11_sign_27 rfl (lv_at hl 0 rfl) ?_
    refine gget hf hw 5 (by decide) k1373 (v := x_20) rfl dX11_sign_28 ?_
    refine lv_aload_n hf.1 hf.2.1 dX11_sign_31 rfl (lv_at hl 0 rfl) ?_
    refine gget hf hw 1 (by decide) k1368 (v := σ 1) rfl dX11_sign_32 ?_
    refine lv_icmp_ge (tgt := 70) hf.1 hf.2.1 dX11_sign_35 (by decide) (fun c_22 => ?_) (fun c_22 => ?_)
    · have ic_22 : (σ 1).toInt ≤ x_20.toInt := ti_le c_22
      exact J70 (uS (uS σ 7 4) 5 x_20) y_19 α β  _ _ _ ((offS.rf.put 7 (by decide) 4).put 5 (by decide) x_20) offA.rf offA.rf (by show (σ 5).toInt < x_20.toInt ∧ x_20.toInt ≤ (σ 1).toInt ∧ (4 : Int) = 4; omega)  hw (lv_sub hl [0, 1] rfl)
    · have ic_22 : x_20.toInt < (σ 1).toInt := ti_nle c_22
      refine lv_aload_n hf.1 hf.2.1 dX11_sign_38 rfl (lv_at hl 0 rfl) ?_
      refine ggetA hf hw 1 (by decide) k1367 dX11_sign_39 ?_
      refine lv_aload_n hf.1 hf.2.1 dX11_sign_42 rfl (lv_at hl 0 rfl) ?_
      refine gget hf hw 5 (by decide) k1373 (v := x_20) rfl dX11_sign_43 ?_
      refine gbld hf hw 1 (by decide) rfl (n := 3000) (f := α 1) rfl (ti_in (by omega) (by omega)) dX11_sign_46 ?_
      refine lv_topi (fun x_23 ex_23 => ?_)
      refine lv_bipush (v := 61) hf.1 hf.2.1 dX11_sign_47 (by decide) ?_
      refine lv_icmp_ne (tgt := 70) hf.1 hf.2.1 dX11_sign_49 (by decide) (fun c_24 => ?_) (fun c_24 => ?_)
      · have ic_24 : ¬ x_23.toInt = (61 : Int) := ti_ne c_24
        exact J70 (uS (uS σ 7 4) 5 x_20) y_19 α β  _ _ _ ((offS.rf.put 7 (by decide) 4).put 5 (by decide) x_20) offA.rf offA.rf (by show (σ 5).toInt < x_20.toInt ∧ x_20.toInt ≤ (σ 1).toInt ∧ (4 : Int) = 4; omega)  hw (lv_sub hl [0, 1] rfl)
      · have ic_24 : x_23.toInt = (61 : Int) := ti_eq c_24
        refine lv_aload_n hf.1 hf.2.1 dX11_sign_52 rfl (lv_at hl 0 rfl) ?_
        refine lv_ldc2 (v := 1000) hf.1 hf.2.1 hf.2.2.2.1 (hf.2.2.2.2.1 _ k1799) dX11_sign_53 ?_
        refine gputL hf hw k1376 dX11_sign_56 (fun H locs hw => ?_)
        refine lv_aload_n hf.1 hf.2.1 dX11_sign_59 rfl (lv_at hl 0 rfl) ?_
        refine lv_dup hf.1 hf.2.1 dX11_sign_60 rfl ?_
        refine gget hf hw 5 (by decide) k1373 (v := x_20) rfl dX11_sign_61 ?_
        refine lv_iconst (v := 1) hf.1 hf.2.1 dX11_sign_64 (by decide) ?_
        refine lv_iadd hf.1 hf.2.1 dX11_sign_65 ?_
        refine lv_topi (fun x_25 ex_25 => ?_)
        have tx_25 : x_25.toInt = x_20.toInt + (1 : Int) := by rw [ex_25]; exact ti_add (by show _ ≤ x_20.toInt + (1 : Int); omega) (by show x_20.toInt + (1 : Int) ≤ _; omega)
        refine gput hf hw 5 (by decide) k1373 rfl rfl rfl dX11_sign_66 (fun H locs hw => ?_)
        exact gret_v hf hr hlk hw ⟨(((offS.rf.put 7 (by decide) 4).put 5 (by decide) x_20).put 5 (by decide) x_25), offA.rf, offA.rf, (by show (σ 5).toInt < x_25.toInt ∧ x_25.toInt ≤ (σ 1).toInt ∧ 1 ≤ (4 : Int) ∧ (4 : Int) ≤ 5; omega)⟩ dX11_sign_69

set_option maxHeartbeats 4000000 in
set_option maxRecDepth 100000 in
theorem m_next (l : Launch) (dC : Nat → ClassId) (dI : Nat → Nat → Nat) (h0 : Nat) (ad : Nat → Nat) (cA : Nat → ClassId) (σ : Nat → Int32) (τ : Int64) (α : Nat → Nat → Int32) (β : Nat → Nat → Int64) (sz : Nat) (hlen : (σ 1).toInt ≤ 3000) (hat : 0 ≤ (σ 5).toInt) (hal : (σ 5).toInt ≤ (σ 1).toInt) : MCv l dC dI h0 ad cA yX11_next cX11_next 2 ({ frames := 18, cells := 0, slots := 0, locals := 270 } : Room) [] σ τ α β (fun x => offS [5, 6, 7, 8] σ x.1 ∧ offA [] α x.2.2.1 ∧ offA [] β x.2.2.2 ∧ ((σ 5).toInt ≤ (x.1 6).toInt ∧ (x.1 6).toInt ≤ (x.1 5).toInt ∧ (x.1 5).toInt ≤ (σ 1).toInt ∧ (((x.1 7).toInt = 0 ∧ (x.1 5).toInt = (σ 1).toInt) ∨ (1 ≤ (x.1 7).toInt ∧ (x.1 7).toInt ≤ 5 ∧ (x.1 6).toInt < (x.1 5).toInt)))) sz := by
  refine gbody_v (by decide) (Nat.le_of_ble_eq_true rfl) ?_
  intro p e s m below meth c ls A H hf hr hlk hw hl
  have hl : lv_has ls 2 [(0, .ref h0)] := hl
  have J52 : ∀ (σq1 : Nat → Int32) (τq1 : Int64) (αq1 : Nat → Nat → Int32) (βq1 : Nat → Nat → Int64) (H : Heap) (locs : List Loc) (ls : Array Slot), offS [5, 6, 7, 8] σ σq1 → offA [] α αq1 → offA [] β βq1 → ((σ 5).toInt ≤ (σq1 5).toInt ∧ (σq1 5).toInt ≤ (σ 1).toInt) → Wd dC dI A (MW h0 ad cA σq1 τq1 αq1 βq1) (MT cA) s H locs → lv_has ls 2 [(0, .ref h0)] → W p l e ({ frames := 18, cells := 0, slots := 0, locals := 270 } : Room) s m (.ref h0 :: [] : List Value).toArray below meth c H locs 0 0 (MZv below (fun x => offS [5, 6, 7, 8] σ x.1 ∧ offA [] α x.2.2.1 ∧ offA [] β x.2.2.2 ∧ ((σ 5).toInt ≤ (x.1 6).toInt ∧ (x.1 6).toInt ≤ (x.1 5).toInt ∧ (x.1 5).toInt ≤ (σ 1).toInt ∧ (((x.1 7).toInt = 0 ∧ (x.1 5).toInt = (σ 1).toInt) ∨ (1 ≤ (x.1 7).toInt ∧ (x.1 7).toInt ≤ 5 ∧ (x.1 6).toInt < (x.1 5).toInt)))) h0 ad cA dC dI A s (.ref h0 :: [])) (F0 m 52 ls []) := by
    intro σq1 τq1 αq1 βq1  H locs ls hSq1 hAq1 hBq1 hIq1  hw hl
    have fq1_0 : (σq1 0).toInt = (σ 0).toInt := congrArg Int32.toInt (hSq1 0 (by decide))
    have fq1_1 : (σq1 1).toInt = (σ 1).toInt := congrArg Int32.toInt (hSq1 1 (by decide))
    have fq1_9 : (σq1 9).toInt = (σ 9).toInt := congrArg Int32.toInt (hSq1 9 (by decide))
    have fq1_13 : (σq1 13).toInt = (σ 13).toInt := congrArg Int32.toInt (hSq1 13 (by decide))
    have fq1_15 : (σq1 15).toInt = (σ 15).toInt := congrArg Int32.toInt (hSq1 15 (by decide))
    have fq1_17 : (σq1 17).toInt = (σ 17).toInt := congrArg Int32.toInt (hSq1 17 (by decide))
    have fq1_18 : (σq1 18).toInt = (σ 18).toInt := congrArg Int32.toInt (hSq1 18 (by decide))
    have fq1_19 : (σq1 19).toInt = (σ 19).toInt := congrArg Int32.toInt (hSq1 19 (by decide))
    have fq1_20 : (σq1 20).toInt = (σ 20).toInt := congrArg Int32.toInt (hSq1 20 (by decide))
    have fq1_21 : (σq1 21).toInt = (σ 21).toInt := congrArg Int32.toInt (hSq1 21 (by decide))
    have fq1_22 : (σq1 22).toInt = (σ 22).toInt := congrArg Int32.toInt (hSq1 22 (by decide))
    refine lv_aload_n hf.1 hf.2.1 dX11_next_52 rfl (lv_at hl 0 rfl) ?_
    refine lv_aload_n hf.1 hf.2.1 dX11_next_53 rfl (lv_at hl 0 rfl) ?_
    refine gget hf hw 5 (by decide) k1373 (v := σq1 5) rfl dX11_next_54 ?_
    refine gput hf hw 6 (by decide) k1374 rfl rfl rfl dX11_next_57 (fun H locs hw => ?_)
    refine lv_aload_n hf.1 hf.2.1 dX11_next_60 rfl (lv_at hl 0 rfl) ?_
    refine lv_lconst (v := 0) hf.1 hf.2.1 dX11_next_61 (by decide) ?_
    refine gputL hf hw k1376 dX11_next_62 (fun H locs hw => ?_)
    refine lv_aload_n hf.1 hf.2.1 dX11_next_65 rfl (lv_at hl 0 rfl) ?_
    refine gget hf hw 5 (by decide) k1373 (v := σq1 5) rfl dX11_next_66 ?_
    refine lv_aload_n hf.1 hf.2.1 dX11_next_69 rfl (lv_at hl 0 rfl) ?_
    refine gget hf hw 1 (by decide) k1368 (v := σq1 1) rfl dX11_next_70 ?_
    refine lv_icmp_ne (tgt := 82) hf.1 hf.2.1 dX11_next_73 (by decide) (fun c_2 => ?_) (fun c_2 => ?_)
    · have ic_2 : ¬ (σq1 5).toInt = (σq1 1).toInt := ti_ne c_2
      refine lv_aload_n hf.1 hf.2.1 dX11_next_82 rfl (lv_at hl 0 rfl) ?_
      refine ggetA hf hw 1 (by decide) k1367 dX11_next_83 ?_
      refine lv_aload_n hf.1 hf.2.1 dX11_next_86 rfl (lv_at hl 0 rfl) ?_
      refine gget hf hw 5 (by decide) k1373 (v := σq1 5) rfl dX11_next_87 ?_
      refine gbld hf hw 1 (by decide) rfl (n := 3000) (f := αq1 1) rfl (ti_in (by omega) (by omega)) dX11_next_90 ?_
      refine lv_topi (fun x_3 ex_3 => ?_)
      refine lv_istore_n (lv' := [(1, .int x_3), (0, .ref h0)]) hf.1 hf.2.1 dX11_next_91 rfl hl (by decide) rfl (fun ls hl => ?_)
      refine lv_iload_n hf.1 hf.2.1 dX11_next_92 rfl (lv_at hl 0 rfl) ?_
      refine pcall_i (As := [.int x_3]) (rest := []) hf hw (m_letterV l dC dI x_3 H.size) ka_X11_letterOf k1781 k1780 rfl rfl hl.1 rfl rfl ⟨Nat.le_of_ble_eq_true rfl, Nat.le_of_ble_eq_true rfl⟩ (Nat.le_of_ble_eq_true rfl) ⟨Nat.le_refl _, Nat.le_refl _⟩ dX11_next_93 (fun r_4 hr_4 H locs hw => ?_)
      refine lv_if_le (tgt := 106) hf.1 hf.2.1 dX11_next_96 (by decide) (fun c_5 => ?_) (fun c_5 => ?_)
      · have ic_5 : r_4.toInt ≤ (0 : Int) := ti_le c_5
        refine lv_iload_n hf.1 hf.2.1 dX11_next_106 rfl (lv_at hl 0 rfl) ?_
        refine lv_bipush (v := 48) hf.1 hf.2.1 dX11_next_107 (by decide) ?_
        refine lv_bipush (v := 57) hf.1 hf.2.1 dX11_next_109 (by decide) ?_
        refine pcall_i (As := [.int x_3, .int 48, .int 57]) (rest := []) hf hw (m_in l dC dI x_3 48 57 H.size) ka_X11_in k1766 k1765 rfl rfl hl.1 rfl rfl ⟨Nat.le_of_ble_eq_true rfl, Nat.le_of_ble_eq_true rfl⟩ (Nat.le_of_ble_eq_true rfl) ⟨Nat.le_refl _, Nat.le_refl _⟩ dX11_next_111 (fun r_8 hr_8 H locs hw => ?_)
        have hr_8 : (r_8.toInt = 0 ∨ r_8.toInt = 1) ∧ (r_8.toInt = 1 → (48 : Int) ≤ x_3.toInt ∧ x_3.toInt ≤ (57 : Int)) ∧ (r_8.toInt = 0 → x_3.toInt < (48 : Int) ∨ (57 : Int) < x_3.toInt) := hr_8
        refine lv_if_eq (tgt := 210) hf.1 hf.2.1 dX11_next_114 (by decide) (fun c_9 => ?_) (fun c_9 => ?_)
        · have ic_9 : r_8.toInt = (0 : Int) := ti_eq c_9
          refine lv_aload_n hf.1 hf.2.1 dX11_next_210 rfl (lv_at hl 1 rfl) ?_
          refine lv_iload_n hf.1 hf.2.1 dX11_next_211 rfl (lv_at hl 0 rfl) ?_
          refine gcall_v (As := [.int x_3]) (rest := []) hf hw (m_sign l dC dI h0 ad cA (uS σq1 6 (σq1 5)) 0 αq1 βq1 x_3 H.size (by show (σq1 1).toInt ≤ 3000; omega) (by show 0 ≤ (σq1 5).toInt; omega) (by show (σq1 5).toInt < (σq1 1).toInt; omega)) ka_X11_sign kv_X11_sign rfl k1795 rfl rfl hl.1 rfl rfl ⟨Nat.le_of_ble_eq_true rfl, Nat.le_of_ble_eq_true rfl⟩ (Nat.le_of_ble_eq_true rfl) ⟨Nat.le_refl _, Nat.le_refl _⟩ dX11_next_212 (fun w_10 hw_10 H locs hw => ?_)
          obtain ⟨σ_10, τ_10, α_10, β_10⟩ := w_10
          obtain ⟨hS_10, hA_10, hB_10, hp_10⟩ := hw_10
          obtain rfl : αq1 = α_10 := (offA_nil hA_10).symm
          obtain rfl : βq1 = β_10 := (offA_nil hB_10).symm
          have hp_10 : (σq1 5).toInt < (σ_10 5).toInt ∧ (σ_10 5).toInt ≤ (σq1 1).toInt ∧ 1 ≤ (σ_10 7).toInt ∧ (σ_10 7).toInt ≤ 5 := hp_10
          have f_10_0 : (σ_10 0).toInt = (σq1 0).toInt := congrArg Int32.toInt (hS_10 0 (by decide))
          have f_10_1 : (σ_10 1).toInt = (σq1 1).toInt := congrArg Int32.toInt (hS_10 1 (by decide))
          have f_10_6 : (σ_10 6).toInt = (σq1 5).toInt := congrArg Int32.toInt (hS_10 6 (by decide))
          have f_10_9 : (σ_10 9).toInt = (σq1 9).toInt := congrArg Int32.toInt (hS_10 9 (by decide))
          have f_10_13 : (σ_10 13).toInt = (σq1 13).toInt := congrArg Int32.toInt (hS_10 13 (by decide))
          have f_10_15 : (σ_10 15).toInt = (σq1 15).toInt := congrArg Int32.toInt (hS_10 15 (by decide))
          have f_10_17 : (σ_10 17).toInt = (σq1 17).toInt := congrArg Int32.toInt (hS_10 17 (by decide))
          have f_10_18 : (σ_10 18).toInt = (σq1 18).toInt := congrArg Int32.toInt (hS_10 18 (by decide))
          have f_10_19 : (σ_10 19).toInt = (σq1 19).toInt := congrArg Int32.toInt (hS_10 19 (by decide))
          have f_10_20 : (σ_10 20).toInt = (σq1 20).toInt := congrArg Int32.toInt (hS_10 20 (by decide))
          have f_10_21 : (σ_10 21).toInt = (σq1 21).toInt := congrArg Int32.toInt (hS_10 21 (by decide))
          have f_10_22 : (σ_10 22).toInt = (σq1 22).toInt := congrArg Int32.toInt (hS_10 22 (by decide))
          have hw : Wd dC dI A (MW h0 ad cA σ_10 τ_10 αq1 βq1) (MT cA) s H locs := hw
          exact gret_v hf hr hlk hw ⟨((hSq1.put 6 (by decide) (σq1 5)).tr hS_10 (by decide)), hAq1, hBq1, (by show (σ 5).toInt ≤ (σ_10 6).toInt ∧ (σ_10 6).toInt ≤ (σ_10 5).toInt ∧ (σ_10 5).toInt ≤ (σ 1).toInt ∧ (((σ_10 7).toInt = 0 ∧ (σ_10 5).toInt = (σ 1).toInt) ∨ (1 ≤ (σ_10 7).toInt ∧ (σ_10 7).toInt ≤ 5 ∧ (σ_10 6).toInt < (σ_10 5).toInt)); omega)⟩ dX11_next_215
        · have ic_9 : ¬ r_8.toInt = (0 : Int) := ti_ne c_9
          refine lv_aload_n hf.1 hf.2.1 dX11_next_117 rfl (lv_at hl 1 rfl) ?_
          refine lv_iconst (v := 3) hf.1 hf.2.1 dX11_next_118 (by decide) ?_
          refine gput hf hw 7 (by decide) k1375 rfl rfl rfl dX11_next_119 (fun H locs hw => ?_)
          have loopd : ∀ (N : Nat) (σq12 : Nat → Int32) (τq12 : Int64) (αq12 : Nat → Nat → Int32) (βq12 : Nat → Nat → Int64) (H : Heap) (locs : List Loc) (ls : Array Slot), ((σ 1).toInt - (σq12 5).toInt).toNat < N → offS [5, 6, 7, 8] σ σq12 → offA [] α αq12 → offA [] β βq12 → (0 ≤ (σq12 6).toInt ∧ (σ 5).toInt ≤ (σq12 6).toInt ∧ (σq12 6).toInt ≤ (σq12 5).toInt ∧ (σq12 5).toInt ≤ (σ 1).toInt ∧ (σq12 7).toInt = 3 ∧ ((σq1 5).toInt < (σq12 5).toInt ∨ (σq1 5).toInt = (σq12 5).toInt) ∧ (σq1 5).toInt ≤ (σq12 5).toInt ∧ (σq12 6).toInt = (σq1 5).toInt) → Wd dC dI A (MW h0 ad cA σq12 τq12 αq12 βq12) (MT cA) s H locs → lv_has ls 2 [(0, .ref h0)] → W p l e ({ frames := 18, cells := 0, slots := 0, locals := 270 } : Room) s m (.ref h0 :: [] : List Value).toArray below meth c H locs 0 0 (MZv below (fun x => offS [5, 6, 7, 8] σ x.1 ∧ offA [] α x.2.2.1 ∧ offA [] β x.2.2.2 ∧ ((σ 5).toInt ≤ (x.1 6).toInt ∧ (x.1 6).toInt ≤ (x.1 5).toInt ∧ (x.1 5).toInt ≤ (σ 1).toInt ∧ (((x.1 7).toInt = 0 ∧ (x.1 5).toInt = (σ 1).toInt) ∨ (1 ≤ (x.1 7).toInt ∧ (x.1 7).toInt ≤ 5 ∧ (x.1 6).toInt < (x.1 5).toInt)))) h0 ad cA dC dI A s (.ref h0 :: [])) (F0 m 122 ls []) := by
            intro N
            induction N with
            | zero => intro σq12 τq12 αq12 βq12  H locs ls hm; exact absurd hm (Nat.not_lt_zero _)
            | succ N ih =>
              intro σq12 τq12 αq12 βq12  H locs ls hm hSq12 hAq12 hBq12 hIq12  hw hl
              have fq12_0 : (σq12 0).toInt = (σ 0).toInt := congrArg Int32.toInt (hSq12 0 (by decide))
              have fq12_1 : (σq12 1).toInt = (σ 1).toInt := congrArg Int32.toInt (hSq12 1 (by decide))
              have fq12_9 : (σq12 9).toInt = (σ 9).toInt := congrArg Int32.toInt (hSq12 9 (by decide))
              have fq12_13 : (σq12 13).toInt = (σ 13).toInt := congrArg Int32.toInt (hSq12 13 (by decide))
              have fq12_15 : (σq12 15).toInt = (σ 15).toInt := congrArg Int32.toInt (hSq12 15 (by decide))
              have fq12_17 : (σq12 17).toInt = (σ 17).toInt := congrArg Int32.toInt (hSq12 17 (by decide))
              have fq12_18 : (σq12 18).toInt = (σ 18).toInt := congrArg Int32.toInt (hSq12 18 (by decide))
              have fq12_19 : (σq12 19).toInt = (σ 19).toInt := congrArg Int32.toInt (hSq12 19 (by decide))
              have fq12_20 : (σq12 20).toInt = (σ 20).toInt := congrArg Int32.toInt (hSq12 20 (by decide))
              have fq12_21 : (σq12 21).toInt = (σ 21).toInt := congrArg Int32.toInt (hSq12 21 (by decide))
              have fq12_22 : (σq12 22).toInt = (σ 22).toInt := congrArg Int32.toInt (hSq12 22 (by decide))
              refine lv_aload_n hf.1 hf.2.1 dX11_next_122 rfl (lv_at hl 0 rfl) ?_
              refine gget hf hw 5 (by decide) k1373 (v := σq12 5) rfl dX11_next_123 ?_
              refine lv_aload_n hf.1 hf.2.1 dX11_next_126 rfl (lv_at hl 0 rfl) ?_
              refine gget hf hw 1 (by decide) k1368 (v := σq12 1) rfl dX11_next_127 ?_
              refine lv_icmp_ge (tgt := 215) hf.1 hf.2.1 dX11_next_130 (by decide) (fun c_13 => ?_) (fun c_13 => ?_)
              · have ic_13 : (σq12 1).toInt ≤ (σq12 5).toInt := ti_le c_13
                have hpr : (σq1 5).toInt < (σq12 5).toInt := by omega
                exact gret_v hf hr hlk hw ⟨hSq12, hAq12, hBq12, (by show (σ 5).toInt ≤ (σq12 6).toInt ∧ (σq12 6).toInt ≤ (σq12 5).toInt ∧ (σq12 5).toInt ≤ (σ 1).toInt ∧ (((σq12 7).toInt = 0 ∧ (σq12 5).toInt = (σ 1).toInt) ∨ (1 ≤ (σq12 7).toInt ∧ (σq12 7).toInt ≤ 5 ∧ (σq12 6).toInt < (σq12 5).toInt)); omega)⟩ dX11_next_215
              · have ic_13 : (σq12 5).toInt < (σq12 1).toInt := ti_nle c_13
                refine lv_aload_n hf.1 hf.2.1 dX11_next_133 rfl (lv_at hl 0 rfl) ?_
                refine ggetA hf hw 1 (by decide) k1367 dX11_next_134 ?_
                refine lv_aload_n hf.1 hf.2.1 dX11_next_137 rfl (lv_at hl 0 rfl) ?_
                refine gget hf hw 5 (by decide) k1373 (v := σq12 5) rfl dX11_next_138 ?_
                refine gbld hf hw 1 (by decide) rfl (n := 3000) (f := αq12 1) rfl (ti_in (by omega) (by omega)) dX11_next_141 ?_
                refine lv_topi (fun x_14 ex_14 => ?_)
                refine lv_bipush (v := 48) hf.1 hf.2.1 dX11_next_142 (by decide) ?_
                refine lv_bipush (v := 57) hf.1 hf.2.1 dX11_next_144 (by decide) ?_
                refine pcall_i (As := [.int x_14, .int 48, .int 57]) (rest := []) hf hw (m_in l dC dI x_14 48 57 H.size) ka_X11_in k1766 k1765 rfl rfl hl.1 rfl rfl ⟨Nat.le_of_ble_eq_true rfl, Nat.le_of_ble_eq_true rfl⟩ (Nat.le_of_ble_eq_true rfl) ⟨Nat.le_refl _, Nat.le_refl _⟩ dX11_next_146 (fun r_15 hr_15 H locs hw => ?_)
                have hr_15 : (r_15.toInt = 0 ∨ r_15.toInt = 1) ∧ (r_15.toInt = 1 → (48 : Int) ≤ x_14.toInt ∧ x_14.toInt ≤ (57 : Int)) ∧ (r_15.toInt = 0 → x_14.toInt < (48 : Int) ∨ (57 : Int) < x_14.toInt) := hr_15
                refine lv_if_eq (tgt := 215) hf.1 hf.2.1 dX11_next_149 (by decide) (fun c_16 => ?_) (fun c_16 => ?_)
                · have ic_16 : r_15.toInt = (0 : Int) := ti_eq c_16
                  have hpr : (σq1 5).toInt < (σq12 5).toInt := by
                    rcases Int.lt_or_eq_of_le (show (σq1 5).toInt ≤ (σq12 5).toInt by omega) with z | z
                    · exact z
                    · exfalso
                      have e5 : σq12 5 = σq1 5 := Int32.toInt_inj.mp z.symm
                      have er : x_14 = x_3 := by rw [ex_14, ex_3, hAq12 1 (by decide), e5, hAq1 1 (by decide)]
                      rw [er] at hr_15
                      omega
                  exact gret_v hf hr hlk hw ⟨hSq12, hAq12, hBq12, (by show (σ 5).toInt ≤ (σq12 6).toInt ∧ (σq12 6).toInt ≤ (σq12 5).toInt ∧ (σq12 5).toInt ≤ (σ 1).toInt ∧ (((σq12 7).toInt = 0 ∧ (σq12 5).toInt = (σ 1).toInt) ∨ (1 ≤ (σq12 7).toInt ∧ (σq12 7).toInt ≤ 5 ∧ (σq12 6).toInt < (σq12 5).toInt)); omega)⟩ dX11_next_215
                · have ic_16 : ¬ r_15.toInt = (0 : Int) := ti_ne c_16
                  refine lv_aload_n hf.1 hf.2.1 dX11_next_152 rfl (lv_at hl 0 rfl) ?_
                  refine lv_aload_n hf.1 hf.2.1 dX11_next_153 rfl (lv_at hl 0 rfl) ?_
                  refine ggetL hf hw k1376 dX11_next_154 ?_
                  refine lv_ldc2 (v := 2147483647) hf.1 hf.2.1 hf.2.2.2.1 (hf.2.2.2.2.1 _ k1792) dX11_next_157 ?_
                  refine W.lcmp hf.1 hf.2.1 dX11_next_160 ?_
                  refine lv_topi (fun x_17 ex_17 => ?_)
                  refine lv_if_le (tgt := 171) hf.1 hf.2.1 dX11_next_161 (by decide) (fun c_18 => ?_) (fun c_18 => ?_)
                  · have ic_18 : x_17.toInt ≤ (0 : Int) := ti_le c_18
                    refine lv_ldc2 (v := 10) hf.1 hf.2.1 hf.2.2.2.1 (hf.2.2.2.2.1 _ k1793) dX11_next_171 ?_
                    refine lv_aload_n hf.1 hf.2.1 dX11_next_174 rfl (lv_at hl 0 rfl) ?_
                    refine ggetL hf hw k1376 dX11_next_175 ?_
                    refine lv_lmul hf.1 hf.2.1 dX11_next_178 ?_
                    refine lv_topl (fun y_19 ey_19 => ?_)
                    refine lv_aload_n hf.1 hf.2.1 dX11_next_179 rfl (lv_at hl 0 rfl) ?_
                    refine ggetA hf hw 1 (by decide) k1367 dX11_next_180 ?_
                    refine lv_aload_n hf.1 hf.2.1 dX11_next_183 rfl (lv_at hl 0 rfl) ?_
                    refine gget hf hw 5 (by decide) k1373 (v := σq12 5) rfl dX11_next_184 ?_
                    refine gbld hf hw 1 (by decide) rfl (n := 3000) (f := αq12 1) rfl (ti_in (by omega) (by omega)) dX11_next_187 ?_
                    refine lv_topi (fun x_20 ex_20 => ?_)
                    refine lv_i2l hf.1 hf.2.1 dX11_next_188 rfl ?_
                    refine lv_topl (fun y_21 ey_21 => ?_)
                    refine lv_ladd hf.1 hf.2.1 dX11_next_189 ?_
                    refine lv_topl (fun y_22 ey_22 => ?_)
                    refine lv_ldc2 (v := 48) hf.1 hf.2.1 hf.2.2.2.1 (hf.2.2.2.2.1 _ k1794) dX11_next_190 ?_
                    refine lv_lsub hf.1 hf.2.1 dX11_next_193 ?_
                    refine lv_topl (fun y_23 ey_23 => ?_)
                    refine gputL hf hw k1376 dX11_next_194 (fun H locs hw => ?_)
                    refine lv_aload_n hf.1 hf.2.1 dX11_next_197 rfl (lv_at hl 0 rfl) ?_
                    refine lv_dup hf.1 hf.2.1 dX11_next_198 rfl ?_
                    refine gget hf hw 5 (by decide) k1373 (v := σq12 5) rfl dX11_next_199 ?_
                    refine lv_iconst (v := 1) hf.1 hf.2.1 dX11_next_202 (by decide) ?_
                    refine lv_iadd hf.1 hf.2.1 dX11_next_203 ?_
                    refine lv_topi (fun x_24 ex_24 => ?_)
                    have tx_24 : x_24.toInt = (σq12 5).toInt + (1 : Int) := by rw [ex_24]; exact ti_add (by show _ ≤ (σq12 5).toInt + (1 : Int); omega) (by show (σq12 5).toInt + (1 : Int) ≤ _; omega)
                    refine gput hf hw 5 (by decide) k1373 rfl rfl rfl dX11_next_204 (fun H locs hw => ?_)
                    refine lv_goto (tgt := 122) hf.1 hf.2.1 dX11_next_207 (by decide) ?_
                    exact ih (uS σq12 5 x_24) y_23 αq12 βq12  _ _ _ (by show ((σ 1).toInt - x_24.toInt).toNat < _; omega) (hSq12.put 5 (by decide) x_24) hAq12 hBq12 (by show 0 ≤ (σq12 6).toInt ∧ (σ 5).toInt ≤ (σq12 6).toInt ∧ (σq12 6).toInt ≤ x_24.toInt ∧ x_24.toInt ≤ (σ 1).toInt ∧ (σq12 7).toInt = 3 ∧ ((σq1 5).toInt < x_24.toInt ∨ (σq1 5).toInt = x_24.toInt) ∧ (σq1 5).toInt ≤ x_24.toInt ∧ (σq12 6).toInt = (σq1 5).toInt; omega)  hw (lv_sub hl [0] rfl)
                  · have ic_18 : (0 : Int) < x_17.toInt := ti_nle c_18
                    refine lv_aload_n hf.1 hf.2.1 dX11_next_164 rfl (lv_at hl 0 rfl) ?_
                    refine ggetL hf hw k1376 dX11_next_165 ?_
                    refine lv_goto (tgt := 194) hf.1 hf.2.1 dX11_next_168 (by decide) ?_
                    refine gputL hf hw k1376 dX11_next_194 (fun H locs hw => ?_)
                    refine lv_aload_n hf.1 hf.2.1 dX11_next_197 rfl (lv_at hl 0 rfl) ?_
                    refine lv_dup hf.1 hf.2.1 dX11_next_198 rfl ?_
                    refine gget hf hw 5 (by decide) k1373 (v := σq12 5) rfl dX11_next_199 ?_
                    refine lv_iconst (v := 1) hf.1 hf.2.1 dX11_next_202 (by decide) ?_
                    refine lv_iadd hf.1 hf.2.1 dX11_next_203 ?_
                    refine lv_topi (fun x_25 ex_25 => ?_)
                    have tx_25 : x_25.toInt = (σq12 5).toInt + (1 : Int) := by rw [ex_25]; exact ti_add (by show _ ≤ (σq12 5).toInt + (1 : Int); omega) (by show (σq12 5).toInt + (1 : Int) ≤ _; omega)
                    refine gput hf hw 5 (by decide) k1373 rfl rfl rfl dX11_next_204 (fun H locs hw => ?_)
                    refine lv_goto (tgt := 122) hf.1 hf.2.1 dX11_next_207 (by decide) ?_
                    exact ih (uS σq12 5 x_25) τq12 αq12 βq12  _ _ _ (by show ((σ 1).toInt - x_25.toInt).toNat < _; omega) (hSq12.put 5 (by decide) x_25) hAq12 hBq12 (by show 0 ≤ (σq12 6).toInt ∧ (σ 5).toInt ≤ (σq12 6).toInt ∧ (σq12 6).toInt ≤ x_25.toInt ∧ x_25.toInt ≤ (σ 1).toInt ∧ (σq12 7).toInt = 3 ∧ ((σq1 5).toInt < x_25.toInt ∨ (σq1 5).toInt = x_25.toInt) ∧ (σq1 5).toInt ≤ x_25.toInt ∧ (σq12 6).toInt = (σq1 5).toInt; omega)  hw (lv_sub hl [0] rfl)
          exact loopd (((σ 1).toInt - (σq1 5).toInt).toNat + 1) (uS (uS σq1 6 (σq1 5)) 7 3) 0 αq1 βq1  _ _ _ (Nat.lt_succ_self _) ((hSq1.put 6 (by decide) (σq1 5)).put 7 (by decide) 3) hAq1 hBq1 (by show 0 ≤ (σq1 5).toInt ∧ (σ 5).toInt ≤ (σq1 5).toInt ∧ (σq1 5).toInt ≤ (σq1 5).toInt ∧ (σq1 5).toInt ≤ (σ 1).toInt ∧ (3 : Int) = 3 ∧ ((σq1 5).toInt < (σq1 5).toInt ∨ (σq1 5).toInt = (σq1 5).toInt) ∧ (σq1 5).toInt ≤ (σq1 5).toInt ∧ (σq1 5).toInt = (σq1 5).toInt; omega)  hw (lv_sub hl [1] rfl)
      · have ic_5 : (0 : Int) < r_4.toInt := ti_nle c_5
        have hlt : 0 < (letV (αq1 1 (σq1 5).toNatClampNeg)).toInt := by rw [← ex_3, ← hr_4]; omega
        refine lv_aload_n hf.1 hf.2.1 dX11_next_99 rfl (lv_at hl 1 rfl) ?_
        refine gcall_v (As := []) (rest := []) hf hw (m_name l dC dI h0 ad cA (uS σq1 6 (σq1 5)) 0 αq1 βq1  H.size (by show (σq1 1).toInt ≤ 3000; omega) (by show 0 ≤ (σq1 5).toInt; omega) (by show (σq1 5).toInt < (σq1 1).toInt; omega) (hlt)) ka_X11_name kv_X11_name rfl k1783 rfl rfl hl.1 rfl rfl ⟨Nat.le_of_ble_eq_true rfl, Nat.le_of_ble_eq_true rfl⟩ (Nat.le_of_ble_eq_true rfl) ⟨Nat.le_refl _, Nat.le_refl _⟩ dX11_next_100 (fun w_6 hw_6 H locs hw => ?_)
        obtain ⟨σ_6, τ_6, α_6, β_6⟩ := w_6
        obtain ⟨hS_6, hA_6, hB_6, hp_6⟩ := hw_6
        obtain rfl : αq1 = α_6 := (offA_nil hA_6).symm
        obtain rfl : βq1 = β_6 := (offA_nil hB_6).symm
        have hp_6 : (σq1 5).toInt < (σ_6 5).toInt ∧ (σ_6 5).toInt ≤ (σq1 1).toInt ∧ 1 ≤ (σ_6 7).toInt ∧ (σ_6 7).toInt ≤ 5 := hp_6
        have f_6_0 : (σ_6 0).toInt = (σq1 0).toInt := congrArg Int32.toInt (hS_6 0 (by decide))
        have f_6_1 : (σ_6 1).toInt = (σq1 1).toInt := congrArg Int32.toInt (hS_6 1 (by decide))
        have f_6_6 : (σ_6 6).toInt = (σq1 5).toInt := congrArg Int32.toInt (hS_6 6 (by decide))
        have f_6_9 : (σ_6 9).toInt = (σq1 9).toInt := congrArg Int32.toInt (hS_6 9 (by decide))
        have f_6_13 : (σ_6 13).toInt = (σq1 13).toInt := congrArg Int32.toInt (hS_6 13 (by decide))
        have f_6_15 : (σ_6 15).toInt = (σq1 15).toInt := congrArg Int32.toInt (hS_6 15 (by decide))
        have f_6_17 : (σ_6 17).toInt = (σq1 17).toInt := congrArg Int32.toInt (hS_6 17 (by decide))
        have f_6_18 : (σ_6 18).toInt = (σq1 18).toInt := congrArg Int32.toInt (hS_6 18 (by decide))
        have f_6_19 : (σ_6 19).toInt = (σq1 19).toInt := congrArg Int32.toInt (hS_6 19 (by decide))
        have f_6_20 : (σ_6 20).toInt = (σq1 20).toInt := congrArg Int32.toInt (hS_6 20 (by decide))
        have f_6_21 : (σ_6 21).toInt = (σq1 21).toInt := congrArg Int32.toInt (hS_6 21 (by decide))
        have f_6_22 : (σ_6 22).toInt = (σq1 22).toInt := congrArg Int32.toInt (hS_6 22 (by decide))
        have hw : Wd dC dI A (MW h0 ad cA σ_6 τ_6 αq1 βq1) (MT cA) s H locs := hw
        refine lv_goto (tgt := 215) hf.1 hf.2.1 dX11_next_103 (by decide) ?_
        exact gret_v hf hr hlk hw ⟨((hSq1.put 6 (by decide) (σq1 5)).tr hS_6 (by decide)), hAq1, hBq1, (by show (σ 5).toInt ≤ (σ_6 6).toInt ∧ (σ_6 6).toInt ≤ (σ_6 5).toInt ∧ (σ_6 5).toInt ≤ (σ 1).toInt ∧ (((σ_6 7).toInt = 0 ∧ (σ_6 5).toInt = (σ 1).toInt) ∨ (1 ≤ (σ_6 7).toInt ∧ (σ_6 7).toInt ≤ 5 ∧ (σ_6 6).toInt < (σ_6 5).toInt)); omega)⟩ dX11_next_215
    · have ic_2 : (σq1 5).toInt = (σq1 1).toInt := ti_eq c_2
      refine lv_aload_n hf.1 hf.2.1 dX11_next_76 rfl (lv_at hl 0 rfl) ?_
      refine lv_iconst (v := 0) hf.1 hf.2.1 dX11_next_77 (by decide) ?_
      refine gput hf hw 7 (by decide) k1375 rfl rfl rfl dX11_next_78 (fun H locs hw => ?_)
      exact gret_v hf hr hlk hw ⟨((hSq1.put 6 (by decide) (σq1 5)).put 7 (by decide) 0), hAq1, hBq1, (by show (σ 5).toInt ≤ (σq1 5).toInt ∧ (σq1 5).toInt ≤ (σq1 5).toInt ∧ (σq1 5).toInt ≤ (σ 1).toInt ∧ (((0 : Int) = 0 ∧ (σq1 5).toInt = (σ 1).toInt) ∨ (1 ≤ (0 : Int) ∧ (0 : Int) ≤ 5 ∧ (σq1 5).toInt < (σq1 5).toInt)); omega)⟩ dX11_next_81
  have loop : ∀ (N : Nat) (σq26 : Nat → Int32) (τq26 : Int64) (αq26 : Nat → Nat → Int32) (βq26 : Nat → Nat → Int64) (H : Heap) (locs : List Loc) (ls : Array Slot), ((σ 1).toInt - (σq26 5).toInt).toNat < N → offS [5, 6, 7, 8] σ σq26 → offA [] α αq26 → offA [] β βq26 → ((σ 5).toInt ≤ (σq26 5).toInt ∧ (σq26 5).toInt ≤ (σ 1).toInt) → Wd dC dI A (MW h0 ad cA σq26 τq26 αq26 βq26) (MT cA) s H locs → lv_has ls 2 [(0, .ref h0)] → W p l e ({ frames := 18, cells := 0, slots := 0, locals := 270 } : Room) s m (.ref h0 :: [] : List Value).toArray below meth c H locs 0 0 (MZv below (fun x => offS [5, 6, 7, 8] σ x.1 ∧ offA [] α x.2.2.1 ∧ offA [] β x.2.2.2 ∧ ((σ 5).toInt ≤ (x.1 6).toInt ∧ (x.1 6).toInt ≤ (x.1 5).toInt ∧ (x.1 5).toInt ≤ (σ 1).toInt ∧ (((x.1 7).toInt = 0 ∧ (x.1 5).toInt = (σ 1).toInt) ∨ (1 ≤ (x.1 7).toInt ∧ (x.1 7).toInt ≤ 5 ∧ (x.1 6).toInt < (x.1 5).toInt)))) h0 ad cA dC dI A s (.ref h0 :: [])) (F0 m 0 ls []) := by
    intro N
    induction N with
    | zero => intro σq26 τq26 αq26 βq26  H locs ls hm; exact absurd hm (Nat.not_lt_zero _)
    | succ N ih =>
      intro σq26 τq26 αq26 βq26  H locs ls hm hSq26 hAq26 hBq26 hIq26  hw hl
      have fq26_0 : (σq26 0).toInt = (σ 0).toInt := congrArg Int32.toInt (hSq26 0 (by decide))
      have fq26_1 : (σq26 1).toInt = (σ 1).toInt := congrArg Int32.toInt (hSq26 1 (by decide))
      have fq26_9 : (σq26 9).toInt = (σ 9).toInt := congrArg Int32.toInt (hSq26 9 (by decide))
      have fq26_13 : (σq26 13).toInt = (σ 13).toInt := congrArg Int32.toInt (hSq26 13 (by decide))
      have fq26_15 : (σq26 15).toInt = (σ 15).toInt := congrArg Int32.toInt (hSq26 15 (by decide))
      have fq26_17 : (σq26 17).toInt = (σ 17).toInt := congrArg Int32.toInt (hSq26 17 (by decide))
      have fq26_18 : (σq26 18).toInt = (σ 18).toInt := congrArg Int32.toInt (hSq26 18 (by decide))
      have fq26_19 : (σq26 19).toInt = (σ 19).toInt := congrArg Int32.toInt (hSq26 19 (by decide))
      have fq26_20 : (σq26 20).toInt = (σ 20).toInt := congrArg Int32.toInt (hSq26 20 (by decide))
      have fq26_21 : (σq26 21).toInt = (σ 21).toInt := congrArg Int32.toInt (hSq26 21 (by decide))
      have fq26_22 : (σq26 22).toInt = (σ 22).toInt := congrArg Int32.toInt (hSq26 22 (by decide))
      refine lv_aload_n hf.1 hf.2.1 dX11_next_0 rfl (lv_at hl 0 rfl) ?_
      refine gget hf hw 5 (by decide) k1373 (v := σq26 5) rfl dX11_next_1 ?_
      refine lv_aload_n hf.1 hf.2.1 dX11_next_4 rfl (lv_at hl 0 rfl) ?_
      refine gget hf hw 1 (by decide) k1368 (v := σq26 1) rfl dX11_next_5 ?_
      refine lv_icmp_ge (tgt := 52) hf.1 hf.2.1 dX11_next_8 (by decide) (fun c_27 => ?_) (fun c_27 => ?_)
      · have ic_27 : (σq26 1).toInt ≤ (σq26 5).toInt := ti_le c_27
        exact J52 σq26 τq26 αq26 βq26  _ _ _ hSq26 hAq26 hBq26 (by show (σ 5).toInt ≤ (σq26 5).toInt ∧ (σq26 5).toInt ≤ (σ 1).toInt; omega)  hw (lv_sub hl [0] rfl)
      · have ic_27 : (σq26 5).toInt < (σq26 1).toInt := ti_nle c_27
        refine lv_aload_n hf.1 hf.2.1 dX11_next_11 rfl (lv_at hl 0 rfl) ?_
        refine ggetA hf hw 1 (by decide) k1367 dX11_next_12 ?_
        refine lv_aload_n hf.1 hf.2.1 dX11_next_15 rfl (lv_at hl 0 rfl) ?_
        refine gget hf hw 5 (by decide) k1373 (v := σq26 5) rfl dX11_next_16 ?_
        refine gbld hf hw 1 (by decide) rfl (n := 3000) (f := αq26 1) rfl (ti_in (by omega) (by omega)) dX11_next_19 ?_
        refine lv_topi (fun x_28 ex_28 => ?_)
        refine lv_bipush (v := 32) hf.1 hf.2.1 dX11_next_20 (by decide) ?_
        refine lv_icmp_eq (tgt := 39) hf.1 hf.2.1 dX11_next_22 (by decide) (fun c_29 => ?_) (fun c_29 => ?_)
        · have ic_29 : x_28.toInt = (32 : Int) := ti_eq c_29
          refine lv_aload_n hf.1 hf.2.1 dX11_next_39 rfl (lv_at hl 0 rfl) ?_
          refine lv_dup hf.1 hf.2.1 dX11_next_40 rfl ?_
          refine gget hf hw 5 (by decide) k1373 (v := σq26 5) rfl dX11_next_41 ?_
          refine lv_iconst (v := 1) hf.1 hf.2.1 dX11_next_44 (by decide) ?_
          refine lv_iadd hf.1 hf.2.1 dX11_next_45 ?_
          refine lv_topi (fun x_30 ex_30 => ?_)
          have tx_30 : x_30.toInt = (σq26 5).toInt + (1 : Int) := by rw [ex_30]; exact ti_add (by show _ ≤ (σq26 5).toInt + (1 : Int); omega) (by show (σq26 5).toInt + (1 : Int) ≤ _; omega)
          refine gput hf hw 5 (by decide) k1373 rfl rfl rfl dX11_next_46 (fun H locs hw => ?_)
          refine lv_goto (tgt := 0) hf.1 hf.2.1 dX11_next_49 (by decide) ?_
          exact ih (uS σq26 5 x_30) τq26 αq26 βq26  _ _ _ (by show ((σ 1).toInt - x_30.toInt).toNat < _; omega) (hSq26.put 5 (by decide) x_30) hAq26 hBq26 (by show (σ 5).toInt ≤ x_30.toInt ∧ x_30.toInt ≤ (σ 1).toInt; omega)  hw (lv_sub hl [0] rfl)
        · have ic_29 : ¬ x_28.toInt = (32 : Int) := ti_ne c_29
          refine lv_aload_n hf.1 hf.2.1 dX11_next_25 rfl (lv_at hl 0 rfl) ?_
          refine ggetA hf hw 1 (by decide) k1367 dX11_next_26 ?_
          refine lv_aload_n hf.1 hf.2.1 dX11_next_29 rfl (lv_at hl 0 rfl) ?_
          refine gget hf hw 5 (by decide) k1373 (v := σq26 5) rfl dX11_next_30 ?_
          refine gbld hf hw 1 (by decide) rfl (n := 3000) (f := αq26 1) rfl (ti_in (by omega) (by omega)) dX11_next_33 ?_
          refine lv_topi (fun x_31 ex_31 => ?_)
          refine lv_bipush (v := 10) hf.1 hf.2.1 dX11_next_34 (by decide) ?_
          refine lv_icmp_ne (tgt := 52) hf.1 hf.2.1 dX11_next_36 (by decide) (fun c_32 => ?_) (fun c_32 => ?_)
          · have ic_32 : ¬ x_31.toInt = (10 : Int) := ti_ne c_32
            exact J52 σq26 τq26 αq26 βq26  _ _ _ hSq26 hAq26 hBq26 (by show (σ 5).toInt ≤ (σq26 5).toInt ∧ (σq26 5).toInt ≤ (σ 1).toInt; omega)  hw (lv_sub hl [0] rfl)
          · have ic_32 : x_31.toInt = (10 : Int) := ti_eq c_32
            refine lv_aload_n hf.1 hf.2.1 dX11_next_39 rfl (lv_at hl 0 rfl) ?_
            refine lv_dup hf.1 hf.2.1 dX11_next_40 rfl ?_
            refine gget hf hw 5 (by decide) k1373 (v := σq26 5) rfl dX11_next_41 ?_
            refine lv_iconst (v := 1) hf.1 hf.2.1 dX11_next_44 (by decide) ?_
            refine lv_iadd hf.1 hf.2.1 dX11_next_45 ?_
            refine lv_topi (fun x_33 ex_33 => ?_)
            have tx_33 : x_33.toInt = (σq26 5).toInt + (1 : Int) := by rw [ex_33]; exact ti_add (by show _ ≤ (σq26 5).toInt + (1 : Int); omega) (by show (σq26 5).toInt + (1 : Int) ≤ _; omega)
            refine gput hf hw 5 (by decide) k1373 rfl rfl rfl dX11_next_46 (fun H locs hw => ?_)
            refine lv_goto (tgt := 0) hf.1 hf.2.1 dX11_next_49 (by decide) ?_
            exact ih (uS σq26 5 x_33) τq26 αq26 βq26  _ _ _ (by show ((σ 1).toInt - x_33.toInt).toNat < _; omega) (hSq26.put 5 (by decide) x_33) hAq26 hBq26 (by show (σ 5).toInt ≤ x_33.toInt ∧ x_33.toInt ≤ (σ 1).toInt; omega)  hw (lv_sub hl [0] rfl)
  exact loop (((σ 1).toInt - (σ 5).toInt).toNat + 1) σ τ α β  _ _ _ (Nat.lt_succ_self _) offS.rf offA.rf offA.rf (by show (σ 5).toInt ≤ (σ 5).toInt ∧ (σ 5).toInt ≤ (σ 1).toInt; omega)  hw (lv_sub hl [0] rfl)
