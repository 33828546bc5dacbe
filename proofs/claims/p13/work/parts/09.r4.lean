theorem dX11_compiles_0 : decode cX11_compiles 0 = .ok (.aload_n 0, 1) := by decide +kernel
theorem dX11_compiles_1 : decode cX11_compiles 1 = .ok (.iconst 0, 1) := by decide +kernel
theorem dX11_compiles_2 : decode cX11_compiles 2 = .ok (.putfield 548, 3) := by decide +kernel
theorem dX11_compiles_5 : decode cX11_compiles 5 = .ok (.iconst 0, 1) := by decide +kernel
theorem dX11_compiles_6 : decode cX11_compiles 6 = .ok (.istore_n 1, 1) := by decide +kernel
theorem dX11_compiles_7 : decode cX11_compiles 7 = .ok (.iload_n 1, 1) := by decide +kernel
theorem dX11_compiles_8 : decode cX11_compiles 8 = .ok (.aload_n 0, 1) := by decide +kernel
theorem dX11_compiles_9 : decode cX11_compiles 9 = .ok (.getfield 497, 3) := by decide +kernel
theorem dX11_compiles_12 : decode cX11_compiles 12 = .ok (.if_icmp .ge 104, 3) := by decide +kernel
theorem dX11_compiles_15 : decode cX11_compiles 15 = .ok (.aload_n 0, 1) := by decide +kernel
theorem dX11_compiles_16 : decode cX11_compiles 16 = .ok (.getfield 149, 3) := by decide +kernel
theorem dX11_compiles_19 : decode cX11_compiles 19 = .ok (.iload_n 1, 1) := by decide +kernel
theorem dX11_compiles_20 : decode cX11_compiles 20 = .ok (.aload_n 0, 1) := by decide +kernel
theorem dX11_compiles_21 : decode cX11_compiles 21 = .ok (.getfield 548, 3) := by decide +kernel
theorem dX11_compiles_24 : decode cX11_compiles 24 = .ok (.iastore, 1) := by decide +kernel
theorem dX11_compiles_25 : decode cX11_compiles 25 = .ok (.aload_n 0, 1) := by decide +kernel
theorem dX11_compiles_26 : decode cX11_compiles 26 = .ok (.iconst 0, 1) := by decide +kernel
theorem dX11_compiles_27 : decode cX11_compiles 27 = .ok (.putfield 545, 3) := by decide +kernel
theorem dX11_compiles_30 : decode cX11_compiles 30 = .ok (.aload_n 0, 1) := by decide +kernel
theorem dX11_compiles_31 : decode cX11_compiles 31 = .ok (.bipush 31, 2) := by decide +kernel
theorem dX11_compiles_33 : decode cX11_compiles 33 = .ok (.iload_n 1, 1) := by decide +kernel
theorem dX11_compiles_34 : decode cX11_compiles 34 = .ok (.iconst 0, 1) := by decide +kernel
theorem dX11_compiles_35 : decode cX11_compiles 35 = .ok (.invokevirtual 551, 3) := by decide +kernel
theorem dX11_compiles_38 : decode cX11_compiles 38 = .ok (.aload_n 0, 1) := by decide +kernel
theorem dX11_compiles_39 : decode cX11_compiles 39 = .ok (.bipush 30, 2) := by decide +kernel
theorem dX11_compiles_41 : decode cX11_compiles 41 = .ok (.iload_n 1, 1) := by decide +kernel
theorem dX11_compiles_42 : decode cX11_compiles 42 = .ok (.iconst 0, 1) := by decide +kernel
theorem dX11_compiles_43 : decode cX11_compiles 43 = .ok (.invokevirtual 551, 3) := by decide +kernel
theorem dX11_compiles_46 : decode cX11_compiles 46 = .ok (.aload_n 0, 1) := by decide +kernel
theorem dX11_compiles_47 : decode cX11_compiles 47 = .ok (.bipush 40, 2) := by decide +kernel
theorem dX11_compiles_49 : decode cX11_compiles 49 = .ok (.aload_n 0, 1) := by decide +kernel
theorem dX11_compiles_50 : decode cX11_compiles 50 = .ok (.getfield 71, 3) := by decide +kernel
theorem dX11_compiles_53 : decode cX11_compiles 53 = .ok (.iload_n 1, 1) := by decide +kernel
theorem dX11_compiles_54 : decode cX11_compiles 54 = .ok (.iaload, 1) := by decide +kernel
theorem dX11_compiles_55 : decode cX11_compiles 55 = .ok (.iconst 0, 1) := by decide +kernel
theorem dX11_compiles_56 : decode cX11_compiles 56 = .ok (.invokevirtual 551, 3) := by decide +kernel
theorem dX11_compiles_59 : decode cX11_compiles 59 = .ok (.aload_n 0, 1) := by decide +kernel
theorem dX11_compiles_60 : decode cX11_compiles 60 = .ok (.getfield 545, 3) := by decide +kernel
theorem dX11_compiles_63 : decode cX11_compiles 63 = .ok (.ifCond .le 47, 3) := by decide +kernel
theorem dX11_compiles_66 : decode cX11_compiles 66 = .ok (.aload_n 0, 1) := by decide +kernel
theorem dX11_compiles_67 : decode cX11_compiles 67 = .ok (.dup, 1) := by decide +kernel
theorem dX11_compiles_68 : decode cX11_compiles 68 = .ok (.getfield 545, 3) := by decide +kernel
theorem dX11_compiles_71 : decode cX11_compiles 71 = .ok (.iconst 1, 1) := by decide +kernel
theorem dX11_compiles_72 : decode cX11_compiles 72 = .ok (.isub, 1) := by decide +kernel
theorem dX11_compiles_73 : decode cX11_compiles 73 = .ok (.putfield 545, 3) := by decide +kernel
theorem dX11_compiles_76 : decode cX11_compiles 76 = .ok (.aload_n 0, 1) := by decide +kernel
theorem dX11_compiles_77 : decode cX11_compiles 77 = .ok (.aload_n 0, 1) := by decide +kernel
theorem dX11_compiles_78 : decode cX11_compiles 78 = .ok (.getfield 161, 3) := by decide +kernel
theorem dX11_compiles_81 : decode cX11_compiles 81 = .ok (.aload_n 0, 1) := by decide +kernel
theorem dX11_compiles_82 : decode cX11_compiles 82 = .ok (.getfield 545, 3) := by decide +kernel
theorem dX11_compiles_85 : decode cX11_compiles 85 = .ok (.iaload, 1) := by decide +kernel
theorem dX11_compiles_86 : decode cX11_compiles 86 = .ok (.aload_n 0, 1) := by decide +kernel
theorem dX11_compiles_87 : decode cX11_compiles 87 = .ok (.getfield 164, 3) := by decide +kernel
theorem dX11_compiles_90 : decode cX11_compiles 90 = .ok (.aload_n 0, 1) := by decide +kernel
theorem dX11_compiles_91 : decode cX11_compiles 91 = .ok (.getfield 545, 3) := by decide +kernel
theorem dX11_compiles_94 : decode cX11_compiles 94 = .ok (.iaload, 1) := by decide +kernel
theorem dX11_compiles_95 : decode cX11_compiles 95 = .ok (.aload_n 0, 1) := by decide +kernel
theorem dX11_compiles_96 : decode cX11_compiles 96 = .ok (.getfield 167, 3) := by decide +kernel
theorem dX11_compiles_99 : decode cX11_compiles 99 = .ok (.aload_n 0, 1) := by decide +kernel
theorem dX11_compiles_100 : decode cX11_compiles 100 = .ok (.getfield 545, 3) := by decide +kernel
theorem dX11_compiles_103 : decode cX11_compiles 103 = .ok (.iaload, 1) := by decide +kernel
theorem dX11_compiles_104 : decode cX11_compiles 104 = .ok (.invokevirtual 554, 3) := by decide +kernel
theorem dX11_compiles_107 : decode cX11_compiles 107 = .ok (.goto (-48), 3) := by decide +kernel
theorem dX11_compiles_110 : decode cX11_compiles 110 = .ok (.iinc 1 1, 3) := by decide +kernel
theorem dX11_compiles_113 : decode cX11_compiles 113 = .ok (.goto (-106), 3) := by decide +kernel
theorem dX11_compiles_116 : decode cX11_compiles 116 = .ok (.return_, 1) := by decide +kernel
theorem dX11_functionOf_0 : decode cX11_functionOf 0 = .ok (.iconst 0, 1) := by decide +kernel
theorem dX11_functionOf_1 : decode cX11_functionOf 1 = .ok (.istore_n 2, 1) := by decide +kernel
theorem dX11_functionOf_2 : decode cX11_functionOf 2 = .ok (.iload_n 2, 1) := by decide +kernel
theorem dX11_functionOf_3 : decode cX11_functionOf 3 = .ok (.aload_n 0, 1) := by decide +kernel
theorem dX11_functionOf_4 : decode cX11_functionOf 4 = .ok (.getfield 62, 3) := by decide +kernel
theorem dX11_functionOf_7 : decode cX11_functionOf 7 = .ok (.iload_n 1, 1) := by decide +kernel
theorem dX11_functionOf_8 : decode cX11_functionOf 8 = .ok (.iaload, 1) := by decide +kernel
theorem dX11_functionOf_9 : decode cX11_functionOf 9 = .ok (.if_icmp .ge 25, 3) := by decide +kernel
theorem dX11_functionOf_12 : decode cX11_functionOf 12 = .ok (.aload_n 0, 1) := by decide +kernel
theorem dX11_functionOf_13 : decode cX11_functionOf 13 = .ok (.getfield 46, 3) := by decide +kernel
theorem dX11_functionOf_16 : decode cX11_functionOf 16 = .ok (.sipush 3000, 3) := by decide +kernel
theorem dX11_functionOf_19 : decode cX11_functionOf 19 = .ok (.iload_n 2, 1) := by decide +kernel
theorem dX11_functionOf_20 : decode cX11_functionOf 20 = .ok (.iadd, 1) := by decide +kernel
theorem dX11_functionOf_21 : decode cX11_functionOf 21 = .ok (.aload_n 0, 1) := by decide +kernel
theorem dX11_functionOf_22 : decode cX11_functionOf 22 = .ok (.iload_n 1, 1) := by decide +kernel
theorem dX11_functionOf_23 : decode cX11_functionOf 23 = .ok (.iload_n 2, 1) := by decide +kernel
theorem dX11_functionOf_24 : decode cX11_functionOf 24 = .ok (.invokevirtual 571, 3) := by decide +kernel
theorem dX11_functionOf_27 : decode cX11_functionOf 27 = .ok (.iastore, 1) := by decide +kernel
theorem dX11_functionOf_28 : decode cX11_functionOf 28 = .ok (.iinc 2 1, 3) := by decide +kernel
theorem dX11_functionOf_31 : decode cX11_functionOf 31 = .ok (.goto (-29), 3) := by decide +kernel
theorem dX11_functionOf_34 : decode cX11_functionOf 34 = .ok (.aload_n 0, 1) := by decide +kernel
theorem dX11_functionOf_35 : decode cX11_functionOf 35 = .ok (.getfield 46, 3) := by decide +kernel
theorem dX11_functionOf_38 : decode cX11_functionOf 38 = .ok (.sipush 3000, 3) := by decide +kernel
theorem dX11_functionOf_41 : decode cX11_functionOf 41 = .ok (.aload_n 0, 1) := by decide +kernel
theorem dX11_functionOf_42 : decode cX11_functionOf 42 = .ok (.getfield 62, 3) := by decide +kernel
theorem dX11_functionOf_45 : decode cX11_functionOf 45 = .ok (.iload_n 1, 1) := by decide +kernel
theorem dX11_functionOf_46 : decode cX11_functionOf 46 = .ok (.iaload, 1) := by decide +kernel
theorem dX11_functionOf_47 : decode cX11_functionOf 47 = .ok (.iadd, 1) := by decide +kernel
theorem dX11_functionOf_48 : decode cX11_functionOf 48 = .ok (.aload_n 0, 1) := by decide +kernel
theorem dX11_functionOf_49 : decode cX11_functionOf 49 = .ok (.iload_n 1, 1) := by decide +kernel
theorem dX11_functionOf_50 : decode cX11_functionOf 50 = .ok (.invokevirtual 574, 3) := by decide +kernel
theorem dX11_functionOf_53 : decode cX11_functionOf 53 = .ok (.iastore, 1) := by decide +kernel
theorem dX11_functionOf_54 : decode cX11_functionOf 54 = .ok (.aload_n 0, 1) := by decide +kernel
theorem dX11_functionOf_55 : decode cX11_functionOf 55 = .ok (.iconst 5, 1) := by decide +kernel
theorem dX11_functionOf_56 : decode cX11_functionOf 56 = .ok (.sipush 3000, 3) := by decide +kernel
theorem dX11_functionOf_59 : decode cX11_functionOf 59 = .ok (.aload_n 0, 1) := by decide +kernel
theorem dX11_functionOf_60 : decode cX11_functionOf 60 = .ok (.getfield 62, 3) := by decide +kernel
theorem dX11_functionOf_63 : decode cX11_functionOf 63 = .ok (.iload_n 1, 1) := by decide +kernel
theorem dX11_functionOf_64 : decode cX11_functionOf 64 = .ok (.iaload, 1) := by decide +kernel
theorem dX11_functionOf_65 : decode cX11_functionOf 65 = .ok (.iconst 1, 1) := by decide +kernel
theorem dX11_functionOf_66 : decode cX11_functionOf 66 = .ok (.iadd, 1) := by decide +kernel
theorem dX11_functionOf_67 : decode cX11_functionOf 67 = .ok (.invokevirtual 272, 3) := by decide +kernel
theorem dX11_functionOf_70 : decode cX11_functionOf 70 = .ok (.ireturn, 1) := by decide +kernel
theorem dX11_goesOn_0 : decode cX11_goesOn 0 = .ok (.iload_n 1, 1) := by decide +kernel
theorem dX11_goesOn_1 : decode cX11_goesOn 1 = .ok (.lookupswitch 236 #[(14, 176), (16, 196), (17, 216), (40, 59), (41, 74), (43, 132)], 59) := by decide +kernel
theorem dX11_goesOn_60 : decode cX11_goesOn 60 = .ok (.aload_n 0, 1) := by decide +kernel
theorem dX11_goesOn_61 : decode cX11_goesOn 61 = .ok (.iconst 0, 1) := by decide +kernel
theorem dX11_goesOn_62 : decode cX11_goesOn 62 = .ok (.iload_n 2, 1) := by decide +kernel
theorem dX11_goesOn_63 : decode cX11_goesOn 63 = .ok (.iconst 0, 1) := by decide +kernel
theorem dX11_goesOn_64 : decode cX11_goesOn 64 = .ok (.invokevirtual 557, 3) := by decide +kernel
theorem dX11_goesOn_67 : decode cX11_goesOn 67 = .ok (.aload_n 0, 1) := by decide +kernel
theorem dX11_goesOn_68 : decode cX11_goesOn 68 = .ok (.iload_n 2, 1) := by decide +kernel
theorem dX11_goesOn_69 : decode cX11_goesOn 69 = .ok (.invokevirtual 559, 3) := by decide +kernel
theorem dX11_goesOn_72 : decode cX11_goesOn 72 = .ok (.goto 172, 3) := by decide +kernel
theorem dX11_goesOn_75 : decode cX11_goesOn 75 = .ok (.aload_n 0, 1) := by decide +kernel
theorem dX11_goesOn_76 : decode cX11_goesOn 76 = .ok (.getfield 101, 3) := by decide +kernel
theorem dX11_goesOn_79 : decode cX11_goesOn 79 = .ok (.iload_n 2, 1) := by decide +kernel
theorem dX11_goesOn_80 : decode cX11_goesOn 80 = .ok (.iaload, 1) := by decide +kernel
theorem dX11_goesOn_81 : decode cX11_goesOn 81 = .ok (.ifCond .lt 29, 3) := by decide +kernel
theorem dX11_goesOn_84 : decode cX11_goesOn 84 = .ok (.aload_n 0, 1) := by decide +kernel
theorem dX11_goesOn_85 : decode cX11_goesOn 85 = .ok (.bipush 41, 2) := by decide +kernel
theorem dX11_goesOn_87 : decode cX11_goesOn 87 = .ok (.aload_n 0, 1) := by decide +kernel
theorem dX11_goesOn_88 : decode cX11_goesOn 88 = .ok (.getfield 101, 3) := by decide +kernel
theorem dX11_goesOn_91 : decode cX11_goesOn 91 = .ok (.iload_n 2, 1) := by decide +kernel
theorem dX11_goesOn_92 : decode cX11_goesOn 92 = .ok (.iaload, 1) := by decide +kernel
theorem dX11_goesOn_93 : decode cX11_goesOn 93 = .ok (.iload_n 3, 1) := by decide +kernel
theorem dX11_goesOn_94 : decode cX11_goesOn 94 = .ok (.invokevirtual 551, 3) := by decide +kernel
theorem dX11_goesOn_97 : decode cX11_goesOn 97 = .ok (.iload_n 3, 1) := by decide +kernel
theorem dX11_goesOn_98 : decode cX11_goesOn 98 = .ok (.iconst 1, 1) := by decide +kernel
theorem dX11_goesOn_99 : decode cX11_goesOn 99 = .ok (.if_icmp .ne 11, 3) := by decide +kernel
theorem dX11_goesOn_102 : decode cX11_goesOn 102 = .ok (.aload_n 0, 1) := by decide +kernel
theorem dX11_goesOn_103 : decode cX11_goesOn 103 = .ok (.bipush 29, 2) := by decide +kernel
theorem dX11_goesOn_105 : decode cX11_goesOn 105 = .ok (.iload_n 2, 1) := by decide +kernel
theorem dX11_goesOn_106 : decode cX11_goesOn 106 = .ok (.iconst 0, 1) := by decide +kernel
theorem dX11_goesOn_107 : decode cX11_goesOn 107 = .ok (.invokevirtual 551, 3) := by decide +kernel
theorem dX11_goesOn_110 : decode cX11_goesOn 110 = .ok (.iload_n 3, 1) := by decide +kernel
theorem dX11_goesOn_111 : decode cX11_goesOn 111 = .ok (.ifCond .ne 11, 3) := by decide +kernel
theorem dX11_goesOn_114 : decode cX11_goesOn 114 = .ok (.aload_n 0, 1) := by decide +kernel
theorem dX11_goesOn_115 : decode cX11_goesOn 115 = .ok (.bipush 14, 2) := by decide +kernel
theorem dX11_goesOn_117 : decode cX11_goesOn 117 = .ok (.iload_n 2, 1) := by decide +kernel
theorem dX11_goesOn_118 : decode cX11_goesOn 118 = .ok (.iconst 0, 1) := by decide +kernel
theorem dX11_goesOn_119 : decode cX11_goesOn 119 = .ok (.invokevirtual 551, 3) := by decide +kernel
theorem dX11_goesOn_122 : decode cX11_goesOn 122 = .ok (.aload_n 0, 1) := by decide +kernel
theorem dX11_goesOn_123 : decode cX11_goesOn 123 = .ok (.bipush 40, 2) := by decide +kernel
theorem dX11_goesOn_125 : decode cX11_goesOn 125 = .ok (.iload_n 2, 1) := by decide +kernel
theorem dX11_goesOn_126 : decode cX11_goesOn 126 = .ok (.iconst 0, 1) := by decide +kernel
theorem dX11_goesOn_127 : decode cX11_goesOn 127 = .ok (.invokevirtual 551, 3) := by decide +kernel
theorem dX11_goesOn_130 : decode cX11_goesOn 130 = .ok (.goto 114, 3) := by decide +kernel
theorem dX11_goesOn_133 : decode cX11_goesOn 133 = .ok (.aload_n 0, 1) := by decide +kernel
theorem dX11_goesOn_134 : decode cX11_goesOn 134 = .ok (.getfield 101, 3) := by decide +kernel
theorem dX11_goesOn_137 : decode cX11_goesOn 137 = .ok (.iload_n 2, 1) := by decide +kernel
theorem dX11_goesOn_138 : decode cX11_goesOn 138 = .ok (.iaload, 1) := by decide +kernel
theorem dX11_goesOn_139 : decode cX11_goesOn 139 = .ok (.ifCond .lt 19, 3) := by decide +kernel
theorem dX11_goesOn_142 : decode cX11_goesOn 142 = .ok (.aload_n 0, 1) := by decide +kernel
theorem dX11_goesOn_143 : decode cX11_goesOn 143 = .ok (.bipush 43, 2) := by decide +kernel
theorem dX11_goesOn_145 : decode cX11_goesOn 145 = .ok (.aload_n 0, 1) := by decide +kernel
theorem dX11_goesOn_146 : decode cX11_goesOn 146 = .ok (.getfield 101, 3) := by decide +kernel
theorem dX11_goesOn_149 : decode cX11_goesOn 149 = .ok (.iload_n 2, 1) := by decide +kernel
theorem dX11_goesOn_150 : decode cX11_goesOn 150 = .ok (.iaload, 1) := by decide +kernel
theorem dX11_goesOn_151 : decode cX11_goesOn 151 = .ok (.iload_n 3, 1) := by decide +kernel
theorem dX11_goesOn_152 : decode cX11_goesOn 152 = .ok (.bipush 8, 2) := by decide +kernel
theorem dX11_goesOn_154 : decode cX11_goesOn 154 = .ok (.iadd, 1) := by decide +kernel
theorem dX11_goesOn_155 : decode cX11_goesOn 155 = .ok (.invokevirtual 551, 3) := by decide +kernel
theorem dX11_goesOn_158 : decode cX11_goesOn 158 = .ok (.aload_n 0, 1) := by decide +kernel
theorem dX11_goesOn_159 : decode cX11_goesOn 159 = .ok (.bipush 10, 2) := by decide +kernel
theorem dX11_goesOn_161 : decode cX11_goesOn 161 = .ok (.iload_n 2, 1) := by decide +kernel
theorem dX11_goesOn_162 : decode cX11_goesOn 162 = .ok (.iload_n 3, 1) := by decide +kernel
theorem dX11_goesOn_163 : decode cX11_goesOn 163 = .ok (.invokevirtual 551, 3) := by decide +kernel
theorem dX11_goesOn_166 : decode cX11_goesOn 166 = .ok (.aload_n 0, 1) := by decide +kernel
theorem dX11_goesOn_167 : decode cX11_goesOn 167 = .ok (.bipush 40, 2) := by decide +kernel
theorem dX11_goesOn_169 : decode cX11_goesOn 169 = .ok (.iload_n 2, 1) := by decide +kernel
theorem dX11_goesOn_170 : decode cX11_goesOn 170 = .ok (.iconst 0, 1) := by decide +kernel
theorem dX11_goesOn_171 : decode cX11_goesOn 171 = .ok (.invokevirtual 551, 3) := by decide +kernel
theorem dX11_goesOn_174 : decode cX11_goesOn 174 = .ok (.goto 70, 3) := by decide +kernel
theorem dX11_goesOn_177 : decode cX11_goesOn 177 = .ok (.aload_n 0, 1) := by decide +kernel
theorem dX11_goesOn_178 : decode cX11_goesOn 178 = .ok (.getfield 152, 3) := by decide +kernel
theorem dX11_goesOn_181 : decode cX11_goesOn 181 = .ok (.iload_n 2, 1) := by decide +kernel
theorem dX11_goesOn_182 : decode cX11_goesOn 182 = .ok (.aload_n 0, 1) := by decide +kernel
theorem dX11_goesOn_183 : decode cX11_goesOn 183 = .ok (.getfield 548, 3) := by decide +kernel
theorem dX11_goesOn_186 : decode cX11_goesOn 186 = .ok (.iastore, 1) := by decide +kernel
theorem dX11_goesOn_187 : decode cX11_goesOn 187 = .ok (.aload_n 0, 1) := by decide +kernel
theorem dX11_goesOn_188 : decode cX11_goesOn 188 = .ok (.iload_n 1, 1) := by decide +kernel
theorem dX11_goesOn_189 : decode cX11_goesOn 189 = .ok (.iload_n 2, 1) := by decide +kernel
theorem dX11_goesOn_190 : decode cX11_goesOn 190 = .ok (.iload_n 3, 1) := by decide +kernel
theorem dX11_goesOn_191 : decode cX11_goesOn 191 = .ok (.invokevirtual 557, 3) := by decide +kernel
theorem dX11_goesOn_194 : decode cX11_goesOn 194 = .ok (.goto 50, 3) := by decide +kernel
theorem dX11_goesOn_197 : decode cX11_goesOn 197 = .ok (.aload_n 0, 1) := by decide +kernel
theorem dX11_goesOn_198 : decode cX11_goesOn 198 = .ok (.iload_n 1, 1) := by decide +kernel
theorem dX11_goesOn_199 : decode cX11_goesOn 199 = .ok (.iload_n 2, 1) := by decide +kernel
theorem dX11_goesOn_200 : decode cX11_goesOn 200 = .ok (.iload_n 3, 1) := by decide +kernel
theorem dX11_goesOn_201 : decode cX11_goesOn 201 = .ok (.invokevirtual 557, 3) := by decide +kernel
theorem dX11_goesOn_204 : decode cX11_goesOn 204 = .ok (.aload_n 0, 1) := by decide +kernel
theorem dX11_goesOn_205 : decode cX11_goesOn 205 = .ok (.getfield 155, 3) := by decide +kernel
theorem dX11_goesOn_208 : decode cX11_goesOn 208 = .ok (.iload_n 2, 1) := by decide +kernel
theorem dX11_goesOn_209 : decode cX11_goesOn 209 = .ok (.aload_n 0, 1) := by decide +kernel
theorem dX11_goesOn_210 : decode cX11_goesOn 210 = .ok (.getfield 548, 3) := by decide +kernel
theorem dX11_goesOn_213 : decode cX11_goesOn 213 = .ok (.iastore, 1) := by decide +kernel
theorem dX11_goesOn_214 : decode cX11_goesOn 214 = .ok (.goto 30, 3) := by decide +kernel
theorem dX11_goesOn_217 : decode cX11_goesOn 217 = .ok (.aload_n 0, 1) := by decide +kernel
theorem dX11_goesOn_218 : decode cX11_goesOn 218 = .ok (.iload_n 1, 1) := by decide +kernel
theorem dX11_goesOn_219 : decode cX11_goesOn 219 = .ok (.iload_n 2, 1) := by decide +kernel
theorem dX11_goesOn_220 : decode cX11_goesOn 220 = .ok (.iload_n 3, 1) := by decide +kernel
theorem dX11_goesOn_221 : decode cX11_goesOn 221 = .ok (.invokevirtual 557, 3) := by decide +kernel
theorem dX11_goesOn_224 : decode cX11_goesOn 224 = .ok (.aload_n 0, 1) := by decide +kernel
theorem dX11_goesOn_225 : decode cX11_goesOn 225 = .ok (.getfield 158, 3) := by decide +kernel
theorem dX11_goesOn_228 : decode cX11_goesOn 228 = .ok (.iload_n 2, 1) := by decide +kernel
theorem dX11_goesOn_229 : decode cX11_goesOn 229 = .ok (.aload_n 0, 1) := by decide +kernel
theorem dX11_goesOn_230 : decode cX11_goesOn 230 = .ok (.getfield 548, 3) := by decide +kernel
theorem dX11_goesOn_233 : decode cX11_goesOn 233 = .ok (.iastore, 1) := by decide +kernel
theorem dX11_goesOn_234 : decode cX11_goesOn 234 = .ok (.goto 10, 3) := by decide +kernel
theorem dX11_goesOn_237 : decode cX11_goesOn 237 = .ok (.aload_n 0, 1) := by decide +kernel
theorem dX11_goesOn_238 : decode cX11_goesOn 238 = .ok (.iload_n 1, 1) := by decide +kernel
theorem dX11_goesOn_239 : decode cX11_goesOn 239 = .ok (.iload_n 2, 1) := by decide +kernel
theorem dX11_goesOn_240 : decode cX11_goesOn 240 = .ok (.iload_n 3, 1) := by decide +kernel
theorem dX11_goesOn_241 : decode cX11_goesOn 241 = .ok (.invokevirtual 557, 3) := by decide +kernel
theorem dX11_goesOn_244 : decode cX11_goesOn 244 = .ok (.return_, 1) := by decide +kernel
theorem dX11_guards_0 : decode cX11_guards 0 = .ok (.iload_n 2, 1) := by decide +kernel
theorem dX11_guards_1 : decode cX11_guards 1 = .ok (.iload_n 3, 1) := by decide +kernel
theorem dX11_guards_2 : decode cX11_guards 2 = .ok (.if_icmp .ne 4, 3) := by decide +kernel
theorem dX11_guards_5 : decode cX11_guards 5 = .ok (.return_, 1) := by decide +kernel
theorem dX11_guards_6 : decode cX11_guards 6 = .ok (.aload_n 0, 1) := by decide +kernel
theorem dX11_guards_7 : decode cX11_guards 7 = .ok (.getfield 173, 3) := by decide +kernel
theorem dX11_guards_10 : decode cX11_guards 10 = .ok (.aload_n 0, 1) := by decide +kernel
theorem dX11_guards_11 : decode cX11_guards 11 = .ok (.getfield 588, 3) := by decide +kernel
theorem dX11_guards_14 : decode cX11_guards 14 = .ok (.iload 4, 2) := by decide +kernel
theorem dX11_guards_16 : decode cX11_guards 16 = .ok (.iastore, 1) := by decide +kernel
theorem dX11_guards_17 : decode cX11_guards 17 = .ok (.aload_n 0, 1) := by decide +kernel
theorem dX11_guards_18 : decode cX11_guards 18 = .ok (.getfield 176, 3) := by decide +kernel
theorem dX11_guards_21 : decode cX11_guards 21 = .ok (.aload_n 0, 1) := by decide +kernel
theorem dX11_guards_22 : decode cX11_guards 22 = .ok (.getfield 588, 3) := by decide +kernel
theorem dX11_guards_25 : decode cX11_guards 25 = .ok (.iload_n 2, 1) := by decide +kernel
theorem dX11_guards_26 : decode cX11_guards 26 = .ok (.iastore, 1) := by decide +kernel
theorem dX11_guards_27 : decode cX11_guards 27 = .ok (.aload_n 0, 1) := by decide +kernel
theorem dX11_guards_28 : decode cX11_guards 28 = .ok (.getfield 179, 3) := by decide +kernel
theorem dX11_guards_31 : decode cX11_guards 31 = .ok (.aload_n 0, 1) := by decide +kernel
theorem dX11_guards_32 : decode cX11_guards 32 = .ok (.getfield 588, 3) := by decide +kernel
theorem dX11_guards_35 : decode cX11_guards 35 = .ok (.iload_n 3, 1) := by decide +kernel
theorem dX11_guards_36 : decode cX11_guards 36 = .ok (.iastore, 1) := by decide +kernel
theorem dX11_guards_37 : decode cX11_guards 37 = .ok (.aload_n 0, 1) := by decide +kernel
theorem dX11_guards_38 : decode cX11_guards 38 = .ok (.getfield 182, 3) := by decide +kernel
theorem dX11_guards_41 : decode cX11_guards 41 = .ok (.aload_n 0, 1) := by decide +kernel
theorem dX11_guards_42 : decode cX11_guards 42 = .ok (.getfield 588, 3) := by decide +kernel
theorem dX11_guards_45 : decode cX11_guards 45 = .ok (.aload_n 0, 1) := by decide +kernel
theorem dX11_guards_46 : decode cX11_guards 46 = .ok (.getfield 568, 3) := by decide +kernel
theorem dX11_guards_49 : decode cX11_guards 49 = .ok (.iastore, 1) := by decide +kernel
theorem dX11_guards_50 : decode cX11_guards 50 = .ok (.aload_n 0, 1) := by decide +kernel
theorem dX11_guards_51 : decode cX11_guards 51 = .ok (.getfield 185, 3) := by decide +kernel
theorem dX11_guards_54 : decode cX11_guards 54 = .ok (.aload_n 0, 1) := by decide +kernel
theorem dX11_guards_55 : decode cX11_guards 55 = .ok (.getfield 588, 3) := by decide +kernel
theorem dX11_guards_58 : decode cX11_guards 58 = .ok (.iload 5, 2) := by decide +kernel
theorem dX11_guards_60 : decode cX11_guards 60 = .ok (.iastore, 1) := by decide +kernel
theorem dX11_guards_61 : decode cX11_guards 61 = .ok (.aload_n 0, 1) := by decide +kernel
theorem dX11_guards_62 : decode cX11_guards 62 = .ok (.getfield 146, 3) := by decide +kernel
theorem dX11_guards_65 : decode cX11_guards 65 = .ok (.iload_n 1, 1) := by decide +kernel
theorem dX11_guards_66 : decode cX11_guards 66 = .ok (.aload_n 0, 1) := by decide +kernel
theorem dX11_guards_67 : decode cX11_guards 67 = .ok (.getfield 588, 3) := by decide +kernel
theorem dX11_guards_70 : decode cX11_guards 70 = .ok (.iastore, 1) := by decide +kernel
theorem dX11_guards_71 : decode cX11_guards 71 = .ok (.aload_n 0, 1) := by decide +kernel
theorem dX11_guards_72 : decode cX11_guards 72 = .ok (.dup, 1) := by decide +kernel
theorem dX11_guards_73 : decode cX11_guards 73 = .ok (.getfield 588, 3) := by decide +kernel
theorem dX11_guards_76 : decode cX11_guards 76 = .ok (.iconst 1, 1) := by decide +kernel
theorem dX11_guards_77 : decode cX11_guards 77 = .ok (.iadd, 1) := by decide +kernel
theorem dX11_guards_78 : decode cX11_guards 78 = .ok (.putfield 588, 3) := by decide +kernel
theorem dX11_guards_81 : decode cX11_guards 81 = .ok (.return_, 1) := by decide +kernel
theorem dX11_order_0 : decode cX11_order 0 = .ok (.aload_n 0, 1) := by decide +kernel
theorem dX11_order_1 : decode cX11_order 1 = .ok (.getfield 137, 3) := by decide +kernel
theorem dX11_order_4 : decode cX11_order 4 = .ok (.aload_n 0, 1) := by decide +kernel
theorem dX11_order_5 : decode cX11_order 5 = .ok (.getfield 548, 3) := by decide +kernel
theorem dX11_order_8 : decode cX11_order 8 = .ok (.iload_n 1, 1) := by decide +kernel
theorem dX11_order_9 : decode cX11_order 9 = .ok (.iastore, 1) := by decide +kernel
theorem dX11_order_10 : decode cX11_order 10 = .ok (.aload_n 0, 1) := by decide +kernel
theorem dX11_order_11 : decode cX11_order 11 = .ok (.getfield 140, 3) := by decide +kernel
theorem dX11_order_14 : decode cX11_order 14 = .ok (.aload_n 0, 1) := by decide +kernel
theorem dX11_order_15 : decode cX11_order 15 = .ok (.getfield 548, 3) := by decide +kernel
theorem dX11_order_18 : decode cX11_order 18 = .ok (.iload_n 2, 1) := by decide +kernel
theorem dX11_order_19 : decode cX11_order 19 = .ok (.iastore, 1) := by decide +kernel
theorem dX11_order_20 : decode cX11_order 20 = .ok (.aload_n 0, 1) := by decide +kernel
theorem dX11_order_21 : decode cX11_order 21 = .ok (.getfield 143, 3) := by decide +kernel
theorem dX11_order_24 : decode cX11_order 24 = .ok (.aload_n 0, 1) := by decide +kernel
theorem dX11_order_25 : decode cX11_order 25 = .ok (.getfield 548, 3) := by decide +kernel
theorem dX11_order_28 : decode cX11_order 28 = .ok (.iload_n 3, 1) := by decide +kernel
theorem dX11_order_29 : decode cX11_order 29 = .ok (.iastore, 1) := by decide +kernel
theorem dX11_order_30 : decode cX11_order 30 = .ok (.aload_n 0, 1) := by decide +kernel
theorem dX11_order_31 : decode cX11_order 31 = .ok (.getfield 146, 3) := by decide +kernel
theorem dX11_order_34 : decode cX11_order 34 = .ok (.aload_n 0, 1) := by decide +kernel
theorem dX11_order_35 : decode cX11_order 35 = .ok (.getfield 548, 3) := by decide +kernel
theorem dX11_order_38 : decode cX11_order 38 = .ok (.iconst (-1), 1) := by decide +kernel
theorem dX11_order_39 : decode cX11_order 39 = .ok (.iastore, 1) := by decide +kernel
theorem dX11_order_40 : decode cX11_order 40 = .ok (.aload_n 0, 1) := by decide +kernel
theorem dX11_order_41 : decode cX11_order 41 = .ok (.dup, 1) := by decide +kernel
theorem dX11_order_42 : decode cX11_order 42 = .ok (.getfield 548, 3) := by decide +kernel
theorem dX11_order_45 : decode cX11_order 45 = .ok (.iconst 1, 1) := by decide +kernel
theorem dX11_order_46 : decode cX11_order 46 = .ok (.iadd, 1) := by decide +kernel
theorem dX11_order_47 : decode cX11_order 47 = .ok (.putfield 548, 3) := by decide +kernel
theorem dX11_order_50 : decode cX11_order 50 = .ok (.return_, 1) := by decide +kernel
theorem dX11_ownKindOf_0 : decode cX11_ownKindOf 0 = .ok (.aload_n 0, 1) := by decide +kernel
theorem dX11_ownKindOf_1 : decode cX11_ownKindOf 1 = .ok (.getfield 74, 3) := by decide +kernel
theorem dX11_ownKindOf_4 : decode cX11_ownKindOf 4 = .ok (.iload_n 1, 1) := by decide +kernel
theorem dX11_ownKindOf_5 : decode cX11_ownKindOf 5 = .ok (.baload, 1) := by decide +kernel
theorem dX11_ownKindOf_6 : decode cX11_ownKindOf 6 = .ok (.ifCond .eq 12, 3) := by decide +kernel
theorem dX11_ownKindOf_9 : decode cX11_ownKindOf 9 = .ok (.aload_n 0, 1) := by decide +kernel
theorem dX11_ownKindOf_10 : decode cX11_ownKindOf 10 = .ok (.getfield 68, 3) := by decide +kernel
theorem dX11_ownKindOf_13 : decode cX11_ownKindOf 13 = .ok (.iload_n 1, 1) := by decide +kernel
theorem dX11_ownKindOf_14 : decode cX11_ownKindOf 14 = .ok (.iaload, 1) := by decide +kernel
theorem dX11_ownKindOf_15 : decode cX11_ownKindOf 15 = .ok (.goto 4, 3) := by decide +kernel
theorem dX11_ownKindOf_18 : decode cX11_ownKindOf 18 = .ok (.iconst 2, 1) := by decide +kernel
theorem dX11_ownKindOf_19 : decode cX11_ownKindOf 19 = .ok (.ireturn, 1) := by decide +kernel
theorem dX11_paramKindOf_0 : decode cX11_paramKindOf 0 = .ok (.aload_n 0, 1) := by decide +kernel
theorem dX11_paramKindOf_1 : decode cX11_paramKindOf 1 = .ok (.getfield 74, 3) := by decide +kernel
theorem dX11_paramKindOf_4 : decode cX11_paramKindOf 4 = .ok (.iload_n 1, 1) := by decide +kernel
theorem dX11_paramKindOf_5 : decode cX11_paramKindOf 5 = .ok (.baload, 1) := by decide +kernel
theorem dX11_paramKindOf_6 : decode cX11_paramKindOf 6 = .ok (.ifCond .eq 16, 3) := by decide +kernel
theorem dX11_paramKindOf_9 : decode cX11_paramKindOf 9 = .ok (.aload_n 0, 1) := by decide +kernel
theorem dX11_paramKindOf_10 : decode cX11_paramKindOf 10 = .ok (.getfield 65, 3) := by decide +kernel
theorem dX11_paramKindOf_13 : decode cX11_paramKindOf 13 = .ok (.iconst 4, 1) := by decide +kernel
theorem dX11_paramKindOf_14 : decode cX11_paramKindOf 14 = .ok (.iload_n 1, 1) := by decide +kernel
theorem dX11_paramKindOf_15 : decode cX11_paramKindOf 15 = .ok (.imul, 1) := by decide +kernel
theorem dX11_paramKindOf_16 : decode cX11_paramKindOf 16 = .ok (.iload_n 2, 1) := by decide +kernel
theorem dX11_paramKindOf_17 : decode cX11_paramKindOf 17 = .ok (.iadd, 1) := by decide +kernel
theorem dX11_paramKindOf_18 : decode cX11_paramKindOf 18 = .ok (.iaload, 1) := by decide +kernel
theorem dX11_paramKindOf_19 : decode cX11_paramKindOf 19 = .ok (.goto 4, 3) := by decide +kernel
theorem dX11_paramKindOf_22 : decode cX11_paramKindOf 22 = .ok (.iconst 2, 1) := by decide +kernel
theorem dX11_paramKindOf_23 : decode cX11_paramKindOf 23 = .ok (.ireturn, 1) := by decide +kernel
theorem dX11_push_0 : decode cX11_push 0 = .ok (.aload_n 0, 1) := by decide +kernel
theorem dX11_push_1 : decode cX11_push 1 = .ok (.getfield 191, 3) := by decide +kernel
theorem dX11_push_4 : decode cX11_push 4 = .ok (.aload_n 0, 1) := by decide +kernel
theorem dX11_push_5 : decode cX11_push 5 = .ok (.getfield 577, 3) := by decide +kernel
theorem dX11_push_8 : decode cX11_push 8 = .ok (.iload_n 1, 1) := by decide +kernel
theorem dX11_push_9 : decode cX11_push 9 = .ok (.iastore, 1) := by decide +kernel
theorem dX11_push_10 : decode cX11_push 10 = .ok (.aload_n 0, 1) := by decide +kernel
theorem dX11_push_11 : decode cX11_push 11 = .ok (.dup, 1) := by decide +kernel
theorem dX11_push_12 : decode cX11_push 12 = .ok (.getfield 577, 3) := by decide +kernel
theorem dX11_push_15 : decode cX11_push 15 = .ok (.iconst 1, 1) := by decide +kernel
theorem dX11_push_16 : decode cX11_push 16 = .ok (.iadd, 1) := by decide +kernel
theorem dX11_push_17 : decode cX11_push 17 = .ok (.putfield 577, 3) := by decide +kernel
theorem dX11_push_20 : decode cX11_push 20 = .ok (.aload_n 0, 1) := by decide +kernel
theorem dX11_push_21 : decode cX11_push 21 = .ok (.getfield 188, 3) := by decide +kernel
theorem dX11_push_24 : decode cX11_push 24 = .ok (.aload_n 0, 1) := by decide +kernel
theorem dX11_push_25 : decode cX11_push 25 = .ok (.getfield 568, 3) := by decide +kernel
theorem dX11_push_28 : decode cX11_push 28 = .ok (.aload_n 0, 1) := by decide +kernel
theorem dX11_push_29 : decode cX11_push 29 = .ok (.getfield 188, 3) := by decide +kernel
theorem dX11_push_32 : decode cX11_push 32 = .ok (.aload_n 0, 1) := by decide +kernel
theorem dX11_push_33 : decode cX11_push 33 = .ok (.getfield 568, 3) := by decide +kernel
theorem dX11_push_36 : decode cX11_push 36 = .ok (.baload, 1) := by decide +kernel
theorem dX11_push_37 : decode cX11_push 37 = .ok (.ifCond .ne 12, 3) := by decide +kernel
theorem dX11_push_40 : decode cX11_push 40 = .ok (.aload_n 0, 1) := by decide +kernel
theorem dX11_push_41 : decode cX11_push 41 = .ok (.getfield 39, 3) := by decide +kernel
theorem dX11_push_44 : decode cX11_push 44 = .ok (.iload_n 1, 1) := by decide +kernel
theorem dX11_push_45 : decode cX11_push 45 = .ok (.baload, 1) := by decide +kernel
theorem dX11_push_46 : decode cX11_push 46 = .ok (.ifCond .eq 7, 3) := by decide +kernel
theorem dX11_push_49 : decode cX11_push 49 = .ok (.iconst 1, 1) := by decide +kernel
theorem dX11_push_50 : decode cX11_push 50 = .ok (.goto 4, 3) := by decide +kernel
theorem dX11_push_53 : decode cX11_push 53 = .ok (.iconst 0, 1) := by decide +kernel
theorem dX11_push_54 : decode cX11_push 54 = .ok (.bastore, 1) := by decide +kernel
theorem dX11_push_55 : decode cX11_push 55 = .ok (.return_, 1) := by decide +kernel
theorem dX11_reads_0 : decode cX11_reads 0 = .ok (.aload_n 0, 1) := by decide +kernel
theorem dX11_reads_1 : decode cX11_reads 1 = .ok (.iconst 0, 1) := by decide +kernel
theorem dX11_reads_2 : decode cX11_reads 2 = .ok (.putfield 299, 3) := by decide +kernel
theorem dX11_reads_5 : decode cX11_reads 5 = .ok (.aload_n 0, 1) := by decide +kernel
theorem dX11_reads_6 : decode cX11_reads 6 = .ok (.iconst 0, 1) := by decide +kernel
theorem dX11_reads_7 : decode cX11_reads 7 = .ok (.putfield 286, 3) := by decide +kernel
theorem dX11_reads_10 : decode cX11_reads 10 = .ok (.aload_n 0, 1) := by decide +kernel
theorem dX11_reads_11 : decode cX11_reads 11 = .ok (.iconst (-1), 1) := by decide +kernel
theorem dX11_reads_12 : decode cX11_reads 12 = .ok (.putfield 289, 3) := by decide +kernel
theorem dX11_reads_15 : decode cX11_reads 15 = .ok (.aload_n 0, 1) := by decide +kernel
theorem dX11_reads_16 : decode cX11_reads 16 = .ok (.iconst 0, 1) := by decide +kernel
theorem dX11_reads_17 : decode cX11_reads 17 = .ok (.putfield 497, 3) := by decide +kernel
theorem dX11_reads_20 : decode cX11_reads 20 = .ok (.aload_n 0, 1) := by decide +kernel
theorem dX11_reads_21 : decode cX11_reads 21 = .ok (.iconst 0, 1) := by decide +kernel
theorem dX11_reads_22 : decode cX11_reads 22 = .ok (.putfield 386, 3) := by decide +kernel
theorem dX11_reads_25 : decode cX11_reads 25 = .ok (.aload_n 0, 1) := by decide +kernel
theorem dX11_reads_26 : decode cX11_reads 26 = .ok (.iconst 0, 1) := by decide +kernel
theorem dX11_reads_27 : decode cX11_reads 27 = .ok (.putfield 509, 3) := by decide +kernel
theorem dX11_reads_30 : decode cX11_reads 30 = .ok (.aload_n 0, 1) := by decide +kernel
theorem dX11_reads_31 : decode cX11_reads 31 = .ok (.iconst 0, 1) := by decide +kernel
theorem dX11_reads_32 : decode cX11_reads 32 = .ok (.invokevirtual 263, 3) := by decide +kernel
theorem dX11_reads_35 : decode cX11_reads 35 = .ok (.aload_n 0, 1) := by decide +kernel
theorem dX11_reads_36 : decode cX11_reads 36 = .ok (.invokevirtual 349, 3) := by decide +kernel
theorem dX11_reads_39 : decode cX11_reads 39 = .ok (.aload_n 0, 1) := by decide +kernel
theorem dX11_reads_40 : decode cX11_reads 40 = .ok (.invokevirtual 341, 3) := by decide +kernel
theorem dX11_reads_43 : decode cX11_reads 43 = .ok (.ifCond .eq 66, 3) := by decide +kernel
theorem dX11_reads_46 : decode cX11_reads 46 = .ok (.aload_n 0, 1) := by decide +kernel
theorem dX11_reads_47 : decode cX11_reads 47 = .ok (.getfield 309, 3) := by decide +kernel
theorem dX11_reads_50 : decode cX11_reads 50 = .ok (.ifCond .eq 59, 3) := by decide +kernel
theorem dX11_reads_53 : decode cX11_reads 53 = .ok (.aload_n 0, 1) := by decide +kernel
theorem dX11_reads_54 : decode cX11_reads 54 = .ok (.iconst 0, 1) := by decide +kernel
theorem dX11_reads_55 : decode cX11_reads 55 = .ok (.invokevirtual 370, 3) := by decide +kernel
theorem dX11_reads_58 : decode cX11_reads 58 = .ok (.ifCond .ne 10, 3) := by decide +kernel
theorem dX11_reads_61 : decode cX11_reads 61 = .ok (.aload_n 0, 1) := by decide +kernel
theorem dX11_reads_62 : decode cX11_reads 62 = .ok (.invokevirtual 352, 3) := by decide +kernel
theorem dX11_reads_65 : decode cX11_reads 65 = .ok (.goto (-26), 3) := by decide +kernel
theorem dX11_reads_68 : decode cX11_reads 68 = .ok (.aload_n 0, 1) := by decide +kernel
theorem dX11_reads_69 : decode cX11_reads 69 = .ok (.getfield 497, 3) := by decide +kernel
theorem dX11_reads_72 : decode cX11_reads 72 = .ok (.bipush 40, 2) := by decide +kernel
theorem dX11_reads_74 : decode cX11_reads 74 = .ok (.if_icmp .ne 15, 3) := by decide +kernel
theorem dX11_reads_77 : decode cX11_reads 77 = .ok (.aload_n 0, 1) := by decide +kernel
theorem dX11_reads_78 : decode cX11_reads 78 = .ok (.iconst 3, 1) := by decide +kernel
theorem dX11_reads_79 : decode cX11_reads 79 = .ok (.aload_n 0, 1) := by decide +kernel
theorem dX11_reads_80 : decode cX11_reads 80 = .ok (.getfield 292, 3) := by decide +kernel
theorem dX11_reads_83 : decode cX11_reads 83 = .ok (.invokevirtual 295, 3) := by decide +kernel
theorem dX11_reads_86 : decode cX11_reads 86 = .ok (.goto (-47), 3) := by decide +kernel
theorem dX11_reads_89 : decode cX11_reads 89 = .ok (.aload_n 0, 1) := by decide +kernel
theorem dX11_reads_90 : decode cX11_reads 90 = .ok (.getfield 59, 3) := by decide +kernel
theorem dX11_reads_93 : decode cX11_reads 93 = .ok (.aload_n 0, 1) := by decide +kernel
theorem dX11_reads_94 : decode cX11_reads 94 = .ok (.getfield 497, 3) := by decide +kernel
theorem dX11_reads_97 : decode cX11_reads 97 = .ok (.aload_n 0, 1) := by decide +kernel
theorem dX11_reads_98 : decode cX11_reads 98 = .ok (.getfield 292, 3) := by decide +kernel
theorem dX11_reads_101 : decode cX11_reads 101 = .ok (.iastore, 1) := by decide +kernel
theorem dX11_reads_102 : decode cX11_reads 102 = .ok (.aload_n 0, 1) := by decide +kernel
theorem dX11_reads_103 : decode cX11_reads 103 = .ok (.invokevirtual 513, 3) := by decide +kernel
theorem dX11_reads_106 : decode cX11_reads 106 = .ok (.goto (-67), 3) := by decide +kernel
theorem dX11_reads_109 : decode cX11_reads 109 = .ok (.aload_n 0, 1) := by decide +kernel
theorem dX11_reads_110 : decode cX11_reads 110 = .ok (.invokevirtual 341, 3) := by decide +kernel
theorem dX11_reads_113 : decode cX11_reads 113 = .ok (.ifCond .eq 7, 3) := by decide +kernel
theorem dX11_reads_116 : decode cX11_reads 116 = .ok (.aload_n 0, 1) := by decide +kernel
theorem dX11_reads_117 : decode cX11_reads 117 = .ok (.invokevirtual 516, 3) := by decide +kernel
theorem dX11_reads_120 : decode cX11_reads 120 = .ok (.aload_n 0, 1) := by decide +kernel
theorem dX11_reads_121 : decode cX11_reads 121 = .ok (.aload_n 0, 1) := by decide +kernel
theorem dX11_reads_122 : decode cX11_reads 122 = .ok (.ldc2_w 519, 3) := by decide +kernel
theorem dX11_reads_125 : decode cX11_reads 125 = .ok (.invokevirtual 506, 3) := by decide +kernel
theorem dX11_reads_128 : decode cX11_reads 128 = .ok (.putfield 521, 3) := by decide +kernel
theorem dX11_reads_131 : decode cX11_reads 131 = .ok (.aload_n 0, 1) := by decide +kernel
theorem dX11_reads_132 : decode cX11_reads 132 = .ok (.invokevirtual 341, 3) := by decide +kernel
theorem dX11_reads_135 : decode cX11_reads 135 = .ok (.ifCond .eq 32, 3) := by decide +kernel
theorem dX11_reads_138 : decode cX11_reads 138 = .ok (.aload_n 0, 1) := by decide +kernel
theorem dX11_reads_139 : decode cX11_reads 139 = .ok (.getfield 521, 3) := by decide +kernel
theorem dX11_reads_142 : decode cX11_reads 142 = .ok (.ifCond .lt 15, 3) := by decide +kernel
theorem dX11_reads_145 : decode cX11_reads 145 = .ok (.aload_n 0, 1) := by decide +kernel
theorem dX11_reads_146 : decode cX11_reads 146 = .ok (.getfield 62, 3) := by decide +kernel
theorem dX11_reads_149 : decode cX11_reads 149 = .ok (.aload_n 0, 1) := by decide +kernel
theorem dX11_reads_150 : decode cX11_reads 150 = .ok (.getfield 521, 3) := by decide +kernel
theorem dX11_reads_153 : decode cX11_reads 153 = .ok (.iaload, 1) := by decide +kernel
theorem dX11_reads_154 : decode cX11_reads 154 = .ok (.ifCond .le 13, 3) := by decide +kernel
theorem dX11_reads_157 : decode cX11_reads 157 = .ok (.aload_n 0, 1) := by decide +kernel
theorem dX11_reads_158 : decode cX11_reads 158 = .ok (.bipush 7, 2) := by decide +kernel
theorem dX11_reads_160 : decode cX11_reads 160 = .ok (.aload_n 0, 1) := by decide +kernel
theorem dX11_reads_161 : decode cX11_reads 161 = .ok (.getfield 302, 3) := by decide +kernel
theorem dX11_reads_164 : decode cX11_reads 164 = .ok (.invokevirtual 295, 3) := by decide +kernel
theorem dX11_reads_167 : decode cX11_reads 167 = .ok (.aload_n 0, 1) := by decide +kernel
theorem dX11_reads_168 : decode cX11_reads 168 = .ok (.aload_n 0, 1) := by decide +kernel
theorem dX11_reads_169 : decode cX11_reads 169 = .ok (.getfield 267, 3) := by decide +kernel
theorem dX11_reads_172 : decode cX11_reads 172 = .ok (.putfield 524, 3) := by decide +kernel
theorem dX11_reads_175 : decode cX11_reads 175 = .ok (.aload_n 0, 1) := by decide +kernel
theorem dX11_reads_176 : decode cX11_reads 176 = .ok (.aload_n 0, 1) := by decide +kernel
theorem dX11_reads_177 : decode cX11_reads 177 = .ok (.getfield 269, 3) := by decide +kernel
theorem dX11_reads_180 : decode cX11_reads 180 = .ok (.putfield 527, 3) := by decide +kernel
theorem dX11_reads_183 : decode cX11_reads 183 = .ok (.return_, 1) := by decide +kernel
theorem dX11_task_0 : decode cX11_task 0 = .ok (.aload_n 0, 1) := by decide +kernel
theorem dX11_task_1 : decode cX11_task 1 = .ok (.getfield 161, 3) := by decide +kernel
theorem dX11_task_4 : decode cX11_task 4 = .ok (.aload_n 0, 1) := by decide +kernel
theorem dX11_task_5 : decode cX11_task 5 = .ok (.getfield 545, 3) := by decide +kernel
theorem dX11_task_8 : decode cX11_task 8 = .ok (.iload_n 1, 1) := by decide +kernel
theorem dX11_task_9 : decode cX11_task 9 = .ok (.iastore, 1) := by decide +kernel
theorem dX11_task_10 : decode cX11_task 10 = .ok (.aload_n 0, 1) := by decide +kernel
theorem dX11_task_11 : decode cX11_task 11 = .ok (.getfield 164, 3) := by decide +kernel
theorem dX11_task_14 : decode cX11_task 14 = .ok (.aload_n 0, 1) := by decide +kernel
theorem dX11_task_15 : decode cX11_task 15 = .ok (.getfield 545, 3) := by decide +kernel
theorem dX11_task_18 : decode cX11_task 18 = .ok (.iload_n 2, 1) := by decide +kernel
theorem dX11_task_19 : decode cX11_task 19 = .ok (.iastore, 1) := by decide +kernel
theorem dX11_task_20 : decode cX11_task 20 = .ok (.aload_n 0, 1) := by decide +kernel
theorem dX11_task_21 : decode cX11_task 21 = .ok (.getfield 167, 3) := by decide +kernel
theorem dX11_task_24 : decode cX11_task 24 = .ok (.aload_n 0, 1) := by decide +kernel
theorem dX11_task_25 : decode cX11_task 25 = .ok (.getfield 545, 3) := by decide +kernel
theorem dX11_task_28 : decode cX11_task 28 = .ok (.iload_n 3, 1) := by decide +kernel
theorem dX11_task_29 : decode cX11_task 29 = .ok (.iastore, 1) := by decide +kernel
theorem dX11_task_30 : decode cX11_task 30 = .ok (.aload_n 0, 1) := by decide +kernel
theorem dX11_task_31 : decode cX11_task 31 = .ok (.dup, 1) := by decide +kernel
theorem dX11_task_32 : decode cX11_task 32 = .ok (.getfield 545, 3) := by decide +kernel
theorem dX11_task_35 : decode cX11_task 35 = .ok (.iconst 1, 1) := by decide +kernel
theorem dX11_task_36 : decode cX11_task 36 = .ok (.iadd, 1) := by decide +kernel
theorem dX11_task_37 : decode cX11_task 37 = .ok (.putfield 545, 3) := by decide +kernel
theorem dX11_task_40 : decode cX11_task 40 = .ok (.return_, 1) := by decide +kernel
theorem dX11_taskOfCall_0 : decode cX11_taskOfCall 0 = .ok (.aload_n 0, 1) := by decide +kernel
theorem dX11_taskOfCall_1 : decode cX11_taskOfCall 1 = .ok (.getfield 89, 3) := by decide +kernel
theorem dX11_taskOfCall_4 : decode cX11_taskOfCall 4 = .ok (.iload_n 1, 1) := by decide +kernel
theorem dX11_taskOfCall_5 : decode cX11_taskOfCall 5 = .ok (.iaload, 1) := by decide +kernel
theorem dX11_taskOfCall_6 : decode cX11_taskOfCall 6 = .ok (.istore_n 2, 1) := by decide +kernel
theorem dX11_taskOfCall_7 : decode cX11_taskOfCall 7 = .ok (.iload_n 2, 1) := by decide +kernel
theorem dX11_taskOfCall_8 : decode cX11_taskOfCall 8 = .ok (.ifCond .lt 20, 3) := by decide +kernel
theorem dX11_taskOfCall_11 : decode cX11_taskOfCall 11 = .ok (.aload_n 0, 1) := by decide +kernel
theorem dX11_taskOfCall_12 : decode cX11_taskOfCall 12 = .ok (.getfield 170, 3) := by decide +kernel
theorem dX11_taskOfCall_15 : decode cX11_taskOfCall 15 = .ok (.iload_n 2, 1) := by decide +kernel
theorem dX11_taskOfCall_16 : decode cX11_taskOfCall 16 = .ok (.iload_n 1, 1) := by decide +kernel
theorem dX11_taskOfCall_17 : decode cX11_taskOfCall 17 = .ok (.iastore, 1) := by decide +kernel
theorem dX11_taskOfCall_18 : decode cX11_taskOfCall 18 = .ok (.aload_n 0, 1) := by decide +kernel
theorem dX11_taskOfCall_19 : decode cX11_taskOfCall 19 = .ok (.getfield 101, 3) := by decide +kernel
theorem dX11_taskOfCall_22 : decode cX11_taskOfCall 22 = .ok (.iload_n 2, 1) := by decide +kernel
theorem dX11_taskOfCall_23 : decode cX11_taskOfCall 23 = .ok (.iaload, 1) := by decide +kernel
theorem dX11_taskOfCall_24 : decode cX11_taskOfCall 24 = .ok (.istore_n 2, 1) := by decide +kernel
theorem dX11_taskOfCall_25 : decode cX11_taskOfCall 25 = .ok (.goto (-18), 3) := by decide +kernel
theorem dX11_taskOfCall_28 : decode cX11_taskOfCall 28 = .ok (.aload_n 0, 1) := by decide +kernel
theorem dX11_taskOfCall_29 : decode cX11_taskOfCall 29 = .ok (.bipush 43, 2) := by decide +kernel
theorem dX11_taskOfCall_31 : decode cX11_taskOfCall 31 = .ok (.aload_n 0, 1) := by decide +kernel
theorem dX11_taskOfCall_32 : decode cX11_taskOfCall 32 = .ok (.getfield 89, 3) := by decide +kernel
theorem dX11_taskOfCall_35 : decode cX11_taskOfCall 35 = .ok (.iload_n 1, 1) := by decide +kernel
theorem dX11_taskOfCall_36 : decode cX11_taskOfCall 36 = .ok (.iaload, 1) := by decide +kernel
theorem dX11_taskOfCall_37 : decode cX11_taskOfCall 37 = .ok (.iconst 0, 1) := by decide +kernel
theorem dX11_taskOfCall_38 : decode cX11_taskOfCall 38 = .ok (.invokevirtual 551, 3) := by decide +kernel
theorem dX11_taskOfCall_41 : decode cX11_taskOfCall 41 = .ok (.return_, 1) := by decide +kernel
theorem dX11_tells_0 : decode cX11_tells 0 = .ok (.aload_n 0, 1) := by decide +kernel
theorem dX11_tells_1 : decode cX11_tells 1 = .ok (.getfield 77, 3) := by decide +kernel
theorem dX11_tells_4 : decode cX11_tells 4 = .ok (.iload_n 1, 1) := by decide +kernel
theorem dX11_tells_5 : decode cX11_tells 5 = .ok (.iaload, 1) := by decide +kernel
theorem dX11_tells_6 : decode cX11_tells 6 = .ok (.tableswitch 213 0 11 #[62, 72, 82, 92, 102, 213, 213, 213, 151, 135, 213, 167], 62) := by decide +kernel
theorem dX11_tells_68 : decode cX11_tells 68 = .ok (.aload_n 0, 1) := by decide +kernel
theorem dX11_tells_69 : decode cX11_tells 69 = .ok (.iconst 1, 1) := by decide +kernel
theorem dX11_tells_70 : decode cX11_tells 70 = .ok (.iload_n 1, 1) := by decide +kernel
theorem dX11_tells_71 : decode cX11_tells 71 = .ok (.iconst 0, 1) := by decide +kernel
theorem dX11_tells_72 : decode cX11_tells 72 = .ok (.invokevirtual 551, 3) := by decide +kernel
theorem dX11_tells_75 : decode cX11_tells 75 = .ok (.goto 149, 3) := by decide +kernel
theorem dX11_tells_78 : decode cX11_tells 78 = .ok (.aload_n 0, 1) := by decide +kernel
theorem dX11_tells_79 : decode cX11_tells 79 = .ok (.iconst 2, 1) := by decide +kernel
theorem dX11_tells_80 : decode cX11_tells 80 = .ok (.iload_n 1, 1) := by decide +kernel
theorem dX11_tells_81 : decode cX11_tells 81 = .ok (.iconst 0, 1) := by decide +kernel
theorem dX11_tells_82 : decode cX11_tells 82 = .ok (.invokevirtual 551, 3) := by decide +kernel
theorem dX11_tells_85 : decode cX11_tells 85 = .ok (.goto 139, 3) := by decide +kernel
theorem dX11_tells_88 : decode cX11_tells 88 = .ok (.aload_n 0, 1) := by decide +kernel
theorem dX11_tells_89 : decode cX11_tells 89 = .ok (.iconst 3, 1) := by decide +kernel
theorem dX11_tells_90 : decode cX11_tells 90 = .ok (.iload_n 1, 1) := by decide +kernel
theorem dX11_tells_91 : decode cX11_tells 91 = .ok (.iconst 0, 1) := by decide +kernel
theorem dX11_tells_92 : decode cX11_tells 92 = .ok (.invokevirtual 551, 3) := by decide +kernel
theorem dX11_tells_95 : decode cX11_tells 95 = .ok (.goto 129, 3) := by decide +kernel
theorem dX11_tells_98 : decode cX11_tells 98 = .ok (.aload_n 0, 1) := by decide +kernel
theorem dX11_tells_99 : decode cX11_tells 99 = .ok (.iconst 4, 1) := by decide +kernel
theorem dX11_tells_100 : decode cX11_tells 100 = .ok (.iload_n 1, 1) := by decide +kernel
theorem dX11_tells_101 : decode cX11_tells 101 = .ok (.iconst 0, 1) := by decide +kernel
theorem dX11_tells_102 : decode cX11_tells 102 = .ok (.invokevirtual 551, 3) := by decide +kernel
theorem dX11_tells_105 : decode cX11_tells 105 = .ok (.goto 119, 3) := by decide +kernel
theorem dX11_tells_108 : decode cX11_tells 108 = .ok (.aload_n 0, 1) := by decide +kernel
theorem dX11_tells_109 : decode cX11_tells 109 = .ok (.bipush 18, 2) := by decide +kernel
theorem dX11_tells_111 : decode cX11_tells 111 = .ok (.iload_n 1, 1) := by decide +kernel
theorem dX11_tells_112 : decode cX11_tells 112 = .ok (.iconst 0, 1) := by decide +kernel
theorem dX11_tells_113 : decode cX11_tells 113 = .ok (.invokevirtual 551, 3) := by decide +kernel
theorem dX11_tells_116 : decode cX11_tells 116 = .ok (.aload_n 0, 1) := by decide +kernel
theorem dX11_tells_117 : decode cX11_tells 117 = .ok (.getfield 89, 3) := by decide +kernel
theorem dX11_tells_120 : decode cX11_tells 120 = .ok (.iload_n 1, 1) := by decide +kernel
theorem dX11_tells_121 : decode cX11_tells 121 = .ok (.iaload, 1) := by decide +kernel
theorem dX11_tells_122 : decode cX11_tells 122 = .ok (.ifCond .lt 102, 3) := by decide +kernel
theorem dX11_tells_125 : decode cX11_tells 125 = .ok (.aload_n 0, 1) := by decide +kernel
theorem dX11_tells_126 : decode cX11_tells 126 = .ok (.bipush 41, 2) := by decide +kernel
theorem dX11_tells_128 : decode cX11_tells 128 = .ok (.aload_n 0, 1) := by decide +kernel
theorem dX11_tells_129 : decode cX11_tells 129 = .ok (.getfield 89, 3) := by decide +kernel
theorem dX11_tells_132 : decode cX11_tells 132 = .ok (.iload_n 1, 1) := by decide +kernel
theorem dX11_tells_133 : decode cX11_tells 133 = .ok (.iaload, 1) := by decide +kernel
theorem dX11_tells_134 : decode cX11_tells 134 = .ok (.iconst 0, 1) := by decide +kernel
theorem dX11_tells_135 : decode cX11_tells 135 = .ok (.invokevirtual 551, 3) := by decide +kernel
theorem dX11_tells_138 : decode cX11_tells 138 = .ok (.goto 86, 3) := by decide +kernel
theorem dX11_tells_141 : decode cX11_tells 141 = .ok (.aload_n 0, 1) := by decide +kernel
theorem dX11_tells_142 : decode cX11_tells 142 = .ok (.bipush 41, 2) := by decide +kernel
theorem dX11_tells_144 : decode cX11_tells 144 = .ok (.aload_n 0, 1) := by decide +kernel
theorem dX11_tells_145 : decode cX11_tells 145 = .ok (.getfield 89, 3) := by decide +kernel
theorem dX11_tells_148 : decode cX11_tells 148 = .ok (.iload_n 1, 1) := by decide +kernel
theorem dX11_tells_149 : decode cX11_tells 149 = .ok (.iaload, 1) := by decide +kernel
theorem dX11_tells_150 : decode cX11_tells 150 = .ok (.iconst 1, 1) := by decide +kernel
theorem dX11_tells_151 : decode cX11_tells 151 = .ok (.invokevirtual 551, 3) := by decide +kernel
theorem dX11_tells_154 : decode cX11_tells 154 = .ok (.goto 70, 3) := by decide +kernel
theorem dX11_tells_157 : decode cX11_tells 157 = .ok (.aload_n 0, 1) := by decide +kernel
theorem dX11_tells_158 : decode cX11_tells 158 = .ok (.bipush 40, 2) := by decide +kernel
theorem dX11_tells_160 : decode cX11_tells 160 = .ok (.aload_n 0, 1) := by decide +kernel
theorem dX11_tells_161 : decode cX11_tells 161 = .ok (.getfield 86, 3) := by decide +kernel
theorem dX11_tells_164 : decode cX11_tells 164 = .ok (.iload_n 1, 1) := by decide +kernel
theorem dX11_tells_165 : decode cX11_tells 165 = .ok (.iaload, 1) := by decide +kernel
theorem dX11_tells_166 : decode cX11_tells 166 = .ok (.iconst 0, 1) := by decide +kernel
theorem dX11_tells_167 : decode cX11_tells 167 = .ok (.invokevirtual 551, 3) := by decide +kernel
theorem dX11_tells_170 : decode cX11_tells 170 = .ok (.goto 54, 3) := by decide +kernel
theorem dX11_tells_173 : decode cX11_tells 173 = .ok (.aload_n 0, 1) := by decide +kernel
theorem dX11_tells_174 : decode cX11_tells 174 = .ok (.bipush 28, 2) := by decide +kernel
theorem dX11_tells_176 : decode cX11_tells 176 = .ok (.iload_n 1, 1) := by decide +kernel
theorem dX11_tells_177 : decode cX11_tells 177 = .ok (.iconst 0, 1) := by decide +kernel
theorem dX11_tells_178 : decode cX11_tells 178 = .ok (.invokevirtual 551, 3) := by decide +kernel
theorem dX11_tells_181 : decode cX11_tells 181 = .ok (.aload_n 0, 1) := by decide +kernel
theorem dX11_tells_182 : decode cX11_tells 182 = .ok (.getfield 89, 3) := by decide +kernel
theorem dX11_tells_185 : decode cX11_tells 185 = .ok (.iload_n 1, 1) := by decide +kernel
theorem dX11_tells_186 : decode cX11_tells 186 = .ok (.iaload, 1) := by decide +kernel
theorem dX11_tells_187 : decode cX11_tells 187 = .ok (.ifCond .lt 8, 3) := by decide +kernel
theorem dX11_tells_190 : decode cX11_tells 190 = .ok (.aload_n 0, 1) := by decide +kernel
theorem dX11_tells_191 : decode cX11_tells 191 = .ok (.iload_n 1, 1) := by decide +kernel
theorem dX11_tells_192 : decode cX11_tells 192 = .ok (.invokevirtual 562, 3) := by decide +kernel
theorem dX11_tells_195 : decode cX11_tells 195 = .ok (.aload_n 0, 1) := by decide +kernel
theorem dX11_tells_196 : decode cX11_tells 196 = .ok (.bipush 7, 2) := by decide +kernel
theorem dX11_tells_198 : decode cX11_tells 198 = .ok (.iload_n 1, 1) := by decide +kernel
theorem dX11_tells_199 : decode cX11_tells 199 = .ok (.iconst 0, 1) := by decide +kernel
theorem dX11_tells_200 : decode cX11_tells 200 = .ok (.invokevirtual 551, 3) := by decide +kernel
theorem dX11_tells_203 : decode cX11_tells 203 = .ok (.aload_n 0, 1) := by decide +kernel
theorem dX11_tells_204 : decode cX11_tells 204 = .ok (.bipush 40, 2) := by decide +kernel
theorem dX11_tells_206 : decode cX11_tells 206 = .ok (.aload_n 0, 1) := by decide +kernel
theorem dX11_tells_207 : decode cX11_tells 207 = .ok (.getfield 86, 3) := by decide +kernel
theorem dX11_tells_210 : decode cX11_tells 210 = .ok (.iload_n 1, 1) := by decide +kernel
theorem dX11_tells_211 : decode cX11_tells 211 = .ok (.iaload, 1) := by decide +kernel
theorem dX11_tells_212 : decode cX11_tells 212 = .ok (.iconst 0, 1) := by decide +kernel
theorem dX11_tells_213 : decode cX11_tells 213 = .ok (.invokevirtual 551, 3) := by decide +kernel
theorem dX11_tells_216 : decode cX11_tells 216 = .ok (.goto 8, 3) := by decide +kernel
theorem dX11_tells_219 : decode cX11_tells 219 = .ok (.aload_n 0, 1) := by decide +kernel
theorem dX11_tells_220 : decode cX11_tells 220 = .ok (.iload_n 1, 1) := by decide +kernel
theorem dX11_tells_221 : decode cX11_tells 221 = .ok (.invokevirtual 565, 3) := by decide +kernel
theorem dX11_tells_224 : decode cX11_tells 224 = .ok (.return_, 1) := by decide +kernel
theorem dX11_tellsMore_0 : decode cX11_tellsMore 0 = .ok (.aload_n 0, 1) := by decide +kernel
theorem dX11_tellsMore_1 : decode cX11_tellsMore 1 = .ok (.getfield 77, 3) := by decide +kernel
theorem dX11_tellsMore_4 : decode cX11_tellsMore 4 = .ok (.iload_n 1, 1) := by decide +kernel
theorem dX11_tellsMore_5 : decode cX11_tellsMore 5 = .ok (.iaload, 1) := by decide +kernel
theorem dX11_tellsMore_6 : decode cX11_tellsMore 6 = .ok (.tableswitch 520 5 16 #[62, 111, 148, 520, 520, 314, 520, 148, 200, 237, 237, 415], 62) := by decide +kernel
theorem dX11_tellsMore_68 : decode cX11_tellsMore 68 = .ok (.aload_n 0, 1) := by decide +kernel
theorem dX11_tellsMore_69 : decode cX11_tellsMore 69 = .ok (.bipush 19, 2) := by decide +kernel
theorem dX11_tellsMore_71 : decode cX11_tellsMore 71 = .ok (.iload_n 1, 1) := by decide +kernel
theorem dX11_tellsMore_72 : decode cX11_tellsMore 72 = .ok (.iconst 0, 1) := by decide +kernel
theorem dX11_tellsMore_73 : decode cX11_tellsMore 73 = .ok (.invokevirtual 551, 3) := by decide +kernel
theorem dX11_tellsMore_76 : decode cX11_tellsMore 76 = .ok (.aload_n 0, 1) := by decide +kernel
theorem dX11_tellsMore_77 : decode cX11_tellsMore 77 = .ok (.bipush 40, 2) := by decide +kernel
theorem dX11_tellsMore_79 : decode cX11_tellsMore 79 = .ok (.aload_n 0, 1) := by decide +kernel
theorem dX11_tellsMore_80 : decode cX11_tellsMore 80 = .ok (.getfield 89, 3) := by decide +kernel
theorem dX11_tellsMore_83 : decode cX11_tellsMore 83 = .ok (.iload_n 1, 1) := by decide +kernel
theorem dX11_tellsMore_84 : decode cX11_tellsMore 84 = .ok (.iaload, 1) := by decide +kernel
theorem dX11_tellsMore_85 : decode cX11_tellsMore 85 = .ok (.iconst 0, 1) := by decide +kernel
theorem dX11_tellsMore_86 : decode cX11_tellsMore 86 = .ok (.invokevirtual 551, 3) := by decide +kernel
theorem dX11_tellsMore_89 : decode cX11_tellsMore 89 = .ok (.aload_n 0, 1) := by decide +kernel
theorem dX11_tellsMore_90 : decode cX11_tellsMore 90 = .ok (.iconst 5, 1) := by decide +kernel
theorem dX11_tellsMore_91 : decode cX11_tellsMore 91 = .ok (.aload_n 0, 1) := by decide +kernel
theorem dX11_tellsMore_92 : decode cX11_tellsMore 92 = .ok (.getfield 86, 3) := by decide +kernel
theorem dX11_tellsMore_95 : decode cX11_tellsMore 95 = .ok (.iload_n 1, 1) := by decide +kernel
theorem dX11_tellsMore_96 : decode cX11_tellsMore 96 = .ok (.iaload, 1) := by decide +kernel
theorem dX11_tellsMore_97 : decode cX11_tellsMore 97 = .ok (.iconst 0, 1) := by decide +kernel
theorem dX11_tellsMore_98 : decode cX11_tellsMore 98 = .ok (.invokevirtual 551, 3) := by decide +kernel
theorem dX11_tellsMore_101 : decode cX11_tellsMore 101 = .ok (.aload_n 0, 1) := by decide +kernel
theorem dX11_tellsMore_102 : decode cX11_tellsMore 102 = .ok (.bipush 40, 2) := by decide +kernel
theorem dX11_tellsMore_104 : decode cX11_tellsMore 104 = .ok (.aload_n 0, 1) := by decide +kernel
theorem dX11_tellsMore_105 : decode cX11_tellsMore 105 = .ok (.getfield 86, 3) := by decide +kernel
theorem dX11_tellsMore_108 : decode cX11_tellsMore 108 = .ok (.iload_n 1, 1) := by decide +kernel
theorem dX11_tellsMore_109 : decode cX11_tellsMore 109 = .ok (.iaload, 1) := by decide +kernel
theorem dX11_tellsMore_110 : decode cX11_tellsMore 110 = .ok (.iconst 0, 1) := by decide +kernel
theorem dX11_tellsMore_111 : decode cX11_tellsMore 111 = .ok (.invokevirtual 551, 3) := by decide +kernel
theorem dX11_tellsMore_114 : decode cX11_tellsMore 114 = .ok (.goto 454, 3) := by decide +kernel
theorem dX11_tellsMore_117 : decode cX11_tellsMore 117 = .ok (.aload_n 0, 1) := by decide +kernel
theorem dX11_tellsMore_118 : decode cX11_tellsMore 118 = .ok (.bipush 20, 2) := by decide +kernel
theorem dX11_tellsMore_120 : decode cX11_tellsMore 120 = .ok (.iload_n 1, 1) := by decide +kernel
theorem dX11_tellsMore_121 : decode cX11_tellsMore 121 = .ok (.iconst 0, 1) := by decide +kernel
theorem dX11_tellsMore_122 : decode cX11_tellsMore 122 = .ok (.invokevirtual 551, 3) := by decide +kernel
theorem dX11_tellsMore_125 : decode cX11_tellsMore 125 = .ok (.aload_n 0, 1) := by decide +kernel
theorem dX11_tellsMore_126 : decode cX11_tellsMore 126 = .ok (.bipush 9, 2) := by decide +kernel
theorem dX11_tellsMore_128 : decode cX11_tellsMore 128 = .ok (.aload_n 0, 1) := by decide +kernel
theorem dX11_tellsMore_129 : decode cX11_tellsMore 129 = .ok (.getfield 86, 3) := by decide +kernel
theorem dX11_tellsMore_132 : decode cX11_tellsMore 132 = .ok (.iload_n 1, 1) := by decide +kernel
theorem dX11_tellsMore_133 : decode cX11_tellsMore 133 = .ok (.iaload, 1) := by decide +kernel
theorem dX11_tellsMore_134 : decode cX11_tellsMore 134 = .ok (.iconst 0, 1) := by decide +kernel
theorem dX11_tellsMore_135 : decode cX11_tellsMore 135 = .ok (.invokevirtual 551, 3) := by decide +kernel
theorem dX11_tellsMore_138 : decode cX11_tellsMore 138 = .ok (.aload_n 0, 1) := by decide +kernel
theorem dX11_tellsMore_139 : decode cX11_tellsMore 139 = .ok (.bipush 40, 2) := by decide +kernel
theorem dX11_tellsMore_141 : decode cX11_tellsMore 141 = .ok (.aload_n 0, 1) := by decide +kernel
theorem dX11_tellsMore_142 : decode cX11_tellsMore 142 = .ok (.getfield 86, 3) := by decide +kernel
theorem dX11_tellsMore_145 : decode cX11_tellsMore 145 = .ok (.iload_n 1, 1) := by decide +kernel
theorem dX11_tellsMore_146 : decode cX11_tellsMore 146 = .ok (.iaload, 1) := by decide +kernel
theorem dX11_tellsMore_147 : decode cX11_tellsMore 147 = .ok (.iconst 0, 1) := by decide +kernel
theorem dX11_tellsMore_148 : decode cX11_tellsMore 148 = .ok (.invokevirtual 551, 3) := by decide +kernel
theorem dX11_tellsMore_151 : decode cX11_tellsMore 151 = .ok (.goto 417, 3) := by decide +kernel
theorem dX11_tellsMore_154 : decode cX11_tellsMore 154 = .ok (.aload_n 0, 1) := by decide +kernel
theorem dX11_tellsMore_155 : decode cX11_tellsMore 155 = .ok (.aload_n 0, 1) := by decide +kernel
theorem dX11_tellsMore_156 : decode cX11_tellsMore 156 = .ok (.getfield 77, 3) := by decide +kernel
theorem dX11_tellsMore_159 : decode cX11_tellsMore 159 = .ok (.iload_n 1, 1) := by decide +kernel
theorem dX11_tellsMore_160 : decode cX11_tellsMore 160 = .ok (.iaload, 1) := by decide +kernel
theorem dX11_tellsMore_161 : decode cX11_tellsMore 161 = .ok (.bipush 7, 2) := by decide +kernel
theorem dX11_tellsMore_163 : decode cX11_tellsMore 163 = .ok (.if_icmp .ne 8, 3) := by decide +kernel
theorem dX11_tellsMore_166 : decode cX11_tellsMore 166 = .ok (.bipush 21, 2) := by decide +kernel
theorem dX11_tellsMore_168 : decode cX11_tellsMore 168 = .ok (.goto 5, 3) := by decide +kernel
theorem dX11_tellsMore_171 : decode cX11_tellsMore 171 = .ok (.bipush 22, 2) := by decide +kernel
theorem dX11_tellsMore_173 : decode cX11_tellsMore 173 = .ok (.iload_n 1, 1) := by decide +kernel
theorem dX11_tellsMore_174 : decode cX11_tellsMore 174 = .ok (.iconst 0, 1) := by decide +kernel
theorem dX11_tellsMore_175 : decode cX11_tellsMore 175 = .ok (.invokevirtual 551, 3) := by decide +kernel
theorem dX11_tellsMore_178 : decode cX11_tellsMore 178 = .ok (.aload_n 0, 1) := by decide +kernel
theorem dX11_tellsMore_179 : decode cX11_tellsMore 179 = .ok (.iconst 5, 1) := by decide +kernel
theorem dX11_tellsMore_180 : decode cX11_tellsMore 180 = .ok (.aload_n 0, 1) := by decide +kernel
theorem dX11_tellsMore_181 : decode cX11_tellsMore 181 = .ok (.getfield 86, 3) := by decide +kernel
theorem dX11_tellsMore_184 : decode cX11_tellsMore 184 = .ok (.iload_n 1, 1) := by decide +kernel
theorem dX11_tellsMore_185 : decode cX11_tellsMore 185 = .ok (.iaload, 1) := by decide +kernel
theorem dX11_tellsMore_186 : decode cX11_tellsMore 186 = .ok (.iconst 0, 1) := by decide +kernel
theorem dX11_tellsMore_187 : decode cX11_tellsMore 187 = .ok (.invokevirtual 551, 3) := by decide +kernel
theorem dX11_tellsMore_190 : decode cX11_tellsMore 190 = .ok (.aload_n 0, 1) := by decide +kernel
theorem dX11_tellsMore_191 : decode cX11_tellsMore 191 = .ok (.bipush 40, 2) := by decide +kernel
theorem dX11_tellsMore_193 : decode cX11_tellsMore 193 = .ok (.aload_n 0, 1) := by decide +kernel
theorem dX11_tellsMore_194 : decode cX11_tellsMore 194 = .ok (.getfield 86, 3) := by decide +kernel
theorem dX11_tellsMore_197 : decode cX11_tellsMore 197 = .ok (.iload_n 1, 1) := by decide +kernel
theorem dX11_tellsMore_198 : decode cX11_tellsMore 198 = .ok (.iaload, 1) := by decide +kernel
theorem dX11_tellsMore_199 : decode cX11_tellsMore 199 = .ok (.iconst 0, 1) := by decide +kernel
theorem dX11_tellsMore_200 : decode cX11_tellsMore 200 = .ok (.invokevirtual 551, 3) := by decide +kernel
theorem dX11_tellsMore_203 : decode cX11_tellsMore 203 = .ok (.goto 365, 3) := by decide +kernel
theorem dX11_tellsMore_206 : decode cX11_tellsMore 206 = .ok (.aload_n 0, 1) := by decide +kernel
theorem dX11_tellsMore_207 : decode cX11_tellsMore 207 = .ok (.bipush 23, 2) := by decide +kernel
theorem dX11_tellsMore_209 : decode cX11_tellsMore 209 = .ok (.iload_n 1, 1) := by decide +kernel
theorem dX11_tellsMore_210 : decode cX11_tellsMore 210 = .ok (.iconst 0, 1) := by decide +kernel
theorem dX11_tellsMore_211 : decode cX11_tellsMore 211 = .ok (.invokevirtual 551, 3) := by decide +kernel
theorem dX11_tellsMore_214 : decode cX11_tellsMore 214 = .ok (.aload_n 0, 1) := by decide +kernel
theorem dX11_tellsMore_215 : decode cX11_tellsMore 215 = .ok (.bipush 6, 2) := by decide +kernel
theorem dX11_tellsMore_217 : decode cX11_tellsMore 217 = .ok (.aload_n 0, 1) := by decide +kernel
theorem dX11_tellsMore_218 : decode cX11_tellsMore 218 = .ok (.getfield 86, 3) := by decide +kernel
theorem dX11_tellsMore_221 : decode cX11_tellsMore 221 = .ok (.iload_n 1, 1) := by decide +kernel
theorem dX11_tellsMore_222 : decode cX11_tellsMore 222 = .ok (.iaload, 1) := by decide +kernel
theorem dX11_tellsMore_223 : decode cX11_tellsMore 223 = .ok (.iconst 0, 1) := by decide +kernel
theorem dX11_tellsMore_224 : decode cX11_tellsMore 224 = .ok (.invokevirtual 551, 3) := by decide +kernel
theorem dX11_tellsMore_227 : decode cX11_tellsMore 227 = .ok (.aload_n 0, 1) := by decide +kernel
theorem dX11_tellsMore_228 : decode cX11_tellsMore 228 = .ok (.bipush 40, 2) := by decide +kernel
theorem dX11_tellsMore_230 : decode cX11_tellsMore 230 = .ok (.aload_n 0, 1) := by decide +kernel
theorem dX11_tellsMore_231 : decode cX11_tellsMore 231 = .ok (.getfield 86, 3) := by decide +kernel
theorem dX11_tellsMore_234 : decode cX11_tellsMore 234 = .ok (.iload_n 1, 1) := by decide +kernel
theorem dX11_tellsMore_235 : decode cX11_tellsMore 235 = .ok (.iaload, 1) := by decide +kernel
theorem dX11_tellsMore_236 : decode cX11_tellsMore 236 = .ok (.iconst 0, 1) := by decide +kernel
theorem dX11_tellsMore_237 : decode cX11_tellsMore 237 = .ok (.invokevirtual 551, 3) := by decide +kernel
theorem dX11_tellsMore_240 : decode cX11_tellsMore 240 = .ok (.goto 328, 3) := by decide +kernel
theorem dX11_tellsMore_243 : decode cX11_tellsMore 243 = .ok (.aload_n 0, 1) := by decide +kernel
theorem dX11_tellsMore_244 : decode cX11_tellsMore 244 = .ok (.aload_n 0, 1) := by decide +kernel
theorem dX11_tellsMore_245 : decode cX11_tellsMore 245 = .ok (.getfield 77, 3) := by decide +kernel
theorem dX11_tellsMore_248 : decode cX11_tellsMore 248 = .ok (.iload_n 1, 1) := by decide +kernel
theorem dX11_tellsMore_249 : decode cX11_tellsMore 249 = .ok (.iaload, 1) := by decide +kernel
theorem dX11_tellsMore_250 : decode cX11_tellsMore 250 = .ok (.bipush 14, 2) := by decide +kernel
theorem dX11_tellsMore_252 : decode cX11_tellsMore 252 = .ok (.if_icmp .ne 8, 3) := by decide +kernel
theorem dX11_tellsMore_255 : decode cX11_tellsMore 255 = .ok (.bipush 24, 2) := by decide +kernel
theorem dX11_tellsMore_257 : decode cX11_tellsMore 257 = .ok (.goto 5, 3) := by decide +kernel
theorem dX11_tellsMore_260 : decode cX11_tellsMore 260 = .ok (.bipush 25, 2) := by decide +kernel
theorem dX11_tellsMore_262 : decode cX11_tellsMore 262 = .ok (.iload_n 1, 1) := by decide +kernel
theorem dX11_tellsMore_263 : decode cX11_tellsMore 263 = .ok (.iconst 0, 1) := by decide +kernel
theorem dX11_tellsMore_264 : decode cX11_tellsMore 264 = .ok (.invokevirtual 551, 3) := by decide +kernel
theorem dX11_tellsMore_267 : decode cX11_tellsMore 267 = .ok (.aload_n 0, 1) := by decide +kernel
theorem dX11_tellsMore_268 : decode cX11_tellsMore 268 = .ok (.iconst 5, 1) := by decide +kernel
theorem dX11_tellsMore_269 : decode cX11_tellsMore 269 = .ok (.aload_n 0, 1) := by decide +kernel
theorem dX11_tellsMore_270 : decode cX11_tellsMore 270 = .ok (.getfield 89, 3) := by decide +kernel
theorem dX11_tellsMore_273 : decode cX11_tellsMore 273 = .ok (.iload_n 1, 1) := by decide +kernel
theorem dX11_tellsMore_274 : decode cX11_tellsMore 274 = .ok (.iaload, 1) := by decide +kernel
theorem dX11_tellsMore_275 : decode cX11_tellsMore 275 = .ok (.iconst 0, 1) := by decide +kernel
theorem dX11_tellsMore_276 : decode cX11_tellsMore 276 = .ok (.invokevirtual 551, 3) := by decide +kernel
theorem dX11_tellsMore_279 : decode cX11_tellsMore 279 = .ok (.aload_n 0, 1) := by decide +kernel
theorem dX11_tellsMore_280 : decode cX11_tellsMore 280 = .ok (.bipush 40, 2) := by decide +kernel
theorem dX11_tellsMore_282 : decode cX11_tellsMore 282 = .ok (.aload_n 0, 1) := by decide +kernel
theorem dX11_tellsMore_283 : decode cX11_tellsMore 283 = .ok (.getfield 89, 3) := by decide +kernel
theorem dX11_tellsMore_286 : decode cX11_tellsMore 286 = .ok (.iload_n 1, 1) := by decide +kernel
theorem dX11_tellsMore_287 : decode cX11_tellsMore 287 = .ok (.iaload, 1) := by decide +kernel
theorem dX11_tellsMore_288 : decode cX11_tellsMore 288 = .ok (.iconst 0, 1) := by decide +kernel
theorem dX11_tellsMore_289 : decode cX11_tellsMore 289 = .ok (.invokevirtual 551, 3) := by decide +kernel
theorem dX11_tellsMore_292 : decode cX11_tellsMore 292 = .ok (.aload_n 0, 1) := by decide +kernel
theorem dX11_tellsMore_293 : decode cX11_tellsMore 293 = .ok (.iconst 5, 1) := by decide +kernel
theorem dX11_tellsMore_294 : decode cX11_tellsMore 294 = .ok (.aload_n 0, 1) := by decide +kernel
theorem dX11_tellsMore_295 : decode cX11_tellsMore 295 = .ok (.getfield 86, 3) := by decide +kernel
theorem dX11_tellsMore_298 : decode cX11_tellsMore 298 = .ok (.iload_n 1, 1) := by decide +kernel
theorem dX11_tellsMore_299 : decode cX11_tellsMore 299 = .ok (.iaload, 1) := by decide +kernel
theorem dX11_tellsMore_300 : decode cX11_tellsMore 300 = .ok (.iconst 0, 1) := by decide +kernel
theorem dX11_tellsMore_301 : decode cX11_tellsMore 301 = .ok (.invokevirtual 551, 3) := by decide +kernel
theorem dX11_tellsMore_304 : decode cX11_tellsMore 304 = .ok (.aload_n 0, 1) := by decide +kernel
theorem dX11_tellsMore_305 : decode cX11_tellsMore 305 = .ok (.bipush 40, 2) := by decide +kernel
theorem dX11_tellsMore_307 : decode cX11_tellsMore 307 = .ok (.aload_n 0, 1) := by decide +kernel
theorem dX11_tellsMore_308 : decode cX11_tellsMore 308 = .ok (.getfield 86, 3) := by decide +kernel
theorem dX11_tellsMore_311 : decode cX11_tellsMore 311 = .ok (.iload_n 1, 1) := by decide +kernel
theorem dX11_tellsMore_312 : decode cX11_tellsMore 312 = .ok (.iaload, 1) := by decide +kernel
theorem dX11_tellsMore_313 : decode cX11_tellsMore 313 = .ok (.iconst 0, 1) := by decide +kernel
theorem dX11_tellsMore_314 : decode cX11_tellsMore 314 = .ok (.invokevirtual 551, 3) := by decide +kernel
theorem dX11_tellsMore_317 : decode cX11_tellsMore 317 = .ok (.goto 251, 3) := by decide +kernel
theorem dX11_tellsMore_320 : decode cX11_tellsMore 320 = .ok (.aload_n 0, 1) := by decide +kernel
theorem dX11_tellsMore_321 : decode cX11_tellsMore 321 = .ok (.aload_n 0, 1) := by decide +kernel
theorem dX11_tellsMore_322 : decode cX11_tellsMore 322 = .ok (.getfield 92, 3) := by decide +kernel
theorem dX11_tellsMore_325 : decode cX11_tellsMore 325 = .ok (.iload_n 1, 1) := by decide +kernel
theorem dX11_tellsMore_326 : decode cX11_tellsMore 326 = .ok (.iaload, 1) := by decide +kernel
theorem dX11_tellsMore_327 : decode cX11_tellsMore 327 = .ok (.ifCond .ge 8, 3) := by decide +kernel
theorem dX11_tellsMore_330 : decode cX11_tellsMore 330 = .ok (.bipush 26, 2) := by decide +kernel
theorem dX11_tellsMore_332 : decode cX11_tellsMore 332 = .ok (.goto 5, 3) := by decide +kernel
theorem dX11_tellsMore_335 : decode cX11_tellsMore 335 = .ok (.bipush 27, 2) := by decide +kernel
theorem dX11_tellsMore_337 : decode cX11_tellsMore 337 = .ok (.iload_n 1, 1) := by decide +kernel
theorem dX11_tellsMore_338 : decode cX11_tellsMore 338 = .ok (.iconst 0, 1) := by decide +kernel
theorem dX11_tellsMore_339 : decode cX11_tellsMore 339 = .ok (.invokevirtual 551, 3) := by decide +kernel
theorem dX11_tellsMore_342 : decode cX11_tellsMore 342 = .ok (.aload_n 0, 1) := by decide +kernel
theorem dX11_tellsMore_343 : decode cX11_tellsMore 343 = .ok (.getfield 92, 3) := by decide +kernel
theorem dX11_tellsMore_346 : decode cX11_tellsMore 346 = .ok (.iload_n 1, 1) := by decide +kernel
theorem dX11_tellsMore_347 : decode cX11_tellsMore 347 = .ok (.iaload, 1) := by decide +kernel
theorem dX11_tellsMore_348 : decode cX11_tellsMore 348 = .ok (.ifCond .lt 24, 3) := by decide +kernel
theorem dX11_tellsMore_351 : decode cX11_tellsMore 351 = .ok (.aload_n 0, 1) := by decide +kernel
theorem dX11_tellsMore_352 : decode cX11_tellsMore 352 = .ok (.bipush 11, 2) := by decide +kernel
theorem dX11_tellsMore_354 : decode cX11_tellsMore 354 = .ok (.iload_n 1, 1) := by decide +kernel
theorem dX11_tellsMore_355 : decode cX11_tellsMore 355 = .ok (.iconst 0, 1) := by decide +kernel
theorem dX11_tellsMore_356 : decode cX11_tellsMore 356 = .ok (.invokevirtual 551, 3) := by decide +kernel
theorem dX11_tellsMore_359 : decode cX11_tellsMore 359 = .ok (.aload_n 0, 1) := by decide +kernel
theorem dX11_tellsMore_360 : decode cX11_tellsMore 360 = .ok (.bipush 40, 2) := by decide +kernel
theorem dX11_tellsMore_362 : decode cX11_tellsMore 362 = .ok (.aload_n 0, 1) := by decide +kernel
theorem dX11_tellsMore_363 : decode cX11_tellsMore 363 = .ok (.getfield 92, 3) := by decide +kernel
theorem dX11_tellsMore_366 : decode cX11_tellsMore 366 = .ok (.iload_n 1, 1) := by decide +kernel
theorem dX11_tellsMore_367 : decode cX11_tellsMore 367 = .ok (.iaload, 1) := by decide +kernel
theorem dX11_tellsMore_368 : decode cX11_tellsMore 368 = .ok (.iconst 0, 1) := by decide +kernel
theorem dX11_tellsMore_369 : decode cX11_tellsMore 369 = .ok (.invokevirtual 551, 3) := by decide +kernel
theorem dX11_tellsMore_372 : decode cX11_tellsMore 372 = .ok (.aload_n 0, 1) := by decide +kernel
theorem dX11_tellsMore_373 : decode cX11_tellsMore 373 = .ok (.iconst 5, 1) := by decide +kernel
theorem dX11_tellsMore_374 : decode cX11_tellsMore 374 = .ok (.aload_n 0, 1) := by decide +kernel
theorem dX11_tellsMore_375 : decode cX11_tellsMore 375 = .ok (.getfield 89, 3) := by decide +kernel
theorem dX11_tellsMore_378 : decode cX11_tellsMore 378 = .ok (.iload_n 1, 1) := by decide +kernel
theorem dX11_tellsMore_379 : decode cX11_tellsMore 379 = .ok (.iaload, 1) := by decide +kernel
theorem dX11_tellsMore_380 : decode cX11_tellsMore 380 = .ok (.iconst 0, 1) := by decide +kernel
theorem dX11_tellsMore_381 : decode cX11_tellsMore 381 = .ok (.invokevirtual 551, 3) := by decide +kernel
theorem dX11_tellsMore_384 : decode cX11_tellsMore 384 = .ok (.aload_n 0, 1) := by decide +kernel
theorem dX11_tellsMore_385 : decode cX11_tellsMore 385 = .ok (.bipush 40, 2) := by decide +kernel
theorem dX11_tellsMore_387 : decode cX11_tellsMore 387 = .ok (.aload_n 0, 1) := by decide +kernel
theorem dX11_tellsMore_388 : decode cX11_tellsMore 388 = .ok (.getfield 89, 3) := by decide +kernel
theorem dX11_tellsMore_391 : decode cX11_tellsMore 391 = .ok (.iload_n 1, 1) := by decide +kernel
theorem dX11_tellsMore_392 : decode cX11_tellsMore 392 = .ok (.iaload, 1) := by decide +kernel
theorem dX11_tellsMore_393 : decode cX11_tellsMore 393 = .ok (.iconst 0, 1) := by decide +kernel
theorem dX11_tellsMore_394 : decode cX11_tellsMore 394 = .ok (.invokevirtual 551, 3) := by decide +kernel
theorem dX11_tellsMore_397 : decode cX11_tellsMore 397 = .ok (.aload_n 0, 1) := by decide +kernel
theorem dX11_tellsMore_398 : decode cX11_tellsMore 398 = .ok (.bipush 8, 2) := by decide +kernel
theorem dX11_tellsMore_400 : decode cX11_tellsMore 400 = .ok (.iload_n 1, 1) := by decide +kernel
theorem dX11_tellsMore_401 : decode cX11_tellsMore 401 = .ok (.iconst 0, 1) := by decide +kernel
theorem dX11_tellsMore_402 : decode cX11_tellsMore 402 = .ok (.invokevirtual 551, 3) := by decide +kernel
theorem dX11_tellsMore_405 : decode cX11_tellsMore 405 = .ok (.aload_n 0, 1) := by decide +kernel
theorem dX11_tellsMore_406 : decode cX11_tellsMore 406 = .ok (.bipush 40, 2) := by decide +kernel
theorem dX11_tellsMore_408 : decode cX11_tellsMore 408 = .ok (.aload_n 0, 1) := by decide +kernel
theorem dX11_tellsMore_409 : decode cX11_tellsMore 409 = .ok (.getfield 86, 3) := by decide +kernel
theorem dX11_tellsMore_412 : decode cX11_tellsMore 412 = .ok (.iload_n 1, 1) := by decide +kernel
theorem dX11_tellsMore_413 : decode cX11_tellsMore 413 = .ok (.iaload, 1) := by decide +kernel
theorem dX11_tellsMore_414 : decode cX11_tellsMore 414 = .ok (.iconst 0, 1) := by decide +kernel
theorem dX11_tellsMore_415 : decode cX11_tellsMore 415 = .ok (.invokevirtual 551, 3) := by decide +kernel
theorem dX11_tellsMore_418 : decode cX11_tellsMore 418 = .ok (.goto 150, 3) := by decide +kernel
theorem dX11_tellsMore_421 : decode cX11_tellsMore 421 = .ok (.aload_n 0, 1) := by decide +kernel
theorem dX11_tellsMore_422 : decode cX11_tellsMore 422 = .ok (.bipush 17, 2) := by decide +kernel
theorem dX11_tellsMore_424 : decode cX11_tellsMore 424 = .ok (.iload_n 1, 1) := by decide +kernel
theorem dX11_tellsMore_425 : decode cX11_tellsMore 425 = .ok (.iconst 0, 1) := by decide +kernel
theorem dX11_tellsMore_426 : decode cX11_tellsMore 426 = .ok (.invokevirtual 551, 3) := by decide +kernel
theorem dX11_tellsMore_429 : decode cX11_tellsMore 429 = .ok (.aload_n 0, 1) := by decide +kernel
theorem dX11_tellsMore_430 : decode cX11_tellsMore 430 = .ok (.bipush 14, 2) := by decide +kernel
theorem dX11_tellsMore_432 : decode cX11_tellsMore 432 = .ok (.aload_n 0, 1) := by decide +kernel
theorem dX11_tellsMore_433 : decode cX11_tellsMore 433 = .ok (.getfield 92, 3) := by decide +kernel
theorem dX11_tellsMore_436 : decode cX11_tellsMore 436 = .ok (.iload_n 1, 1) := by decide +kernel
theorem dX11_tellsMore_437 : decode cX11_tellsMore 437 = .ok (.iaload, 1) := by decide +kernel
theorem dX11_tellsMore_438 : decode cX11_tellsMore 438 = .ok (.iconst 0, 1) := by decide +kernel
theorem dX11_tellsMore_439 : decode cX11_tellsMore 439 = .ok (.invokevirtual 551, 3) := by decide +kernel
theorem dX11_tellsMore_442 : decode cX11_tellsMore 442 = .ok (.aload_n 0, 1) := by decide +kernel
theorem dX11_tellsMore_443 : decode cX11_tellsMore 443 = .ok (.bipush 40, 2) := by decide +kernel
theorem dX11_tellsMore_445 : decode cX11_tellsMore 445 = .ok (.aload_n 0, 1) := by decide +kernel
theorem dX11_tellsMore_446 : decode cX11_tellsMore 446 = .ok (.getfield 92, 3) := by decide +kernel
theorem dX11_tellsMore_449 : decode cX11_tellsMore 449 = .ok (.iload_n 1, 1) := by decide +kernel
theorem dX11_tellsMore_450 : decode cX11_tellsMore 450 = .ok (.iaload, 1) := by decide +kernel
theorem dX11_tellsMore_451 : decode cX11_tellsMore 451 = .ok (.iconst 0, 1) := by decide +kernel
theorem dX11_tellsMore_452 : decode cX11_tellsMore 452 = .ok (.invokevirtual 551, 3) := by decide +kernel
theorem dX11_tellsMore_455 : decode cX11_tellsMore 455 = .ok (.aload_n 0, 1) := by decide +kernel
theorem dX11_tellsMore_456 : decode cX11_tellsMore 456 = .ok (.bipush 16, 2) := by decide +kernel
theorem dX11_tellsMore_458 : decode cX11_tellsMore 458 = .ok (.iload_n 1, 1) := by decide +kernel
theorem dX11_tellsMore_459 : decode cX11_tellsMore 459 = .ok (.iconst 0, 1) := by decide +kernel
theorem dX11_tellsMore_460 : decode cX11_tellsMore 460 = .ok (.invokevirtual 551, 3) := by decide +kernel
theorem dX11_tellsMore_463 : decode cX11_tellsMore 463 = .ok (.aload_n 0, 1) := by decide +kernel
theorem dX11_tellsMore_464 : decode cX11_tellsMore 464 = .ok (.bipush 14, 2) := by decide +kernel
theorem dX11_tellsMore_466 : decode cX11_tellsMore 466 = .ok (.aload_n 0, 1) := by decide +kernel
theorem dX11_tellsMore_467 : decode cX11_tellsMore 467 = .ok (.getfield 89, 3) := by decide +kernel
theorem dX11_tellsMore_470 : decode cX11_tellsMore 470 = .ok (.iload_n 1, 1) := by decide +kernel
theorem dX11_tellsMore_471 : decode cX11_tellsMore 471 = .ok (.iaload, 1) := by decide +kernel
theorem dX11_tellsMore_472 : decode cX11_tellsMore 472 = .ok (.iconst 0, 1) := by decide +kernel
theorem dX11_tellsMore_473 : decode cX11_tellsMore 473 = .ok (.invokevirtual 551, 3) := by decide +kernel
theorem dX11_tellsMore_476 : decode cX11_tellsMore 476 = .ok (.aload_n 0, 1) := by decide +kernel
theorem dX11_tellsMore_477 : decode cX11_tellsMore 477 = .ok (.bipush 40, 2) := by decide +kernel
theorem dX11_tellsMore_479 : decode cX11_tellsMore 479 = .ok (.aload_n 0, 1) := by decide +kernel
theorem dX11_tellsMore_480 : decode cX11_tellsMore 480 = .ok (.getfield 89, 3) := by decide +kernel
theorem dX11_tellsMore_483 : decode cX11_tellsMore 483 = .ok (.iload_n 1, 1) := by decide +kernel
theorem dX11_tellsMore_484 : decode cX11_tellsMore 484 = .ok (.iaload, 1) := by decide +kernel
theorem dX11_tellsMore_485 : decode cX11_tellsMore 485 = .ok (.iconst 0, 1) := by decide +kernel
theorem dX11_tellsMore_486 : decode cX11_tellsMore 486 = .ok (.invokevirtual 551, 3) := by decide +kernel
theorem dX11_tellsMore_489 : decode cX11_tellsMore 489 = .ok (.aload_n 0, 1) := by decide +kernel
theorem dX11_tellsMore_490 : decode cX11_tellsMore 490 = .ok (.bipush 15, 2) := by decide +kernel
theorem dX11_tellsMore_492 : decode cX11_tellsMore 492 = .ok (.iload_n 1, 1) := by decide +kernel
theorem dX11_tellsMore_493 : decode cX11_tellsMore 493 = .ok (.iconst 0, 1) := by decide +kernel
theorem dX11_tellsMore_494 : decode cX11_tellsMore 494 = .ok (.invokevirtual 551, 3) := by decide +kernel
theorem dX11_tellsMore_497 : decode cX11_tellsMore 497 = .ok (.aload_n 0, 1) := by decide +kernel
theorem dX11_tellsMore_498 : decode cX11_tellsMore 498 = .ok (.bipush 6, 2) := by decide +kernel
theorem dX11_tellsMore_500 : decode cX11_tellsMore 500 = .ok (.aload_n 0, 1) := by decide +kernel
theorem dX11_tellsMore_501 : decode cX11_tellsMore 501 = .ok (.getfield 86, 3) := by decide +kernel
theorem dX11_tellsMore_504 : decode cX11_tellsMore 504 = .ok (.iload_n 1, 1) := by decide +kernel
theorem dX11_tellsMore_505 : decode cX11_tellsMore 505 = .ok (.iaload, 1) := by decide +kernel
theorem dX11_tellsMore_506 : decode cX11_tellsMore 506 = .ok (.iconst 0, 1) := by decide +kernel
theorem dX11_tellsMore_507 : decode cX11_tellsMore 507 = .ok (.invokevirtual 551, 3) := by decide +kernel
theorem dX11_tellsMore_510 : decode cX11_tellsMore 510 = .ok (.aload_n 0, 1) := by decide +kernel
theorem dX11_tellsMore_511 : decode cX11_tellsMore 511 = .ok (.bipush 40, 2) := by decide +kernel
theorem dX11_tellsMore_513 : decode cX11_tellsMore 513 = .ok (.aload_n 0, 1) := by decide +kernel
theorem dX11_tellsMore_514 : decode cX11_tellsMore 514 = .ok (.getfield 86, 3) := by decide +kernel
theorem dX11_tellsMore_517 : decode cX11_tellsMore 517 = .ok (.iload_n 1, 1) := by decide +kernel
theorem dX11_tellsMore_518 : decode cX11_tellsMore 518 = .ok (.iaload, 1) := by decide +kernel
theorem dX11_tellsMore_519 : decode cX11_tellsMore 519 = .ok (.iconst 0, 1) := by decide +kernel
theorem dX11_tellsMore_520 : decode cX11_tellsMore 520 = .ok (.invokevirtual 551, 3) := by decide +kernel
theorem dX11_tellsMore_523 : decode cX11_tellsMore 523 = .ok (.goto 45, 3) := by decide +kernel
theorem dX11_tellsMore_526 : decode cX11_tellsMore 526 = .ok (.aload_n 0, 1) := by decide +kernel
theorem dX11_tellsMore_527 : decode cX11_tellsMore 527 = .ok (.bipush 40, 2) := by decide +kernel
theorem dX11_tellsMore_529 : decode cX11_tellsMore 529 = .ok (.aload_n 0, 1) := by decide +kernel
theorem dX11_tellsMore_530 : decode cX11_tellsMore 530 = .ok (.getfield 89, 3) := by decide +kernel
theorem dX11_tellsMore_533 : decode cX11_tellsMore 533 = .ok (.iload_n 1, 1) := by decide +kernel
theorem dX11_tellsMore_534 : decode cX11_tellsMore 534 = .ok (.iaload, 1) := by decide +kernel
theorem dX11_tellsMore_535 : decode cX11_tellsMore 535 = .ok (.iconst 0, 1) := by decide +kernel
theorem dX11_tellsMore_536 : decode cX11_tellsMore 536 = .ok (.invokevirtual 551, 3) := by decide +kernel
theorem dX11_tellsMore_539 : decode cX11_tellsMore 539 = .ok (.aload_n 0, 1) := by decide +kernel
theorem dX11_tellsMore_540 : decode cX11_tellsMore 540 = .ok (.bipush 13, 2) := by decide +kernel
theorem dX11_tellsMore_542 : decode cX11_tellsMore 542 = .ok (.iload_n 1, 1) := by decide +kernel
theorem dX11_tellsMore_543 : decode cX11_tellsMore 543 = .ok (.iconst 0, 1) := by decide +kernel
theorem dX11_tellsMore_544 : decode cX11_tellsMore 544 = .ok (.invokevirtual 551, 3) := by decide +kernel
theorem dX11_tellsMore_547 : decode cX11_tellsMore 547 = .ok (.aload_n 0, 1) := by decide +kernel
theorem dX11_tellsMore_548 : decode cX11_tellsMore 548 = .ok (.bipush 12, 2) := by decide +kernel
theorem dX11_tellsMore_550 : decode cX11_tellsMore 550 = .ok (.iload_n 1, 1) := by decide +kernel
theorem dX11_tellsMore_551 : decode cX11_tellsMore 551 = .ok (.iconst 0, 1) := by decide +kernel
theorem dX11_tellsMore_552 : decode cX11_tellsMore 552 = .ok (.invokevirtual 551, 3) := by decide +kernel
theorem dX11_tellsMore_555 : decode cX11_tellsMore 555 = .ok (.aload_n 0, 1) := by decide +kernel
theorem dX11_tellsMore_556 : decode cX11_tellsMore 556 = .ok (.bipush 40, 2) := by decide +kernel
theorem dX11_tellsMore_558 : decode cX11_tellsMore 558 = .ok (.aload_n 0, 1) := by decide +kernel
theorem dX11_tellsMore_559 : decode cX11_tellsMore 559 = .ok (.getfield 86, 3) := by decide +kernel
theorem dX11_tellsMore_562 : decode cX11_tellsMore 562 = .ok (.iload_n 1, 1) := by decide +kernel
theorem dX11_tellsMore_563 : decode cX11_tellsMore 563 = .ok (.iaload, 1) := by decide +kernel
theorem dX11_tellsMore_564 : decode cX11_tellsMore 564 = .ok (.iconst 0, 1) := by decide +kernel
theorem dX11_tellsMore_565 : decode cX11_tellsMore 565 = .ok (.invokevirtual 551, 3) := by decide +kernel
theorem dX11_tellsMore_568 : decode cX11_tellsMore 568 = .ok (.return_, 1) := by decide +kernel
theorem k1357 : Cond.methodLink "BlameCourtModel" 263 yX11_kinds ∈ gtb := gtm (in_tables_1_5 (List.mem_of_getElem? (i := 211) rfl)) rfl
theorem k1372 : Cond.fieldLink "BlameCourtModel" 509 "BlameCourtModel" "isJudged" "Z" ∈ gtb := gtm (in_tables_1_5 (List.mem_of_getElem? (i := 226) rfl)) rfl
theorem k1383 : Cond.fieldLink "BlameCourtModel" 524 "BlameCourtModel" "textKinds" "I" ∈ gtb := gtm (in_tables_1_5 (List.mem_of_getElem? (i := 237) rfl)) rfl
theorem k1390 : Cond.fieldLink "BlameCourtModel" 527 "BlameCourtModel" "textListed" "I" ∈ gtb := gtm (in_tables_1_6 (List.mem_of_getElem? (i := 4) rfl)) rfl
theorem k1398 : Cond.fieldLink "BlameCourtModel" 59 "BlameCourtModel" "partAt" "[I" ∈ gtb := gtm (in_tables_1_6 (List.mem_of_getElem? (i := 12) rfl)) rfl
theorem k1403 : Cond.fieldLink "BlameCourtModel" 74 "BlameCourtModel" "isTold" "[Z" ∈ gtb := gtm (in_tables_1_6 (List.mem_of_getElem? (i := 17) rfl)) rfl
theorem k1430 : Cond.fieldLink "BlameCourtModel" 521 "BlameCourtModel" "main" "I" ∈ gtb := gtm (in_tables_1_6 (List.mem_of_getElem? (i := 44) rfl)) rfl
theorem k1431 : Cond.fieldLink "BlameCourtModel" 548 "BlameCourtModel" "orders" "I" ∈ gtb := gtm (in_tables_1_6 (List.mem_of_getElem? (i := 45) rfl)) rfl
theorem k1432 : Cond.fieldLink "BlameCourtModel" 137 "BlameCourtModel" "orde\x72" "[I" ∈ gtb := gtm (in_tables_1_6 (List.mem_of_getElem? (i := 46) rfl)) rfl
theorem k1433 : Cond.fieldLink "BlameCourtModel" 140 "BlameCourtModel" "of" "[I" ∈ gtb := gtm (in_tables_1_6 (List.mem_of_getElem? (i := 47) rfl)) rfl
theorem k1434 : Cond.fieldLink "BlameCourtModel" 143 "BlameCourtModel" "more" "[I" ∈ gtb := gtm (in_tables_1_6 (List.mem_of_getElem? (i := 48) rfl)) rfl
theorem k1435 : Cond.fieldLink "BlameCourtModel" 146 "BlameCourtModel" "guardOf" "[I" ∈ gtb := gtm (in_tables_1_6 (List.mem_of_getElem? (i := 49) rfl)) rfl
theorem k1436 : Cond.fieldLink "BlameCourtModel" 149 "BlameCourtModel" "partOrde\x72" "[I" ∈ gtb := gtm (in_tables_1_6 (List.mem_of_getElem? (i := 50) rfl)) rfl
theorem k1437 : Cond.fieldLink "BlameCourtModel" 152 "BlameCourtModel" "eitherAt" "[I" ∈ gtb := gtm (in_tables_1_6 (List.mem_of_getElem? (i := 51) rfl)) rfl
theorem k1438 : Cond.fieldLink "BlameCourtModel" 155 "BlameCourtModel" "elseAt" "[I" ∈ gtb := gtm (in_tables_1_6 (List.mem_of_getElem? (i := 52) rfl)) rfl
theorem k1439 : Cond.fieldLink "BlameCourtModel" 158 "BlameCourtModel" "overAt" "[I" ∈ gtb := gtm (in_tables_1_6 (List.mem_of_getElem? (i := 53) rfl)) rfl
theorem k1440 : Cond.fieldLink "BlameCourtModel" 545 "BlameCourtModel" "tasks" "I" ∈ gtb := gtm (in_tables_1_6 (List.mem_of_getElem? (i := 54) rfl)) rfl
theorem k1441 : Cond.fieldLink "BlameCourtModel" 161 "BlameCourtModel" "task" "[I" ∈ gtb := gtm (in_tables_1_6 (List.mem_of_getElem? (i := 55) rfl)) rfl
theorem k1442 : Cond.fieldLink "BlameCourtModel" 164 "BlameCourtModel" "taskOf" "[I" ∈ gtb := gtm (in_tables_1_6 (List.mem_of_getElem? (i := 56) rfl)) rfl
theorem k1443 : Cond.fieldLink "BlameCourtModel" 167 "BlameCourtModel" "taskMore" "[I" ∈ gtb := gtm (in_tables_1_6 (List.mem_of_getElem? (i := 57) rfl)) rfl
theorem k1444 : Cond.fieldLink "BlameCourtModel" 170 "BlameCourtModel" "callOf" "[I" ∈ gtb := gtm (in_tables_1_6 (List.mem_of_getElem? (i := 58) rfl)) rfl
theorem k1445 : Cond.fieldLink "BlameCourtModel" 588 "BlameCourtModel" "guards" "I" ∈ gtb := gtm (in_tables_1_6 (List.mem_of_getElem? (i := 59) rfl)) rfl
theorem k1446 : Cond.fieldLink "BlameCourtModel" 173 "BlameCourtModel" "gPlace" "[I" ∈ gtb := gtm (in_tables_1_6 (List.mem_of_getElem? (i := 60) rfl)) rfl
theorem k1447 : Cond.fieldLink "BlameCourtModel" 176 "BlameCourtModel" "gFrom" "[I" ∈ gtb := gtm (in_tables_1_6 (List.mem_of_getElem? (i := 61) rfl)) rfl
theorem k1448 : Cond.fieldLink "BlameCourtModel" 179 "BlameCourtModel" "gTo" "[I" ∈ gtb := gtm (in_tables_1_6 (List.mem_of_getElem? (i := 62) rfl)) rfl
theorem k1449 : Cond.fieldLink "BlameCourtModel" 182 "BlameCourtModel" "gGive\x72" "[I" ∈ gtb := gtm (in_tables_1_6 (List.mem_of_getElem? (i := 63) rfl)) rfl
theorem k1450 : Cond.fieldLink "BlameCourtModel" 185 "BlameCourtModel" "gTake\x72" "[I" ∈ gtb := gtm (in_tables_1_6 (List.mem_of_getElem? (i := 64) rfl)) rfl
theorem k1451 : Cond.fieldLink "BlameCourtModel" 188 "BlameCourtModel" "standsAny" "[Z" ∈ gtb := gtm (in_tables_1_6 (List.mem_of_getElem? (i := 65) rfl)) rfl
theorem k1452 : Cond.fieldLink "BlameCourtModel" 568 "BlameCourtModel" "judged" "I" ∈ gtb := gtm (in_tables_1_6 (List.mem_of_getElem? (i := 66) rfl)) rfl
theorem k1453 : Cond.fieldLink "BlameCourtModel" 577 "BlameCourtModel" "depth" "I" ∈ gtb := gtm (in_tables_1_6 (List.mem_of_getElem? (i := 67) rfl)) rfl
theorem k1454 : Cond.fieldLink "BlameCourtModel" 191 "BlameCourtModel" "kindAt" "[I" ∈ gtb := gtm (in_tables_1_6 (List.mem_of_getElem? (i := 68) rfl)) rfl
theorem k1816 : Cond.methodLink "BlameCourtModel" 513 yX11_part ∈ gtb := gtm (in_tables_1_7 (List.mem_of_getElem? (i := 190) rfl)) rfl
theorem k1959 : Cond.methodLink "BlameCourtModel" 516 yX11_knows ∈ gtb := gtm (in_tables_1_8 (List.mem_of_getElem? (i := 93) rfl)) rfl
theorem k1967 : Cond.constantLong "BlameCourtModel" 519 3412558 ∈ gtb := gtm (in_tables_1_8 (List.mem_of_getElem? (i := 101) rfl)) rfl
theorem k1976 : Cond.methodLink "BlameCourtModel" 551 yX11_task ∈ gtb := gtm (in_tables_1_8 (List.mem_of_getElem? (i := 110) rfl)) rfl
theorem k1980 : Cond.methodLink "BlameCourtModel" 554 yX11_goesOn ∈ gtb := gtm (in_tables_1_8 (List.mem_of_getElem? (i := 114) rfl)) rfl
theorem k1984 : Cond.methodLink "BlameCourtModel" 557 yX11_order ∈ gtb := gtm (in_tables_1_8 (List.mem_of_getElem? (i := 118) rfl)) rfl
theorem k1988 : Cond.methodLink "BlameCourtModel" 559 yX11_tells ∈ gtb := gtm (in_tables_1_8 (List.mem_of_getElem? (i := 122) rfl)) rfl
theorem k1992 : Cond.methodLink "BlameCourtModel" 562 yX11_taskOfCall ∈ gtb := gtm (in_tables_1_8 (List.mem_of_getElem? (i := 126) rfl)) rfl
theorem k1996 : Cond.methodLink "BlameCourtModel" 565 yX11_tellsMore ∈ gtb := gtm (in_tables_1_8 (List.mem_of_getElem? (i := 130) rfl)) rfl
theorem k2000 : Cond.methodLink "BlameCourtModel" 574 yX11_ownKindOf ∈ gtb := gtm (in_tables_1_8 (List.mem_of_getElem? (i := 134) rfl)) rfl
theorem k2004 : Cond.methodLink "BlameCourtModel" 571 yX11_paramKindOf ∈ gtb := gtm (in_tables_1_8 (List.mem_of_getElem? (i := 138) rfl)) rfl
theorem k1975 : Cond.code yX11_compiles cX11_compiles 2 none ∈ gtb := gtm (in_tables_1_8 (List.mem_of_getElem? (i := 109) rfl)) rfl
theorem ka_X11_compiles : KA yX11_compiles cX11_compiles 2 none 0 := ⟨k1975, k197, by decide, by decide, by decide +kernel⟩
theorem k1974 : Cond.instanceMethod yX11_compiles ∈ gtb := gtm (in_tables_1_8 (List.mem_of_getElem? (i := 108) rfl)) rfl
theorem k140 : Cond.selects "BlameCourtModel" yX11_compiles yX11_compiles ∈ gtb := gtm (in_lw_privs_9 (q := (yX11_compiles, 129)) (List.mem_of_getElem? (i := 12) rfl)) rfl
theorem kv_X11_compiles : KV yX11_compiles := ⟨k1974, k140⟩
theorem k2019 : Cond.code yX11_functionOf cX11_functionOf 3 (some .int) ∈ gtb := gtm (in_tables_1_8 (List.mem_of_getElem? (i := 153) rfl)) rfl
theorem ka_X11_functionOf : KA yX11_functionOf cX11_functionOf 3 (some .int) 1 := ⟨k2019, k197, by decide, by decide, by decide +kernel⟩
theorem k2018 : Cond.instanceMethod yX11_functionOf ∈ gtb := gtm (in_tables_1_8 (List.mem_of_getElem? (i := 152) rfl)) rfl
theorem k151 : Cond.selects "BlameCourtModel" yX11_functionOf yX11_functionOf ∈ gtb := gtm (in_lw_privs_10 (q := (yX11_functionOf, 129)) (List.mem_of_getElem? (i := 7) rfl)) rfl
theorem kv_X11_functionOf : KV yX11_functionOf := ⟨k2018, k151⟩
theorem k1983 : Cond.code yX11_goesOn cX11_goesOn 4 none ∈ gtb := gtm (in_tables_1_8 (List.mem_of_getElem? (i := 117) rfl)) rfl
theorem ka_X11_goesOn : KA yX11_goesOn cX11_goesOn 4 none 3 := ⟨k1983, k197, by decide, by decide, by decide +kernel⟩
theorem k1982 : Cond.instanceMethod yX11_goesOn ∈ gtb := gtm (in_tables_1_8 (List.mem_of_getElem? (i := 116) rfl)) rfl
theorem k142 : Cond.selects "BlameCourtModel" yX11_goesOn yX11_goesOn ∈ gtb := gtm (in_lw_privs_9 (q := (yX11_goesOn, 129)) (List.mem_of_getElem? (i := 14) rfl)) rfl
theorem kv_X11_goesOn : KV yX11_goesOn := ⟨k1982, k142⟩
theorem k2031 : Cond.code yX11_guards cX11_guards 6 none ∈ gtb := gtm (in_tables_1_8 (List.mem_of_getElem? (i := 165) rfl)) rfl
theorem ka_X11_guards : KA yX11_guards cX11_guards 6 none 5 := ⟨k2031, k197, by decide, by decide, by decide +kernel⟩
theorem k2030 : Cond.instanceMethod yX11_guards ∈ gtb := gtm (in_tables_1_8 (List.mem_of_getElem? (i := 164) rfl)) rfl
theorem k154 : Cond.selects "BlameCourtModel" yX11_guards yX11_guards ∈ gtb := gtm (in_lw_privs_10 (q := (yX11_guards, 129)) (List.mem_of_getElem? (i := 10) rfl)) rfl
theorem kv_X11_guards : KV yX11_guards := ⟨k2030, k154⟩
theorem k1987 : Cond.code yX11_order cX11_order 4 none ∈ gtb := gtm (in_tables_1_8 (List.mem_of_getElem? (i := 121) rfl)) rfl
theorem ka_X11_order : KA yX11_order cX11_order 4 none 3 := ⟨k1987, k197, by decide, by decide, by decide +kernel⟩
theorem k1986 : Cond.instanceMethod yX11_order ∈ gtb := gtm (in_tables_1_8 (List.mem_of_getElem? (i := 120) rfl)) rfl
theorem k143 : Cond.selects "BlameCourtModel" yX11_order yX11_order ∈ gtb := gtm (in_lw_privs_9 (q := (yX11_order, 129)) (List.mem_of_getElem? (i := 15) rfl)) rfl
theorem kv_X11_order : KV yX11_order := ⟨k1986, k143⟩
theorem k2003 : Cond.code yX11_ownKindOf cX11_ownKindOf 2 (some .int) ∈ gtb := gtm (in_tables_1_8 (List.mem_of_getElem? (i := 137) rfl)) rfl
theorem ka_X11_ownKindOf : KA yX11_ownKindOf cX11_ownKindOf 2 (some .int) 1 := ⟨k2003, k197, by decide, by decide, by decide +kernel⟩
theorem k2002 : Cond.instanceMethod yX11_ownKindOf ∈ gtb := gtm (in_tables_1_8 (List.mem_of_getElem? (i := 136) rfl)) rfl
theorem k147 : Cond.selects "BlameCourtModel" yX11_ownKindOf yX11_ownKindOf ∈ gtb := gtm (in_lw_privs_10 (q := (yX11_ownKindOf, 129)) (List.mem_of_getElem? (i := 3) rfl)) rfl
theorem kv_X11_ownKindOf : KV yX11_ownKindOf := ⟨k2002, k147⟩
theorem k2007 : Cond.code yX11_paramKindOf cX11_paramKindOf 3 (some .int) ∈ gtb := gtm (in_tables_1_8 (List.mem_of_getElem? (i := 141) rfl)) rfl
theorem ka_X11_paramKindOf : KA yX11_paramKindOf cX11_paramKindOf 3 (some .int) 2 := ⟨k2007, k197, by decide, by decide, by decide +kernel⟩
theorem k2006 : Cond.instanceMethod yX11_paramKindOf ∈ gtb := gtm (in_tables_1_8 (List.mem_of_getElem? (i := 140) rfl)) rfl
theorem k148 : Cond.selects "BlameCourtModel" yX11_paramKindOf yX11_paramKindOf ∈ gtb := gtm (in_lw_privs_10 (q := (yX11_paramKindOf, 129)) (List.mem_of_getElem? (i := 4) rfl)) rfl
theorem kv_X11_paramKindOf : KV yX11_paramKindOf := ⟨k2006, k148⟩
theorem k2015 : Cond.code yX11_push cX11_push 2 none ∈ gtb := gtm (in_tables_1_8 (List.mem_of_getElem? (i := 149) rfl)) rfl
theorem ka_X11_push : KA yX11_push cX11_push 2 none 1 := ⟨k2015, k197, by decide, by decide, by decide +kernel⟩
theorem k2014 : Cond.instanceMethod yX11_push ∈ gtb := gtm (in_tables_1_8 (List.mem_of_getElem? (i := 148) rfl)) rfl
theorem k150 : Cond.selects "BlameCourtModel" yX11_push yX11_push ∈ gtb := gtm (in_lw_privs_10 (q := (yX11_push, 129)) (List.mem_of_getElem? (i := 6) rfl)) rfl
theorem kv_X11_push : KV yX11_push := ⟨k2014, k150⟩
theorem k1775 : Cond.code yX11_reads cX11_reads 1 none ∈ gtb := gtm (in_tables_1_7 (List.mem_of_getElem? (i := 149) rfl)) rfl
theorem ka_X11_reads : KA yX11_reads cX11_reads 1 none 0 := ⟨k1775, k197, by decide, by decide, by decide +kernel⟩
theorem k1774 : Cond.instanceMethod yX11_reads ∈ gtb := gtm (in_tables_1_7 (List.mem_of_getElem? (i := 148) rfl)) rfl
theorem k98 : Cond.selects "BlameCourtModel" yX11_reads yX11_reads ∈ gtb := gtm (in_lw_privs_7 (q := (yX11_reads, 129)) (List.mem_of_getElem? (i := 2) rfl)) rfl
theorem kv_X11_reads : KV yX11_reads := ⟨k1774, k98⟩
theorem k1979 : Cond.code yX11_task cX11_task 4 none ∈ gtb := gtm (in_tables_1_8 (List.mem_of_getElem? (i := 113) rfl)) rfl
theorem ka_X11_task : KA yX11_task cX11_task 4 none 3 := ⟨k1979, k197, by decide, by decide, by decide +kernel⟩
theorem k1978 : Cond.instanceMethod yX11_task ∈ gtb := gtm (in_tables_1_8 (List.mem_of_getElem? (i := 112) rfl)) rfl
theorem k141 : Cond.selects "BlameCourtModel" yX11_task yX11_task ∈ gtb := gtm (in_lw_privs_9 (q := (yX11_task, 129)) (List.mem_of_getElem? (i := 13) rfl)) rfl
theorem kv_X11_task : KV yX11_task := ⟨k1978, k141⟩
theorem k1995 : Cond.code yX11_taskOfCall cX11_taskOfCall 3 none ∈ gtb := gtm (in_tables_1_8 (List.mem_of_getElem? (i := 129) rfl)) rfl
theorem ka_X11_taskOfCall : KA yX11_taskOfCall cX11_taskOfCall 3 none 1 := ⟨k1995, k197, by decide, by decide, by decide +kernel⟩
theorem k1994 : Cond.instanceMethod yX11_taskOfCall ∈ gtb := gtm (in_tables_1_8 (List.mem_of_getElem? (i := 128) rfl)) rfl
theorem k145 : Cond.selects "BlameCourtModel" yX11_taskOfCall yX11_taskOfCall ∈ gtb := gtm (in_lw_privs_10 (q := (yX11_taskOfCall, 129)) (List.mem_of_getElem? (i := 1) rfl)) rfl
theorem kv_X11_taskOfCall : KV yX11_taskOfCall := ⟨k1994, k145⟩
theorem k1991 : Cond.code yX11_tells cX11_tells 2 none ∈ gtb := gtm (in_tables_1_8 (List.mem_of_getElem? (i := 125) rfl)) rfl
theorem ka_X11_tells : KA yX11_tells cX11_tells 2 none 1 := ⟨k1991, k197, by decide, by decide, by decide +kernel⟩
theorem k1990 : Cond.instanceMethod yX11_tells ∈ gtb := gtm (in_tables_1_8 (List.mem_of_getElem? (i := 124) rfl)) rfl
theorem k144 : Cond.selects "BlameCourtModel" yX11_tells yX11_tells ∈ gtb := gtm (in_lw_privs_10 (q := (yX11_tells, 129)) (List.mem_of_getElem? (i := 0) rfl)) rfl
theorem kv_X11_tells : KV yX11_tells := ⟨k1990, k144⟩
theorem k1999 : Cond.code yX11_tellsMore cX11_tellsMore 2 none ∈ gtb := gtm (in_tables_1_8 (List.mem_of_getElem? (i := 133) rfl)) rfl
theorem ka_X11_tellsMore : KA yX11_tellsMore cX11_tellsMore 2 none 1 := ⟨k1999, k197, by decide, by decide, by decide +kernel⟩
theorem k1998 : Cond.instanceMethod yX11_tellsMore ∈ gtb := gtm (in_tables_1_8 (List.mem_of_getElem? (i := 132) rfl)) rfl
theorem k146 : Cond.selects "BlameCourtModel" yX11_tellsMore yX11_tellsMore ∈ gtb := gtm (in_lw_privs_10 (q := (yX11_tellsMore, 129)) (List.mem_of_getElem? (i := 2) rfl)) rfl
theorem kv_X11_tellsMore : KV yX11_tellsMore := ⟨k1998, k146⟩
abbrev R_reads : Room := { frames := 54, cells := 0, slots := 0, locals := 810 }
noncomputable def f_reads_167 (X : St) : Option (Int32 × St) :=
  letV (X.1 0 13) fun x18 =>
  letV (wI X 0 14 x18) fun X19 =>
  letV (X19.1 0 15) fun x20 =>
  letV (wI X19 0 16 x20) fun X21 =>
  some (0, X21)
set_option maxHeartbeats 4000000 in
set_option maxRecDepth 100000 in
theorem c_reads_167 (Γ : Gx) (As : List Value) (X : St) : T YR Γ cX11_reads 1 "BlameCourtModel" none R_reads As qV 167 [(0, .ref (Γ.2.2.2.1 0))] [] X (f_reads_167 X) := by
  unfold f_reads_167
  refine T.aload_n dX11_reads_167 rfl 0 rfl ?_
  refine T.aload_n dX11_reads_168 rfl 0 rfl ?_
  refine gR13 k1382 dX11_reads_169 (fun x18 => ?_)
  refine pR14 k1383 dX11_reads_172 (fun X19 => ?_)
  refine T.aload_n dX11_reads_175 rfl 0 rfl ?_
  refine T.aload_n dX11_reads_176 rfl 0 rfl ?_
  refine gR15 k1389 dX11_reads_177 (fun x20 => ?_)
  refine pR16 k1390 dX11_reads_180 (fun X21 => ?_)
  exact T.ret_v rfl dX11_reads_183
noncomputable def f_reads_157 (X : St) : Option (Int32 × St) :=
  letV (X.1 0 1) fun x23 =>
  bnd (f_fails (7 : Int32) x23 X) fun _ X24 =>
  f_reads_167 X24
set_option maxHeartbeats 4000000 in
set_option maxRecDepth 100000 in
theorem c_reads_157 (Γ : Gx) (As : List Value) (X : St) : T YR Γ cX11_reads 1 "BlameCourtModel" none R_reads As qV 157 [(0, .ref (Γ.2.2.2.1 0))] [] X (f_reads_157 X) := by
  unfold f_reads_157
  refine T.aload_n dX11_reads_157 rfl 0 rfl ?_
  refine T.bipush (w := 7) dX11_reads_158 (by decide) ?_
  refine T.aload_n dX11_reads_160 rfl 0 rfl ?_
  refine gR1 k1368 dX11_reads_161 (fun x23 => ?_)
  refine T.callV_v 0 (As1 := [.int 7, .int x23]) (rest := []) (c_fails Γ (7 : Int32) x23 X) ka_X11_fails kv_X11_fails oR rfl k1812 rfl rfl rfl rfl ⟨Nat.le_of_ble_eq_true rfl, Nat.le_of_ble_eq_true rfl⟩ (Nat.le_of_ble_eq_true rfl) dX11_reads_164 (fun _ X24 => ?_)
  exact c_reads_167 Γ _ X24
noncomputable def f_reads_120 (X : St) : Option (Int32 × St) :=
  bnd (f_partOf (3412558 : Int64) X) fun x13 X14 =>
  letV (wI X14 0 25 x13) fun X15 =>
  bnd (f_isWell X15) fun x16 X17 =>
  if x16.toInt = 0 then
    f_reads_167 X17
  else
    letV (X17.1 0 25) fun x22 =>
    if x22.toInt < 0 then
      f_reads_157 X17
    else
      letV (X17.1 0 25) fun x25 =>
      chk (inR x25 41) (letV (X17.1 15 (ix x25)) fun x26 =>
      if x26.toInt ≤ 0 then
        f_reads_167 X17
      else
        f_reads_157 X17)
set_option maxHeartbeats 4000000 in
set_option maxRecDepth 100000 in
theorem c_reads_120 (Γ : Gx) (As : List Value) (X : St) : T YR Γ cX11_reads 1 "BlameCourtModel" none R_reads As qV 120 [(0, .ref (Γ.2.2.2.1 0))] [] X (f_reads_120 X) := by
  unfold f_reads_120
  refine T.aload_n dX11_reads_120 rfl 0 rfl ?_
  refine T.aload_n dX11_reads_121 rfl 0 rfl ?_
  refine T.ldc2 (w := 3412558) dX11_reads_122 k1967 ?_
  refine T.callV_i 0 (As1 := [.long 3412558]) (rest := [.ref (Γ.2.2.2.1 0)]) (c_partOf Γ (3412558 : Int64) X) ka_X11_partOf kv_X11_partOf oR rfl k1963 rfl rfl rfl rfl ⟨Nat.le_of_ble_eq_true rfl, Nat.le_of_ble_eq_true rfl⟩ (Nat.le_of_ble_eq_true rfl) dX11_reads_125 (fun x13 X14 => ?_)
  refine pR25 k1430 dX11_reads_128 (fun X15 => ?_)
  refine T.aload_n dX11_reads_131 rfl 0 rfl ?_
  refine T.callV_i 0 (As1 := []) (rest := []) (c_isWell Γ X15) ka_X11_isWell kv_X11_isWell oR rfl k1800 rfl rfl rfl rfl ⟨Nat.le_of_ble_eq_true rfl, Nat.le_of_ble_eq_true rfl⟩ (Nat.le_of_ble_eq_true rfl) dX11_reads_132 (fun x16 X17 => ?_)
  refine T.if_eq (pc1 := 167) dX11_reads_135 (by decide) ?_ ?_
  · exact c_reads_167 Γ _ X17
  · refine T.aload_n dX11_reads_138 rfl 0 rfl ?_
    refine gR25 k1430 dX11_reads_139 (fun x22 => ?_)
    refine T.if_lt (pc1 := 157) dX11_reads_142 (by decide) ?_ ?_
    · exact c_reads_157 Γ _ X17
    · refine T.aload_n dX11_reads_145 rfl 0 rfl ?_
      refine cR62 k1399 dX11_reads_146 ?_
      refine T.aload_n dX11_reads_149 rfl 0 rfl ?_
      refine gR25 k1430 dX11_reads_150 (fun x25 => ?_)
      refine alR15 dX11_reads_153 (fun x26 => ?_)
      refine T.if_le (pc1 := 167) dX11_reads_154 (by decide) ?_ ?_
      · exact c_reads_167 Γ _ X17
      · exact c_reads_157 Γ _ X17
noncomputable def f_reads_109 (X : St) : Option (Int32 × St) :=
  bnd (f_isWell X) fun x11 X12 =>
  if x11.toInt = 0 then
    f_reads_120 X12
  else
    bnd (f_knows X12) fun _ X27 =>
    f_reads_120 X27
set_option maxHeartbeats 4000000 in
set_option maxRecDepth 100000 in
theorem c_reads_109 (Γ : Gx) (As : List Value) (X : St) : T YR Γ cX11_reads 1 "BlameCourtModel" none R_reads As qV 109 [(0, .ref (Γ.2.2.2.1 0))] [] X (f_reads_109 X) := by
  unfold f_reads_109
  refine T.aload_n dX11_reads_109 rfl 0 rfl ?_
  refine T.callV_i 0 (As1 := []) (rest := []) (c_isWell Γ X) ka_X11_isWell kv_X11_isWell oR rfl k1800 rfl rfl rfl rfl ⟨Nat.le_of_ble_eq_true rfl, Nat.le_of_ble_eq_true rfl⟩ (Nat.le_of_ble_eq_true rfl) dX11_reads_110 (fun x11 X12 => ?_)
  refine T.if_eq (pc1 := 120) dX11_reads_113 (by decide) ?_ ?_
  · exact c_reads_120 Γ _ X12
  · refine T.aload_n dX11_reads_116 rfl 0 rfl ?_
    refine T.callV_v 0 (As1 := []) (rest := []) (c_knows Γ X12) ka_X11_knows kv_X11_knows oR rfl k1959 rfl rfl rfl rfl ⟨Nat.le_of_ble_eq_true rfl, Nat.le_of_ble_eq_true rfl⟩ (Nat.le_of_ble_eq_true rfl) dX11_reads_117 (fun _ X27 => ?_)
    exact c_reads_120 Γ _ X27
noncomputable def f_reads_39_s (r39 : St → Option (Int32 × St)) (X : St) : Option (Int32 × St) :=
  bnd (f_isWell X) fun x9 X10 =>
  if x9.toInt = 0 then
    f_reads_109 X10
  else
    letV (X10.1 0 7) fun x28 =>
    if x28.toInt = 0 then
      f_reads_109 X10
    else
      bnd (f_isWord (0 : Int32) X10) fun x29 X30 =>
      if x29.toInt = 0 then
        bnd (f_stray X30) fun _ X38 =>
        r39 X38
      else
        letV (X30.1 0 18) fun x31 =>
        if x31.toInt = 40 then
          letV (X30.1 0 6) fun x36 =>
          bnd (f_fails (3 : Int32) x36 X30) fun _ X37 =>
          r39 X37
        else
          letV (X30.1 0 18) fun x32 =>
          letV (X30.1 0 6) fun x33 =>
          chk (inR x32 41) (letV (wI X30 14 (ix x32) x33) fun X34 =>
          bnd (f_part__V X34) fun _ X35 =>
          r39 X35)
noncomputable def f_reads_39 (n : Nat) : St → Option (Int32 × St) := lp (fun _ => none) (f_reads_39_s) n
set_option maxHeartbeats 4000000 in
set_option maxRecDepth 100000 in
theorem c_reads_39 (Γ : Gx) (As : List Value) (n : Nat) : ∀ (X : St), T YR Γ cX11_reads 1 "BlameCourtModel" none R_reads As qV 39 [(0, .ref (Γ.2.2.2.1 0))] [] X (f_reads_39 n X) := by
  unfold f_reads_39
  refine lp_ind (P := fun (r39 : St → Option (Int32 × St)) => ∀ (X : St), T YR Γ cX11_reads 1 "BlameCourtModel" none R_reads As qV 39 [(0, .ref (Γ.2.2.2.1 0))] [] X (r39 X)) (fun _ => T.no) ?_ n
  intro r39 hr39 X
  unfold f_reads_39_s
  refine T.aload_n dX11_reads_39 rfl 0 rfl ?_
  refine T.callV_i 0 (As1 := []) (rest := []) (c_isWell Γ X) ka_X11_isWell kv_X11_isWell oR rfl k1800 rfl rfl rfl rfl ⟨Nat.le_of_ble_eq_true rfl, Nat.le_of_ble_eq_true rfl⟩ (Nat.le_of_ble_eq_true rfl) dX11_reads_40 (fun x9 X10 => ?_)
  refine T.if_eq (pc1 := 109) dX11_reads_43 (by decide) ?_ ?_
  · exact c_reads_109 Γ _ X10
  · refine T.aload_n dX11_reads_46 rfl 0 rfl ?_
    refine gR7 k1375 dX11_reads_47 (fun x28 => ?_)
    refine T.if_eq (pc1 := 109) dX11_reads_50 (by decide) ?_ ?_
    · exact c_reads_109 Γ _ X10
    · refine T.aload_n dX11_reads_53 rfl 0 rfl ?_
      refine T.iconst (w := 0) dX11_reads_54 (by decide) ?_
      refine T.callV_i 0 (As1 := [.int 0]) (rest := []) (c_isWord Γ (0 : Int32) X10) ka_X11_isWord kv_X11_isWord oR rfl k1804 rfl rfl rfl rfl ⟨Nat.le_of_ble_eq_true rfl, Nat.le_of_ble_eq_true rfl⟩ (Nat.le_of_ble_eq_true rfl) dX11_reads_55 (fun x29 X30 => ?_)
      refine T.if_ne (pc1 := 68) dX11_reads_58 (by decide) ?_ ?_
      · refine T.aload_n dX11_reads_68 rfl 0 rfl ?_
        refine gR18 k1394 dX11_reads_69 (fun x31 => ?_)
        refine T.bipush (w := 40) dX11_reads_72 (by decide) ?_
        refine T.icmp_ne (pc1 := 89) dX11_reads_74 (by decide) rfl ?_ ?_
        · refine T.aload_n dX11_reads_89 rfl 0 rfl ?_
          refine cR61 k1398 dX11_reads_90 ?_
          refine T.aload_n dX11_reads_93 rfl 0 rfl ?_
          refine gR18 k1394 dX11_reads_94 (fun x32 => ?_)
          refine T.aload_n dX11_reads_97 rfl 0 rfl ?_
          refine gR6 k1374 dX11_reads_98 (fun x33 => ?_)
          refine asR14 dX11_reads_101 (fun X34 => ?_)
          refine T.aload_n dX11_reads_102 rfl 0 rfl ?_
          refine T.callV_v 0 (As1 := []) (rest := []) (c_part__V Γ X34) ka_X11_part kv_X11_part oR rfl k1816 rfl rfl rfl rfl ⟨Nat.le_of_ble_eq_true rfl, Nat.le_of_ble_eq_true rfl⟩ (Nat.le_of_ble_eq_true rfl) dX11_reads_103 (fun _ X35 => ?_)
          refine T.goto (pc1 := 39) dX11_reads_106 (by decide) ?_
          exact hr39 X35
        · refine T.aload_n dX11_reads_77 rfl 0 rfl ?_
          refine T.iconst (w := 3) dX11_reads_78 (by decide) ?_
          refine T.aload_n dX11_reads_79 rfl 0 rfl ?_
          refine gR6 k1374 dX11_reads_80 (fun x36 => ?_)
          refine T.callV_v 0 (As1 := [.int 3, .int x36]) (rest := []) (c_fails Γ (3 : Int32) x36 X30) ka_X11_fails kv_X11_fails oR rfl k1812 rfl rfl rfl rfl ⟨Nat.le_of_ble_eq_true rfl, Nat.le_of_ble_eq_true rfl⟩ (Nat.le_of_ble_eq_true rfl) dX11_reads_83 (fun _ X37 => ?_)
          refine T.goto (pc1 := 39) dX11_reads_86 (by decide) ?_
          exact hr39 X37
      · refine T.aload_n dX11_reads_61 rfl 0 rfl ?_
        refine T.callV_v 0 (As1 := []) (rest := []) (c_stray Γ X30) ka_X11_stray kv_X11_stray oR rfl k1808 rfl rfl rfl rfl ⟨Nat.le_of_ble_eq_true rfl, Nat.le_of_ble_eq_true rfl⟩ (Nat.le_of_ble_eq_true rfl) dX11_reads_62 (fun _ X38 => ?_)
        refine T.goto (pc1 := 39) dX11_reads_65 (by decide) ?_
        exact hr39 X38
noncomputable def f_reads (X : St) : Option (Int32 × St) :=
  letV (wI X 0 5 ((0 : Int32))) fun X1 =>
  letV (wI X1 0 9 ((0 : Int32))) fun X2 =>
  letV (wI X2 0 10 ((-1 : Int32))) fun X3 =>
  letV (wI X3 0 18 ((0 : Int32))) fun X4 =>
  letV (wI X4 0 19 ((0 : Int32))) fun X5 =>
  letV (wI X5 0 4 ((0 : Int32))) fun X6 =>
  bnd (f_kinds (0 : Int32) X6) fun _ X7 =>
  bnd (f_next X7) fun _ X8 =>
  f_reads_39 BIG X8
set_option maxHeartbeats 4000000 in
set_option maxRecDepth 100000 in
theorem c_reads (Γ : Gx) (X : St) : TMV YR Γ yX11_reads cX11_reads 1 "BlameCourtModel" none R_reads [.ref (Γ.2.2.2.1 0)] X (f_reads X) := by
  refine TMV.of (by decide) (Nat.le_of_ble_eq_true rfl) rfl ?_
  show T YR Γ cX11_reads 1 "BlameCourtModel" none R_reads _ qV 0 [(0, .ref (Γ.2.2.2.1 0))] [] X (f_reads X)
  unfold f_reads
  refine T.aload_n dX11_reads_0 rfl 0 rfl ?_
  refine T.iconst (w := 0) dX11_reads_1 (by decide) ?_
  refine pR5 k1373 dX11_reads_2 (fun X1 => ?_)
  refine T.aload_n dX11_reads_5 rfl 0 rfl ?_
  refine T.iconst (w := 0) dX11_reads_6 (by decide) ?_
  refine pR9 k1378 dX11_reads_7 (fun X2 => ?_)
  refine T.aload_n dX11_reads_10 rfl 0 rfl ?_
  refine T.iconst (w := (-1)) dX11_reads_11 (by decide) ?_
  refine pR10 k1379 dX11_reads_12 (fun X3 => ?_)
  refine T.aload_n dX11_reads_15 rfl 0 rfl ?_
  refine T.iconst (w := 0) dX11_reads_16 (by decide) ?_
  refine pR18 k1394 dX11_reads_17 (fun X4 => ?_)
  refine T.aload_n dX11_reads_20 rfl 0 rfl ?_
  refine T.iconst (w := 0) dX11_reads_21 (by decide) ?_
  refine pR19 k1404 dX11_reads_22 (fun X5 => ?_)
  refine T.aload_n dX11_reads_25 rfl 0 rfl ?_
  refine T.iconst (w := 0) dX11_reads_26 (by decide) ?_
  refine pR4 k1372 (by decide) dX11_reads_27 (fun X6 => ?_)
  refine T.aload_n dX11_reads_30 rfl 0 rfl ?_
  refine T.iconst (w := 0) dX11_reads_31 (by decide) ?_
  refine T.callV_v 0 (As1 := [.int 0]) (rest := []) (c_kinds Γ (0 : Int32) X6) ka_X11_kinds kv_X11_kinds oR rfl k1357 rfl rfl rfl rfl ⟨Nat.le_of_ble_eq_true rfl, Nat.le_of_ble_eq_true rfl⟩ (Nat.le_of_ble_eq_true rfl) dX11_reads_32 (fun _ X7 => ?_)
  refine T.aload_n dX11_reads_35 rfl 0 rfl ?_
  refine T.callV_v 0 (As1 := []) (rest := []) (c_next Γ X7) ka_X11_next kv_X11_next oR rfl k1776 rfl rfl rfl rfl ⟨Nat.le_of_ble_eq_true rfl, Nat.le_of_ble_eq_true rfl⟩ (Nat.le_of_ble_eq_true rfl) dX11_reads_36 (fun _ X8 => ?_)
  exact c_reads_39 Γ _ BIG X8
abbrev R_task : Room := { frames := 6, cells := 0, slots := 0, locals := 90 }
noncomputable def f_task (p1 : Int32) (p2 : Int32) (p3 : Int32) (X : St) : Option (Int32 × St) :=
  letV (X.1 0 27) fun x1 =>
  chk (inR x1 13000) (letV (wI X 48 (ix x1) p1) fun X2 =>
  letV (X2.1 0 27) fun x3 =>
  chk (inR x3 13000) (letV (wI X2 49 (ix x3) p2) fun X4 =>
  letV (X4.1 0 27) fun x5 =>
  chk (inR x5 13000) (letV (wI X4 50 (ix x5) p3) fun X6 =>
  letV (X6.1 0 27) fun x7 =>
  letV (x7 + (1 : Int32)) fun x8 =>
  letV (wI X6 0 27 x8) fun X9 =>
  some (0, X9))))
set_option maxHeartbeats 4000000 in
set_option maxRecDepth 100000 in
theorem c_task (Γ : Gx) (p1 : Int32) (p2 : Int32) (p3 : Int32) (X : St) : TMV YR Γ yX11_task cX11_task 4 "BlameCourtModel" none R_task [.ref (Γ.2.2.2.1 0), .int p1, .int p2, .int p3] X (f_task p1 p2 p3 X) := by
  refine TMV.of (by decide) (Nat.le_of_ble_eq_true rfl) rfl ?_
  show T YR Γ cX11_task 4 "BlameCourtModel" none R_task _ qV 0 [(0, .ref (Γ.2.2.2.1 0)), (1, .int p1), (2, .int p2), (3, .int p3)] [] X (f_task p1 p2 p3 X)
  unfold f_task
  refine T.aload_n dX11_task_0 rfl 0 rfl ?_
  refine cR95 k1441 dX11_task_1 ?_
  refine T.aload_n dX11_task_4 rfl 0 rfl ?_
  refine gR27 k1440 dX11_task_5 (fun x1 => ?_)
  refine T.iload_n dX11_task_8 rfl 1 rfl ?_
  refine asR48 dX11_task_9 (fun X2 => ?_)
  refine T.aload_n dX11_task_10 rfl 0 rfl ?_
  refine cR96 k1442 dX11_task_11 ?_
  refine T.aload_n dX11_task_14 rfl 0 rfl ?_
  refine gR27 k1440 dX11_task_15 (fun x3 => ?_)
  refine T.iload_n dX11_task_18 rfl 2 rfl ?_
  refine asR49 dX11_task_19 (fun X4 => ?_)
  refine T.aload_n dX11_task_20 rfl 0 rfl ?_
  refine cR97 k1443 dX11_task_21 ?_
  refine T.aload_n dX11_task_24 rfl 0 rfl ?_
  refine gR27 k1440 dX11_task_25 (fun x5 => ?_)
  refine T.iload_n dX11_task_28 rfl 3 rfl ?_
  refine asR50 dX11_task_29 (fun X6 => ?_)
  refine T.aload_n dX11_task_30 rfl 0 rfl ?_
  refine T.dupr dX11_task_31 ?_
  refine gR27 k1440 dX11_task_32 (fun x7 => ?_)
  refine T.iconst (w := 1) dX11_task_35 (by decide) ?_
  refine T.iadd dX11_task_36 (fun x8 => ?_)
  refine pR27 k1440 dX11_task_37 (fun X9 => ?_)
  exact T.ret_v rfl dX11_task_40
abbrev R_order : Room := { frames := 6, cells := 0, slots := 0, locals := 90 }
noncomputable def f_order (p1 : Int32) (p2 : Int32) (p3 : Int32) (X : St) : Option (Int32 × St) :=
  letV (X.1 0 26) fun x1 =>
  chk (inR x1 24000) (letV (wI X 40 (ix x1) p1) fun X2 =>
  letV (X2.1 0 26) fun x3 =>
  chk (inR x3 24000) (letV (wI X2 41 (ix x3) p2) fun X4 =>
  letV (X4.1 0 26) fun x5 =>
  chk (inR x5 24000) (letV (wI X4 42 (ix x5) p3) fun X6 =>
  letV (X6.1 0 26) fun x7 =>
  chk (inR x7 24000) (letV (wI X6 43 (ix x7) (-1 : Int32)) fun X8 =>
  letV (X8.1 0 26) fun x9 =>
  letV (x9 + (1 : Int32)) fun x10 =>
  letV (wI X8 0 26 x10) fun X11 =>
  some (0, X11)))))
set_option maxHeartbeats 4000000 in
set_option maxRecDepth 100000 in
theorem c_order (Γ : Gx) (p1 : Int32) (p2 : Int32) (p3 : Int32) (X : St) : TMV YR Γ yX11_order cX11_order 4 "BlameCourtModel" none R_order [.ref (Γ.2.2.2.1 0), .int p1, .int p2, .int p3] X (f_order p1 p2 p3 X) := by
  refine TMV.of (by decide) (Nat.le_of_ble_eq_true rfl) rfl ?_
  show T YR Γ cX11_order 4 "BlameCourtModel" none R_order _ qV 0 [(0, .ref (Γ.2.2.2.1 0)), (1, .int p1), (2, .int p2), (3, .int p3)] [] X (f_order p1 p2 p3 X)
  unfold f_order
  refine T.aload_n dX11_order_0 rfl 0 rfl ?_
  refine cR87 k1432 dX11_order_1 ?_
  refine T.aload_n dX11_order_4 rfl 0 rfl ?_
  refine gR26 k1431 dX11_order_5 (fun x1 => ?_)
  refine T.iload_n dX11_order_8 rfl 1 rfl ?_
  refine asR40 dX11_order_9 (fun X2 => ?_)
  refine T.aload_n dX11_order_10 rfl 0 rfl ?_
  refine cR88 k1433 dX11_order_11 ?_
  refine T.aload_n dX11_order_14 rfl 0 rfl ?_
  refine gR26 k1431 dX11_order_15 (fun x3 => ?_)
  refine T.iload_n dX11_order_18 rfl 2 rfl ?_
  refine asR41 dX11_order_19 (fun X4 => ?_)
  refine T.aload_n dX11_order_20 rfl 0 rfl ?_
  refine cR89 k1434 dX11_order_21 ?_
  refine T.aload_n dX11_order_24 rfl 0 rfl ?_
  refine gR26 k1431 dX11_order_25 (fun x5 => ?_)
  refine T.iload_n dX11_order_28 rfl 3 rfl ?_
  refine asR42 dX11_order_29 (fun X6 => ?_)
  refine T.aload_n dX11_order_30 rfl 0 rfl ?_
  refine cR90 k1435 dX11_order_31 ?_
  refine T.aload_n dX11_order_34 rfl 0 rfl ?_
  refine gR26 k1431 dX11_order_35 (fun x7 => ?_)
  refine T.iconst (w := (-1)) dX11_order_38 (by decide) ?_
  refine asR43 dX11_order_39 (fun X8 => ?_)
  refine T.aload_n dX11_order_40 rfl 0 rfl ?_
  refine T.dupr dX11_order_41 ?_
  refine gR26 k1431 dX11_order_42 (fun x9 => ?_)
  refine T.iconst (w := 1) dX11_order_45 (by decide) ?_
  refine T.iadd dX11_order_46 (fun x10 => ?_)
  refine pR26 k1431 dX11_order_47 (fun X11 => ?_)
  exact T.ret_v rfl dX11_order_50
abbrev R_taskOfCall : Room := { frames := 10, cells := 0, slots := 0, locals := 150 }
noncomputable def f_taskOfCall_7_s (r7 : Int32 → Int32 → St → Option (Int32 × St)) (a1 : Int32) (a2 : Int32) (X : St) : Option (Int32 × St) :=
  if a2.toInt < 0 then
    chk (inR a1 3100) (letV (X.1 24 (ix a1)) fun x2 =>
    bnd (f_task (43 : Int32) x2 (0 : Int32) X) fun _ X3 =>
    some (0, X3))
  else
    chk (inR a2 3100) (letV (wI X 51 (ix a2) a1) fun X4 =>
    chk (inR a2 3100) (letV (X4.1 28 (ix a2)) fun x5 =>
    r7 a1 x5 X4))
noncomputable def f_taskOfCall_7 (n : Nat) : Int32 → Int32 → St → Option (Int32 × St) := lp (fun _ _ _ => none) (f_taskOfCall_7_s) n
set_option maxHeartbeats 4000000 in
set_option maxRecDepth 100000 in
theorem c_taskOfCall_7 (Γ : Gx) (As : List Value) (n : Nat) : ∀ (a1 : Int32) (a2 : Int32) (X : St), T YR Γ cX11_taskOfCall 3 "BlameCourtModel" none R_taskOfCall As qV 7 [(0, .ref (Γ.2.2.2.1 0)), (1, .int a1), (2, .int a2)] [] X (f_taskOfCall_7 n a1 a2 X) := by
  unfold f_taskOfCall_7
  refine lp_ind (P := fun (r7 : Int32 → Int32 → St → Option (Int32 × St)) => ∀ (a1 : Int32) (a2 : Int32) (X : St), T YR Γ cX11_taskOfCall 3 "BlameCourtModel" none R_taskOfCall As qV 7 [(0, .ref (Γ.2.2.2.1 0)), (1, .int a1), (2, .int a2)] [] X (r7 a1 a2 X)) (fun _ _ _ => T.no) ?_ n
  intro r7 hr7 a1 a2 X
  unfold f_taskOfCall_7_s
  refine T.iload_n dX11_taskOfCall_7 rfl 2 rfl ?_
  refine T.if_lt (pc1 := 28) dX11_taskOfCall_8 (by decide) ?_ ?_
  · refine T.aload_n dX11_taskOfCall_28 rfl 0 rfl ?_
    refine T.bipush (w := 43) dX11_taskOfCall_29 (by decide) ?_
    refine T.aload_n dX11_taskOfCall_31 rfl 0 rfl ?_
    refine cR71 k1409 dX11_taskOfCall_32 ?_
    refine T.iload_n dX11_taskOfCall_35 rfl 1 rfl ?_
    refine alR24 dX11_taskOfCall_36 (fun x2 => ?_)
    refine T.iconst (w := 0) dX11_taskOfCall_37 (by decide) ?_
    refine T.callV_v 0 (As1 := [.int 43, .int x2, .int 0]) (rest := []) (c_task Γ (43 : Int32) x2 (0 : Int32) X) ka_X11_task kv_X11_task oR rfl k1976 rfl rfl rfl rfl ⟨Nat.le_of_ble_eq_true rfl, Nat.le_of_ble_eq_true rfl⟩ (Nat.le_of_ble_eq_true rfl) dX11_taskOfCall_38 (fun _ X3 => ?_)
    exact T.ret_v rfl dX11_taskOfCall_41
  · refine T.aload_n dX11_taskOfCall_11 rfl 0 rfl ?_
    refine cR98 k1444 dX11_taskOfCall_12 ?_
    refine T.iload_n dX11_taskOfCall_15 rfl 2 rfl ?_
    refine T.iload_n dX11_taskOfCall_16 rfl 1 rfl ?_
    refine asR51 dX11_taskOfCall_17 (fun X4 => ?_)
    refine T.aload_n dX11_taskOfCall_18 rfl 0 rfl ?_
    refine cR75 k1413 dX11_taskOfCall_19 ?_
    refine T.iload_n dX11_taskOfCall_22 rfl 2 rfl ?_
    refine alR28 dX11_taskOfCall_23 (fun x5 => ?_)
    refine T.istore_n (lv1 := [(2, .int x5), (0, .ref (Γ.2.2.2.1 0)), (1, .int a1)]) dX11_taskOfCall_24 rfl (by decide) rfl ?_
    refine T.goto (pc1 := 7) dX11_taskOfCall_25 (by decide) ?_
    refine T.sub [1, 2, 0] rfl ?_
    exact hr7 a1 x5 X4
noncomputable def f_taskOfCall (p1 : Int32) (X : St) : Option (Int32 × St) :=
  chk (inR p1 3100) (letV (X.1 24 (ix p1)) fun x1 =>
  f_taskOfCall_7 BIG p1 x1 X)
set_option maxHeartbeats 4000000 in
set_option maxRecDepth 100000 in
theorem c_taskOfCall (Γ : Gx) (p1 : Int32) (X : St) : TMV YR Γ yX11_taskOfCall cX11_taskOfCall 3 "BlameCourtModel" none R_taskOfCall [.ref (Γ.2.2.2.1 0), .int p1] X (f_taskOfCall p1 X) := by
  refine TMV.of (by decide) (Nat.le_of_ble_eq_true rfl) rfl ?_
  show T YR Γ cX11_taskOfCall 3 "BlameCourtModel" none R_taskOfCall _ qV 0 [(0, .ref (Γ.2.2.2.1 0)), (1, .int p1)] [] X (f_taskOfCall p1 X)
  unfold f_taskOfCall
  refine T.aload_n dX11_taskOfCall_0 rfl 0 rfl ?_
  refine cR71 k1409 dX11_taskOfCall_1 ?_
  refine T.iload_n dX11_taskOfCall_4 rfl 1 rfl ?_
  refine alR24 dX11_taskOfCall_5 (fun x1 => ?_)
  refine T.istore_n (lv1 := [(2, .int x1), (0, .ref (Γ.2.2.2.1 0)), (1, .int p1)]) dX11_taskOfCall_6 rfl (by decide) rfl ?_
  refine T.sub [1, 2, 0] rfl ?_
  exact c_taskOfCall_7 Γ _ BIG p1 x1 X
abbrev R_tellsMore : Room := { frames := 10, cells := 0, slots := 0, locals := 150 }
noncomputable def f_tellsMore_173 (a1 : Int32) (b0 : Int32) (X : St) : Option (Int32 × St) :=
  bnd (f_task b0 a1 (0 : Int32) X) fun _ X18 =>
  chk (inR a1 3100) (letV (X18.1 23 (ix a1)) fun x19 =>
  bnd (f_task (5 : Int32) x19 (0 : Int32) X18) fun _ X20 =>
  chk (inR a1 3100) (letV (X20.1 23 (ix a1)) fun x21 =>
  bnd (f_task (40 : Int32) x21 (0 : Int32) X20) fun _ X22 =>
  some (0, X22)))
set_option maxHeartbeats 4000000 in
set_option maxRecDepth 100000 in
theorem c_tellsMore_173 (Γ : Gx) (As : List Value) (a1 : Int32) (b0 : Int32) (X : St) : T YR Γ cX11_tellsMore 2 "BlameCourtModel" none R_tellsMore As qV 173 [(0, .ref (Γ.2.2.2.1 0)), (1, .int a1)] [.int b0, .ref (Γ.2.2.2.1 0)] X (f_tellsMore_173 a1 b0 X) := by
  unfold f_tellsMore_173
  refine T.iload_n dX11_tellsMore_173 rfl 1 rfl ?_
  refine T.iconst (w := 0) dX11_tellsMore_174 (by decide) ?_
  refine T.callV_v 0 (As1 := [.int b0, .int a1, .int 0]) (rest := []) (c_task Γ b0 a1 (0 : Int32) X) ka_X11_task kv_X11_task oR rfl k1976 rfl rfl rfl rfl ⟨Nat.le_of_ble_eq_true rfl, Nat.le_of_ble_eq_true rfl⟩ (Nat.le_of_ble_eq_true rfl) dX11_tellsMore_175 (fun _ X18 => ?_)
  refine T.aload_n dX11_tellsMore_178 rfl 0 rfl ?_
  refine T.iconst (w := 5) dX11_tellsMore_179 (by decide) ?_
  refine T.aload_n dX11_tellsMore_180 rfl 0 rfl ?_
  refine cR70 k1408 dX11_tellsMore_181 ?_
  refine T.iload_n dX11_tellsMore_184 rfl 1 rfl ?_
  refine alR23 dX11_tellsMore_185 (fun x19 => ?_)
  refine T.iconst (w := 0) dX11_tellsMore_186 (by decide) ?_
  refine T.callV_v 0 (As1 := [.int 5, .int x19, .int 0]) (rest := []) (c_task Γ (5 : Int32) x19 (0 : Int32) X18) ka_X11_task kv_X11_task oR rfl k1976 rfl rfl rfl rfl ⟨Nat.le_of_ble_eq_true rfl, Nat.le_of_ble_eq_true rfl⟩ (Nat.le_of_ble_eq_true rfl) dX11_tellsMore_187 (fun _ X20 => ?_)
  refine T.aload_n dX11_tellsMore_190 rfl 0 rfl ?_
  refine T.bipush (w := 40) dX11_tellsMore_191 (by decide) ?_
  refine T.aload_n dX11_tellsMore_193 rfl 0 rfl ?_
  refine cR70 k1408 dX11_tellsMore_194 ?_
  refine T.iload_n dX11_tellsMore_197 rfl 1 rfl ?_
  refine alR23 dX11_tellsMore_198 (fun x21 => ?_)
  refine T.iconst (w := 0) dX11_tellsMore_199 (by decide) ?_
  refine T.callV_v 0 (As1 := [.int 40, .int x21, .int 0]) (rest := []) (c_task Γ (40 : Int32) x21 (0 : Int32) X20) ka_X11_task kv_X11_task oR rfl k1976 rfl rfl rfl rfl ⟨Nat.le_of_ble_eq_true rfl, Nat.le_of_ble_eq_true rfl⟩ (Nat.le_of_ble_eq_true rfl) dX11_tellsMore_200 (fun _ X22 => ?_)
  refine T.goto (pc1 := 568) dX11_tellsMore_203 (by decide) ?_
  exact T.ret_v rfl dX11_tellsMore_568
noncomputable def f_tellsMore_372 (a1 : Int32) (X : St) : Option (Int32 × St) :=
  chk (inR a1 3100) (letV (X.1 24 (ix a1)) fun x27 =>
  bnd (f_task (5 : Int32) x27 (0 : Int32) X) fun _ X28 =>
  chk (inR a1 3100) (letV (X28.1 24 (ix a1)) fun x29 =>
  bnd (f_task (40 : Int32) x29 (0 : Int32) X28) fun _ X30 =>
  bnd (f_task (8 : Int32) a1 (0 : Int32) X30) fun _ X31 =>
  chk (inR a1 3100) (letV (X31.1 23 (ix a1)) fun x32 =>
  bnd (f_task (40 : Int32) x32 (0 : Int32) X31) fun _ X33 =>
  some (0, X33))))
set_option maxHeartbeats 4000000 in
set_option maxRecDepth 100000 in
theorem c_tellsMore_372 (Γ : Gx) (As : List Value) (a1 : Int32) (X : St) : T YR Γ cX11_tellsMore 2 "BlameCourtModel" none R_tellsMore As qV 372 [(0, .ref (Γ.2.2.2.1 0)), (1, .int a1)] [] X (f_tellsMore_372 a1 X) := by
  unfold f_tellsMore_372
  refine T.aload_n dX11_tellsMore_372 rfl 0 rfl ?_
  refine T.iconst (w := 5) dX11_tellsMore_373 (by decide) ?_
  refine T.aload_n dX11_tellsMore_374 rfl 0 rfl ?_
  refine cR71 k1409 dX11_tellsMore_375 ?_
  refine T.iload_n dX11_tellsMore_378 rfl 1 rfl ?_
  refine alR24 dX11_tellsMore_379 (fun x27 => ?_)
  refine T.iconst (w := 0) dX11_tellsMore_380 (by decide) ?_
  refine T.callV_v 0 (As1 := [.int 5, .int x27, .int 0]) (rest := []) (c_task Γ (5 : Int32) x27 (0 : Int32) X) ka_X11_task kv_X11_task oR rfl k1976 rfl rfl rfl rfl ⟨Nat.le_of_ble_eq_true rfl, Nat.le_of_ble_eq_true rfl⟩ (Nat.le_of_ble_eq_true rfl) dX11_tellsMore_381 (fun _ X28 => ?_)
  refine T.aload_n dX11_tellsMore_384 rfl 0 rfl ?_
  refine T.bipush (w := 40) dX11_tellsMore_385 (by decide) ?_
  refine T.aload_n dX11_tellsMore_387 rfl 0 rfl ?_
  refine cR71 k1409 dX11_tellsMore_388 ?_
  refine T.iload_n dX11_tellsMore_391 rfl 1 rfl ?_
  refine alR24 dX11_tellsMore_392 (fun x29 => ?_)
  refine T.iconst (w := 0) dX11_tellsMore_393 (by decide) ?_
  refine T.callV_v 0 (As1 := [.int 40, .int x29, .int 0]) (rest := []) (c_task Γ (40 : Int32) x29 (0 : Int32) X28) ka_X11_task kv_X11_task oR rfl k1976 rfl rfl rfl rfl ⟨Nat.le_of_ble_eq_true rfl, Nat.le_of_ble_eq_true rfl⟩ (Nat.le_of_ble_eq_true rfl) dX11_tellsMore_394 (fun _ X30 => ?_)
  refine T.aload_n dX11_tellsMore_397 rfl 0 rfl ?_
  refine T.bipush (w := 8) dX11_tellsMore_398 (by decide) ?_
  refine T.iload_n dX11_tellsMore_400 rfl 1 rfl ?_
  refine T.iconst (w := 0) dX11_tellsMore_401 (by decide) ?_
  refine T.callV_v 0 (As1 := [.int 8, .int a1, .int 0]) (rest := []) (c_task Γ (8 : Int32) a1 (0 : Int32) X30) ka_X11_task kv_X11_task oR rfl k1976 rfl rfl rfl rfl ⟨Nat.le_of_ble_eq_true rfl, Nat.le_of_ble_eq_true rfl⟩ (Nat.le_of_ble_eq_true rfl) dX11_tellsMore_402 (fun _ X31 => ?_)
  refine T.aload_n dX11_tellsMore_405 rfl 0 rfl ?_
  refine T.bipush (w := 40) dX11_tellsMore_406 (by decide) ?_
  refine T.aload_n dX11_tellsMore_408 rfl 0 rfl ?_
  refine cR70 k1408 dX11_tellsMore_409 ?_
  refine T.iload_n dX11_tellsMore_412 rfl 1 rfl ?_
  refine alR23 dX11_tellsMore_413 (fun x32 => ?_)
  refine T.iconst (w := 0) dX11_tellsMore_414 (by decide) ?_
  refine T.callV_v 0 (As1 := [.int 40, .int x32, .int 0]) (rest := []) (c_task Γ (40 : Int32) x32 (0 : Int32) X31) ka_X11_task kv_X11_task oR rfl k1976 rfl rfl rfl rfl ⟨Nat.le_of_ble_eq_true rfl, Nat.le_of_ble_eq_true rfl⟩ (Nat.le_of_ble_eq_true rfl) dX11_tellsMore_415 (fun _ X33 => ?_)
  refine T.goto (pc1 := 568) dX11_tellsMore_418 (by decide) ?_
  exact T.ret_v rfl dX11_tellsMore_568
noncomputable def f_tellsMore_337 (a1 : Int32) (b0 : Int32) (X : St) : Option (Int32 × St) :=
  bnd (f_task b0 a1 (0 : Int32) X) fun _ X25 =>
  chk (inR a1 3100) (letV (X25.1 25 (ix a1)) fun x26 =>
  if x26.toInt < 0 then
    f_tellsMore_372 a1 X25
  else
    bnd (f_task (11 : Int32) a1 (0 : Int32) X25) fun _ X34 =>
    chk (inR a1 3100) (letV (X34.1 25 (ix a1)) fun x35 =>
    bnd (f_task (40 : Int32) x35 (0 : Int32) X34) fun _ X36 =>
    f_tellsMore_372 a1 X36))
set_option maxHeartbeats 4000000 in
set_option maxRecDepth 100000 in
theorem c_tellsMore_337 (Γ : Gx) (As : List Value) (a1 : Int32) (b0 : Int32) (X : St) : T YR Γ cX11_tellsMore 2 "BlameCourtModel" none R_tellsMore As qV 337 [(0, .ref (Γ.2.2.2.1 0)), (1, .int a1)] [.int b0, .ref (Γ.2.2.2.1 0)] X (f_tellsMore_337 a1 b0 X) := by
  unfold f_tellsMore_337
  refine T.iload_n dX11_tellsMore_337 rfl 1 rfl ?_
  refine T.iconst (w := 0) dX11_tellsMore_338 (by decide) ?_
  refine T.callV_v 0 (As1 := [.int b0, .int a1, .int 0]) (rest := []) (c_task Γ b0 a1 (0 : Int32) X) ka_X11_task kv_X11_task oR rfl k1976 rfl rfl rfl rfl ⟨Nat.le_of_ble_eq_true rfl, Nat.le_of_ble_eq_true rfl⟩ (Nat.le_of_ble_eq_true rfl) dX11_tellsMore_339 (fun _ X25 => ?_)
  refine T.aload_n dX11_tellsMore_342 rfl 0 rfl ?_
  refine cR72 k1410 dX11_tellsMore_343 ?_
  refine T.iload_n dX11_tellsMore_346 rfl 1 rfl ?_
  refine alR25 dX11_tellsMore_347 (fun x26 => ?_)
  refine T.if_lt (pc1 := 372) dX11_tellsMore_348 (by decide) ?_ ?_
  · exact c_tellsMore_372 Γ _ a1 X25
  · refine T.aload_n dX11_tellsMore_351 rfl 0 rfl ?_
    refine T.bipush (w := 11) dX11_tellsMore_352 (by decide) ?_
    refine T.iload_n dX11_tellsMore_354 rfl 1 rfl ?_
    refine T.iconst (w := 0) dX11_tellsMore_355 (by decide) ?_
    refine T.callV_v 0 (As1 := [.int 11, .int a1, .int 0]) (rest := []) (c_task Γ (11 : Int32) a1 (0 : Int32) X25) ka_X11_task kv_X11_task oR rfl k1976 rfl rfl rfl rfl ⟨Nat.le_of_ble_eq_true rfl, Nat.le_of_ble_eq_true rfl⟩ (Nat.le_of_ble_eq_true rfl) dX11_tellsMore_356 (fun _ X34 => ?_)
    refine T.aload_n dX11_tellsMore_359 rfl 0 rfl ?_
    refine T.bipush (w := 40) dX11_tellsMore_360 (by decide) ?_
    refine T.aload_n dX11_tellsMore_362 rfl 0 rfl ?_
    refine cR72 k1410 dX11_tellsMore_363 ?_
    refine T.iload_n dX11_tellsMore_366 rfl 1 rfl ?_
    refine alR25 dX11_tellsMore_367 (fun x35 => ?_)
    refine T.iconst (w := 0) dX11_tellsMore_368 (by decide) ?_
    refine T.callV_v 0 (As1 := [.int 40, .int x35, .int 0]) (rest := []) (c_task Γ (40 : Int32) x35 (0 : Int32) X34) ka_X11_task kv_X11_task oR rfl k1976 rfl rfl rfl rfl ⟨Nat.le_of_ble_eq_true rfl, Nat.le_of_ble_eq_true rfl⟩ (Nat.le_of_ble_eq_true rfl) dX11_tellsMore_369 (fun _ X36 => ?_)
    exact c_tellsMore_372 Γ _ a1 X36
noncomputable def f_tellsMore_262 (a1 : Int32) (b0 : Int32) (X : St) : Option (Int32 × St) :=
  bnd (f_task b0 a1 (0 : Int32) X) fun _ X47 =>
  chk (inR a1 3100) (letV (X47.1 24 (ix a1)) fun x48 =>
  bnd (f_task (5 : Int32) x48 (0 : Int32) X47) fun _ X49 =>
  chk (inR a1 3100) (letV (X49.1 24 (ix a1)) fun x50 =>
  bnd (f_task (40 : Int32) x50 (0 : Int32) X49) fun _ X51 =>
  chk (inR a1 3100) (letV (X51.1 23 (ix a1)) fun x52 =>
  bnd (f_task (5 : Int32) x52 (0 : Int32) X51) fun _ X53 =>
  chk (inR a1 3100) (letV (X53.1 23 (ix a1)) fun x54 =>
  bnd (f_task (40 : Int32) x54 (0 : Int32) X53) fun _ X55 =>
  some (0, X55)))))
set_option maxHeartbeats 4000000 in
set_option maxRecDepth 100000 in
theorem c_tellsMore_262 (Γ : Gx) (As : List Value) (a1 : Int32) (b0 : Int32) (X : St) : T YR Γ cX11_tellsMore 2 "BlameCourtModel" none R_tellsMore As qV 262 [(0, .ref (Γ.2.2.2.1 0)), (1, .int a1)] [.int b0, .ref (Γ.2.2.2.1 0)] X (f_tellsMore_262 a1 b0 X) := by
  unfold f_tellsMore_262
  refine T.iload_n dX11_tellsMore_262 rfl 1 rfl ?_
  refine T.iconst (w := 0) dX11_tellsMore_263 (by decide) ?_
  refine T.callV_v 0 (As1 := [.int b0, .int a1, .int 0]) (rest := []) (c_task Γ b0 a1 (0 : Int32) X) ka_X11_task kv_X11_task oR rfl k1976 rfl rfl rfl rfl ⟨Nat.le_of_ble_eq_true rfl, Nat.le_of_ble_eq_true rfl⟩ (Nat.le_of_ble_eq_true rfl) dX11_tellsMore_264 (fun _ X47 => ?_)
  refine T.aload_n dX11_tellsMore_267 rfl 0 rfl ?_
  refine T.iconst (w := 5) dX11_tellsMore_268 (by decide) ?_
  refine T.aload_n dX11_tellsMore_269 rfl 0 rfl ?_
  refine cR71 k1409 dX11_tellsMore_270 ?_
  refine T.iload_n dX11_tellsMore_273 rfl 1 rfl ?_
  refine alR24 dX11_tellsMore_274 (fun x48 => ?_)
  refine T.iconst (w := 0) dX11_tellsMore_275 (by decide) ?_
  refine T.callV_v 0 (As1 := [.int 5, .int x48, .int 0]) (rest := []) (c_task Γ (5 : Int32) x48 (0 : Int32) X47) ka_X11_task kv_X11_task oR rfl k1976 rfl rfl rfl rfl ⟨Nat.le_of_ble_eq_true rfl, Nat.le_of_ble_eq_true rfl⟩ (Nat.le_of_ble_eq_true rfl) dX11_tellsMore_276 (fun _ X49 => ?_)
  refine T.aload_n dX11_tellsMore_279 rfl 0 rfl ?_
  refine T.bipush (w := 40) dX11_tellsMore_280 (by decide) ?_
  refine T.aload_n dX11_tellsMore_282 rfl 0 rfl ?_
  refine cR71 k1409 dX11_tellsMore_283 ?_
  refine T.iload_n dX11_tellsMore_286 rfl 1 rfl ?_
  refine alR24 dX11_tellsMore_287 (fun x50 => ?_)
  refine T.iconst (w := 0) dX11_tellsMore_288 (by decide) ?_
  refine T.callV_v 0 (As1 := [.int 40, .int x50, .int 0]) (rest := []) (c_task Γ (40 : Int32) x50 (0 : Int32) X49) ka_X11_task kv_X11_task oR rfl k1976 rfl rfl rfl rfl ⟨Nat.le_of_ble_eq_true rfl, Nat.le_of_ble_eq_true rfl⟩ (Nat.le_of_ble_eq_true rfl) dX11_tellsMore_289 (fun _ X51 => ?_)
  refine T.aload_n dX11_tellsMore_292 rfl 0 rfl ?_
  refine T.iconst (w := 5) dX11_tellsMore_293 (by decide) ?_
  refine T.aload_n dX11_tellsMore_294 rfl 0 rfl ?_
  refine cR70 k1408 dX11_tellsMore_295 ?_
  refine T.iload_n dX11_tellsMore_298 rfl 1 rfl ?_
  refine alR23 dX11_tellsMore_299 (fun x52 => ?_)
  refine T.iconst (w := 0) dX11_tellsMore_300 (by decide) ?_
  refine T.callV_v 0 (As1 := [.int 5, .int x52, .int 0]) (rest := []) (c_task Γ (5 : Int32) x52 (0 : Int32) X51) ka_X11_task kv_X11_task oR rfl k1976 rfl rfl rfl rfl ⟨Nat.le_of_ble_eq_true rfl, Nat.le_of_ble_eq_true rfl⟩ (Nat.le_of_ble_eq_true rfl) dX11_tellsMore_301 (fun _ X53 => ?_)
  refine T.aload_n dX11_tellsMore_304 rfl 0 rfl ?_
  refine T.bipush (w := 40) dX11_tellsMore_305 (by decide) ?_
  refine T.aload_n dX11_tellsMore_307 rfl 0 rfl ?_
  refine cR70 k1408 dX11_tellsMore_308 ?_
  refine T.iload_n dX11_tellsMore_311 rfl 1 rfl ?_
  refine alR23 dX11_tellsMore_312 (fun x54 => ?_)
  refine T.iconst (w := 0) dX11_tellsMore_313 (by decide) ?_
  refine T.callV_v 0 (As1 := [.int 40, .int x54, .int 0]) (rest := []) (c_task Γ (40 : Int32) x54 (0 : Int32) X53) ka_X11_task kv_X11_task oR rfl k1976 rfl rfl rfl rfl ⟨Nat.le_of_ble_eq_true rfl, Nat.le_of_ble_eq_true rfl⟩ (Nat.le_of_ble_eq_true rfl) dX11_tellsMore_314 (fun _ X55 => ?_)
  refine T.goto (pc1 := 568) dX11_tellsMore_317 (by decide) ?_
  exact T.ret_v rfl dX11_tellsMore_568
noncomputable def f_tellsMore (p1 : Int32) (X : St) : Option (Int32 × St) :=
  chk (inR p1 3100) (letV (X.1 20 (ix p1)) fun x1 =>
  if x1.toInt = 5 then
    bnd (f_task (19 : Int32) p1 (0 : Int32) X) fun _ X3 =>
    chk (inR p1 3100) (letV (X3.1 24 (ix p1)) fun x4 =>
    bnd (f_task (40 : Int32) x4 (0 : Int32) X3) fun _ X5 =>
    chk (inR p1 3100) (letV (X5.1 23 (ix p1)) fun x6 =>
    bnd (f_task (5 : Int32) x6 (0 : Int32) X5) fun _ X7 =>
    chk (inR p1 3100) (letV (X7.1 23 (ix p1)) fun x8 =>
    bnd (f_task (40 : Int32) x8 (0 : Int32) X7) fun _ X9 =>
    some (0, X9))))
  else if x1.toInt = 6 then
    bnd (f_task (20 : Int32) p1 (0 : Int32) X) fun _ X11 =>
    chk (inR p1 3100) (letV (X11.1 23 (ix p1)) fun x12 =>
    bnd (f_task (9 : Int32) x12 (0 : Int32) X11) fun _ X13 =>
    chk (inR p1 3100) (letV (X13.1 23 (ix p1)) fun x14 =>
    bnd (f_task (40 : Int32) x14 (0 : Int32) X13) fun _ X15 =>
    some (0, X15)))
  else if x1.toInt = 7 then
    chk (inR p1 3100) (letV (X.1 20 (ix p1)) fun x17 =>
    if x17.toInt = 7 then
      f_tellsMore_173 p1 (21 : Int32) X
    else
      f_tellsMore_173 p1 (22 : Int32) X)
  else if x1.toInt = 10 then
    chk (inR p1 3100) (letV (X.1 25 (ix p1)) fun x24 =>
    if 0 ≤ x24.toInt then
      f_tellsMore_337 p1 (27 : Int32) X
    else
      f_tellsMore_337 p1 (26 : Int32) X)
  else if x1.toInt = 12 then
    chk (inR p1 3100) (letV (X.1 20 (ix p1)) fun x38 =>
    if x38.toInt = 7 then
      f_tellsMore_173 p1 (21 : Int32) X
    else
      f_tellsMore_173 p1 (22 : Int32) X)
  else if x1.toInt = 13 then
    bnd (f_task (23 : Int32) p1 (0 : Int32) X) fun _ X40 =>
    chk (inR p1 3100) (letV (X40.1 23 (ix p1)) fun x41 =>
    bnd (f_task (6 : Int32) x41 (0 : Int32) X40) fun _ X42 =>
    chk (inR p1 3100) (letV (X42.1 23 (ix p1)) fun x43 =>
    bnd (f_task (40 : Int32) x43 (0 : Int32) X42) fun _ X44 =>
    some (0, X44)))
  else if x1.toInt = 14 then
    chk (inR p1 3100) (letV (X.1 20 (ix p1)) fun x46 =>
    if x46.toInt = 14 then
      f_tellsMore_262 p1 (24 : Int32) X
    else
      f_tellsMore_262 p1 (25 : Int32) X)
  else if x1.toInt = 15 then
    chk (inR p1 3100) (letV (X.1 20 (ix p1)) fun x57 =>
    if x57.toInt = 14 then
      f_tellsMore_262 p1 (24 : Int32) X
    else
      f_tellsMore_262 p1 (25 : Int32) X)
  else if x1.toInt = 16 then
    bnd (f_task (17 : Int32) p1 (0 : Int32) X) fun _ X59 =>
    chk (inR p1 3100) (letV (X59.1 25 (ix p1)) fun x60 =>
    bnd (f_task (14 : Int32) x60 (0 : Int32) X59) fun _ X61 =>
    chk (inR p1 3100) (letV (X61.1 25 (ix p1)) fun x62 =>
    bnd (f_task (40 : Int32) x62 (0 : Int32) X61) fun _ X63 =>
    bnd (f_task (16 : Int32) p1 (0 : Int32) X63) fun _ X64 =>
    chk (inR p1 3100) (letV (X64.1 24 (ix p1)) fun x65 =>
    bnd (f_task (14 : Int32) x65 (0 : Int32) X64) fun _ X66 =>
    chk (inR p1 3100) (letV (X66.1 24 (ix p1)) fun x67 =>
    bnd (f_task (40 : Int32) x67 (0 : Int32) X66) fun _ X68 =>
    bnd (f_task (15 : Int32) p1 (0 : Int32) X68) fun _ X69 =>
    chk (inR p1 3100) (letV (X69.1 23 (ix p1)) fun x70 =>
    bnd (f_task (6 : Int32) x70 (0 : Int32) X69) fun _ X71 =>
    chk (inR p1 3100) (letV (X71.1 23 (ix p1)) fun x72 =>
    bnd (f_task (40 : Int32) x72 (0 : Int32) X71) fun _ X73 =>
    some (0, X73)))))))
  else chk (inR p1 3100) (letV (X.1 24 (ix p1)) fun x74 =>
  bnd (f_task (40 : Int32) x74 (0 : Int32) X) fun _ X75 =>
  bnd (f_task (13 : Int32) p1 (0 : Int32) X75) fun _ X76 =>
  bnd (f_task (12 : Int32) p1 (0 : Int32) X76) fun _ X77 =>
  chk (inR p1 3100) (letV (X77.1 23 (ix p1)) fun x78 =>
  bnd (f_task (40 : Int32) x78 (0 : Int32) X77) fun _ X79 =>
  some (0, X79))))
set_option maxHeartbeats 4000000 in
set_option maxRecDepth 100000 in
theorem c_tellsMore (Γ : Gx) (p1 : Int32) (X : St) : TMV YR Γ yX11_tellsMore cX11_tellsMore 2 "BlameCourtModel" none R_tellsMore [.ref (Γ.2.2.2.1 0), .int p1] X (f_tellsMore p1 X) := by
  refine TMV.of (by decide) (Nat.le_of_ble_eq_true rfl) rfl ?_
  show T YR Γ cX11_tellsMore 2 "BlameCourtModel" none R_tellsMore _ qV 0 [(0, .ref (Γ.2.2.2.1 0)), (1, .int p1)] [] X (f_tellsMore p1 X)
  unfold f_tellsMore
  refine T.aload_n dX11_tellsMore_0 rfl 0 rfl ?_
  refine cR67 k1405 dX11_tellsMore_1 ?_
  refine T.iload_n dX11_tellsMore_4 rfl 1 rfl ?_
  refine alR20 dX11_tellsMore_5 (fun x1 => ?_)
  refine T.ite (fun s2 => ?_) (fun s2 => ?_)
  · refine T.tbl (pc1 := 68) dX11_tellsMore_6 (by decide) (off := 62) (by rw [s2]; rfl) (by decide) ?_
    refine T.aload_n dX11_tellsMore_68 rfl 0 rfl ?_
    refine T.bipush (w := 19) dX11_tellsMore_69 (by decide) ?_
    refine T.iload_n dX11_tellsMore_71 rfl 1 rfl ?_
    refine T.iconst (w := 0) dX11_tellsMore_72 (by decide) ?_
    refine T.callV_v 0 (As1 := [.int 19, .int p1, .int 0]) (rest := []) (c_task Γ (19 : Int32) p1 (0 : Int32) X) ka_X11_task kv_X11_task oR rfl k1976 rfl rfl rfl rfl ⟨Nat.le_of_ble_eq_true rfl, Nat.le_of_ble_eq_true rfl⟩ (Nat.le_of_ble_eq_true rfl) dX11_tellsMore_73 (fun _ X3 => ?_)
    refine T.aload_n dX11_tellsMore_76 rfl 0 rfl ?_
    refine T.bipush (w := 40) dX11_tellsMore_77 (by decide) ?_
    refine T.aload_n dX11_tellsMore_79 rfl 0 rfl ?_
    refine cR71 k1409 dX11_tellsMore_80 ?_
    refine T.iload_n dX11_tellsMore_83 rfl 1 rfl ?_
    refine alR24 dX11_tellsMore_84 (fun x4 => ?_)
    refine T.iconst (w := 0) dX11_tellsMore_85 (by decide) ?_
    refine T.callV_v 0 (As1 := [.int 40, .int x4, .int 0]) (rest := []) (c_task Γ (40 : Int32) x4 (0 : Int32) X3) ka_X11_task kv_X11_task oR rfl k1976 rfl rfl rfl rfl ⟨Nat.le_of_ble_eq_true rfl, Nat.le_of_ble_eq_true rfl⟩ (Nat.le_of_ble_eq_true rfl) dX11_tellsMore_86 (fun _ X5 => ?_)
    refine T.aload_n dX11_tellsMore_89 rfl 0 rfl ?_
    refine T.iconst (w := 5) dX11_tellsMore_90 (by decide) ?_
    refine T.aload_n dX11_tellsMore_91 rfl 0 rfl ?_
    refine cR70 k1408 dX11_tellsMore_92 ?_
    refine T.iload_n dX11_tellsMore_95 rfl 1 rfl ?_
    refine alR23 dX11_tellsMore_96 (fun x6 => ?_)
    refine T.iconst (w := 0) dX11_tellsMore_97 (by decide) ?_
    refine T.callV_v 0 (As1 := [.int 5, .int x6, .int 0]) (rest := []) (c_task Γ (5 : Int32) x6 (0 : Int32) X5) ka_X11_task kv_X11_task oR rfl k1976 rfl rfl rfl rfl ⟨Nat.le_of_ble_eq_true rfl, Nat.le_of_ble_eq_true rfl⟩ (Nat.le_of_ble_eq_true rfl) dX11_tellsMore_98 (fun _ X7 => ?_)
    refine T.aload_n dX11_tellsMore_101 rfl 0 rfl ?_
    refine T.bipush (w := 40) dX11_tellsMore_102 (by decide) ?_
    refine T.aload_n dX11_tellsMore_104 rfl 0 rfl ?_
    refine cR70 k1408 dX11_tellsMore_105 ?_
    refine T.iload_n dX11_tellsMore_108 rfl 1 rfl ?_
    refine alR23 dX11_tellsMore_109 (fun x8 => ?_)
    refine T.iconst (w := 0) dX11_tellsMore_110 (by decide) ?_
    refine T.callV_v 0 (As1 := [.int 40, .int x8, .int 0]) (rest := []) (c_task Γ (40 : Int32) x8 (0 : Int32) X7) ka_X11_task kv_X11_task oR rfl k1976 rfl rfl rfl rfl ⟨Nat.le_of_ble_eq_true rfl, Nat.le_of_ble_eq_true rfl⟩ (Nat.le_of_ble_eq_true rfl) dX11_tellsMore_111 (fun _ X9 => ?_)
    refine T.goto (pc1 := 568) dX11_tellsMore_114 (by decide) ?_
    exact T.ret_v rfl dX11_tellsMore_568
  refine T.ite (fun s10 => ?_) (fun s10 => ?_)
  · refine T.tbl (pc1 := 117) dX11_tellsMore_6 (by decide) (off := 111) (by rw [s10]; rfl) (by decide) ?_
    refine T.aload_n dX11_tellsMore_117 rfl 0 rfl ?_
    refine T.bipush (w := 20) dX11_tellsMore_118 (by decide) ?_
    refine T.iload_n dX11_tellsMore_120 rfl 1 rfl ?_
    refine T.iconst (w := 0) dX11_tellsMore_121 (by decide) ?_
    refine T.callV_v 0 (As1 := [.int 20, .int p1, .int 0]) (rest := []) (c_task Γ (20 : Int32) p1 (0 : Int32) X) ka_X11_task kv_X11_task oR rfl k1976 rfl rfl rfl rfl ⟨Nat.le_of_ble_eq_true rfl, Nat.le_of_ble_eq_true rfl⟩ (Nat.le_of_ble_eq_true rfl) dX11_tellsMore_122 (fun _ X11 => ?_)
    refine T.aload_n dX11_tellsMore_125 rfl 0 rfl ?_
    refine T.bipush (w := 9) dX11_tellsMore_126 (by decide) ?_
    refine T.aload_n dX11_tellsMore_128 rfl 0 rfl ?_
    refine cR70 k1408 dX11_tellsMore_129 ?_
    refine T.iload_n dX11_tellsMore_132 rfl 1 rfl ?_
    refine alR23 dX11_tellsMore_133 (fun x12 => ?_)
    refine T.iconst (w := 0) dX11_tellsMore_134 (by decide) ?_
    refine T.callV_v 0 (As1 := [.int 9, .int x12, .int 0]) (rest := []) (c_task Γ (9 : Int32) x12 (0 : Int32) X11) ka_X11_task kv_X11_task oR rfl k1976 rfl rfl rfl rfl ⟨Nat.le_of_ble_eq_true rfl, Nat.le_of_ble_eq_true rfl⟩ (Nat.le_of_ble_eq_true rfl) dX11_tellsMore_135 (fun _ X13 => ?_)
    refine T.aload_n dX11_tellsMore_138 rfl 0 rfl ?_
    refine T.bipush (w := 40) dX11_tellsMore_139 (by decide) ?_
    refine T.aload_n dX11_tellsMore_141 rfl 0 rfl ?_
    refine cR70 k1408 dX11_tellsMore_142 ?_
    refine T.iload_n dX11_tellsMore_145 rfl 1 rfl ?_
    refine alR23 dX11_tellsMore_146 (fun x14 => ?_)
    refine T.iconst (w := 0) dX11_tellsMore_147 (by decide) ?_
    refine T.callV_v 0 (As1 := [.int 40, .int x14, .int 0]) (rest := []) (c_task Γ (40 : Int32) x14 (0 : Int32) X13) ka_X11_task kv_X11_task oR rfl k1976 rfl rfl rfl rfl ⟨Nat.le_of_ble_eq_true rfl, Nat.le_of_ble_eq_true rfl⟩ (Nat.le_of_ble_eq_true rfl) dX11_tellsMore_148 (fun _ X15 => ?_)
    refine T.goto (pc1 := 568) dX11_tellsMore_151 (by decide) ?_
    exact T.ret_v rfl dX11_tellsMore_568
  refine T.ite (fun s16 => ?_) (fun s16 => ?_)
  · refine T.tbl (pc1 := 154) dX11_tellsMore_6 (by decide) (off := 148) (by rw [s16]; rfl) (by decide) ?_
    refine T.aload_n dX11_tellsMore_154 rfl 0 rfl ?_
    refine T.aload_n dX11_tellsMore_155 rfl 0 rfl ?_
    refine cR67 k1405 dX11_tellsMore_156 ?_
    refine T.iload_n dX11_tellsMore_159 rfl 1 rfl ?_
    refine alR20 dX11_tellsMore_160 (fun x17 => ?_)
    refine T.bipush (w := 7) dX11_tellsMore_161 (by decide) ?_
    refine T.icmp_ne (pc1 := 171) dX11_tellsMore_163 (by decide) rfl ?_ ?_
    · refine T.bipush (w := 22) dX11_tellsMore_171 (by decide) ?_
      exact c_tellsMore_173 Γ _ p1 (22 : Int32) X
    · refine T.bipush (w := 21) dX11_tellsMore_166 (by decide) ?_
      refine T.goto (pc1 := 173) dX11_tellsMore_168 (by decide) ?_
      exact c_tellsMore_173 Γ _ p1 (21 : Int32) X
  refine T.ite (fun s23 => ?_) (fun s23 => ?_)
  · refine T.tbl (pc1 := 320) dX11_tellsMore_6 (by decide) (off := 314) (by rw [s23]; rfl) (by decide) ?_
    refine T.aload_n dX11_tellsMore_320 rfl 0 rfl ?_
    refine T.aload_n dX11_tellsMore_321 rfl 0 rfl ?_
    refine cR72 k1410 dX11_tellsMore_322 ?_
    refine T.iload_n dX11_tellsMore_325 rfl 1 rfl ?_
    refine alR25 dX11_tellsMore_326 (fun x24 => ?_)
    refine T.if_ge (pc1 := 335) dX11_tellsMore_327 (by decide) ?_ ?_
    · refine T.bipush (w := 27) dX11_tellsMore_335 (by decide) ?_
      exact c_tellsMore_337 Γ _ p1 (27 : Int32) X
    · refine T.bipush (w := 26) dX11_tellsMore_330 (by decide) ?_
      refine T.goto (pc1 := 337) dX11_tellsMore_332 (by decide) ?_
      exact c_tellsMore_337 Γ _ p1 (26 : Int32) X
  refine T.ite (fun s37 => ?_) (fun s37 => ?_)
  · refine T.tbl (pc1 := 154) dX11_tellsMore_6 (by decide) (off := 148) (by rw [s37]; rfl) (by decide) ?_
    refine T.aload_n dX11_tellsMore_154 rfl 0 rfl ?_
    refine T.aload_n dX11_tellsMore_155 rfl 0 rfl ?_
    refine cR67 k1405 dX11_tellsMore_156 ?_
    refine T.iload_n dX11_tellsMore_159 rfl 1 rfl ?_
    refine alR20 dX11_tellsMore_160 (fun x38 => ?_)
    refine T.bipush (w := 7) dX11_tellsMore_161 (by decide) ?_
    refine T.icmp_ne (pc1 := 171) dX11_tellsMore_163 (by decide) rfl ?_ ?_
    · refine T.bipush (w := 22) dX11_tellsMore_171 (by decide) ?_
      exact c_tellsMore_173 Γ _ p1 (22 : Int32) X
    · refine T.bipush (w := 21) dX11_tellsMore_166 (by decide) ?_
      refine T.goto (pc1 := 173) dX11_tellsMore_168 (by decide) ?_
      exact c_tellsMore_173 Γ _ p1 (21 : Int32) X
  refine T.ite (fun s39 => ?_) (fun s39 => ?_)
  · refine T.tbl (pc1 := 206) dX11_tellsMore_6 (by decide) (off := 200) (by rw [s39]; rfl) (by decide) ?_
    refine T.aload_n dX11_tellsMore_206 rfl 0 rfl ?_
    refine T.bipush (w := 23) dX11_tellsMore_207 (by decide) ?_
    refine T.iload_n dX11_tellsMore_209 rfl 1 rfl ?_
    refine T.iconst (w := 0) dX11_tellsMore_210 (by decide) ?_
    refine T.callV_v 0 (As1 := [.int 23, .int p1, .int 0]) (rest := []) (c_task Γ (23 : Int32) p1 (0 : Int32) X) ka_X11_task kv_X11_task oR rfl k1976 rfl rfl rfl rfl ⟨Nat.le_of_ble_eq_true rfl, Nat.le_of_ble_eq_true rfl⟩ (Nat.le_of_ble_eq_true rfl) dX11_tellsMore_211 (fun _ X40 => ?_)
    refine T.aload_n dX11_tellsMore_214 rfl 0 rfl ?_
    refine T.bipush (w := 6) dX11_tellsMore_215 (by decide) ?_
    refine T.aload_n dX11_tellsMore_217 rfl 0 rfl ?_
    refine cR70 k1408 dX11_tellsMore_218 ?_
    refine T.iload_n dX11_tellsMore_221 rfl 1 rfl ?_
    refine alR23 dX11_tellsMore_222 (fun x41 => ?_)
    refine T.iconst (w := 0) dX11_tellsMore_223 (by decide) ?_
    refine T.callV_v 0 (As1 := [.int 6, .int x41, .int 0]) (rest := []) (c_task Γ (6 : Int32) x41 (0 : Int32) X40) ka_X11_task kv_X11_task oR rfl k1976 rfl rfl rfl rfl ⟨Nat.le_of_ble_eq_true rfl, Nat.le_of_ble_eq_true rfl⟩ (Nat.le_of_ble_eq_true rfl) dX11_tellsMore_224 (fun _ X42 => ?_)
    refine T.aload_n dX11_tellsMore_227 rfl 0 rfl ?_
    refine T.bipush (w := 40) dX11_tellsMore_228 (by decide) ?_
    refine T.aload_n dX11_tellsMore_230 rfl 0 rfl ?_
    refine cR70 k1408 dX11_tellsMore_231 ?_
    refine T.iload_n dX11_tellsMore_234 rfl 1 rfl ?_
    refine alR23 dX11_tellsMore_235 (fun x43 => ?_)
    refine T.iconst (w := 0) dX11_tellsMore_236 (by decide) ?_
    refine T.callV_v 0 (As1 := [.int 40, .int x43, .int 0]) (rest := []) (c_task Γ (40 : Int32) x43 (0 : Int32) X42) ka_X11_task kv_X11_task oR rfl k1976 rfl rfl rfl rfl ⟨Nat.le_of_ble_eq_true rfl, Nat.le_of_ble_eq_true rfl⟩ (Nat.le_of_ble_eq_true rfl) dX11_tellsMore_237 (fun _ X44 => ?_)
    refine T.goto (pc1 := 568) dX11_tellsMore_240 (by decide) ?_
    exact T.ret_v rfl dX11_tellsMore_568
  refine T.ite (fun s45 => ?_) (fun s45 => ?_)
  · refine T.tbl (pc1 := 243) dX11_tellsMore_6 (by decide) (off := 237) (by rw [s45]; rfl) (by decide) ?_
    refine T.aload_n dX11_tellsMore_243 rfl 0 rfl ?_
    refine T.aload_n dX11_tellsMore_244 rfl 0 rfl ?_
    refine cR67 k1405 dX11_tellsMore_245 ?_
    refine T.iload_n dX11_tellsMore_248 rfl 1 rfl ?_
    refine alR20 dX11_tellsMore_249 (fun x46 => ?_)
    refine T.bipush (w := 14) dX11_tellsMore_250 (by decide) ?_
    refine T.icmp_ne (pc1 := 260) dX11_tellsMore_252 (by decide) rfl ?_ ?_
    · refine T.bipush (w := 25) dX11_tellsMore_260 (by decide) ?_
      exact c_tellsMore_262 Γ _ p1 (25 : Int32) X
    · refine T.bipush (w := 24) dX11_tellsMore_255 (by decide) ?_
      refine T.goto (pc1 := 262) dX11_tellsMore_257 (by decide) ?_
      exact c_tellsMore_262 Γ _ p1 (24 : Int32) X
  refine T.ite (fun s56 => ?_) (fun s56 => ?_)
  · refine T.tbl (pc1 := 243) dX11_tellsMore_6 (by decide) (off := 237) (by rw [s56]; rfl) (by decide) ?_
    refine T.aload_n dX11_tellsMore_243 rfl 0 rfl ?_
    refine T.aload_n dX11_tellsMore_244 rfl 0 rfl ?_
    refine cR67 k1405 dX11_tellsMore_245 ?_
    refine T.iload_n dX11_tellsMore_248 rfl 1 rfl ?_
    refine alR20 dX11_tellsMore_249 (fun x57 => ?_)
    refine T.bipush (w := 14) dX11_tellsMore_250 (by decide) ?_
    refine T.icmp_ne (pc1 := 260) dX11_tellsMore_252 (by decide) rfl ?_ ?_
    · refine T.bipush (w := 25) dX11_tellsMore_260 (by decide) ?_
      exact c_tellsMore_262 Γ _ p1 (25 : Int32) X
    · refine T.bipush (w := 24) dX11_tellsMore_255 (by decide) ?_
      refine T.goto (pc1 := 262) dX11_tellsMore_257 (by decide) ?_
      exact c_tellsMore_262 Γ _ p1 (24 : Int32) X
  refine T.ite (fun s58 => ?_) (fun s58 => ?_)
  · refine T.tbl (pc1 := 421) dX11_tellsMore_6 (by decide) (off := 415) (by rw [s58]; rfl) (by decide) ?_
    refine T.aload_n dX11_tellsMore_421 rfl 0 rfl ?_
    refine T.bipush (w := 17) dX11_tellsMore_422 (by decide) ?_
    refine T.iload_n dX11_tellsMore_424 rfl 1 rfl ?_
    refine T.iconst (w := 0) dX11_tellsMore_425 (by decide) ?_
    refine T.callV_v 0 (As1 := [.int 17, .int p1, .int 0]) (rest := []) (c_task Γ (17 : Int32) p1 (0 : Int32) X) ka_X11_task kv_X11_task oR rfl k1976 rfl rfl rfl rfl ⟨Nat.le_of_ble_eq_true rfl, Nat.le_of_ble_eq_true rfl⟩ (Nat.le_of_ble_eq_true rfl) dX11_tellsMore_426 (fun _ X59 => ?_)
    refine T.aload_n dX11_tellsMore_429 rfl 0 rfl ?_
    refine T.bipush (w := 14) dX11_tellsMore_430 (by decide) ?_
    refine T.aload_n dX11_tellsMore_432 rfl 0 rfl ?_
    refine cR72 k1410 dX11_tellsMore_433 ?_
    refine T.iload_n dX11_tellsMore_436 rfl 1 rfl ?_
    refine alR25 dX11_tellsMore_437 (fun x60 => ?_)
    refine T.iconst (w := 0) dX11_tellsMore_438 (by decide) ?_
    refine T.callV_v 0 (As1 := [.int 14, .int x60, .int 0]) (rest := []) (c_task Γ (14 : Int32) x60 (0 : Int32) X59) ka_X11_task kv_X11_task oR rfl k1976 rfl rfl rfl rfl ⟨Nat.le_of_ble_eq_true rfl, Nat.le_of_ble_eq_true rfl⟩ (Nat.le_of_ble_eq_true rfl) dX11_tellsMore_439 (fun _ X61 => ?_)
    refine T.aload_n dX11_tellsMore_442 rfl 0 rfl ?_
    refine T.bipush (w := 40) dX11_tellsMore_443 (by decide) ?_
    refine T.aload_n dX11_tellsMore_445 rfl 0 rfl ?_
    refine cR72 k1410 dX11_tellsMore_446 ?_
    refine T.iload_n dX11_tellsMore_449 rfl 1 rfl ?_
    refine alR25 dX11_tellsMore_450 (fun x62 => ?_)
    refine T.iconst (w := 0) dX11_tellsMore_451 (by decide) ?_
    refine T.callV_v 0 (As1 := [.int 40, .int x62, .int 0]) (rest := []) (c_task Γ (40 : Int32) x62 (0 : Int32) X61) ka_X11_task kv_X11_task oR rfl k1976 rfl rfl rfl rfl ⟨Nat.le_of_ble_eq_true rfl, Nat.le_of_ble_eq_true rfl⟩ (Nat.le_of_ble_eq_true rfl) dX11_tellsMore_452 (fun _ X63 => ?_)
    refine T.aload_n dX11_tellsMore_455 rfl 0 rfl ?_
    refine T.bipush (w := 16) dX11_tellsMore_456 (by decide) ?_
    refine T.iload_n dX11_tellsMore_458 rfl 1 rfl ?_
    refine T.iconst (w := 0) dX11_tellsMore_459 (by decide) ?_
    refine T.callV_v 0 (As1 := [.int 16, .int p1, .int 0]) (rest := []) (c_task Γ (16 : Int32) p1 (0 : Int32) X63) ka_X11_task kv_X11_task oR rfl k1976 rfl rfl rfl rfl ⟨Nat.le_of_ble_eq_true rfl, Nat.le_of_ble_eq_true rfl⟩ (Nat.le_of_ble_eq_true rfl) dX11_tellsMore_460 (fun _ X64 => ?_)
    refine T.aload_n dX11_tellsMore_463 rfl 0 rfl ?_
    refine T.bipush (w := 14) dX11_tellsMore_464 (by decide) ?_
    refine T.aload_n dX11_tellsMore_466 rfl 0 rfl ?_
    refine cR71 k1409 dX11_tellsMore_467 ?_
    refine T.iload_n dX11_tellsMore_470 rfl 1 rfl ?_
    refine alR24 dX11_tellsMore_471 (fun x65 => ?_)
    refine T.iconst (w := 0) dX11_tellsMore_472 (by decide) ?_
    refine T.callV_v 0 (As1 := [.int 14, .int x65, .int 0]) (rest := []) (c_task Γ (14 : Int32) x65 (0 : Int32) X64) ka_X11_task kv_X11_task oR rfl k1976 rfl rfl rfl rfl ⟨Nat.le_of_ble_eq_true rfl, Nat.le_of_ble_eq_true rfl⟩ (Nat.le_of_ble_eq_true rfl) dX11_tellsMore_473 (fun _ X66 => ?_)
    refine T.aload_n dX11_tellsMore_476 rfl 0 rfl ?_
    refine T.bipush (w := 40) dX11_tellsMore_477 (by decide) ?_
    refine T.aload_n dX11_tellsMore_479 rfl 0 rfl ?_
    refine cR71 k1409 dX11_tellsMore_480 ?_
    refine T.iload_n dX11_tellsMore_483 rfl 1 rfl ?_
    refine alR24 dX11_tellsMore_484 (fun x67 => ?_)
    refine T.iconst (w := 0) dX11_tellsMore_485 (by decide) ?_
    refine T.callV_v 0 (As1 := [.int 40, .int x67, .int 0]) (rest := []) (c_task Γ (40 : Int32) x67 (0 : Int32) X66) ka_X11_task kv_X11_task oR rfl k1976 rfl rfl rfl rfl ⟨Nat.le_of_ble_eq_true rfl, Nat.le_of_ble_eq_true rfl⟩ (Nat.le_of_ble_eq_true rfl) dX11_tellsMore_486 (fun _ X68 => ?_)
    refine T.aload_n dX11_tellsMore_489 rfl 0 rfl ?_
    refine T.bipush (w := 15) dX11_tellsMore_490 (by decide) ?_
    refine T.iload_n dX11_tellsMore_492 rfl 1 rfl ?_
    refine T.iconst (w := 0) dX11_tellsMore_493 (by decide) ?_
    refine T.callV_v 0 (As1 := [.int 15, .int p1, .int 0]) (rest := []) (c_task Γ (15 : Int32) p1 (0 : Int32) X68) ka_X11_task kv_X11_task oR rfl k1976 rfl rfl rfl rfl ⟨Nat.le_of_ble_eq_true rfl, Nat.le_of_ble_eq_true rfl⟩ (Nat.le_of_ble_eq_true rfl) dX11_tellsMore_494 (fun _ X69 => ?_)
    refine T.aload_n dX11_tellsMore_497 rfl 0 rfl ?_
    refine T.bipush (w := 6) dX11_tellsMore_498 (by decide) ?_
    refine T.aload_n dX11_tellsMore_500 rfl 0 rfl ?_
    refine cR70 k1408 dX11_tellsMore_501 ?_
    refine T.iload_n dX11_tellsMore_504 rfl 1 rfl ?_
    refine alR23 dX11_tellsMore_505 (fun x70 => ?_)
    refine T.iconst (w := 0) dX11_tellsMore_506 (by decide) ?_
    refine T.callV_v 0 (As1 := [.int 6, .int x70, .int 0]) (rest := []) (c_task Γ (6 : Int32) x70 (0 : Int32) X69) ka_X11_task kv_X11_task oR rfl k1976 rfl rfl rfl rfl ⟨Nat.le_of_ble_eq_true rfl, Nat.le_of_ble_eq_true rfl⟩ (Nat.le_of_ble_eq_true rfl) dX11_tellsMore_507 (fun _ X71 => ?_)
    refine T.aload_n dX11_tellsMore_510 rfl 0 rfl ?_
    refine T.bipush (w := 40) dX11_tellsMore_511 (by decide) ?_
    refine T.aload_n dX11_tellsMore_513 rfl 0 rfl ?_
    refine cR70 k1408 dX11_tellsMore_514 ?_
    refine T.iload_n dX11_tellsMore_517 rfl 1 rfl ?_
    refine alR23 dX11_tellsMore_518 (fun x72 => ?_)
    refine T.iconst (w := 0) dX11_tellsMore_519 (by decide) ?_
    refine T.callV_v 0 (As1 := [.int 40, .int x72, .int 0]) (rest := []) (c_task Γ (40 : Int32) x72 (0 : Int32) X71) ka_X11_task kv_X11_task oR rfl k1976 rfl rfl rfl rfl ⟨Nat.le_of_ble_eq_true rfl, Nat.le_of_ble_eq_true rfl⟩ (Nat.le_of_ble_eq_true rfl) dX11_tellsMore_520 (fun _ X73 => ?_)
    refine T.goto (pc1 := 568) dX11_tellsMore_523 (by decide) ?_
    exact T.ret_v rfl dX11_tellsMore_568
  refine T.tbl (pc1 := 526) dX11_tellsMore_6 (by decide) (off := 520) (tbl_d [5, 6, 7, 10, 12, 13, 14, 15, 16] (by intro q; simp only [List.mem_cons, List.not_mem_nil, or_false] at q; omega) (by decide)) (by decide) ?_
  refine T.aload_n dX11_tellsMore_526 rfl 0 rfl ?_
  refine T.bipush (w := 40) dX11_tellsMore_527 (by decide) ?_
  refine T.aload_n dX11_tellsMore_529 rfl 0 rfl ?_
  refine cR71 k1409 dX11_tellsMore_530 ?_
  refine T.iload_n dX11_tellsMore_533 rfl 1 rfl ?_
  refine alR24 dX11_tellsMore_534 (fun x74 => ?_)
  refine T.iconst (w := 0) dX11_tellsMore_535 (by decide) ?_
  refine T.callV_v 0 (As1 := [.int 40, .int x74, .int 0]) (rest := []) (c_task Γ (40 : Int32) x74 (0 : Int32) X) ka_X11_task kv_X11_task oR rfl k1976 rfl rfl rfl rfl ⟨Nat.le_of_ble_eq_true rfl, Nat.le_of_ble_eq_true rfl⟩ (Nat.le_of_ble_eq_true rfl) dX11_tellsMore_536 (fun _ X75 => ?_)
  refine T.aload_n dX11_tellsMore_539 rfl 0 rfl ?_
  refine T.bipush (w := 13) dX11_tellsMore_540 (by decide) ?_
  refine T.iload_n dX11_tellsMore_542 rfl 1 rfl ?_
  refine T.iconst (w := 0) dX11_tellsMore_543 (by decide) ?_
  refine T.callV_v 0 (As1 := [.int 13, .int p1, .int 0]) (rest := []) (c_task Γ (13 : Int32) p1 (0 : Int32) X75) ka_X11_task kv_X11_task oR rfl k1976 rfl rfl rfl rfl ⟨Nat.le_of_ble_eq_true rfl, Nat.le_of_ble_eq_true rfl⟩ (Nat.le_of_ble_eq_true rfl) dX11_tellsMore_544 (fun _ X76 => ?_)
  refine T.aload_n dX11_tellsMore_547 rfl 0 rfl ?_
  refine T.bipush (w := 12) dX11_tellsMore_548 (by decide) ?_
  refine T.iload_n dX11_tellsMore_550 rfl 1 rfl ?_
  refine T.iconst (w := 0) dX11_tellsMore_551 (by decide) ?_
  refine T.callV_v 0 (As1 := [.int 12, .int p1, .int 0]) (rest := []) (c_task Γ (12 : Int32) p1 (0 : Int32) X76) ka_X11_task kv_X11_task oR rfl k1976 rfl rfl rfl rfl ⟨Nat.le_of_ble_eq_true rfl, Nat.le_of_ble_eq_true rfl⟩ (Nat.le_of_ble_eq_true rfl) dX11_tellsMore_552 (fun _ X77 => ?_)
  refine T.aload_n dX11_tellsMore_555 rfl 0 rfl ?_
  refine T.bipush (w := 40) dX11_tellsMore_556 (by decide) ?_
  refine T.aload_n dX11_tellsMore_558 rfl 0 rfl ?_
  refine cR70 k1408 dX11_tellsMore_559 ?_
  refine T.iload_n dX11_tellsMore_562 rfl 1 rfl ?_
  refine alR23 dX11_tellsMore_563 (fun x78 => ?_)
  refine T.iconst (w := 0) dX11_tellsMore_564 (by decide) ?_
  refine T.callV_v 0 (As1 := [.int 40, .int x78, .int 0]) (rest := []) (c_task Γ (40 : Int32) x78 (0 : Int32) X77) ka_X11_task kv_X11_task oR rfl k1976 rfl rfl rfl rfl ⟨Nat.le_of_ble_eq_true rfl, Nat.le_of_ble_eq_true rfl⟩ (Nat.le_of_ble_eq_true rfl) dX11_tellsMore_565 (fun _ X79 => ?_)
  exact T.ret_v rfl dX11_tellsMore_568
abbrev R_tells : Room := { frames := 14, cells := 0, slots := 0, locals := 210 }
noncomputable def f_tells_195 (a1 : Int32) (X : St) : Option (Int32 × St) :=
  bnd (f_task (7 : Int32) a1 (0 : Int32) X) fun _ X24 =>
  chk (inR a1 3100) (letV (X24.1 23 (ix a1)) fun x25 =>
  bnd (f_task (40 : Int32) x25 (0 : Int32) X24) fun _ X26 =>
  some (0, X26))
set_option maxHeartbeats 4000000 in
set_option maxRecDepth 100000 in
theorem c_tells_195 (Γ : Gx) (As : List Value) (a1 : Int32) (X : St) : T YR Γ cX11_tells 2 "BlameCourtModel" none R_tells As qV 195 [(0, .ref (Γ.2.2.2.1 0)), (1, .int a1)] [] X (f_tells_195 a1 X) := by
  unfold f_tells_195
  refine T.aload_n dX11_tells_195 rfl 0 rfl ?_
  refine T.bipush (w := 7) dX11_tells_196 (by decide) ?_
  refine T.iload_n dX11_tells_198 rfl 1 rfl ?_
  refine T.iconst (w := 0) dX11_tells_199 (by decide) ?_
  refine T.callV_v 0 (As1 := [.int 7, .int a1, .int 0]) (rest := []) (c_task Γ (7 : Int32) a1 (0 : Int32) X) ka_X11_task kv_X11_task oR rfl k1976 rfl rfl rfl rfl ⟨Nat.le_of_ble_eq_true rfl, Nat.le_of_ble_eq_true rfl⟩ (Nat.le_of_ble_eq_true rfl) dX11_tells_200 (fun _ X24 => ?_)
  refine T.aload_n dX11_tells_203 rfl 0 rfl ?_
  refine T.bipush (w := 40) dX11_tells_204 (by decide) ?_
  refine T.aload_n dX11_tells_206 rfl 0 rfl ?_
  refine cR70 k1408 dX11_tells_207 ?_
  refine T.iload_n dX11_tells_210 rfl 1 rfl ?_
  refine alR23 dX11_tells_211 (fun x25 => ?_)
  refine T.iconst (w := 0) dX11_tells_212 (by decide) ?_
  refine T.callV_v 0 (As1 := [.int 40, .int x25, .int 0]) (rest := []) (c_task Γ (40 : Int32) x25 (0 : Int32) X24) ka_X11_task kv_X11_task oR rfl k1976 rfl rfl rfl rfl ⟨Nat.le_of_ble_eq_true rfl, Nat.le_of_ble_eq_true rfl⟩ (Nat.le_of_ble_eq_true rfl) dX11_tells_213 (fun _ X26 => ?_)
  refine T.goto (pc1 := 224) dX11_tells_216 (by decide) ?_
  exact T.ret_v rfl dX11_tells_224
noncomputable def f_tells (p1 : Int32) (X : St) : Option (Int32 × St) :=
  chk (inR p1 3100) (letV (X.1 20 (ix p1)) fun x1 =>
  if x1.toInt = 0 then
    bnd (f_task (1 : Int32) p1 (0 : Int32) X) fun _ X3 =>
    some (0, X3)
  else if x1.toInt = 1 then
    bnd (f_task (2 : Int32) p1 (0 : Int32) X) fun _ X5 =>
    some (0, X5)
  else if x1.toInt = 2 then
    bnd (f_task (3 : Int32) p1 (0 : Int32) X) fun _ X7 =>
    some (0, X7)
  else if x1.toInt = 3 then
    bnd (f_task (4 : Int32) p1 (0 : Int32) X) fun _ X9 =>
    some (0, X9)
  else if x1.toInt = 4 then
    bnd (f_task (18 : Int32) p1 (0 : Int32) X) fun _ X11 =>
    chk (inR p1 3100) (letV (X11.1 24 (ix p1)) fun x12 =>
    if x12.toInt < 0 then
      some (0, X11)
    else
      chk (inR p1 3100) (letV (X11.1 24 (ix p1)) fun x13 =>
      bnd (f_task (41 : Int32) x13 (0 : Int32) X11) fun _ X14 =>
      some (0, X14)))
  else if x1.toInt = 8 then
    chk (inR p1 3100) (letV (X.1 23 (ix p1)) fun x16 =>
    bnd (f_task (40 : Int32) x16 (0 : Int32) X) fun _ X17 =>
    some (0, X17))
  else if x1.toInt = 9 then
    chk (inR p1 3100) (letV (X.1 24 (ix p1)) fun x19 =>
    bnd (f_task (41 : Int32) x19 (1 : Int32) X) fun _ X20 =>
    some (0, X20))
  else if x1.toInt = 11 then
    bnd (f_task (28 : Int32) p1 (0 : Int32) X) fun _ X22 =>
    chk (inR p1 3100) (letV (X22.1 24 (ix p1)) fun x23 =>
    if x23.toInt < 0 then
      f_tells_195 p1 X22
    else
      bnd (f_taskOfCall p1 X22) fun _ X27 =>
      f_tells_195 p1 X27)
  else bnd (f_tellsMore p1 X) fun _ X28 =>
  some (0, X28))
set_option maxHeartbeats 4000000 in
set_option maxRecDepth 100000 in
theorem c_tells (Γ : Gx) (p1 : Int32) (X : St) : TMV YR Γ yX11_tells cX11_tells 2 "BlameCourtModel" none R_tells [.ref (Γ.2.2.2.1 0), .int p1] X (f_tells p1 X) := by
  refine TMV.of (by decide) (Nat.le_of_ble_eq_true rfl) rfl ?_
  show T YR Γ cX11_tells 2 "BlameCourtModel" none R_tells _ qV 0 [(0, .ref (Γ.2.2.2.1 0)), (1, .int p1)] [] X (f_tells p1 X)
  unfold f_tells
  refine T.aload_n dX11_tells_0 rfl 0 rfl ?_
  refine cR67 k1405 dX11_tells_1 ?_
  refine T.iload_n dX11_tells_4 rfl 1 rfl ?_
  refine alR20 dX11_tells_5 (fun x1 => ?_)
  refine T.ite (fun s2 => ?_) (fun s2 => ?_)
  · refine T.tbl (pc1 := 68) dX11_tells_6 (by decide) (off := 62) (by rw [s2]; rfl) (by decide) ?_
    refine T.aload_n dX11_tells_68 rfl 0 rfl ?_
    refine T.iconst (w := 1) dX11_tells_69 (by decide) ?_
    refine T.iload_n dX11_tells_70 rfl 1 rfl ?_
    refine T.iconst (w := 0) dX11_tells_71 (by decide) ?_
    refine T.callV_v 0 (As1 := [.int 1, .int p1, .int 0]) (rest := []) (c_task Γ (1 : Int32) p1 (0 : Int32) X) ka_X11_task kv_X11_task oR rfl k1976 rfl rfl rfl rfl ⟨Nat.le_of_ble_eq_true rfl, Nat.le_of_ble_eq_true rfl⟩ (Nat.le_of_ble_eq_true rfl) dX11_tells_72 (fun _ X3 => ?_)
    refine T.goto (pc1 := 224) dX11_tells_75 (by decide) ?_
    exact T.ret_v rfl dX11_tells_224
  refine T.ite (fun s4 => ?_) (fun s4 => ?_)
  · refine T.tbl (pc1 := 78) dX11_tells_6 (by decide) (off := 72) (by rw [s4]; rfl) (by decide) ?_
    refine T.aload_n dX11_tells_78 rfl 0 rfl ?_
    refine T.iconst (w := 2) dX11_tells_79 (by decide) ?_
    refine T.iload_n dX11_tells_80 rfl 1 rfl ?_
    refine T.iconst (w := 0) dX11_tells_81 (by decide) ?_
    refine T.callV_v 0 (As1 := [.int 2, .int p1, .int 0]) (rest := []) (c_task Γ (2 : Int32) p1 (0 : Int32) X) ka_X11_task kv_X11_task oR rfl k1976 rfl rfl rfl rfl ⟨Nat.le_of_ble_eq_true rfl, Nat.le_of_ble_eq_true rfl⟩ (Nat.le_of_ble_eq_true rfl) dX11_tells_82 (fun _ X5 => ?_)
    refine T.goto (pc1 := 224) dX11_tells_85 (by decide) ?_
    exact T.ret_v rfl dX11_tells_224
  refine T.ite (fun s6 => ?_) (fun s6 => ?_)
  · refine T.tbl (pc1 := 88) dX11_tells_6 (by decide) (off := 82) (by rw [s6]; rfl) (by decide) ?_
    refine T.aload_n dX11_tells_88 rfl 0 rfl ?_
    refine T.iconst (w := 3) dX11_tells_89 (by decide) ?_
    refine T.iload_n dX11_tells_90 rfl 1 rfl ?_
    refine T.iconst (w := 0) dX11_tells_91 (by decide) ?_
    refine T.callV_v 0 (As1 := [.int 3, .int p1, .int 0]) (rest := []) (c_task Γ (3 : Int32) p1 (0 : Int32) X) ka_X11_task kv_X11_task oR rfl k1976 rfl rfl rfl rfl ⟨Nat.le_of_ble_eq_true rfl, Nat.le_of_ble_eq_true rfl⟩ (Nat.le_of_ble_eq_true rfl) dX11_tells_92 (fun _ X7 => ?_)
    refine T.goto (pc1 := 224) dX11_tells_95 (by decide) ?_
    exact T.ret_v rfl dX11_tells_224
  refine T.ite (fun s8 => ?_) (fun s8 => ?_)
  · refine T.tbl (pc1 := 98) dX11_tells_6 (by decide) (off := 92) (by rw [s8]; rfl) (by decide) ?_
    refine T.aload_n dX11_tells_98 rfl 0 rfl ?_
    refine T.iconst (w := 4) dX11_tells_99 (by decide) ?_
    refine T.iload_n dX11_tells_100 rfl 1 rfl ?_
    refine T.iconst (w := 0) dX11_tells_101 (by decide) ?_
    refine T.callV_v 0 (As1 := [.int 4, .int p1, .int 0]) (rest := []) (c_task Γ (4 : Int32) p1 (0 : Int32) X) ka_X11_task kv_X11_task oR rfl k1976 rfl rfl rfl rfl ⟨Nat.le_of_ble_eq_true rfl, Nat.le_of_ble_eq_true rfl⟩ (Nat.le_of_ble_eq_true rfl) dX11_tells_102 (fun _ X9 => ?_)
    refine T.goto (pc1 := 224) dX11_tells_105 (by decide) ?_
    exact T.ret_v rfl dX11_tells_224
  refine T.ite (fun s10 => ?_) (fun s10 => ?_)
  · refine T.tbl (pc1 := 108) dX11_tells_6 (by decide) (off := 102) (by rw [s10]; rfl) (by decide) ?_
    refine T.aload_n dX11_tells_108 rfl 0 rfl ?_
    refine T.bipush (w := 18) dX11_tells_109 (by decide) ?_
    refine T.iload_n dX11_tells_111 rfl 1 rfl ?_
    refine T.iconst (w := 0) dX11_tells_112 (by decide) ?_
    refine T.callV_v 0 (As1 := [.int 18, .int p1, .int 0]) (rest := []) (c_task Γ (18 : Int32) p1 (0 : Int32) X) ka_X11_task kv_X11_task oR rfl k1976 rfl rfl rfl rfl ⟨Nat.le_of_ble_eq_true rfl, Nat.le_of_ble_eq_true rfl⟩ (Nat.le_of_ble_eq_true rfl) dX11_tells_113 (fun _ X11 => ?_)
    refine T.aload_n dX11_tells_116 rfl 0 rfl ?_
    refine cR71 k1409 dX11_tells_117 ?_
    refine T.iload_n dX11_tells_120 rfl 1 rfl ?_
    refine alR24 dX11_tells_121 (fun x12 => ?_)
    refine T.if_lt (pc1 := 224) dX11_tells_122 (by decide) ?_ ?_
    · exact T.ret_v rfl dX11_tells_224
    · refine T.aload_n dX11_tells_125 rfl 0 rfl ?_
      refine T.bipush (w := 41) dX11_tells_126 (by decide) ?_
      refine T.aload_n dX11_tells_128 rfl 0 rfl ?_
      refine cR71 k1409 dX11_tells_129 ?_
      refine T.iload_n dX11_tells_132 rfl 1 rfl ?_
      refine alR24 dX11_tells_133 (fun x13 => ?_)
      refine T.iconst (w := 0) dX11_tells_134 (by decide) ?_
      refine T.callV_v 0 (As1 := [.int 41, .int x13, .int 0]) (rest := []) (c_task Γ (41 : Int32) x13 (0 : Int32) X11) ka_X11_task kv_X11_task oR rfl k1976 rfl rfl rfl rfl ⟨Nat.le_of_ble_eq_true rfl, Nat.le_of_ble_eq_true rfl⟩ (Nat.le_of_ble_eq_true rfl) dX11_tells_135 (fun _ X14 => ?_)
      refine T.goto (pc1 := 224) dX11_tells_138 (by decide) ?_
      exact T.ret_v rfl dX11_tells_224
  refine T.ite (fun s15 => ?_) (fun s15 => ?_)
  · refine T.tbl (pc1 := 157) dX11_tells_6 (by decide) (off := 151) (by rw [s15]; rfl) (by decide) ?_
    refine T.aload_n dX11_tells_157 rfl 0 rfl ?_
    refine T.bipush (w := 40) dX11_tells_158 (by decide) ?_
    refine T.aload_n dX11_tells_160 rfl 0 rfl ?_
    refine cR70 k1408 dX11_tells_161 ?_
    refine T.iload_n dX11_tells_164 rfl 1 rfl ?_
    refine alR23 dX11_tells_165 (fun x16 => ?_)
    refine T.iconst (w := 0) dX11_tells_166 (by decide) ?_
    refine T.callV_v 0 (As1 := [.int 40, .int x16, .int 0]) (rest := []) (c_task Γ (40 : Int32) x16 (0 : Int32) X) ka_X11_task kv_X11_task oR rfl k1976 rfl rfl rfl rfl ⟨Nat.le_of_ble_eq_true rfl, Nat.le_of_ble_eq_true rfl⟩ (Nat.le_of_ble_eq_true rfl) dX11_tells_167 (fun _ X17 => ?_)
    refine T.goto (pc1 := 224) dX11_tells_170 (by decide) ?_
    exact T.ret_v rfl dX11_tells_224
  refine T.ite (fun s18 => ?_) (fun s18 => ?_)
  · refine T.tbl (pc1 := 141) dX11_tells_6 (by decide) (off := 135) (by rw [s18]; rfl) (by decide) ?_
    refine T.aload_n dX11_tells_141 rfl 0 rfl ?_
    refine T.bipush (w := 41) dX11_tells_142 (by decide) ?_
    refine T.aload_n dX11_tells_144 rfl 0 rfl ?_
    refine cR71 k1409 dX11_tells_145 ?_
    refine T.iload_n dX11_tells_148 rfl 1 rfl ?_
    refine alR24 dX11_tells_149 (fun x19 => ?_)
    refine T.iconst (w := 1) dX11_tells_150 (by decide) ?_
    refine T.callV_v 0 (As1 := [.int 41, .int x19, .int 1]) (rest := []) (c_task Γ (41 : Int32) x19 (1 : Int32) X) ka_X11_task kv_X11_task oR rfl k1976 rfl rfl rfl rfl ⟨Nat.le_of_ble_eq_true rfl, Nat.le_of_ble_eq_true rfl⟩ (Nat.le_of_ble_eq_true rfl) dX11_tells_151 (fun _ X20 => ?_)
    refine T.goto (pc1 := 224) dX11_tells_154 (by decide) ?_
    exact T.ret_v rfl dX11_tells_224
  refine T.ite (fun s21 => ?_) (fun s21 => ?_)
  · refine T.tbl (pc1 := 173) dX11_tells_6 (by decide) (off := 167) (by rw [s21]; rfl) (by decide) ?_
    refine T.aload_n dX11_tells_173 rfl 0 rfl ?_
    refine T.bipush (w := 28) dX11_tells_174 (by decide) ?_
    refine T.iload_n dX11_tells_176 rfl 1 rfl ?_
    refine T.iconst (w := 0) dX11_tells_177 (by decide) ?_
    refine T.callV_v 0 (As1 := [.int 28, .int p1, .int 0]) (rest := []) (c_task Γ (28 : Int32) p1 (0 : Int32) X) ka_X11_task kv_X11_task oR rfl k1976 rfl rfl rfl rfl ⟨Nat.le_of_ble_eq_true rfl, Nat.le_of_ble_eq_true rfl⟩ (Nat.le_of_ble_eq_true rfl) dX11_tells_178 (fun _ X22 => ?_)
    refine T.aload_n dX11_tells_181 rfl 0 rfl ?_
    refine cR71 k1409 dX11_tells_182 ?_
    refine T.iload_n dX11_tells_185 rfl 1 rfl ?_
    refine alR24 dX11_tells_186 (fun x23 => ?_)
    refine T.if_lt (pc1 := 195) dX11_tells_187 (by decide) ?_ ?_
    · exact c_tells_195 Γ _ p1 X22
    · refine T.aload_n dX11_tells_190 rfl 0 rfl ?_
      refine T.iload_n dX11_tells_191 rfl 1 rfl ?_
      refine T.callV_v 0 (As1 := [.int p1]) (rest := []) (c_taskOfCall Γ p1 X22) ka_X11_taskOfCall kv_X11_taskOfCall oR rfl k1992 rfl rfl rfl rfl ⟨Nat.le_of_ble_eq_true rfl, Nat.le_of_ble_eq_true rfl⟩ (Nat.le_of_ble_eq_true rfl) dX11_tells_192 (fun _ X27 => ?_)
      exact c_tells_195 Γ _ p1 X27
  refine T.tbl (pc1 := 219) dX11_tells_6 (by decide) (off := 213) (tbl_d [0, 1, 2, 3, 4, 8, 9, 11] (by intro q; simp only [List.mem_cons, List.not_mem_nil, or_false] at q; omega) (by decide)) (by decide) ?_
  refine T.aload_n dX11_tells_219 rfl 0 rfl ?_
  refine T.iload_n dX11_tells_220 rfl 1 rfl ?_
  refine T.callV_v 0 (As1 := [.int p1]) (rest := []) (c_tellsMore Γ p1 X) ka_X11_tellsMore kv_X11_tellsMore oR rfl k1996 rfl rfl rfl rfl ⟨Nat.le_of_ble_eq_true rfl, Nat.le_of_ble_eq_true rfl⟩ (Nat.le_of_ble_eq_true rfl) dX11_tells_221 (fun _ X28 => ?_)
  exact T.ret_v rfl dX11_tells_224
abbrev R_goesOn : Room := { frames := 18, cells := 0, slots := 0, locals := 270 }
noncomputable def f_goesOn_122 (a2 : Int32) (X : St) : Option (Int32 × St) :=
  bnd (f_task (40 : Int32) a2 (0 : Int32) X) fun _ X18 =>
  some (0, X18)
set_option maxHeartbeats 4000000 in
set_option maxRecDepth 100000 in
theorem c_goesOn_122 (Γ : Gx) (As : List Value) (a2 : Int32) (X : St) : T YR Γ cX11_goesOn 4 "BlameCourtModel" none R_goesOn As qV 122 [(0, .ref (Γ.2.2.2.1 0)), (2, .int a2)] [] X (f_goesOn_122 a2 X) := by
  unfold f_goesOn_122
  refine T.aload_n dX11_goesOn_122 rfl 0 rfl ?_
  refine T.bipush (w := 40) dX11_goesOn_123 (by decide) ?_
  refine T.iload_n dX11_goesOn_125 rfl 1 rfl ?_
  refine T.iconst (w := 0) dX11_goesOn_126 (by decide) ?_
  refine T.callV_v 0 (As1 := [.int 40, .int a2, .int 0]) (rest := []) (c_task Γ (40 : Int32) a2 (0 : Int32) X) ka_X11_task kv_X11_task oR rfl k1976 rfl rfl rfl rfl ⟨Nat.le_of_ble_eq_true rfl, Nat.le_of_ble_eq_true rfl⟩ (Nat.le_of_ble_eq_true rfl) dX11_goesOn_127 (fun _ X18 => ?_)
  refine T.goto (pc1 := 244) dX11_goesOn_130 (by decide) ?_
  exact T.ret_v rfl dX11_goesOn_244
noncomputable def f_goesOn_110 (a2 : Int32) (a3 : Int32) (X : St) : Option (Int32 × St) :=
  if a3.toInt = 0 then
    bnd (f_task (14 : Int32) a2 (0 : Int32) X) fun _ X19 =>
    f_goesOn_122 a2 X19
  else
    f_goesOn_122 a2 X
set_option maxHeartbeats 4000000 in
set_option maxRecDepth 100000 in
theorem c_goesOn_110 (Γ : Gx) (As : List Value) (a2 : Int32) (a3 : Int32) (X : St) : T YR Γ cX11_goesOn 4 "BlameCourtModel" none R_goesOn As qV 110 [(0, .ref (Γ.2.2.2.1 0)), (2, .int a2), (3, .int a3)] [] X (f_goesOn_110 a2 a3 X) := by
  unfold f_goesOn_110
  refine T.iload_n dX11_goesOn_110 rfl 2 rfl ?_
  refine T.if_ne (pc1 := 122) dX11_goesOn_111 (by decide) ?_ ?_
  · refine T.sub [0, 1] rfl ?_
    exact c_goesOn_122 Γ _ a2 X
  · refine T.aload_n dX11_goesOn_114 rfl 0 rfl ?_
    refine T.bipush (w := 14) dX11_goesOn_115 (by decide) ?_
    refine T.iload_n dX11_goesOn_117 rfl 1 rfl ?_
    refine T.iconst (w := 0) dX11_goesOn_118 (by decide) ?_
    refine T.callV_v 0 (As1 := [.int 14, .int a2, .int 0]) (rest := []) (c_task Γ (14 : Int32) a2 (0 : Int32) X) ka_X11_task kv_X11_task oR rfl k1976 rfl rfl rfl rfl ⟨Nat.le_of_ble_eq_true rfl, Nat.le_of_ble_eq_true rfl⟩ (Nat.le_of_ble_eq_true rfl) dX11_goesOn_119 (fun _ X19 => ?_)
    refine T.sub [0, 1] rfl ?_
    exact c_goesOn_122 Γ _ a2 X19
noncomputable def f_goesOn_158 (a2 : Int32) (a3 : Int32) (X : St) : Option (Int32 × St) :=
  bnd (f_task (10 : Int32) a2 a3 X) fun _ X25 =>
  bnd (f_task (40 : Int32) a2 (0 : Int32) X25) fun _ X26 =>
  some (0, X26)
set_option maxHeartbeats 4000000 in
set_option maxRecDepth 100000 in
theorem c_goesOn_158 (Γ : Gx) (As : List Value) (a2 : Int32) (a3 : Int32) (X : St) : T YR Γ cX11_goesOn 4 "BlameCourtModel" none R_goesOn As qV 158 [(0, .ref (Γ.2.2.2.1 0)), (2, .int a2), (3, .int a3)] [] X (f_goesOn_158 a2 a3 X) := by
  unfold f_goesOn_158
  refine T.aload_n dX11_goesOn_158 rfl 0 rfl ?_
  refine T.bipush (w := 10) dX11_goesOn_159 (by decide) ?_
  refine T.iload_n dX11_goesOn_161 rfl 1 rfl ?_
  refine T.iload_n dX11_goesOn_162 rfl 2 rfl ?_
  refine T.callV_v 0 (As1 := [.int 10, .int a2, .int a3]) (rest := []) (c_task Γ (10 : Int32) a2 a3 X) ka_X11_task kv_X11_task oR rfl k1976 rfl rfl rfl rfl ⟨Nat.le_of_ble_eq_true rfl, Nat.le_of_ble_eq_true rfl⟩ (Nat.le_of_ble_eq_true rfl) dX11_goesOn_163 (fun _ X25 => ?_)
  refine T.aload_n dX11_goesOn_166 rfl 0 rfl ?_
  refine T.bipush (w := 40) dX11_goesOn_167 (by decide) ?_
  refine T.iload_n dX11_goesOn_169 rfl 1 rfl ?_
  refine T.iconst (w := 0) dX11_goesOn_170 (by decide) ?_
  refine T.callV_v 0 (As1 := [.int 40, .int a2, .int 0]) (rest := []) (c_task Γ (40 : Int32) a2 (0 : Int32) X25) ka_X11_task kv_X11_task oR rfl k1976 rfl rfl rfl rfl ⟨Nat.le_of_ble_eq_true rfl, Nat.le_of_ble_eq_true rfl⟩ (Nat.le_of_ble_eq_true rfl) dX11_goesOn_171 (fun _ X26 => ?_)
  refine T.goto (pc1 := 244) dX11_goesOn_174 (by decide) ?_
  exact T.ret_v rfl dX11_goesOn_244
noncomputable def f_goesOn (p1 : Int32) (p2 : Int32) (p3 : Int32) (X : St) : Option (Int32 × St) :=
  if p1.toInt = 14 then
    letV (X.1 0 26) fun x2 =>
    chk (inR p2 3100) (letV (wI X 45 (ix p2) x2) fun X3 =>
    bnd (f_order p1 p2 p3 X3) fun _ X4 =>
    some (0, X4))
  else if p1.toInt = 16 then
    bnd (f_order p1 p2 p3 X) fun _ X6 =>
    letV (X6.1 0 26) fun x7 =>
    chk (inR p2 3100) (letV (wI X6 46 (ix p2) x7) fun X8 =>
    some (0, X8))
  else if p1.toInt = 17 then
    bnd (f_order p1 p2 p3 X) fun _ X10 =>
    letV (X10.1 0 26) fun x11 =>
    chk (inR p2 3100) (letV (wI X10 47 (ix p2) x11) fun X12 =>
    some (0, X12))
  else if p1.toInt = 40 then
    bnd (f_order (0 : Int32) p2 (0 : Int32) X) fun _ X14 =>
    bnd (f_tells p2 X14) fun _ X15 =>
    some (0, X15)
  else if p1.toInt = 41 then
    chk (inR p2 3100) (letV (X.1 28 (ix p2)) fun x17 =>
    if x17.toInt < 0 then
      f_goesOn_110 p2 p3 X
    else
      chk (inR p2 3100) (letV (X.1 28 (ix p2)) fun x20 =>
      bnd (f_task (41 : Int32) x20 p3 X) fun _ X21 =>
      if p3.toInt = 1 then
        bnd (f_task (29 : Int32) p2 (0 : Int32) X21) fun _ X22 =>
        f_goesOn_110 p2 p3 X22
      else
        f_goesOn_110 p2 p3 X21))
  else if p1.toInt = 43 then
    chk (inR p2 3100) (letV (X.1 28 (ix p2)) fun x24 =>
    if x24.toInt < 0 then
      f_goesOn_158 p2 p3 X
    else
      chk (inR p2 3100) (letV (X.1 28 (ix p2)) fun x27 =>
      letV (p3 + (8 : Int32)) fun x28 =>
      bnd (f_task (43 : Int32) x27 x28 X) fun _ X29 =>
      f_goesOn_158 p2 p3 X29))
  else bnd (f_order p1 p2 p3 X) fun _ X30 =>
  some (0, X30)
set_option maxHeartbeats 4000000 in
set_option maxRecDepth 100000 in
theorem c_goesOn (Γ : Gx) (p1 : Int32) (p2 : Int32) (p3 : Int32) (X : St) : TMV YR Γ yX11_goesOn cX11_goesOn 4 "BlameCourtModel" none R_goesOn [.ref (Γ.2.2.2.1 0), .int p1, .int p2, .int p3] X (f_goesOn p1 p2 p3 X) := by
  refine TMV.of (by decide) (Nat.le_of_ble_eq_true rfl) rfl ?_
  show T YR Γ cX11_goesOn 4 "BlameCourtModel" none R_goesOn _ qV 0 [(0, .ref (Γ.2.2.2.1 0)), (1, .int p1), (2, .int p2), (3, .int p3)] [] X (f_goesOn p1 p2 p3 X)
  unfold f_goesOn
  refine T.iload_n dX11_goesOn_0 rfl 1 rfl ?_
  refine T.ite (fun s1 => ?_) (fun s1 => ?_)
  · refine T.lookup (pc1 := 177) dX11_goesOn_1 (by decide) (off := 176) (by rw [s1]; rfl) (by decide) ?_
    refine T.aload_n dX11_goesOn_177 rfl 0 rfl ?_
    refine cR92 k1437 dX11_goesOn_178 ?_
    refine T.iload_n dX11_goesOn_181 rfl 2 rfl ?_
    refine T.aload_n dX11_goesOn_182 rfl 0 rfl ?_
    refine gR26 k1431 dX11_goesOn_183 (fun x2 => ?_)
    refine asR45 dX11_goesOn_186 (fun X3 => ?_)
    refine T.aload_n dX11_goesOn_187 rfl 0 rfl ?_
    refine T.iload_n dX11_goesOn_188 rfl 1 rfl ?_
    refine T.iload_n dX11_goesOn_189 rfl 2 rfl ?_
    refine T.iload_n dX11_goesOn_190 rfl 3 rfl ?_
    refine T.callV_v 0 (As1 := [.int p1, .int p2, .int p3]) (rest := []) (c_order Γ p1 p2 p3 X3) ka_X11_order kv_X11_order oR rfl k1984 rfl rfl rfl rfl ⟨Nat.le_of_ble_eq_true rfl, Nat.le_of_ble_eq_true rfl⟩ (Nat.le_of_ble_eq_true rfl) dX11_goesOn_191 (fun _ X4 => ?_)
    refine T.goto (pc1 := 244) dX11_goesOn_194 (by decide) ?_
    exact T.ret_v rfl dX11_goesOn_244
  refine T.ite (fun s5 => ?_) (fun s5 => ?_)
  · refine T.lookup (pc1 := 197) dX11_goesOn_1 (by decide) (off := 196) (by rw [s5]; rfl) (by decide) ?_
    refine T.aload_n dX11_goesOn_197 rfl 0 rfl ?_
    refine T.iload_n dX11_goesOn_198 rfl 1 rfl ?_
    refine T.iload_n dX11_goesOn_199 rfl 2 rfl ?_
    refine T.iload_n dX11_goesOn_200 rfl 3 rfl ?_
    refine T.callV_v 0 (As1 := [.int p1, .int p2, .int p3]) (rest := []) (c_order Γ p1 p2 p3 X) ka_X11_order kv_X11_order oR rfl k1984 rfl rfl rfl rfl ⟨Nat.le_of_ble_eq_true rfl, Nat.le_of_ble_eq_true rfl⟩ (Nat.le_of_ble_eq_true rfl) dX11_goesOn_201 (fun _ X6 => ?_)
    refine T.aload_n dX11_goesOn_204 rfl 0 rfl ?_
    refine cR93 k1438 dX11_goesOn_205 ?_
    refine T.iload_n dX11_goesOn_208 rfl 2 rfl ?_
    refine T.aload_n dX11_goesOn_209 rfl 0 rfl ?_
    refine gR26 k1431 dX11_goesOn_210 (fun x7 => ?_)
    refine asR46 dX11_goesOn_213 (fun X8 => ?_)
    refine T.goto (pc1 := 244) dX11_goesOn_214 (by decide) ?_
    exact T.ret_v rfl dX11_goesOn_244
  refine T.ite (fun s9 => ?_) (fun s9 => ?_)
  · refine T.lookup (pc1 := 217) dX11_goesOn_1 (by decide) (off := 216) (by rw [s9]; rfl) (by decide) ?_
    refine T.aload_n dX11_goesOn_217 rfl 0 rfl ?_
    refine T.iload_n dX11_goesOn_218 rfl 1 rfl ?_
    refine T.iload_n dX11_goesOn_219 rfl 2 rfl ?_
    refine T.iload_n dX11_goesOn_220 rfl 3 rfl ?_
    refine T.callV_v 0 (As1 := [.int p1, .int p2, .int p3]) (rest := []) (c_order Γ p1 p2 p3 X) ka_X11_order kv_X11_order oR rfl k1984 rfl rfl rfl rfl ⟨Nat.le_of_ble_eq_true rfl, Nat.le_of_ble_eq_true rfl⟩ (Nat.le_of_ble_eq_true rfl) dX11_goesOn_221 (fun _ X10 => ?_)
    refine T.aload_n dX11_goesOn_224 rfl 0 rfl ?_
    refine cR94 k1439 dX11_goesOn_225 ?_
    refine T.iload_n dX11_goesOn_228 rfl 2 rfl ?_
    refine T.aload_n dX11_goesOn_229 rfl 0 rfl ?_
    refine gR26 k1431 dX11_goesOn_230 (fun x11 => ?_)
    refine asR47 dX11_goesOn_233 (fun X12 => ?_)
    refine T.goto (pc1 := 244) dX11_goesOn_234 (by decide) ?_
    exact T.ret_v rfl dX11_goesOn_244
  refine T.ite (fun s13 => ?_) (fun s13 => ?_)
  · refine T.lookup (pc1 := 60) dX11_goesOn_1 (by decide) (off := 59) (by rw [s13]; rfl) (by decide) ?_
    refine T.aload_n dX11_goesOn_60 rfl 0 rfl ?_
    refine T.iconst (w := 0) dX11_goesOn_61 (by decide) ?_
    refine T.iload_n dX11_goesOn_62 rfl 2 rfl ?_
    refine T.iconst (w := 0) dX11_goesOn_63 (by decide) ?_
    refine T.callV_v 0 (As1 := [.int 0, .int p2, .int 0]) (rest := []) (c_order Γ (0 : Int32) p2 (0 : Int32) X) ka_X11_order kv_X11_order oR rfl k1984 rfl rfl rfl rfl ⟨Nat.le_of_ble_eq_true rfl, Nat.le_of_ble_eq_true rfl⟩ (Nat.le_of_ble_eq_true rfl) dX11_goesOn_64 (fun _ X14 => ?_)
    refine T.aload_n dX11_goesOn_67 rfl 0 rfl ?_
    refine T.iload_n dX11_goesOn_68 rfl 2 rfl ?_
    refine T.callV_v 0 (As1 := [.int p2]) (rest := []) (c_tells Γ p2 X14) ka_X11_tells kv_X11_tells oR rfl k1988 rfl rfl rfl rfl ⟨Nat.le_of_ble_eq_true rfl, Nat.le_of_ble_eq_true rfl⟩ (Nat.le_of_ble_eq_true rfl) dX11_goesOn_69 (fun _ X15 => ?_)
    refine T.goto (pc1 := 244) dX11_goesOn_72 (by decide) ?_
    exact T.ret_v rfl dX11_goesOn_244
  refine T.ite (fun s16 => ?_) (fun s16 => ?_)
  · refine T.lookup (pc1 := 75) dX11_goesOn_1 (by decide) (off := 74) (by rw [s16]; rfl) (by decide) ?_
    refine T.aload_n dX11_goesOn_75 rfl 0 rfl ?_
    refine cR75 k1413 dX11_goesOn_76 ?_
    refine T.iload_n dX11_goesOn_79 rfl 2 rfl ?_
    refine alR28 dX11_goesOn_80 (fun x17 => ?_)
    refine T.if_lt (pc1 := 110) dX11_goesOn_81 (by decide) ?_ ?_
    · refine T.sub [0, 2, 3] rfl ?_
      exact c_goesOn_110 Γ _ p2 p3 X
    · refine T.aload_n dX11_goesOn_84 rfl 0 rfl ?_
      refine T.bipush (w := 41) dX11_goesOn_85 (by decide) ?_
      refine T.aload_n dX11_goesOn_87 rfl 0 rfl ?_
      refine cR75 k1413 dX11_goesOn_88 ?_
      refine T.iload_n dX11_goesOn_91 rfl 2 rfl ?_
      refine alR28 dX11_goesOn_92 (fun x20 => ?_)
      refine T.iload_n dX11_goesOn_93 rfl 3 rfl ?_
      refine T.callV_v 0 (As1 := [.int 41, .int x20, .int p3]) (rest := []) (c_task Γ (41 : Int32) x20 p3 X) ka_X11_task kv_X11_task oR rfl k1976 rfl rfl rfl rfl ⟨Nat.le_of_ble_eq_true rfl, Nat.le_of_ble_eq_true rfl⟩ (Nat.le_of_ble_eq_true rfl) dX11_goesOn_94 (fun _ X21 => ?_)
      refine T.iload_n dX11_goesOn_97 rfl 3 rfl ?_
      refine T.iconst (w := 1) dX11_goesOn_98 (by decide) ?_
      refine T.icmp_ne (pc1 := 110) dX11_goesOn_99 (by decide) rfl ?_ ?_
      · refine T.sub [0, 2, 3] rfl ?_
        exact c_goesOn_110 Γ _ p2 p3 X21
      · refine T.aload_n dX11_goesOn_102 rfl 0 rfl ?_
        refine T.bipush (w := 29) dX11_goesOn_103 (by decide) ?_
        refine T.iload_n dX11_goesOn_105 rfl 2 rfl ?_
        refine T.iconst (w := 0) dX11_goesOn_106 (by decide) ?_
        refine T.callV_v 0 (As1 := [.int 29, .int p2, .int 0]) (rest := []) (c_task Γ (29 : Int32) p2 (0 : Int32) X21) ka_X11_task kv_X11_task oR rfl k1976 rfl rfl rfl rfl ⟨Nat.le_of_ble_eq_true rfl, Nat.le_of_ble_eq_true rfl⟩ (Nat.le_of_ble_eq_true rfl) dX11_goesOn_107 (fun _ X22 => ?_)
        refine T.sub [0, 2, 3] rfl ?_
        exact c_goesOn_110 Γ _ p2 p3 X22
  refine T.ite (fun s23 => ?_) (fun s23 => ?_)
  · refine T.lookup (pc1 := 133) dX11_goesOn_1 (by decide) (off := 132) (by rw [s23]; rfl) (by decide) ?_
    refine T.aload_n dX11_goesOn_133 rfl 0 rfl ?_
    refine cR75 k1413 dX11_goesOn_134 ?_
    refine T.iload_n dX11_goesOn_137 rfl 2 rfl ?_
    refine alR28 dX11_goesOn_138 (fun x24 => ?_)
    refine T.if_lt (pc1 := 158) dX11_goesOn_139 (by decide) ?_ ?_
    · refine T.sub [0, 2, 3] rfl ?_
      exact c_goesOn_158 Γ _ p2 p3 X
    · refine T.aload_n dX11_goesOn_142 rfl 0 rfl ?_
      refine T.bipush (w := 43) dX11_goesOn_143 (by decide) ?_
      refine T.aload_n dX11_goesOn_145 rfl 0 rfl ?_
      refine cR75 k1413 dX11_goesOn_146 ?_
      refine T.iload_n dX11_goesOn_149 rfl 2 rfl ?_
      refine alR28 dX11_goesOn_150 (fun x27 => ?_)
      refine T.iload_n dX11_goesOn_151 rfl 3 rfl ?_
      refine T.bipush (w := 8) dX11_goesOn_152 (by decide) ?_
      refine T.iadd dX11_goesOn_154 (fun x28 => ?_)
      refine T.callV_v 0 (As1 := [.int 43, .int x27, .int x28]) (rest := []) (c_task Γ (43 : Int32) x27 x28 X) ka_X11_task kv_X11_task oR rfl k1976 rfl rfl rfl rfl ⟨Nat.le_of_ble_eq_true rfl, Nat.le_of_ble_eq_true rfl⟩ (Nat.le_of_ble_eq_true rfl) dX11_goesOn_155 (fun _ X29 => ?_)
      refine T.sub [0, 2, 3] rfl ?_
      exact c_goesOn_158 Γ _ p2 p3 X29
  refine T.lookup (pc1 := 237) dX11_goesOn_1 (by decide) (off := 236) ((osw2 s1).trans ((osw2 s5).trans ((osw2 s9).trans ((osw2 s13).trans ((osw2 s16).trans ((osw2 s23).trans rfl)))))) (by decide) ?_
  refine T.aload_n dX11_goesOn_237 rfl 0 rfl ?_
  refine T.iload_n dX11_goesOn_238 rfl 1 rfl ?_
  refine T.iload_n dX11_goesOn_239 rfl 2 rfl ?_
  refine T.iload_n dX11_goesOn_240 rfl 3 rfl ?_
  refine T.callV_v 0 (As1 := [.int p1, .int p2, .int p3]) (rest := []) (c_order Γ p1 p2 p3 X) ka_X11_order kv_X11_order oR rfl k1984 rfl rfl rfl rfl ⟨Nat.le_of_ble_eq_true rfl, Nat.le_of_ble_eq_true rfl⟩ (Nat.le_of_ble_eq_true rfl) dX11_goesOn_241 (fun _ X30 => ?_)
  exact T.ret_v rfl dX11_goesOn_244
abbrev R_compiles : Room := { frames := 22, cells := 0, slots := 0, locals := 330 }
noncomputable def f_compiles_59_s (r7 : Int32 → St → Option (Int32 × St)) (r59 : Int32 → St → Option (Int32 × St)) (a1 : Int32) (X : St) : Option (Int32 × St) :=
  letV (X.1 0 27) fun x10 =>
  if x10.toInt ≤ 0 then
    letV (a1 + Int32.ofInt (1)) fun x11 =>
    r7 x11 X
  else
    letV (X.1 0 27) fun x12 =>
    letV (x12 - (1 : Int32)) fun x13 =>
    letV (wI X 0 27 x13) fun X14 =>
    letV (X14.1 0 27) fun x15 =>
    chk (inR x15 13000) (letV (X14.1 48 (ix x15)) fun x16 =>
    letV (X14.1 0 27) fun x17 =>
    chk (inR x17 13000) (letV (X14.1 49 (ix x17)) fun x18 =>
    letV (X14.1 0 27) fun x19 =>
    chk (inR x19 13000) (letV (X14.1 50 (ix x19)) fun x20 =>
    bnd (f_goesOn x16 x18 x20 X14) fun _ X21 =>
    r59 a1 X21)))
noncomputable def f_compiles_59 (r7 : Int32 → St → Option (Int32 × St)) (n : Nat) : Int32 → St → Option (Int32 × St) := lp (fun _ _ => none) (f_compiles_59_s r7) n
set_option maxHeartbeats 4000000 in
set_option maxRecDepth 100000 in
theorem c_compiles_59 (Γ : Gx) (As : List Value) (r7 : Int32 → St → Option (Int32 × St)) (hr7 : ∀ (a1 : Int32) (X : St), T YR Γ cX11_compiles 2 "BlameCourtModel" none R_compiles As qV 7 [(0, .ref (Γ.2.2.2.1 0)), (1, .int a1)] [] X (r7 a1 X)) (n : Nat) : ∀ (a1 : Int32) (X : St), T YR Γ cX11_compiles 2 "BlameCourtModel" none R_compiles As qV 59 [(0, .ref (Γ.2.2.2.1 0)), (1, .int a1)] [] X (f_compiles_59 r7 n a1 X) := by
  unfold f_compiles_59
  refine lp_ind (P := fun (r59 : Int32 → St → Option (Int32 × St)) => ∀ (a1 : Int32) (X : St), T YR Γ cX11_compiles 2 "BlameCourtModel" none R_compiles As qV 59 [(0, .ref (Γ.2.2.2.1 0)), (1, .int a1)] [] X (r59 a1 X)) (fun _ _ => T.no) ?_ n
  intro r59 hr59 a1 X
  unfold f_compiles_59_s
  refine T.aload_n dX11_compiles_59 rfl 0 rfl ?_
  refine gR27 k1440 dX11_compiles_60 (fun x10 => ?_)
  refine T.if_le (pc1 := 110) dX11_compiles_63 (by decide) ?_ ?_
  · refine T.iinc dX11_compiles_110 1 rfl (by decide) (lvf := fun x11 => [(1, .int x11), (0, .ref (Γ.2.2.2.1 0))]) (fun _ => rfl) (fun x11 => ?_)
    refine T.goto (pc1 := 7) dX11_compiles_113 (by decide) ?_
    refine T.sub [1, 0] rfl ?_
    exact hr7 x11 X
  · refine T.aload_n dX11_compiles_66 rfl 0 rfl ?_
    refine T.dupr dX11_compiles_67 ?_
    refine gR27 k1440 dX11_compiles_68 (fun x12 => ?_)
    refine T.iconst (w := 1) dX11_compiles_71 (by decide) ?_
    refine T.isub dX11_compiles_72 (fun x13 => ?_)
    refine pR27 k1440 dX11_compiles_73 (fun X14 => ?_)
    refine T.aload_n dX11_compiles_76 rfl 0 rfl ?_
    refine T.aload_n dX11_compiles_77 rfl 0 rfl ?_
    refine cR95 k1441 dX11_compiles_78 ?_
    refine T.aload_n dX11_compiles_81 rfl 0 rfl ?_
    refine gR27 k1440 dX11_compiles_82 (fun x15 => ?_)
    refine alR48 dX11_compiles_85 (fun x16 => ?_)
    refine T.aload_n dX11_compiles_86 rfl 0 rfl ?_
    refine cR96 k1442 dX11_compiles_87 ?_
    refine T.aload_n dX11_compiles_90 rfl 0 rfl ?_
    refine gR27 k1440 dX11_compiles_91 (fun x17 => ?_)
    refine alR49 dX11_compiles_94 (fun x18 => ?_)
    refine T.aload_n dX11_compiles_95 rfl 0 rfl ?_
    refine cR97 k1443 dX11_compiles_96 ?_
    refine T.aload_n dX11_compiles_99 rfl 0 rfl ?_
    refine gR27 k1440 dX11_compiles_100 (fun x19 => ?_)
    refine alR50 dX11_compiles_103 (fun x20 => ?_)
    refine T.callV_v 0 (As1 := [.int x16, .int x18, .int x20]) (rest := []) (c_goesOn Γ x16 x18 x20 X14) ka_X11_goesOn kv_X11_goesOn oR rfl k1980 rfl rfl rfl rfl ⟨Nat.le_of_ble_eq_true rfl, Nat.le_of_ble_eq_true rfl⟩ (Nat.le_of_ble_eq_true rfl) dX11_compiles_104 (fun _ X21 => ?_)
    refine T.goto (pc1 := 59) dX11_compiles_107 (by decide) ?_
    exact hr59 a1 X21
noncomputable def f_compiles_7_s (r7 : Int32 → St → Option (Int32 × St)) (a1 : Int32) (X : St) : Option (Int32 × St) :=
  letV (X.1 0 18) fun x2 =>
  if x2.toInt ≤ a1.toInt then
    some (0, X)
  else
    letV (X.1 0 26) fun x3 =>
    chk (inR a1 41) (letV (wI X 44 (ix a1) x3) fun X4 =>
    letV (wI X4 0 27 ((0 : Int32))) fun X5 =>
    bnd (f_task (31 : Int32) a1 (0 : Int32) X5) fun _ X6 =>
    bnd (f_task (30 : Int32) a1 (0 : Int32) X6) fun _ X7 =>
    chk (inR a1 41) (letV (X7.1 18 (ix a1)) fun x8 =>
    bnd (f_task (40 : Int32) x8 (0 : Int32) X7) fun _ X9 =>
    f_compiles_59 r7 BIG a1 X9))
noncomputable def f_compiles_7 (n : Nat) : Int32 → St → Option (Int32 × St) := lp (fun _ _ => none) (f_compiles_7_s) n
set_option maxHeartbeats 4000000 in
set_option maxRecDepth 100000 in
theorem c_compiles_7 (Γ : Gx) (As : List Value) (n : Nat) : ∀ (a1 : Int32) (X : St), T YR Γ cX11_compiles 2 "BlameCourtModel" none R_compiles As qV 7 [(0, .ref (Γ.2.2.2.1 0)), (1, .int a1)] [] X (f_compiles_7 n a1 X) := by
  unfold f_compiles_7
  refine lp_ind (P := fun (r7 : Int32 → St → Option (Int32 × St)) => ∀ (a1 : Int32) (X : St), T YR Γ cX11_compiles 2 "BlameCourtModel" none R_compiles As qV 7 [(0, .ref (Γ.2.2.2.1 0)), (1, .int a1)] [] X (r7 a1 X)) (fun _ _ => T.no) ?_ n
  intro r7 hr7 a1 X
  unfold f_compiles_7_s
  refine T.iload_n dX11_compiles_7 rfl 1 rfl ?_
  refine T.aload_n dX11_compiles_8 rfl 0 rfl ?_
  refine gR18 k1394 dX11_compiles_9 (fun x2 => ?_)
  refine T.icmp_ge (pc1 := 116) dX11_compiles_12 (by decide) rfl ?_ ?_
  · exact T.ret_v rfl dX11_compiles_116
  · refine T.aload_n dX11_compiles_15 rfl 0 rfl ?_
    refine cR91 k1436 dX11_compiles_16 ?_
    refine T.iload_n dX11_compiles_19 rfl 1 rfl ?_
    refine T.aload_n dX11_compiles_20 rfl 0 rfl ?_
    refine gR26 k1431 dX11_compiles_21 (fun x3 => ?_)
    refine asR44 dX11_compiles_24 (fun X4 => ?_)
    refine T.aload_n dX11_compiles_25 rfl 0 rfl ?_
    refine T.iconst (w := 0) dX11_compiles_26 (by decide) ?_
    refine pR27 k1440 dX11_compiles_27 (fun X5 => ?_)
    refine T.aload_n dX11_compiles_30 rfl 0 rfl ?_
    refine T.bipush (w := 31) dX11_compiles_31 (by decide) ?_
    refine T.iload_n dX11_compiles_33 rfl 1 rfl ?_
    refine T.iconst (w := 0) dX11_compiles_34 (by decide) ?_
    refine T.callV_v 0 (As1 := [.int 31, .int a1, .int 0]) (rest := []) (c_task Γ (31 : Int32) a1 (0 : Int32) X5) ka_X11_task kv_X11_task oR rfl k1976 rfl rfl rfl rfl ⟨Nat.le_of_ble_eq_true rfl, Nat.le_of_ble_eq_true rfl⟩ (Nat.le_of_ble_eq_true rfl) dX11_compiles_35 (fun _ X6 => ?_)
    refine T.aload_n dX11_compiles_38 rfl 0 rfl ?_
    refine T.bipush (w := 30) dX11_compiles_39 (by decide) ?_
    refine T.iload_n dX11_compiles_41 rfl 1 rfl ?_
    refine T.iconst (w := 0) dX11_compiles_42 (by decide) ?_
    refine T.callV_v 0 (As1 := [.int 30, .int a1, .int 0]) (rest := []) (c_task Γ (30 : Int32) a1 (0 : Int32) X6) ka_X11_task kv_X11_task oR rfl k1976 rfl rfl rfl rfl ⟨Nat.le_of_ble_eq_true rfl, Nat.le_of_ble_eq_true rfl⟩ (Nat.le_of_ble_eq_true rfl) dX11_compiles_43 (fun _ X7 => ?_)
    refine T.aload_n dX11_compiles_46 rfl 0 rfl ?_
    refine T.bipush (w := 40) dX11_compiles_47 (by decide) ?_
    refine T.aload_n dX11_compiles_49 rfl 0 rfl ?_
    refine cR65 k1402 dX11_compiles_50 ?_
    refine T.iload_n dX11_compiles_53 rfl 1 rfl ?_
    refine alR18 dX11_compiles_54 (fun x8 => ?_)
    refine T.iconst (w := 0) dX11_compiles_55 (by decide) ?_
    refine T.callV_v 0 (As1 := [.int 40, .int x8, .int 0]) (rest := []) (c_task Γ (40 : Int32) x8 (0 : Int32) X7) ka_X11_task kv_X11_task oR rfl k1976 rfl rfl rfl rfl ⟨Nat.le_of_ble_eq_true rfl, Nat.le_of_ble_eq_true rfl⟩ (Nat.le_of_ble_eq_true rfl) dX11_compiles_56 (fun _ X9 => ?_)
    exact c_compiles_59 Γ _ r7 hr7 BIG a1 X9
noncomputable def f_compiles (X : St) : Option (Int32 × St) :=
  letV (wI X 0 26 ((0 : Int32))) fun X1 =>
  f_compiles_7 BIG (0 : Int32) X1
set_option maxHeartbeats 4000000 in
set_option maxRecDepth 100000 in
theorem c_compiles (Γ : Gx) (X : St) : TMV YR Γ yX11_compiles cX11_compiles 2 "BlameCourtModel" none R_compiles [.ref (Γ.2.2.2.1 0)] X (f_compiles X) := by
  refine TMV.of (by decide) (Nat.le_of_ble_eq_true rfl) rfl ?_
  show T YR Γ cX11_compiles 2 "BlameCourtModel" none R_compiles _ qV 0 [(0, .ref (Γ.2.2.2.1 0))] [] X (f_compiles X)
  unfold f_compiles
  refine T.aload_n dX11_compiles_0 rfl 0 rfl ?_
  refine T.iconst (w := 0) dX11_compiles_1 (by decide) ?_
  refine pR26 k1431 dX11_compiles_2 (fun X1 => ?_)
  refine T.iconst (w := 0) dX11_compiles_5 (by decide) ?_
  refine T.istore_n (lv1 := [(1, .int 0), (0, .ref (Γ.2.2.2.1 0))]) dX11_compiles_6 rfl (by decide) rfl ?_
  refine T.sub [1, 0] rfl ?_
  exact c_compiles_7 Γ _ BIG (0 : Int32) X1
abbrev R_ownKindOf : Room := { frames := 6, cells := 0, slots := 0, locals := 90 }
noncomputable def f_ownKindOf (p1 : Int32) (X : St) : Option (Int32 × St) :=
  chk (inR p1 41) (letV (X.1 19 (ix p1)) fun x1 =>
  if x1.toInt = 0 then
    some (2, X)
  else
    chk (inR p1 41) (letV (X.1 17 (ix p1)) fun x2 =>
    some (x2, X)))
set_option maxHeartbeats 4000000 in
set_option maxRecDepth 100000 in
theorem c_ownKindOf (Γ : Gx) (p1 : Int32) (X : St) : TMI YR Γ yX11_ownKindOf cX11_ownKindOf 2 "BlameCourtModel" (some .int) R_ownKindOf [.ref (Γ.2.2.2.1 0), .int p1] X (f_ownKindOf p1 X) := by
  refine TMI.of (by decide) (Nat.le_of_ble_eq_true rfl) rfl ?_
  show T YR Γ cX11_ownKindOf 2 "BlameCourtModel" (some .int) R_ownKindOf _ qI 0 [(0, .ref (Γ.2.2.2.1 0)), (1, .int p1)] [] X (f_ownKindOf p1 X)
  unfold f_ownKindOf
  refine T.aload_n dX11_ownKindOf_0 rfl 0 rfl ?_
  refine cR66 k1403 dX11_ownKindOf_1 ?_
  refine T.iload_n dX11_ownKindOf_4 rfl 1 rfl ?_
  refine alR19 dX11_ownKindOf_5 (fun x1 => ?_)
  refine T.if_eq (pc1 := 18) dX11_ownKindOf_6 (by decide) ?_ ?_
  · refine T.iconst (w := 2) dX11_ownKindOf_18 (by decide) ?_
    exact T.ret_i rfl dX11_ownKindOf_19
  · refine T.aload_n dX11_ownKindOf_9 rfl 0 rfl ?_
    refine cR64 k1401 dX11_ownKindOf_10 ?_
    refine T.iload_n dX11_ownKindOf_13 rfl 1 rfl ?_
    refine alR17 dX11_ownKindOf_14 (fun x2 => ?_)
    refine T.goto (pc1 := 19) dX11_ownKindOf_15 (by decide) ?_
    exact T.ret_i rfl dX11_ownKindOf_19
abbrev R_paramKindOf : Room := { frames := 6, cells := 0, slots := 0, locals := 90 }
noncomputable def f_paramKindOf (p1 : Int32) (p2 : Int32) (X : St) : Option (Int32 × St) :=
  chk (inR p1 41) (letV (X.1 19 (ix p1)) fun x1 =>
  if x1.toInt = 0 then
    some (2, X)
  else
    letV ((4 : Int32) * p1) fun x2 =>
    letV (x2 + p2) fun x3 =>
    chk (inR x3 164) (letV (X.1 16 (ix x3)) fun x4 =>
    some (x4, X)))
set_option maxHeartbeats 4000000 in
set_option maxRecDepth 100000 in
theorem c_paramKindOf (Γ : Gx) (p1 : Int32) (p2 : Int32) (X : St) : TMI YR Γ yX11_paramKindOf cX11_paramKindOf 3 "BlameCourtModel" (some .int) R_paramKindOf [.ref (Γ.2.2.2.1 0), .int p1, .int p2] X (f_paramKindOf p1 p2 X) := by
  refine TMI.of (by decide) (Nat.le_of_ble_eq_true rfl) rfl ?_
  show T YR Γ cX11_paramKindOf 3 "BlameCourtModel" (some .int) R_paramKindOf _ qI 0 [(0, .ref (Γ.2.2.2.1 0)), (1, .int p1), (2, .int p2)] [] X (f_paramKindOf p1 p2 X)
  unfold f_paramKindOf
  refine T.aload_n dX11_paramKindOf_0 rfl 0 rfl ?_
  refine cR66 k1403 dX11_paramKindOf_1 ?_
  refine T.iload_n dX11_paramKindOf_4 rfl 1 rfl ?_
  refine alR19 dX11_paramKindOf_5 (fun x1 => ?_)
  refine T.if_eq (pc1 := 22) dX11_paramKindOf_6 (by decide) ?_ ?_
  · refine T.iconst (w := 2) dX11_paramKindOf_22 (by decide) ?_
    exact T.ret_i rfl dX11_paramKindOf_23
  · refine T.aload_n dX11_paramKindOf_9 rfl 0 rfl ?_
    refine cR63 k1400 dX11_paramKindOf_10 ?_
    refine T.iconst (w := 4) dX11_paramKindOf_13 (by decide) ?_
    refine T.iload_n dX11_paramKindOf_14 rfl 1 rfl ?_
    refine T.imul dX11_paramKindOf_15 (fun x2 => ?_)
    refine T.iload_n dX11_paramKindOf_16 rfl 2 rfl ?_
    refine T.iadd dX11_paramKindOf_17 (fun x3 => ?_)
    refine alR16 dX11_paramKindOf_18 (fun x4 => ?_)
    refine T.goto (pc1 := 23) dX11_paramKindOf_19 (by decide) ?_
    exact T.ret_i rfl dX11_paramKindOf_23
abbrev R_push : Room := { frames := 6, cells := 0, slots := 0, locals := 90 }
noncomputable def f_push_54 (b0 : Int32) (b1 : Int32) (X : St) : Option (Int32 × St) :=
  chk (inR b1 41) (letV (wI X 57 (ix b1) (vp_nar .boolean b0)) fun X9 =>
  some (0, X9))
set_option maxHeartbeats 4000000 in
set_option maxRecDepth 100000 in
theorem c_push_54 (Γ : Gx) (As : List Value) (b0 : Int32) (b1 : Int32) (X : St) : T YR Γ cX11_push 2 "BlameCourtModel" none R_push As qV 54 [] [.int b0, .int b1, .ref (Γ.2.2.2.1 57)] X (f_push_54 b0 b1 X) := by
  unfold f_push_54
  refine asR57 dX11_push_54 (fun X9 => ?_)
  exact T.ret_v rfl dX11_push_55
noncomputable def f_push_49 (b0 : Int32) (X : St) : Option (Int32 × St) :=
  f_push_54 (1 : Int32) b0 X
set_option maxHeartbeats 4000000 in
set_option maxRecDepth 100000 in
theorem c_push_49 (Γ : Gx) (As : List Value) (b0 : Int32) (X : St) : T YR Γ cX11_push 2 "BlameCourtModel" none R_push As qV 49 [] [.int b0, .ref (Γ.2.2.2.1 57)] X (f_push_49 b0 X) := by
  unfold f_push_49
  refine T.iconst (w := 1) dX11_push_49 (by decide) ?_
  refine T.goto (pc1 := 54) dX11_push_50 (by decide) ?_
  exact c_push_54 Γ _ (1 : Int32) b0 X
noncomputable def f_push (p1 : Int32) (X : St) : Option (Int32 × St) :=
  letV (X.1 0 30) fun x1 =>
  chk (inR x1 3200) (letV (wI X 58 (ix x1) p1) fun X2 =>
  letV (X2.1 0 30) fun x3 =>
  letV (x3 + (1 : Int32)) fun x4 =>
  letV (wI X2 0 30 x4) fun X5 =>
  letV (X5.1 0 29) fun x6 =>
  letV (X5.1 0 29) fun x7 =>
  chk (inR x7 41) (letV (X5.1 57 (ix x7)) fun x8 =>
  if x8.toInt = 0 then
    chk (inR p1 6000) (letV (X5.1 8 (ix p1)) fun x10 =>
    if x10.toInt = 0 then
      f_push_54 (0 : Int32) x6 X5
    else
      f_push_49 x6 X5)
  else
    f_push_49 x6 X5))
set_option maxHeartbeats 4000000 in
set_option maxRecDepth 100000 in
theorem c_push (Γ : Gx) (p1 : Int32) (X : St) : TMV YR Γ yX11_push cX11_push 2 "BlameCourtModel" none R_push [.ref (Γ.2.2.2.1 0), .int p1] X (f_push p1 X) := by
  refine TMV.of (by decide) (Nat.le_of_ble_eq_true rfl) rfl ?_
  show T YR Γ cX11_push 2 "BlameCourtModel" none R_push _ qV 0 [(0, .ref (Γ.2.2.2.1 0)), (1, .int p1)] [] X (f_push p1 X)
  unfold f_push
  refine T.aload_n dX11_push_0 rfl 0 rfl ?_
  refine cR105 k1454 dX11_push_1 ?_
  refine T.aload_n dX11_push_4 rfl 0 rfl ?_
  refine gR30 k1453 dX11_push_5 (fun x1 => ?_)
  refine T.iload_n dX11_push_8 rfl 1 rfl ?_
  refine asR58 dX11_push_9 (fun X2 => ?_)
  refine T.aload_n dX11_push_10 rfl 0 rfl ?_
  refine T.dupr dX11_push_11 ?_
  refine gR30 k1453 dX11_push_12 (fun x3 => ?_)
  refine T.iconst (w := 1) dX11_push_15 (by decide) ?_
  refine T.iadd dX11_push_16 (fun x4 => ?_)
  refine pR30 k1453 dX11_push_17 (fun X5 => ?_)
  refine T.aload_n dX11_push_20 rfl 0 rfl ?_
  refine cR104 k1451 dX11_push_21 ?_
  refine T.aload_n dX11_push_24 rfl 0 rfl ?_
  refine gR29 k1452 dX11_push_25 (fun x6 => ?_)
  refine T.aload_n dX11_push_28 rfl 0 rfl ?_
  refine cR104 k1451 dX11_push_29 ?_
  refine T.aload_n dX11_push_32 rfl 0 rfl ?_
  refine gR29 k1452 dX11_push_33 (fun x7 => ?_)
  refine alR57 dX11_push_36 (fun x8 => ?_)
  refine T.if_ne (pc1 := 49) dX11_push_37 (by decide) ?_ ?_
  · refine T.sub [] rfl ?_
    exact c_push_49 Γ _ x6 X5
  · refine T.aload_n dX11_push_40 rfl 0 rfl ?_
    refine cR55 k1388 dX11_push_41 ?_
    refine T.iload_n dX11_push_44 rfl 1 rfl ?_
    refine alR8 dX11_push_45 (fun x10 => ?_)
    refine T.if_eq (pc1 := 53) dX11_push_46 (by decide) ?_ ?_
    · refine T.iconst (w := 0) dX11_push_53 (by decide) ?_
      refine T.sub [] rfl ?_
      exact c_push_54 Γ _ (0 : Int32) x6 X5
    · refine T.sub [] rfl ?_
      exact c_push_49 Γ _ x6 X5
abbrev R_functionOf : Room := { frames := 10, cells := 0, slots := 0, locals := 150 }
noncomputable def f_functionOf_2_s (r2 : Int32 → Int32 → St → Option (Int32 × St)) (a1 : Int32) (a2 : Int32) (X : St) : Option (Int32 × St) :=
  chk (inR a1 41) (letV (X.1 15 (ix a1)) fun x1 =>
  if x1.toInt ≤ a2.toInt then
    chk (inR a1 41) (letV (X.1 15 (ix a1)) fun x2 =>
    letV ((3000 : Int32) + x2) fun x3 =>
    bnd (f_ownKindOf a1 X) fun x4 X5 =>
    chk (inR x3 3100) (letV (wI X5 10 (ix x3) x4) fun X6 =>
    chk (inR a1 41) (letV (X6.1 15 (ix a1)) fun x7 =>
    letV (x7 + (1 : Int32)) fun x8 =>
    bnd (f_kindOf (5 : Int32) (3000 : Int32) x8 X6) fun x9 X10 =>
    some (x9, X10))))
  else
    letV ((3000 : Int32) + a2) fun x11 =>
    bnd (f_paramKindOf a1 a2 X) fun x12 X13 =>
    chk (inR x11 3100) (letV (wI X13 10 (ix x11) x12) fun X14 =>
    letV (a2 + Int32.ofInt (1)) fun x15 =>
    r2 a1 x15 X14))
noncomputable def f_functionOf_2 (n : Nat) : Int32 → Int32 → St → Option (Int32 × St) := lp (fun _ _ _ => none) (f_functionOf_2_s) n
set_option maxHeartbeats 4000000 in
set_option maxRecDepth 100000 in
theorem c_functionOf_2 (Γ : Gx) (As : List Value) (n : Nat) : ∀ (a1 : Int32) (a2 : Int32) (X : St), T YR Γ cX11_functionOf 3 "BlameCourtModel" (some .int) R_functionOf As qI 2 [(0, .ref (Γ.2.2.2.1 0)), (1, .int a1), (2, .int a2)] [] X (f_functionOf_2 n a1 a2 X) := by
  unfold f_functionOf_2
  refine lp_ind (P := fun (r2 : Int32 → Int32 → St → Option (Int32 × St)) => ∀ (a1 : Int32) (a2 : Int32) (X : St), T YR Γ cX11_functionOf 3 "BlameCourtModel" (some .int) R_functionOf As qI 2 [(0, .ref (Γ.2.2.2.1 0)), (1, .int a1), (2, .int a2)] [] X (r2 a1 a2 X)) (fun _ _ _ => T.no) ?_ n
  intro r2 hr2 a1 a2 X
  unfold f_functionOf_2_s
  refine T.iload_n dX11_functionOf_2 rfl 2 rfl ?_
  refine T.aload_n dX11_functionOf_3 rfl 0 rfl ?_
  refine cR62 k1399 dX11_functionOf_4 ?_
  refine T.iload_n dX11_functionOf_7 rfl 1 rfl ?_
  refine alR15 dX11_functionOf_8 (fun x1 => ?_)
  refine T.icmp_ge (pc1 := 34) dX11_functionOf_9 (by decide) rfl ?_ ?_
  · refine T.aload_n dX11_functionOf_34 rfl 0 rfl ?_
    refine cR57 k1392 dX11_functionOf_35 ?_
    refine T.sipush (w := 3000) dX11_functionOf_38 (by decide) ?_
    refine T.aload_n dX11_functionOf_41 rfl 0 rfl ?_
    refine cR62 k1399 dX11_functionOf_42 ?_
    refine T.iload_n dX11_functionOf_45 rfl 1 rfl ?_
    refine alR15 dX11_functionOf_46 (fun x2 => ?_)
    refine T.iadd dX11_functionOf_47 (fun x3 => ?_)
    refine T.aload_n dX11_functionOf_48 rfl 0 rfl ?_
    refine T.iload_n dX11_functionOf_49 rfl 1 rfl ?_
    refine T.callV_i 0 (As1 := [.int a1]) (rest := [.int x3, .ref (Γ.2.2.2.1 10)]) (c_ownKindOf Γ a1 X) ka_X11_ownKindOf kv_X11_ownKindOf oR rfl k2000 rfl rfl rfl rfl ⟨Nat.le_of_ble_eq_true rfl, Nat.le_of_ble_eq_true rfl⟩ (Nat.le_of_ble_eq_true rfl) dX11_functionOf_50 (fun x4 X5 => ?_)
    refine asR10 dX11_functionOf_53 (fun X6 => ?_)
    refine T.aload_n dX11_functionOf_54 rfl 0 rfl ?_
    refine T.iconst (w := 5) dX11_functionOf_55 (by decide) ?_
    refine T.sipush (w := 3000) dX11_functionOf_56 (by decide) ?_
    refine T.aload_n dX11_functionOf_59 rfl 0 rfl ?_
    refine cR62 k1399 dX11_functionOf_60 ?_
    refine T.iload_n dX11_functionOf_63 rfl 1 rfl ?_
    refine alR15 dX11_functionOf_64 (fun x7 => ?_)
    refine T.iconst (w := 1) dX11_functionOf_65 (by decide) ?_
    refine T.iadd dX11_functionOf_66 (fun x8 => ?_)
    refine T.callV_i 0 (As1 := [.int 5, .int 3000, .int x8]) (rest := []) (c_kindOf Γ (5 : Int32) (3000 : Int32) x8 X6) ka_X11_kindOf kv_X11_kindOf oR rfl k1361 rfl rfl rfl rfl ⟨Nat.le_of_ble_eq_true rfl, Nat.le_of_ble_eq_true rfl⟩ (Nat.le_of_ble_eq_true rfl) dX11_functionOf_67 (fun x9 X10 => ?_)
    exact T.ret_i rfl dX11_functionOf_70
  · refine T.aload_n dX11_functionOf_12 rfl 0 rfl ?_
    refine cR57 k1392 dX11_functionOf_13 ?_
    refine T.sipush (w := 3000) dX11_functionOf_16 (by decide) ?_
    refine T.iload_n dX11_functionOf_19 rfl 2 rfl ?_
    refine T.iadd dX11_functionOf_20 (fun x11 => ?_)
    refine T.aload_n dX11_functionOf_21 rfl 0 rfl ?_
    refine T.iload_n dX11_functionOf_22 rfl 1 rfl ?_
    refine T.iload_n dX11_functionOf_23 rfl 2 rfl ?_
    refine T.callV_i 0 (As1 := [.int a1, .int a2]) (rest := [.int x11, .ref (Γ.2.2.2.1 10)]) (c_paramKindOf Γ a1 a2 X) ka_X11_paramKindOf kv_X11_paramKindOf oR rfl k2004 rfl rfl rfl rfl ⟨Nat.le_of_ble_eq_true rfl, Nat.le_of_ble_eq_true rfl⟩ (Nat.le_of_ble_eq_true rfl) dX11_functionOf_24 (fun x12 X13 => ?_)
    refine asR10 dX11_functionOf_27 (fun X14 => ?_)
    refine T.iinc dX11_functionOf_28 2 rfl (by decide) (lvf := fun x15 => [(2, .int x15), (0, .ref (Γ.2.2.2.1 0)), (1, .int a1)]) (fun _ => rfl) (fun x15 => ?_)
    refine T.goto (pc1 := 2) dX11_functionOf_31 (by decide) ?_
    refine T.sub [1, 2, 0] rfl ?_
    exact hr2 a1 x15 X14
noncomputable def f_functionOf (p1 : Int32) (X : St) : Option (Int32 × St) :=
  f_functionOf_2 BIG p1 (0 : Int32) X
set_option maxHeartbeats 4000000 in
set_option maxRecDepth 100000 in
theorem c_functionOf (Γ : Gx) (p1 : Int32) (X : St) : TMI YR Γ yX11_functionOf cX11_functionOf 3 "BlameCourtModel" (some .int) R_functionOf [.ref (Γ.2.2.2.1 0), .int p1] X (f_functionOf p1 X) := by
  refine TMI.of (by decide) (Nat.le_of_ble_eq_true rfl) rfl ?_
  show T YR Γ cX11_functionOf 3 "BlameCourtModel" (some .int) R_functionOf _ qI 0 [(0, .ref (Γ.2.2.2.1 0)), (1, .int p1)] [] X (f_functionOf p1 X)
  unfold f_functionOf
  refine T.iconst (w := 0) dX11_functionOf_0 (by decide) ?_
  refine T.istore_n (lv1 := [(2, .int 0), (0, .ref (Γ.2.2.2.1 0)), (1, .int p1)]) dX11_functionOf_1 rfl (by decide) rfl ?_
  refine T.sub [1, 2, 0] rfl ?_
  exact c_functionOf_2 Γ _ BIG p1 (0 : Int32) X
abbrev R_guards : Room := { frames := 6, cells := 0, slots := 0, locals := 90 }
noncomputable def f_guards (p1 : Int32) (p2 : Int32) (p3 : Int32) (p4 : Int32) (p5 : Int32) (X : St) : Option (Int32 × St) :=
  if p2.toInt = p3.toInt then
    some (0, X)
  else
    letV (X.1 0 28) fun x1 =>
    chk (inR x1 12000) (letV (wI X 52 (ix x1) p4) fun X2 =>
    letV (X2.1 0 28) fun x3 =>
    chk (inR x3 12000) (letV (wI X2 53 (ix x3) p2) fun X4 =>
    letV (X4.1 0 28) fun x5 =>
    chk (inR x5 12000) (letV (wI X4 54 (ix x5) p3) fun X6 =>
    letV (X6.1 0 28) fun x7 =>
    letV (X6.1 0 29) fun x8 =>
    chk (inR x7 12000) (letV (wI X6 55 (ix x7) x8) fun X9 =>
    letV (X9.1 0 28) fun x10 =>
    chk (inR x10 12000) (letV (wI X9 56 (ix x10) p5) fun X11 =>
    letV (X11.1 0 28) fun x12 =>
    chk (inR p1 24000) (letV (wI X11 43 (ix p1) x12) fun X13 =>
    letV (X13.1 0 28) fun x14 =>
    letV (x14 + (1 : Int32)) fun x15 =>
    letV (wI X13 0 28 x15) fun X16 =>
    some (0, X16)))))))
set_option maxHeartbeats 4000000 in
set_option maxRecDepth 100000 in
theorem c_guards (Γ : Gx) (p1 : Int32) (p2 : Int32) (p3 : Int32) (p4 : Int32) (p5 : Int32) (X : St) : TMV YR Γ yX11_guards cX11_guards 6 "BlameCourtModel" none R_guards [.ref (Γ.2.2.2.1 0), .int p1, .int p2, .int p3, .int p4, .int p5] X (f_guards p1 p2 p3 p4 p5 X) := by
  refine TMV.of (by decide) (Nat.le_of_ble_eq_true rfl) rfl ?_
  show T YR Γ cX11_guards 6 "BlameCourtModel" none R_guards _ qV 0 [(0, .ref (Γ.2.2.2.1 0)), (1, .int p1), (2, .int p2), (3, .int p3), (4, .int p4), (5, .int p5)] [] X (f_guards p1 p2 p3 p4 p5 X)
  unfold f_guards
  refine T.iload_n dX11_guards_0 rfl 2 rfl ?_
  refine T.iload_n dX11_guards_1 rfl 3 rfl ?_
  refine T.icmp_ne (pc1 := 6) dX11_guards_2 (by decide) rfl ?_ ?_
  · refine T.aload_n dX11_guards_6 rfl 0 rfl ?_
    refine cR99 k1446 dX11_guards_7 ?_
    refine T.aload_n dX11_guards_10 rfl 0 rfl ?_
    refine gR28 k1445 dX11_guards_11 (fun x1 => ?_)
    refine T.iload dX11_guards_14 4 rfl ?_
    refine asR52 dX11_guards_16 (fun X2 => ?_)
    refine T.aload_n dX11_guards_17 rfl 0 rfl ?_
    refine cR100 k1447 dX11_guards_18 ?_
    refine T.aload_n dX11_guards_21 rfl 0 rfl ?_
    refine gR28 k1445 dX11_guards_22 (fun x3 => ?_)
    refine T.iload_n dX11_guards_25 rfl 2 rfl ?_
    refine asR53 dX11_guards_26 (fun X4 => ?_)
    refine T.aload_n dX11_guards_27 rfl 0 rfl ?_
    refine cR101 k1448 dX11_guards_28 ?_
    refine T.aload_n dX11_guards_31 rfl 0 rfl ?_
    refine gR28 k1445 dX11_guards_32 (fun x5 => ?_)
    refine T.iload_n dX11_guards_35 rfl 3 rfl ?_
    refine asR54 dX11_guards_36 (fun X6 => ?_)
    refine T.aload_n dX11_guards_37 rfl 0 rfl ?_
    refine cR102 k1449 dX11_guards_38 ?_
    refine T.aload_n dX11_guards_41 rfl 0 rfl ?_
    refine gR28 k1445 dX11_guards_42 (fun x7 => ?_)
    refine T.aload_n dX11_guards_45 rfl 0 rfl ?_
    refine gR29 k1452 dX11_guards_46 (fun x8 => ?_)
    refine asR55 dX11_guards_49 (fun X9 => ?_)
    refine T.aload_n dX11_guards_50 rfl 0 rfl ?_
    refine cR103 k1450 dX11_guards_51 ?_
    refine T.aload_n dX11_guards_54 rfl 0 rfl ?_
    refine gR28 k1445 dX11_guards_55 (fun x10 => ?_)
    refine T.iload dX11_guards_58 5 rfl ?_
    refine asR56 dX11_guards_60 (fun X11 => ?_)
    refine T.aload_n dX11_guards_61 rfl 0 rfl ?_
    refine cR90 k1435 dX11_guards_62 ?_
    refine T.iload_n dX11_guards_65 rfl 1 rfl ?_
    refine T.aload_n dX11_guards_66 rfl 0 rfl ?_
    refine gR28 k1445 dX11_guards_67 (fun x12 => ?_)
    refine asR43 dX11_guards_70 (fun X13 => ?_)
    refine T.aload_n dX11_guards_71 rfl 0 rfl ?_
    refine T.dupr dX11_guards_72 ?_
    refine gR28 k1445 dX11_guards_73 (fun x14 => ?_)
    refine T.iconst (w := 1) dX11_guards_76 (by decide) ?_
    refine T.iadd dX11_guards_77 (fun x15 => ?_)
    refine pR28 k1445 dX11_guards_78 (fun X16 => ?_)
    exact T.ret_v rfl dX11_guards_81
  · exact T.ret_v rfl dX11_guards_5
