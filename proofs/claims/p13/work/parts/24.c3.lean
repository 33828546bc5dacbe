theorem dX2_judgeAll_0 : decode cX2_judgeAll 0 = .ok (.aload_n 1, 1) := by decide +kernel
theorem dX2_judgeAll_1 : decode cX2_judgeAll 1 = .ok (.ifnull 7, 3) := by decide +kernel
theorem dX2_judgeAll_4 : decode cX2_judgeAll 4 = .ok (.aload_n 2, 1) := by decide +kernel
theorem dX2_judgeAll_5 : decode cX2_judgeAll 5 = .ok (.ifnonnull 4, 3) := by decide +kernel
theorem dX2_judgeAll_9 : decode cX2_judgeAll 9 = .ok (.aload_n 0, 1) := by decide +kernel
theorem dX2_judgeAll_10 : decode cX2_judgeAll 10 = .ok (.aload_n 1, 1) := by decide +kernel
theorem dX2_judgeAll_11 : decode cX2_judgeAll 11 = .ok (.putfield 15, 3) := by decide +kernel
theorem dX2_judgeAll_14 : decode cX2_judgeAll 14 = .ok (.aload_n 0, 1) := by decide +kernel
theorem dX2_judgeAll_15 : decode cX2_judgeAll 15 = .ok (.aload_n 1, 1) := by decide +kernel
theorem dX2_judgeAll_16 : decode cX2_judgeAll 16 = .ok (.getfield 62, 3) := by decide +kernel
theorem dX2_judgeAll_19 : decode cX2_judgeAll 19 = .ok (.putfield 19, 3) := by decide +kernel
theorem dX2_judgeAll_22 : decode cX2_judgeAll 22 = .ok (.aload_n 0, 1) := by decide +kernel
theorem dX2_judgeAll_23 : decode cX2_judgeAll 23 = .ok (.aload_n 2, 1) := by decide +kernel
theorem dX2_judgeAll_24 : decode cX2_judgeAll 24 = .ok (.putfield 9, 3) := by decide +kernel
theorem dX2_judgeAll_27 : decode cX2_judgeAll 27 = .ok (.aload_n 0, 1) := by decide +kernel
theorem dX2_judgeAll_28 : decode cX2_judgeAll 28 = .ok (.getfield 19, 3) := by decide +kernel
theorem dX2_judgeAll_31 : decode cX2_judgeAll 31 = .ok (.aload_n 0, 1) := by decide +kernel
theorem dX2_judgeAll_32 : decode cX2_judgeAll 32 = .ok (.getfield 15, 3) := by decide +kernel
theorem dX2_judgeAll_35 : decode cX2_judgeAll 35 = .ok (.getfield 65, 3) := by decide +kernel
theorem dX2_judgeAll_38 : decode cX2_judgeAll 38 = .ok (.invokevirtual 68, 3) := by decide +kernel
theorem dX2_judgeAll_41 : decode cX2_judgeAll 41 = .ok (.aload_n 0, 1) := by decide +kernel
theorem dX2_judgeAll_42 : decode cX2_judgeAll 42 = .ok (.getfield 9, 3) := by decide +kernel
theorem dX2_judgeAll_45 : decode cX2_judgeAll 45 = .ok (.iconst 0, 1) := by decide +kernel
theorem dX2_judgeAll_46 : decode cX2_judgeAll 46 = .ok (.putfield 74, 3) := by decide +kernel
theorem dX2_judgeAll_49 : decode cX2_judgeAll 49 = .ok (.aload_n 0, 1) := by decide +kernel
theorem dX2_judgeAll_50 : decode cX2_judgeAll 50 = .ok (.iconst 0, 1) := by decide +kernel
theorem dX2_judgeAll_51 : decode cX2_judgeAll 51 = .ok (.putfield 27, 3) := by decide +kernel
theorem dX2_judgeAll_54 : decode cX2_judgeAll 54 = .ok (.aload_n 0, 1) := by decide +kernel
theorem dX2_judgeAll_55 : decode cX2_judgeAll 55 = .ok (.iconst (-1), 1) := by decide +kernel
theorem dX2_judgeAll_56 : decode cX2_judgeAll 56 = .ok (.putfield 30, 3) := by decide +kernel
theorem dX2_judgeAll_59 : decode cX2_judgeAll 59 = .ok (.iconst 0, 1) := by decide +kernel
theorem dX2_judgeAll_60 : decode cX2_judgeAll 60 = .ok (.istore_n 3, 1) := by decide +kernel
theorem dX2_judgeAll_61 : decode cX2_judgeAll 61 = .ok (.iload_n 3, 1) := by decide +kernel
theorem dX2_judgeAll_62 : decode cX2_judgeAll 62 = .ok (.aload_n 0, 1) := by decide +kernel
theorem dX2_judgeAll_63 : decode cX2_judgeAll 63 = .ok (.getfield 15, 3) := by decide +kernel
theorem dX2_judgeAll_66 : decode cX2_judgeAll 66 = .ok (.getfield 79, 3) := by decide +kernel
theorem dX2_judgeAll_69 : decode cX2_judgeAll 69 = .ok (.if_icmp .ge 14, 3) := by decide +kernel
theorem dX2_judgeAll_72 : decode cX2_judgeAll 72 = .ok (.aload_n 0, 1) := by decide +kernel
theorem dX2_judgeAll_73 : decode cX2_judgeAll 73 = .ok (.iload_n 3, 1) := by decide +kernel
theorem dX2_judgeAll_74 : decode cX2_judgeAll 74 = .ok (.invokevirtual 82, 3) := by decide +kernel
theorem dX2_judgeAll_77 : decode cX2_judgeAll 77 = .ok (.iinc 3 1, 3) := by decide +kernel
theorem dX2_judgeAll_80 : decode cX2_judgeAll 80 = .ok (.goto (-19), 3) := by decide +kernel
theorem dX2_judgeAll_83 : decode cX2_judgeAll 83 = .ok (.iconst 0, 1) := by decide +kernel
theorem dX2_judgeAll_84 : decode cX2_judgeAll 84 = .ok (.istore_n 3, 1) := by decide +kernel
theorem dX2_judgeAll_85 : decode cX2_judgeAll 85 = .ok (.iload_n 3, 1) := by decide +kernel
theorem dX2_judgeAll_86 : decode cX2_judgeAll 86 = .ok (.aload_n 0, 1) := by decide +kernel
theorem dX2_judgeAll_87 : decode cX2_judgeAll 87 = .ok (.getfield 15, 3) := by decide +kernel
theorem dX2_judgeAll_90 : decode cX2_judgeAll 90 = .ok (.getfield 79, 3) := by decide +kernel
theorem dX2_judgeAll_93 : decode cX2_judgeAll 93 = .ok (.if_icmp .ge 21, 3) := by decide +kernel
theorem dX2_judgeAll_96 : decode cX2_judgeAll 96 = .ok (.aload_n 0, 1) := by decide +kernel
theorem dX2_judgeAll_97 : decode cX2_judgeAll 97 = .ok (.getfield 27, 3) := by decide +kernel
theorem dX2_judgeAll_100 : decode cX2_judgeAll 100 = .ok (.ifCond .ne 14, 3) := by decide +kernel
theorem dX2_judgeAll_103 : decode cX2_judgeAll 103 = .ok (.aload_n 0, 1) := by decide +kernel
theorem dX2_judgeAll_104 : decode cX2_judgeAll 104 = .ok (.iload_n 3, 1) := by decide +kernel
theorem dX2_judgeAll_105 : decode cX2_judgeAll 105 = .ok (.invokevirtual 85, 3) := by decide +kernel
theorem dX2_judgeAll_108 : decode cX2_judgeAll 108 = .ok (.iinc 3 1, 3) := by decide +kernel
theorem dX2_judgeAll_111 : decode cX2_judgeAll 111 = .ok (.goto (-26), 3) := by decide +kernel
theorem dX2_judgeAll_114 : decode cX2_judgeAll 114 = .ok (.return_, 1) := by decide +kernel
theorem dX2_judgePart_0 : decode cX2_judgePart 0 = .ok (.aload_n 0, 1) := by decide +kernel
theorem dX2_judgePart_1 : decode cX2_judgePart 1 = .ok (.iload_n 1, 1) := by decide +kernel
theorem dX2_judgePart_2 : decode cX2_judgePart 2 = .ok (.putfield 23, 3) := by decide +kernel
theorem dX2_judgePart_5 : decode cX2_judgePart 5 = .ok (.aload_n 0, 1) := by decide +kernel
theorem dX2_judgePart_6 : decode cX2_judgePart 6 = .ok (.iconst 0, 1) := by decide +kernel
theorem dX2_judgePart_7 : decode cX2_judgePart 7 = .ok (.putfield 59, 3) := by decide +kernel
theorem dX2_judgePart_10 : decode cX2_judgePart 10 = .ok (.iconst 0, 1) := by decide +kernel
theorem dX2_judgePart_11 : decode cX2_judgePart 11 = .ok (.istore_n 2, 1) := by decide +kernel
theorem dX2_judgePart_12 : decode cX2_judgePart 12 = .ok (.iload_n 2, 1) := by decide +kernel
theorem dX2_judgePart_13 : decode cX2_judgePart 13 = .ok (.aload_n 0, 1) := by decide +kernel
theorem dX2_judgePart_14 : decode cX2_judgePart 14 = .ok (.getfield 15, 3) := by decide +kernel
theorem dX2_judgePart_17 : decode cX2_judgePart 17 = .ok (.getfield 88, 3) := by decide +kernel
theorem dX2_judgePart_20 : decode cX2_judgePart 20 = .ok (.iload_n 1, 1) := by decide +kernel
theorem dX2_judgePart_21 : decode cX2_judgePart 21 = .ok (.iaload, 1) := by decide +kernel
theorem dX2_judgePart_22 : decode cX2_judgePart 22 = .ok (.if_icmp .ge 25, 3) := by decide +kernel
theorem dX2_judgePart_25 : decode cX2_judgePart 25 = .ok (.aload_n 0, 1) := by decide +kernel
theorem dX2_judgePart_26 : decode cX2_judgePart 26 = .ok (.getfield 47, 3) := by decide +kernel
theorem dX2_judgePart_29 : decode cX2_judgePart 29 = .ok (.iload_n 2, 1) := by decide +kernel
theorem dX2_judgePart_30 : decode cX2_judgePart 30 = .ok (.aload_n 0, 1) := by decide +kernel
theorem dX2_judgePart_31 : decode cX2_judgePart 31 = .ok (.getfield 37, 3) := by decide +kernel
theorem dX2_judgePart_34 : decode cX2_judgePart 34 = .ok (.iload_n 1, 1) := by decide +kernel
theorem dX2_judgePart_35 : decode cX2_judgePart 35 = .ok (.iconst 4, 1) := by decide +kernel
theorem dX2_judgePart_36 : decode cX2_judgePart 36 = .ok (.imul, 1) := by decide +kernel
theorem dX2_judgePart_37 : decode cX2_judgePart 37 = .ok (.iload_n 2, 1) := by decide +kernel
theorem dX2_judgePart_38 : decode cX2_judgePart 38 = .ok (.iadd, 1) := by decide +kernel
theorem dX2_judgePart_39 : decode cX2_judgePart 39 = .ok (.iaload, 1) := by decide +kernel
theorem dX2_judgePart_40 : decode cX2_judgePart 40 = .ok (.iastore, 1) := by decide +kernel
theorem dX2_judgePart_41 : decode cX2_judgePart 41 = .ok (.iinc 2 1, 3) := by decide +kernel
theorem dX2_judgePart_44 : decode cX2_judgePart 44 = .ok (.goto (-32), 3) := by decide +kernel
theorem dX2_judgePart_47 : decode cX2_judgePart 47 = .ok (.aload_n 0, 1) := by decide +kernel
theorem dX2_judgePart_48 : decode cX2_judgePart 48 = .ok (.getfield 15, 3) := by decide +kernel
theorem dX2_judgePart_51 : decode cX2_judgePart 51 = .ok (.getfield 108, 3) := by decide +kernel
theorem dX2_judgePart_54 : decode cX2_judgePart 54 = .ok (.iload_n 1, 1) := by decide +kernel
theorem dX2_judgePart_55 : decode cX2_judgePart 55 = .ok (.iaload, 1) := by decide +kernel
theorem dX2_judgePart_56 : decode cX2_judgePart 56 = .ok (.istore_n 2, 1) := by decide +kernel
theorem dX2_judgePart_57 : decode cX2_judgePart 57 = .ok (.iload_n 2, 1) := by decide +kernel
theorem dX2_judgePart_58 : decode cX2_judgePart 58 = .ok (.aload_n 0, 1) := by decide +kernel
theorem dX2_judgePart_59 : decode cX2_judgePart 59 = .ok (.getfield 15, 3) := by decide +kernel
theorem dX2_judgePart_62 : decode cX2_judgePart 62 = .ok (.getfield 108, 3) := by decide +kernel
theorem dX2_judgePart_65 : decode cX2_judgePart 65 = .ok (.iload_n 1, 1) := by decide +kernel
theorem dX2_judgePart_66 : decode cX2_judgePart 66 = .ok (.iconst 1, 1) := by decide +kernel
theorem dX2_judgePart_67 : decode cX2_judgePart 67 = .ok (.iadd, 1) := by decide +kernel
theorem dX2_judgePart_68 : decode cX2_judgePart 68 = .ok (.iaload, 1) := by decide +kernel
theorem dX2_judgePart_69 : decode cX2_judgePart 69 = .ok (.if_icmp .ge 109, 3) := by decide +kernel
theorem dX2_judgePart_72 : decode cX2_judgePart 72 = .ok (.aload_n 0, 1) := by decide +kernel
theorem dX2_judgePart_73 : decode cX2_judgePart 73 = .ok (.getfield 27, 3) := by decide +kernel
theorem dX2_judgePart_76 : decode cX2_judgePart 76 = .ok (.ifCond .ne 102, 3) := by decide +kernel
theorem dX2_judgePart_79 : decode cX2_judgePart 79 = .ok (.aload_n 0, 1) := by decide +kernel
theorem dX2_judgePart_80 : decode cX2_judgePart 80 = .ok (.getfield 15, 3) := by decide +kernel
theorem dX2_judgePart_83 : decode cX2_judgePart 83 = .ok (.getfield 111, 3) := by decide +kernel
theorem dX2_judgePart_86 : decode cX2_judgePart 86 = .ok (.iload_n 2, 1) := by decide +kernel
theorem dX2_judgePart_87 : decode cX2_judgePart 87 = .ok (.iaload, 1) := by decide +kernel
theorem dX2_judgePart_88 : decode cX2_judgePart 88 = .ok (.bipush 27, 2) := by decide +kernel
theorem dX2_judgePart_90 : decode cX2_judgePart 90 = .ok (.if_icmp .lt 21, 3) := by decide +kernel
theorem dX2_judgePart_93 : decode cX2_judgePart 93 = .ok (.aload_n 0, 1) := by decide +kernel
theorem dX2_judgePart_94 : decode cX2_judgePart 94 = .ok (.getfield 15, 3) := by decide +kernel
theorem dX2_judgePart_97 : decode cX2_judgePart 97 = .ok (.getfield 116, 3) := by decide +kernel
theorem dX2_judgePart_100 : decode cX2_judgePart 100 = .ok (.iload_n 2, 1) := by decide +kernel
theorem dX2_judgePart_101 : decode cX2_judgePart 101 = .ok (.iconst (-1), 1) := by decide +kernel
theorem dX2_judgePart_102 : decode cX2_judgePart 102 = .ok (.iastore, 1) := by decide +kernel
theorem dX2_judgePart_103 : decode cX2_judgePart 103 = .ok (.aload_n 0, 1) := by decide +kernel
theorem dX2_judgePart_104 : decode cX2_judgePart 104 = .ok (.iload_n 2, 1) := by decide +kernel
theorem dX2_judgePart_105 : decode cX2_judgePart 105 = .ok (.invokevirtual 119, 3) := by decide +kernel
theorem dX2_judgePart_108 : decode cX2_judgePart 108 = .ok (.goto 64, 3) := by decide +kernel
theorem dX2_judgePart_111 : decode cX2_judgePart 111 = .ok (.aload_n 0, 1) := by decide +kernel
theorem dX2_judgePart_112 : decode cX2_judgePart 112 = .ok (.getfield 15, 3) := by decide +kernel
theorem dX2_judgePart_115 : decode cX2_judgePart 115 = .ok (.getfield 111, 3) := by decide +kernel
theorem dX2_judgePart_118 : decode cX2_judgePart 118 = .ok (.iload_n 2, 1) := by decide +kernel
theorem dX2_judgePart_119 : decode cX2_judgePart 119 = .ok (.iaload, 1) := by decide +kernel
theorem dX2_judgePart_120 : decode cX2_judgePart 120 = .ok (.bipush 11, 2) := by decide +kernel
theorem dX2_judgePart_122 : decode cX2_judgePart 122 = .ok (.if_icmp .lt 28, 3) := by decide +kernel
theorem dX2_judgePart_125 : decode cX2_judgePart 125 = .ok (.aload_n 0, 1) := by decide +kernel
theorem dX2_judgePart_126 : decode cX2_judgePart 126 = .ok (.aload_n 0, 1) := by decide +kernel
theorem dX2_judgePart_127 : decode cX2_judgePart 127 = .ok (.getfield 15, 3) := by decide +kernel
theorem dX2_judgePart_130 : decode cX2_judgePart 130 = .ok (.getfield 111, 3) := by decide +kernel
theorem dX2_judgePart_133 : decode cX2_judgePart 133 = .ok (.iload_n 2, 1) := by decide +kernel
theorem dX2_judgePart_134 : decode cX2_judgePart 134 = .ok (.iaload, 1) := by decide +kernel
theorem dX2_judgePart_135 : decode cX2_judgePart 135 = .ok (.aload_n 0, 1) := by decide +kernel
theorem dX2_judgePart_136 : decode cX2_judgePart 136 = .ok (.getfield 15, 3) := by decide +kernel
theorem dX2_judgePart_139 : decode cX2_judgePart 139 = .ok (.getfield 122, 3) := by decide +kernel
theorem dX2_judgePart_142 : decode cX2_judgePart 142 = .ok (.iload_n 2, 1) := by decide +kernel
theorem dX2_judgePart_143 : decode cX2_judgePart 143 = .ok (.iaload, 1) := by decide +kernel
theorem dX2_judgePart_144 : decode cX2_judgePart 144 = .ok (.invokevirtual 125, 3) := by decide +kernel
theorem dX2_judgePart_147 : decode cX2_judgePart 147 = .ok (.goto 25, 3) := by decide +kernel
theorem dX2_judgePart_150 : decode cX2_judgePart 150 = .ok (.aload_n 0, 1) := by decide +kernel
theorem dX2_judgePart_151 : decode cX2_judgePart 151 = .ok (.aload_n 0, 1) := by decide +kernel
theorem dX2_judgePart_152 : decode cX2_judgePart 152 = .ok (.getfield 15, 3) := by decide +kernel
theorem dX2_judgePart_155 : decode cX2_judgePart 155 = .ok (.getfield 111, 3) := by decide +kernel
theorem dX2_judgePart_158 : decode cX2_judgePart 158 = .ok (.iload_n 2, 1) := by decide +kernel
theorem dX2_judgePart_159 : decode cX2_judgePart 159 = .ok (.iaload, 1) := by decide +kernel
theorem dX2_judgePart_160 : decode cX2_judgePart 160 = .ok (.aload_n 0, 1) := by decide +kernel
theorem dX2_judgePart_161 : decode cX2_judgePart 161 = .ok (.getfield 15, 3) := by decide +kernel
theorem dX2_judgePart_164 : decode cX2_judgePart 164 = .ok (.getfield 122, 3) := by decide +kernel
theorem dX2_judgePart_167 : decode cX2_judgePart 167 = .ok (.iload_n 2, 1) := by decide +kernel
theorem dX2_judgePart_168 : decode cX2_judgePart 168 = .ok (.iaload, 1) := by decide +kernel
theorem dX2_judgePart_169 : decode cX2_judgePart 169 = .ok (.invokevirtual 129, 3) := by decide +kernel
theorem dX2_judgePart_172 : decode cX2_judgePart 172 = .ok (.iinc 2 1, 3) := by decide +kernel
theorem dX2_judgePart_175 : decode cX2_judgePart 175 = .ok (.goto (-118), 3) := by decide +kernel
theorem dX2_judgePart_178 : decode cX2_judgePart 178 = .ok (.return_, 1) := by decide +kernel
theorem dX3_forgetTexts_0 : decode cX3_forgetTexts 0 = .ok (.aload_n 0, 1) := by decide +kernel
theorem dX3_forgetTexts_1 : decode cX3_forgetTexts 1 = .ok (.bipush 9, 2) := by decide +kernel
theorem dX3_forgetTexts_3 : decode cX3_forgetTexts 3 = .ok (.invokevirtual 56, 3) := by decide +kernel
theorem dX3_forgetTexts_6 : decode cX3_forgetTexts 6 = .ok (.return_, 1) := by decide +kernel
theorem dX3_withAnys_0 : decode cX3_withAnys 0 = .ok (.aload_n 0, 1) := by decide +kernel
theorem dX3_withAnys_1 : decode cX3_withAnys 1 = .ok (.iload_n 1, 1) := by decide +kernel
theorem dX3_withAnys_2 : decode cX3_withAnys 2 = .ok (.invokevirtual 73, 3) := by decide +kernel
theorem dX3_withAnys_5 : decode cX3_withAnys 5 = .ok (.iconst 3, 1) := by decide +kernel
theorem dX3_withAnys_6 : decode cX3_withAnys 6 = .ok (.if_icmp .ne 5, 3) := by decide +kernel
theorem dX3_withAnys_9 : decode cX3_withAnys 9 = .ok (.iconst 3, 1) := by decide +kernel
theorem dX3_withAnys_10 : decode cX3_withAnys 10 = .ok (.ireturn, 1) := by decide +kernel
theorem dX3_withAnys_11 : decode cX3_withAnys 11 = .ok (.aload_n 0, 1) := by decide +kernel
theorem dX3_withAnys_12 : decode cX3_withAnys 12 = .ok (.iload_n 1, 1) := by decide +kernel
theorem dX3_withAnys_13 : decode cX3_withAnys 13 = .ok (.invokevirtual 73, 3) := by decide +kernel
theorem dX3_withAnys_16 : decode cX3_withAnys 16 = .ok (.iconst 4, 1) := by decide +kernel
theorem dX3_withAnys_17 : decode cX3_withAnys 17 = .ok (.if_icmp .ne 13, 3) := by decide +kernel
theorem dX3_withAnys_20 : decode cX3_withAnys 20 = .ok (.iconst 4, 1) := by decide +kernel
theorem dX3_withAnys_21 : decode cX3_withAnys 21 = .ok (.aload_n 0, 1) := by decide +kernel
theorem dX3_withAnys_22 : decode cX3_withAnys 22 = .ok (.iload_n 1, 1) := by decide +kernel
theorem dX3_withAnys_23 : decode cX3_withAnys 23 = .ok (.invokevirtual 76, 3) := by decide +kernel
theorem dX3_withAnys_26 : decode cX3_withAnys 26 = .ok (.iadd, 1) := by decide +kernel
theorem dX3_withAnys_27 : decode cX3_withAnys 27 = .ok (.goto 4, 3) := by decide +kernel
theorem dX3_withAnys_30 : decode cX3_withAnys 30 = .ok (.iconst 2, 1) := by decide +kernel
theorem dX3_withAnys_31 : decode cX3_withAnys 31 = .ok (.ireturn, 1) := by decide +kernel
theorem dX5_clear_0 : decode cX5_clear 0 = .ok (.aload_n 0, 1) := by decide +kernel
theorem dX5_clear_1 : decode cX5_clear 1 = .ok (.getfield 12, 3) := by decide +kernel
theorem dX5_clear_4 : decode cX5_clear 4 = .ok (.invokevirtual 70, 3) := by decide +kernel
theorem dX5_clear_7 : decode cX5_clear 7 = .ok (.aload_n 0, 1) := by decide +kernel
theorem dX5_clear_8 : decode cX5_clear 8 = .ok (.iconst 0, 1) := by decide +kernel
theorem dX5_clear_9 : decode cX5_clear 9 = .ok (.putfield 18, 3) := by decide +kernel
theorem dX5_clear_12 : decode cX5_clear 12 = .ok (.aload_n 0, 1) := by decide +kernel
theorem dX5_clear_13 : decode cX5_clear 13 = .ok (.iconst (-1), 1) := by decide +kernel
theorem dX5_clear_14 : decode cX5_clear 14 = .ok (.putfield 22, 3) := by decide +kernel
theorem dX5_clear_17 : decode cX5_clear 17 = .ok (.aload_n 0, 1) := by decide +kernel
theorem dX5_clear_18 : decode cX5_clear 18 = .ok (.iconst 0, 1) := by decide +kernel
theorem dX5_clear_19 : decode cX5_clear 19 = .ok (.putfield 67, 3) := by decide +kernel
theorem dX5_clear_22 : decode cX5_clear 22 = .ok (.iconst 0, 1) := by decide +kernel
theorem dX5_clear_23 : decode cX5_clear 23 = .ok (.istore_n 1, 1) := by decide +kernel
theorem dX5_clear_24 : decode cX5_clear 24 = .ok (.iload_n 1, 1) := by decide +kernel
theorem dX5_clear_25 : decode cX5_clear 25 = .ok (.bipush 40, 2) := by decide +kernel
theorem dX5_clear_27 : decode cX5_clear 27 = .ok (.if_icmp .ge 16, 3) := by decide +kernel
theorem dX5_clear_30 : decode cX5_clear 30 = .ok (.aload_n 0, 1) := by decide +kernel
theorem dX5_clear_31 : decode cX5_clear 31 = .ok (.getfield 45, 3) := by decide +kernel
theorem dX5_clear_34 : decode cX5_clear 34 = .ok (.iload_n 1, 1) := by decide +kernel
theorem dX5_clear_35 : decode cX5_clear 35 = .ok (.iconst 1, 1) := by decide +kernel
theorem dX5_clear_36 : decode cX5_clear 36 = .ok (.bastore, 1) := by decide +kernel
theorem dX5_clear_37 : decode cX5_clear 37 = .ok (.iinc 1 1, 3) := by decide +kernel
theorem dX5_clear_40 : decode cX5_clear 40 = .ok (.goto (-16), 3) := by decide +kernel
theorem dX5_clear_43 : decode cX5_clear 43 = .ok (.return_, 1) := by decide +kernel
theorem dX5_emit_0 : decode cX5_emit 0 = .ok (.aload_n 0, 1) := by decide +kernel
theorem dX5_emit_1 : decode cX5_emit 1 = .ok (.getfield 67, 3) := by decide +kernel
theorem dX5_emit_4 : decode cX5_emit 4 = .ok (.sipush 9080, 3) := by decide +kernel
theorem dX5_emit_7 : decode cX5_emit 7 = .ok (.if_icmp .lt 7, 3) := by decide +kernel
theorem dX5_emit_10 : decode cX5_emit 10 = .ok (.sipush 9079, 3) := by decide +kernel
theorem dX5_emit_13 : decode cX5_emit 13 = .ok (.ireturn, 1) := by decide +kernel
theorem dX5_emit_14 : decode cX5_emit 14 = .ok (.aload_n 0, 1) := by decide +kernel
theorem dX5_emit_15 : decode cX5_emit 15 = .ok (.getfield 55, 3) := by decide +kernel
theorem dX5_emit_18 : decode cX5_emit 18 = .ok (.aload_n 0, 1) := by decide +kernel
theorem dX5_emit_19 : decode cX5_emit 19 = .ok (.getfield 67, 3) := by decide +kernel
theorem dX5_emit_22 : decode cX5_emit 22 = .ok (.iload_n 1, 1) := by decide +kernel
theorem dX5_emit_23 : decode cX5_emit 23 = .ok (.iastore, 1) := by decide +kernel
theorem dX5_emit_24 : decode cX5_emit 24 = .ok (.aload_n 0, 1) := by decide +kernel
theorem dX5_emit_25 : decode cX5_emit 25 = .ok (.getfield 58, 3) := by decide +kernel
theorem dX5_emit_28 : decode cX5_emit 28 = .ok (.aload_n 0, 1) := by decide +kernel
theorem dX5_emit_29 : decode cX5_emit 29 = .ok (.getfield 67, 3) := by decide +kernel
theorem dX5_emit_32 : decode cX5_emit 32 = .ok (.iload_n 2, 1) := by decide +kernel
theorem dX5_emit_33 : decode cX5_emit 33 = .ok (.iastore, 1) := by decide +kernel
theorem dX5_emit_34 : decode cX5_emit 34 = .ok (.aload_n 0, 1) := by decide +kernel
theorem dX5_emit_35 : decode cX5_emit 35 = .ok (.getfield 61, 3) := by decide +kernel
theorem dX5_emit_38 : decode cX5_emit 38 = .ok (.aload_n 0, 1) := by decide +kernel
theorem dX5_emit_39 : decode cX5_emit 39 = .ok (.getfield 67, 3) := by decide +kernel
theorem dX5_emit_42 : decode cX5_emit 42 = .ok (.iconst (-1), 1) := by decide +kernel
theorem dX5_emit_43 : decode cX5_emit 43 = .ok (.iastore, 1) := by decide +kernel
theorem dX5_emit_44 : decode cX5_emit 44 = .ok (.aload_n 0, 1) := by decide +kernel
theorem dX5_emit_45 : decode cX5_emit 45 = .ok (.getfield 64, 3) := by decide +kernel
theorem dX5_emit_48 : decode cX5_emit 48 = .ok (.aload_n 0, 1) := by decide +kernel
theorem dX5_emit_49 : decode cX5_emit 49 = .ok (.getfield 67, 3) := by decide +kernel
theorem dX5_emit_52 : decode cX5_emit 52 = .ok (.iload_n 3, 1) := by decide +kernel
theorem dX5_emit_53 : decode cX5_emit 53 = .ok (.iastore, 1) := by decide +kernel
theorem dX5_emit_54 : decode cX5_emit 54 = .ok (.aload_n 0, 1) := by decide +kernel
theorem dX5_emit_55 : decode cX5_emit 55 = .ok (.dup, 1) := by decide +kernel
theorem dX5_emit_56 : decode cX5_emit 56 = .ok (.getfield 67, 3) := by decide +kernel
theorem dX5_emit_59 : decode cX5_emit 59 = .ok (.iconst 1, 1) := by decide +kernel
theorem dX5_emit_60 : decode cX5_emit 60 = .ok (.iadd, 1) := by decide +kernel
theorem dX5_emit_61 : decode cX5_emit 61 = .ok (.putfield 67, 3) := by decide +kernel
theorem dX5_emit_64 : decode cX5_emit 64 = .ok (.aload_n 0, 1) := by decide +kernel
theorem dX5_emit_65 : decode cX5_emit 65 = .ok (.getfield 67, 3) := by decide +kernel
theorem dX5_emit_68 : decode cX5_emit 68 = .ok (.iconst 1, 1) := by decide +kernel
theorem dX5_emit_69 : decode cX5_emit 69 = .ok (.isub, 1) := by decide +kernel
theorem dX5_emit_70 : decode cX5_emit 70 = .ok (.ireturn, 1) := by decide +kernel
theorem dX5_letterOf_0 : decode cX5_letterOf 0 = .ok (.iload_n 2, 1) := by decide +kernel
theorem dX5_letterOf_1 : decode cX5_letterOf 1 = .ok (.ifCond .lt 13, 3) := by decide +kernel
theorem dX5_letterOf_4 : decode cX5_letterOf 4 = .ok (.iload_n 2, 1) := by decide +kernel
theorem dX5_letterOf_5 : decode cX5_letterOf 5 = .ok (.aload_n 0, 1) := by decide +kernel
theorem dX5_letterOf_6 : decode cX5_letterOf 6 = .ok (.getfield 29, 3) := by decide +kernel
theorem dX5_letterOf_9 : decode cX5_letterOf 9 = .ok (.iload_n 1, 1) := by decide +kernel
theorem dX5_letterOf_10 : decode cX5_letterOf 10 = .ok (.iaload, 1) := by decide +kernel
theorem dX5_letterOf_11 : decode cX5_letterOf 11 = .ok (.if_icmp .lt 5, 3) := by decide +kernel
theorem dX5_letterOf_14 : decode cX5_letterOf 14 = .ok (.iconst (-1), 1) := by decide +kernel
theorem dX5_letterOf_15 : decode cX5_letterOf 15 = .ok (.ireturn, 1) := by decide +kernel
theorem dX5_letterOf_16 : decode cX5_letterOf 16 = .ok (.aload_n 0, 1) := by decide +kernel
theorem dX5_letterOf_17 : decode cX5_letterOf 17 = .ok (.getfield 25, 3) := by decide +kernel
theorem dX5_letterOf_20 : decode cX5_letterOf 20 = .ok (.iload_n 1, 1) := by decide +kernel
theorem dX5_letterOf_21 : decode cX5_letterOf 21 = .ok (.laload, 1) := by decide +kernel
theorem dX5_letterOf_22 : decode cX5_letterOf 22 = .ok (.bipush 8, 2) := by decide +kernel
theorem dX5_letterOf_24 : decode cX5_letterOf 24 = .ok (.aload_n 0, 1) := by decide +kernel
theorem dX5_letterOf_25 : decode cX5_letterOf 25 = .ok (.getfield 29, 3) := by decide +kernel
theorem dX5_letterOf_28 : decode cX5_letterOf 28 = .ok (.iload_n 1, 1) := by decide +kernel
theorem dX5_letterOf_29 : decode cX5_letterOf 29 = .ok (.iaload, 1) := by decide +kernel
theorem dX5_letterOf_30 : decode cX5_letterOf 30 = .ok (.iconst 1, 1) := by decide +kernel
theorem dX5_letterOf_31 : decode cX5_letterOf 31 = .ok (.isub, 1) := by decide +kernel
theorem dX5_letterOf_32 : decode cX5_letterOf 32 = .ok (.iload_n 2, 1) := by decide +kernel
theorem dX5_letterOf_33 : decode cX5_letterOf 33 = .ok (.isub, 1) := by decide +kernel
theorem dX5_letterOf_34 : decode cX5_letterOf 34 = .ok (.imul, 1) := by decide +kernel
theorem dX5_letterOf_35 : decode cX5_letterOf 35 = .ok (.lshr, 1) := by decide +kernel
theorem dX5_letterOf_36 : decode cX5_letterOf 36 = .ok (.l2i, 1) := by decide +kernel
theorem dX5_letterOf_37 : decode cX5_letterOf 37 = .ok (.sipush 255, 3) := by decide +kernel
theorem dX5_letterOf_40 : decode cX5_letterOf 40 = .ok (.iand, 1) := by decide +kernel
theorem dX5_letterOf_41 : decode cX5_letterOf 41 = .ok (.ireturn, 1) := by decide +kernel
theorem dX5_paramsOf_0 : decode cX5_paramsOf 0 = .ok (.iload_n 1, 1) := by decide +kernel
theorem dX5_paramsOf_1 : decode cX5_paramsOf 1 = .ok (.ifCond .lt 20, 3) := by decide +kernel
theorem dX5_paramsOf_4 : decode cX5_paramsOf 4 = .ok (.iload_n 1, 1) := by decide +kernel
theorem dX5_paramsOf_5 : decode cX5_paramsOf 5 = .ok (.aload_n 0, 1) := by decide +kernel
theorem dX5_paramsOf_6 : decode cX5_paramsOf 6 = .ok (.getfield 18, 3) := by decide +kernel
theorem dX5_paramsOf_9 : decode cX5_paramsOf 9 = .ok (.if_icmp .ge 12, 3) := by decide +kernel
theorem dX5_paramsOf_12 : decode cX5_paramsOf 12 = .ok (.aload_n 0, 1) := by decide +kernel
theorem dX5_paramsOf_13 : decode cX5_paramsOf 13 = .ok (.getfield 36, 3) := by decide +kernel
theorem dX5_paramsOf_16 : decode cX5_paramsOf 16 = .ok (.iload_n 1, 1) := by decide +kernel
theorem dX5_paramsOf_17 : decode cX5_paramsOf 17 = .ok (.iaload, 1) := by decide +kernel
theorem dX5_paramsOf_18 : decode cX5_paramsOf 18 = .ok (.goto 4, 3) := by decide +kernel
theorem dX5_paramsOf_21 : decode cX5_paramsOf 21 = .ok (.iconst (-1), 1) := by decide +kernel
theorem dX5_paramsOf_22 : decode cX5_paramsOf 22 = .ok (.ireturn, 1) := by decide +kernel
theorem dX5_partOfName_0 : decode cX5_partOfName 0 = .ok (.iconst 0, 1) := by decide +kernel
theorem dX5_partOfName_1 : decode cX5_partOfName 1 = .ok (.istore_n 3, 1) := by decide +kernel
theorem dX5_partOfName_2 : decode cX5_partOfName 2 = .ok (.iload_n 3, 1) := by decide +kernel
theorem dX5_partOfName_3 : decode cX5_partOfName 3 = .ok (.aload_n 0, 1) := by decide +kernel
theorem dX5_partOfName_4 : decode cX5_partOfName 4 = .ok (.getfield 18, 3) := by decide +kernel
theorem dX5_partOfName_7 : decode cX5_partOfName 7 = .ok (.if_icmp .ge 22, 3) := by decide +kernel
theorem dX5_partOfName_10 : decode cX5_partOfName 10 = .ok (.aload_n 0, 1) := by decide +kernel
theorem dX5_partOfName_11 : decode cX5_partOfName 11 = .ok (.getfield 25, 3) := by decide +kernel
theorem dX5_partOfName_14 : decode cX5_partOfName 14 = .ok (.iload_n 3, 1) := by decide +kernel
theorem dX5_partOfName_15 : decode cX5_partOfName 15 = .ok (.laload, 1) := by decide +kernel
theorem dX5_partOfName_16 : decode cX5_partOfName 16 = .ok (.lload_n 1, 1) := by decide +kernel
theorem dX5_partOfName_17 : decode cX5_partOfName 17 = .ok (.lcmp, 1) := by decide +kernel
theorem dX5_partOfName_18 : decode cX5_partOfName 18 = .ok (.ifCond .ne 5, 3) := by decide +kernel
theorem dX5_partOfName_21 : decode cX5_partOfName 21 = .ok (.iload_n 3, 1) := by decide +kernel
theorem dX5_partOfName_22 : decode cX5_partOfName 22 = .ok (.ireturn, 1) := by decide +kernel
theorem dX5_partOfName_23 : decode cX5_partOfName 23 = .ok (.iinc 3 1, 3) := by decide +kernel
theorem dX5_partOfName_26 : decode cX5_partOfName 26 = .ok (.goto (-24), 3) := by decide +kernel
theorem dX5_partOfName_29 : decode cX5_partOfName 29 = .ok (.iconst (-1), 1) := by decide +kernel
theorem dX5_partOfName_30 : decode cX5_partOfName 30 = .ok (.ireturn, 1) := by decide +kernel
theorem dX6_enter_0 : decode cX6_enter 0 = .ok (.aload_n 0, 1) := by decide +kernel
theorem dX6_enter_1 : decode cX6_enter 1 = .ok (.getfield 14, 3) := by decide +kernel
theorem dX6_enter_4 : decode cX6_enter 4 = .ok (.getfield 70, 3) := by decide +kernel
theorem dX6_enter_7 : decode cX6_enter 7 = .ok (.iload_n 1, 1) := by decide +kernel
theorem dX6_enter_8 : decode cX6_enter 8 = .ok (.if_icmp .eq 11, 3) := by decide +kernel
theorem dX6_enter_11 : decode cX6_enter 11 = .ok (.aload_n 0, 1) := by decide +kernel
theorem dX6_enter_12 : decode cX6_enter 12 = .ok (.iconst 1, 1) := by decide +kernel
theorem dX6_enter_13 : decode cX6_enter 13 = .ok (.invokevirtual 75, 3) := by decide +kernel
theorem dX6_enter_16 : decode cX6_enter 16 = .ok (.goto 27, 3) := by decide +kernel
theorem dX6_enter_19 : decode cX6_enter 19 = .ok (.aload_n 0, 1) := by decide +kernel
theorem dX6_enter_20 : decode cX6_enter 20 = .ok (.getfield 22, 3) := by decide +kernel
theorem dX6_enter_23 : decode cX6_enter 23 = .ok (.bipush 40, 2) := by decide +kernel
theorem dX6_enter_25 : decode cX6_enter 25 = .ok (.if_icmp .lt 11, 3) := by decide +kernel
theorem dX6_enter_28 : decode cX6_enter 28 = .ok (.aload_n 0, 1) := by decide +kernel
theorem dX6_enter_29 : decode cX6_enter 29 = .ok (.iconst 3, 1) := by decide +kernel
theorem dX6_enter_30 : decode cX6_enter 30 = .ok (.invokevirtual 75, 3) := by decide +kernel
theorem dX6_enter_33 : decode cX6_enter 33 = .ok (.goto 10, 3) := by decide +kernel
theorem dX6_enter_36 : decode cX6_enter 36 = .ok (.aload_n 0, 1) := by decide +kernel
theorem dX6_enter_37 : decode cX6_enter 37 = .ok (.getfield 14, 3) := by decide +kernel
theorem dX6_enter_40 : decode cX6_enter 40 = .ok (.invokevirtual 129, 3) := by decide +kernel
theorem dX6_enter_43 : decode cX6_enter 43 = .ok (.aload_n 0, 1) := by decide +kernel
theorem dX6_enter_44 : decode cX6_enter 44 = .ok (.dup, 1) := by decide +kernel
theorem dX6_enter_45 : decode cX6_enter 45 = .ok (.getfield 22, 3) := by decide +kernel
theorem dX6_enter_48 : decode cX6_enter 48 = .ok (.iconst 1, 1) := by decide +kernel
theorem dX6_enter_49 : decode cX6_enter 49 = .ok (.iadd, 1) := by decide +kernel
theorem dX6_enter_50 : decode cX6_enter 50 = .ok (.putfield 22, 3) := by decide +kernel
theorem dX6_enter_53 : decode cX6_enter 53 = .ok (.return_, 1) := by decide +kernel
theorem dX6_refuse_0 : decode cX6_refuse 0 = .ok (.aload_n 0, 1) := by decide +kernel
theorem dX6_refuse_1 : decode cX6_refuse 1 = .ok (.iload_n 1, 1) := by decide +kernel
theorem dX6_refuse_2 : decode cX6_refuse 2 = .ok (.aload_n 0, 1) := by decide +kernel
theorem dX6_refuse_3 : decode cX6_refuse 3 = .ok (.getfield 14, 3) := by decide +kernel
theorem dX6_refuse_6 : decode cX6_refuse 6 = .ok (.getfield 120, 3) := by decide +kernel
theorem dX6_refuse_9 : decode cX6_refuse 9 = .ok (.invokevirtual 123, 3) := by decide +kernel
theorem dX6_refuse_12 : decode cX6_refuse 12 = .ok (.aload_n 0, 1) := by decide +kernel
theorem dX6_refuse_13 : decode cX6_refuse 13 = .ok (.getfield 14, 3) := by decide +kernel
theorem dX6_refuse_16 : decode cX6_refuse 16 = .ok (.invokevirtual 126, 3) := by decide +kernel
theorem dX6_refuse_19 : decode cX6_refuse 19 = .ok (.return_, 1) := by decide +kernel
theorem dX6_refuseAt_0 : decode cX6_refuseAt 0 = .ok (.aload_n 0, 1) := by decide +kernel
theorem dX6_refuseAt_1 : decode cX6_refuseAt 1 = .ok (.getfield 26, 3) := by decide +kernel
theorem dX6_refuseAt_4 : decode cX6_refuseAt 4 = .ok (.ifCond .ne 13, 3) := by decide +kernel
theorem dX6_refuseAt_7 : decode cX6_refuseAt 7 = .ok (.aload_n 0, 1) := by decide +kernel
theorem dX6_refuseAt_8 : decode cX6_refuseAt 8 = .ok (.iload_n 1, 1) := by decide +kernel
theorem dX6_refuseAt_9 : decode cX6_refuseAt 9 = .ok (.putfield 26, 3) := by decide +kernel
theorem dX6_refuseAt_12 : decode cX6_refuseAt 12 = .ok (.aload_n 0, 1) := by decide +kernel
theorem dX6_refuseAt_13 : decode cX6_refuseAt 13 = .ok (.iload_n 2, 1) := by decide +kernel
theorem dX6_refuseAt_14 : decode cX6_refuseAt 14 = .ok (.putfield 29, 3) := by decide +kernel
theorem dX6_refuseAt_17 : decode cX6_refuseAt 17 = .ok (.return_, 1) := by decide +kernel
theorem dX6_slotOf_0 : decode cX6_slotOf 0 = .ok (.aload_n 0, 1) := by decide +kernel
theorem dX6_slotOf_1 : decode cX6_slotOf 1 = .ok (.getfield 40, 3) := by decide +kernel
theorem dX6_slotOf_4 : decode cX6_slotOf 4 = .ok (.iconst 1, 1) := by decide +kernel
theorem dX6_slotOf_5 : decode cX6_slotOf 5 = .ok (.isub, 1) := by decide +kernel
theorem dX6_slotOf_6 : decode cX6_slotOf 6 = .ok (.istore_n 3, 1) := by decide +kernel
theorem dX6_slotOf_7 : decode cX6_slotOf 7 = .ok (.iload_n 3, 1) := by decide +kernel
theorem dX6_slotOf_8 : decode cX6_slotOf 8 = .ok (.ifCond .lt 22, 3) := by decide +kernel
theorem dX6_slotOf_11 : decode cX6_slotOf 11 = .ok (.aload_n 0, 1) := by decide +kernel
theorem dX6_slotOf_12 : decode cX6_slotOf 12 = .ok (.getfield 36, 3) := by decide +kernel
theorem dX6_slotOf_15 : decode cX6_slotOf 15 = .ok (.iload_n 3, 1) := by decide +kernel
theorem dX6_slotOf_16 : decode cX6_slotOf 16 = .ok (.laload, 1) := by decide +kernel
theorem dX6_slotOf_17 : decode cX6_slotOf 17 = .ok (.lload_n 1, 1) := by decide +kernel
theorem dX6_slotOf_18 : decode cX6_slotOf 18 = .ok (.lcmp, 1) := by decide +kernel
theorem dX6_slotOf_19 : decode cX6_slotOf 19 = .ok (.ifCond .ne 5, 3) := by decide +kernel
theorem dX6_slotOf_22 : decode cX6_slotOf 22 = .ok (.iload_n 3, 1) := by decide +kernel
theorem dX6_slotOf_23 : decode cX6_slotOf 23 = .ok (.ireturn, 1) := by decide +kernel
theorem dX6_slotOf_24 : decode cX6_slotOf 24 = .ok (.iinc 3 (-1), 3) := by decide +kernel
theorem dX6_slotOf_27 : decode cX6_slotOf 27 = .ok (.goto (-20), 3) := by decide +kernel
theorem dX6_slotOf_30 : decode cX6_slotOf 30 = .ok (.iconst (-1), 1) := by decide +kernel
theorem dX6_slotOf_31 : decode cX6_slotOf 31 = .ok (.ireturn, 1) := by decide +kernel
theorem dX6_takePartName_0 : decode cX6_takePartName 0 = .ok (.aload_n 0, 1) := by decide +kernel
theorem dX6_takePartName_1 : decode cX6_takePartName 1 = .ok (.getfield 18, 3) := by decide +kernel
theorem dX6_takePartName_4 : decode cX6_takePartName 4 = .ok (.getfield 132, 3) := by decide +kernel
theorem dX6_takePartName_7 : decode cX6_takePartName 7 = .ok (.iload_n 1, 1) := by decide +kernel
theorem dX6_takePartName_8 : decode cX6_takePartName 8 = .ok (.aload_n 0, 1) := by decide +kernel
theorem dX6_takePartName_9 : decode cX6_takePartName 9 = .ok (.getfield 14, 3) := by decide +kernel
theorem dX6_takePartName_12 : decode cX6_takePartName 12 = .ok (.getfield 120, 3) := by decide +kernel
theorem dX6_takePartName_15 : decode cX6_takePartName 15 = .ok (.iastore, 1) := by decide +kernel
theorem dX6_takePartName_16 : decode cX6_takePartName 16 = .ok (.aload_n 0, 1) := by decide +kernel
theorem dX6_takePartName_17 : decode cX6_takePartName 17 = .ok (.getfield 14, 3) := by decide +kernel
theorem dX6_takePartName_20 : decode cX6_takePartName 20 = .ok (.invokevirtual 129, 3) := by decide +kernel
theorem dX6_takePartName_23 : decode cX6_takePartName 23 = .ok (.aload_n 0, 1) := by decide +kernel
theorem dX6_takePartName_24 : decode cX6_takePartName 24 = .ok (.getfield 32, 3) := by decide +kernel
theorem dX6_takePartName_27 : decode cX6_takePartName 27 = .ok (.iload_n 1, 1) := by decide +kernel
theorem dX6_takePartName_28 : decode cX6_takePartName 28 = .ok (.aload_n 0, 1) := by decide +kernel
theorem dX6_takePartName_29 : decode cX6_takePartName 29 = .ok (.getfield 14, 3) := by decide +kernel
theorem dX6_takePartName_32 : decode cX6_takePartName 32 = .ok (.getfield 120, 3) := by decide +kernel
theorem dX6_takePartName_35 : decode cX6_takePartName 35 = .ok (.iastore, 1) := by decide +kernel
theorem dX6_takePartName_36 : decode cX6_takePartName 36 = .ok (.aload_n 0, 1) := by decide +kernel
theorem dX6_takePartName_37 : decode cX6_takePartName 37 = .ok (.getfield 18, 3) := by decide +kernel
theorem dX6_takePartName_40 : decode cX6_takePartName 40 = .ok (.getfield 135, 3) := by decide +kernel
theorem dX6_takePartName_43 : decode cX6_takePartName 43 = .ok (.iload_n 1, 1) := by decide +kernel
theorem dX6_takePartName_44 : decode cX6_takePartName 44 = .ok (.aload_n 0, 1) := by decide +kernel
theorem dX6_takePartName_45 : decode cX6_takePartName 45 = .ok (.getfield 14, 3) := by decide +kernel
theorem dX6_takePartName_48 : decode cX6_takePartName 48 = .ok (.getfield 138, 3) := by decide +kernel
theorem dX6_takePartName_51 : decode cX6_takePartName 51 = .ok (.lastore, 1) := by decide +kernel
theorem dX6_takePartName_52 : decode cX6_takePartName 52 = .ok (.aload_n 0, 1) := by decide +kernel
theorem dX6_takePartName_53 : decode cX6_takePartName 53 = .ok (.getfield 18, 3) := by decide +kernel
theorem dX6_takePartName_56 : decode cX6_takePartName 56 = .ok (.getfield 142, 3) := by decide +kernel
theorem dX6_takePartName_59 : decode cX6_takePartName 59 = .ok (.iload_n 1, 1) := by decide +kernel
theorem dX6_takePartName_60 : decode cX6_takePartName 60 = .ok (.aload_n 0, 1) := by decide +kernel
theorem dX6_takePartName_61 : decode cX6_takePartName 61 = .ok (.getfield 14, 3) := by decide +kernel
theorem dX6_takePartName_64 : decode cX6_takePartName 64 = .ok (.getfield 144, 3) := by decide +kernel
theorem dX6_takePartName_67 : decode cX6_takePartName 67 = .ok (.iastore, 1) := by decide +kernel
theorem dX6_takePartName_68 : decode cX6_takePartName 68 = .ok (.aload_n 0, 1) := by decide +kernel
theorem dX6_takePartName_69 : decode cX6_takePartName 69 = .ok (.sipush 258, 3) := by decide +kernel
theorem dX6_takePartName_72 : decode cX6_takePartName 72 = .ok (.invokevirtual 147, 3) := by decide +kernel
theorem dX6_takePartName_75 : decode cX6_takePartName 75 = .ok (.return_, 1) := by decide +kernel
theorem dX6_want_0 : decode cX6_want 0 = .ok (.aload_n 0, 1) := by decide +kernel
theorem dX6_want_1 : decode cX6_want 1 = .ok (.getfield 14, 3) := by decide +kernel
theorem dX6_want_4 : decode cX6_want 4 = .ok (.getfield 70, 3) := by decide +kernel
theorem dX6_want_7 : decode cX6_want 7 = .ok (.iload_n 1, 1) := by decide +kernel
theorem dX6_want_8 : decode cX6_want 8 = .ok (.if_icmp .ne 13, 3) := by decide +kernel
theorem dX6_want_11 : decode cX6_want 11 = .ok (.aload_n 0, 1) := by decide +kernel
theorem dX6_want_12 : decode cX6_want 12 = .ok (.getfield 14, 3) := by decide +kernel
theorem dX6_want_15 : decode cX6_want 15 = .ok (.invokevirtual 129, 3) := by decide +kernel
theorem dX6_want_18 : decode cX6_want 18 = .ok (.goto 8, 3) := by decide +kernel
theorem dX6_want_21 : decode cX6_want 21 = .ok (.aload_n 0, 1) := by decide +kernel
theorem dX6_want_22 : decode cX6_want 22 = .ok (.iconst 1, 1) := by decide +kernel
theorem dX6_want_23 : decode cX6_want 23 = .ok (.invokevirtual 75, 3) := by decide +kernel
theorem dX6_want_26 : decode cX6_want 26 = .ok (.return_, 1) := by decide +kernel
theorem dX9_advance_0 : decode cX9_advance 0 = .ok (.aload_n 0, 1) := by decide +kernel
theorem dX9_advance_1 : decode cX9_advance 1 = .ok (.getfield 24, 3) := by decide +kernel
theorem dX9_advance_4 : decode cX9_advance 4 = .ok (.sipush 260, 3) := by decide +kernel
theorem dX9_advance_7 : decode cX9_advance 7 = .ok (.if_icmp .ne 4, 3) := by decide +kernel
theorem dX9_advance_10 : decode cX9_advance 10 = .ok (.return_, 1) := by decide +kernel
theorem dX9_advance_11 : decode cX9_advance 11 = .ok (.aload_n 0, 1) := by decide +kernel
theorem dX9_advance_12 : decode cX9_advance 12 = .ok (.getfield 19, 3) := by decide +kernel
theorem dX9_advance_15 : decode cX9_advance 15 = .ok (.istore_n 1, 1) := by decide +kernel
theorem dX9_advance_16 : decode cX9_advance 16 = .ok (.iload_n 1, 1) := by decide +kernel
theorem dX9_advance_17 : decode cX9_advance 17 = .ok (.aload_n 0, 1) := by decide +kernel
theorem dX9_advance_18 : decode cX9_advance 18 = .ok (.getfield 15, 3) := by decide +kernel
theorem dX9_advance_21 : decode cX9_advance 21 = .ok (.if_icmp .ge 29, 3) := by decide +kernel
theorem dX9_advance_24 : decode cX9_advance 24 = .ok (.aload_n 0, 1) := by decide +kernel
theorem dX9_advance_25 : decode cX9_advance 25 = .ok (.iload_n 1, 1) := by decide +kernel
theorem dX9_advance_26 : decode cX9_advance 26 = .ok (.invokevirtual 53, 3) := by decide +kernel
theorem dX9_advance_29 : decode cX9_advance 29 = .ok (.bipush 32, 2) := by decide +kernel
theorem dX9_advance_31 : decode cX9_advance 31 = .ok (.if_icmp .eq 13, 3) := by decide +kernel
theorem dX9_advance_34 : decode cX9_advance 34 = .ok (.aload_n 0, 1) := by decide +kernel
theorem dX9_advance_35 : decode cX9_advance 35 = .ok (.iload_n 1, 1) := by decide +kernel
theorem dX9_advance_36 : decode cX9_advance 36 = .ok (.invokevirtual 53, 3) := by decide +kernel
theorem dX9_advance_39 : decode cX9_advance 39 = .ok (.bipush 10, 2) := by decide +kernel
theorem dX9_advance_41 : decode cX9_advance 41 = .ok (.if_icmp .ne 9, 3) := by decide +kernel
theorem dX9_advance_44 : decode cX9_advance 44 = .ok (.iinc 1 1, 3) := by decide +kernel
theorem dX9_advance_47 : decode cX9_advance 47 = .ok (.goto (-31), 3) := by decide +kernel
theorem dX9_advance_50 : decode cX9_advance 50 = .ok (.aload_n 0, 1) := by decide +kernel
theorem dX9_advance_51 : decode cX9_advance 51 = .ok (.iload_n 1, 1) := by decide +kernel
theorem dX9_advance_52 : decode cX9_advance 52 = .ok (.putfield 27, 3) := by decide +kernel
theorem dX9_advance_55 : decode cX9_advance 55 = .ok (.aload_n 0, 1) := by decide +kernel
theorem dX9_advance_56 : decode cX9_advance 56 = .ok (.iload_n 1, 1) := by decide +kernel
theorem dX9_advance_57 : decode cX9_advance 57 = .ok (.iconst 1, 1) := by decide +kernel
theorem dX9_advance_58 : decode cX9_advance 58 = .ok (.iadd, 1) := by decide +kernel
theorem dX9_advance_59 : decode cX9_advance 59 = .ok (.putfield 19, 3) := by decide +kernel
theorem dX9_advance_62 : decode cX9_advance 62 = .ok (.aload_n 0, 1) := by decide +kernel
theorem dX9_advance_63 : decode cX9_advance 63 = .ok (.iload_n 1, 1) := by decide +kernel
theorem dX9_advance_64 : decode cX9_advance 64 = .ok (.invokevirtual 53, 3) := by decide +kernel
theorem dX9_advance_67 : decode cX9_advance 67 = .ok (.istore_n 2, 1) := by decide +kernel
theorem dX9_advance_68 : decode cX9_advance 68 = .ok (.iload_n 2, 1) := by decide +kernel
theorem dX9_advance_69 : decode cX9_advance 69 = .ok (.iconst (-1), 1) := by decide +kernel
theorem dX9_advance_70 : decode cX9_advance 70 = .ok (.if_icmp .ne 21, 3) := by decide +kernel
theorem dX9_advance_73 : decode cX9_advance 73 = .ok (.aload_n 0, 1) := by decide +kernel
theorem dX9_advance_74 : decode cX9_advance 74 = .ok (.sipush 257, 3) := by decide +kernel
theorem dX9_advance_77 : decode cX9_advance 77 = .ok (.putfield 24, 3) := by decide +kernel
theorem dX9_advance_80 : decode cX9_advance 80 = .ok (.aload_n 0, 1) := by decide +kernel
theorem dX9_advance_81 : decode cX9_advance 81 = .ok (.aload_n 0, 1) := by decide +kernel
theorem dX9_advance_82 : decode cX9_advance 82 = .ok (.getfield 15, 3) := by decide +kernel
theorem dX9_advance_85 : decode cX9_advance 85 = .ok (.putfield 19, 3) := by decide +kernel
theorem dX9_advance_88 : decode cX9_advance 88 = .ok (.goto 36, 3) := by decide +kernel
theorem dX9_advance_91 : decode cX9_advance 91 = .ok (.iload_n 2, 1) := by decide +kernel
theorem dX9_advance_92 : decode cX9_advance 92 = .ok (.invokestatic 57, 3) := by decide +kernel
theorem dX9_advance_95 : decode cX9_advance 95 = .ok (.ifCond .eq 10, 3) := by decide +kernel
theorem dX9_advance_98 : decode cX9_advance 98 = .ok (.aload_n 0, 1) := by decide +kernel
theorem dX9_advance_99 : decode cX9_advance 99 = .ok (.invokevirtual 61, 3) := by decide +kernel
theorem dX9_advance_102 : decode cX9_advance 102 = .ok (.goto 22, 3) := by decide +kernel
theorem dX9_advance_105 : decode cX9_advance 105 = .ok (.iload_n 2, 1) := by decide +kernel
theorem dX9_advance_106 : decode cX9_advance 106 = .ok (.invokestatic 64, 3) := by decide +kernel
theorem dX9_advance_109 : decode cX9_advance 109 = .ok (.ifCond .eq 10, 3) := by decide +kernel
theorem dX9_advance_112 : decode cX9_advance 112 = .ok (.aload_n 0, 1) := by decide +kernel
theorem dX9_advance_113 : decode cX9_advance 113 = .ok (.invokevirtual 67, 3) := by decide +kernel
theorem dX9_advance_116 : decode cX9_advance 116 = .ok (.goto 8, 3) := by decide +kernel
theorem dX9_advance_119 : decode cX9_advance 119 = .ok (.aload_n 0, 1) := by decide +kernel
theorem dX9_advance_120 : decode cX9_advance 120 = .ok (.iload_n 2, 1) := by decide +kernel
theorem dX9_advance_121 : decode cX9_advance 121 = .ok (.invokevirtual 70, 3) := by decide +kernel
theorem dX9_advance_124 : decode cX9_advance 124 = .ok (.return_, 1) := by decide +kernel
theorem dX9_begin_0 : decode cX9_begin 0 = .ok (.aload_n 0, 1) := by decide +kernel
theorem dX9_begin_1 : decode cX9_begin 1 = .ok (.aload_n 1, 1) := by decide +kernel
theorem dX9_begin_2 : decode cX9_begin 2 = .ok (.putfield 9, 3) := by decide +kernel
theorem dX9_begin_5 : decode cX9_begin 5 = .ok (.aload_n 0, 1) := by decide +kernel
theorem dX9_begin_6 : decode cX9_begin 6 = .ok (.iload_n 2, 1) := by decide +kernel
theorem dX9_begin_7 : decode cX9_begin 7 = .ok (.aload_n 1, 1) := by decide +kernel
theorem dX9_begin_8 : decode cX9_begin 8 = .ok (.arraylength, 1) := by decide +kernel
theorem dX9_begin_9 : decode cX9_begin 9 = .ok (.invokestatic 40, 3) := by decide +kernel
theorem dX9_begin_12 : decode cX9_begin 12 = .ok (.putfield 15, 3) := by decide +kernel
theorem dX9_begin_15 : decode cX9_begin 15 = .ok (.aload_n 0, 1) := by decide +kernel
theorem dX9_begin_16 : decode cX9_begin 16 = .ok (.iconst 0, 1) := by decide +kernel
theorem dX9_begin_17 : decode cX9_begin 17 = .ok (.invokevirtual 46, 3) := by decide +kernel
theorem dX9_begin_20 : decode cX9_begin 20 = .ok (.return_, 1) := by decide +kernel
theorem dX9_byteAt_0 : decode cX9_byteAt 0 = .ok (.iload_n 1, 1) := by decide +kernel
theorem dX9_byteAt_1 : decode cX9_byteAt 1 = .ok (.ifCond .lt 24, 3) := by decide +kernel
theorem dX9_byteAt_4 : decode cX9_byteAt 4 = .ok (.iload_n 1, 1) := by decide +kernel
theorem dX9_byteAt_5 : decode cX9_byteAt 5 = .ok (.aload_n 0, 1) := by decide +kernel
theorem dX9_byteAt_6 : decode cX9_byteAt 6 = .ok (.getfield 15, 3) := by decide +kernel
theorem dX9_byteAt_9 : decode cX9_byteAt 9 = .ok (.if_icmp .ge 16, 3) := by decide +kernel
theorem dX9_byteAt_12 : decode cX9_byteAt 12 = .ok (.aload_n 0, 1) := by decide +kernel
theorem dX9_byteAt_13 : decode cX9_byteAt 13 = .ok (.getfield 9, 3) := by decide +kernel
theorem dX9_byteAt_16 : decode cX9_byteAt 16 = .ok (.iload_n 1, 1) := by decide +kernel
theorem dX9_byteAt_17 : decode cX9_byteAt 17 = .ok (.baload, 1) := by decide +kernel
theorem dX9_byteAt_18 : decode cX9_byteAt 18 = .ok (.sipush 255, 3) := by decide +kernel
theorem dX9_byteAt_21 : decode cX9_byteAt 21 = .ok (.iand, 1) := by decide +kernel
theorem dX9_byteAt_22 : decode cX9_byteAt 22 = .ok (.goto 4, 3) := by decide +kernel
theorem dX9_byteAt_25 : decode cX9_byteAt 25 = .ok (.iconst (-1), 1) := by decide +kernel
theorem dX9_byteAt_26 : decode cX9_byteAt 26 = .ok (.ireturn, 1) := by decide +kernel
theorem dX9_goTo_0 : decode cX9_goTo 0 = .ok (.aload_n 0, 1) := by decide +kernel
theorem dX9_goTo_1 : decode cX9_goTo 1 = .ok (.iload_n 1, 1) := by decide +kernel
theorem dX9_goTo_2 : decode cX9_goTo 2 = .ok (.putfield 19, 3) := by decide +kernel
theorem dX9_goTo_5 : decode cX9_goTo 5 = .ok (.aload_n 0, 1) := by decide +kernel
theorem dX9_goTo_6 : decode cX9_goTo 6 = .ok (.sipush 257, 3) := by decide +kernel
theorem dX9_goTo_9 : decode cX9_goTo 9 = .ok (.putfield 24, 3) := by decide +kernel
theorem dX9_goTo_12 : decode cX9_goTo 12 = .ok (.aload_n 0, 1) := by decide +kernel
theorem dX9_goTo_13 : decode cX9_goTo 13 = .ok (.invokevirtual 50, 3) := by decide +kernel
theorem dX9_goTo_16 : decode cX9_goTo 16 = .ok (.return_, 1) := by decide +kernel
theorem dX9_isDigit_0 : decode cX9_isDigit 0 = .ok (.iload_n 0, 1) := by decide +kernel
theorem dX9_isDigit_1 : decode cX9_isDigit 1 = .ok (.bipush 48, 2) := by decide +kernel
theorem dX9_isDigit_3 : decode cX9_isDigit 3 = .ok (.if_icmp .lt 13, 3) := by decide +kernel
theorem dX9_isDigit_6 : decode cX9_isDigit 6 = .ok (.iload_n 0, 1) := by decide +kernel
theorem dX9_isDigit_7 : decode cX9_isDigit 7 = .ok (.bipush 57, 2) := by decide +kernel
theorem dX9_isDigit_9 : decode cX9_isDigit 9 = .ok (.if_icmp .gt 7, 3) := by decide +kernel
theorem dX9_isDigit_12 : decode cX9_isDigit 12 = .ok (.iconst 1, 1) := by decide +kernel
theorem dX9_isDigit_13 : decode cX9_isDigit 13 = .ok (.goto 4, 3) := by decide +kernel
theorem dX9_isDigit_16 : decode cX9_isDigit 16 = .ok (.iconst 0, 1) := by decide +kernel
theorem dX9_isDigit_17 : decode cX9_isDigit 17 = .ok (.ireturn, 1) := by decide +kernel
theorem dX9_isLetter_0 : decode cX9_isLetter 0 = .ok (.iload_n 0, 1) := by decide +kernel
theorem dX9_isLetter_1 : decode cX9_isLetter 1 = .ok (.bipush 97, 2) := by decide +kernel
theorem dX9_isLetter_3 : decode cX9_isLetter 3 = .ok (.if_icmp .lt 9, 3) := by decide +kernel
theorem dX9_isLetter_6 : decode cX9_isLetter 6 = .ok (.iload_n 0, 1) := by decide +kernel
theorem dX9_isLetter_7 : decode cX9_isLetter 7 = .ok (.bipush 122, 2) := by decide +kernel
theorem dX9_isLetter_9 : decode cX9_isLetter 9 = .ok (.if_icmp .le 15, 3) := by decide +kernel
theorem dX9_isLetter_12 : decode cX9_isLetter 12 = .ok (.iload_n 0, 1) := by decide +kernel
theorem dX9_isLetter_13 : decode cX9_isLetter 13 = .ok (.bipush 65, 2) := by decide +kernel
theorem dX9_isLetter_15 : decode cX9_isLetter 15 = .ok (.if_icmp .lt 13, 3) := by decide +kernel
theorem dX9_isLetter_18 : decode cX9_isLetter 18 = .ok (.iload_n 0, 1) := by decide +kernel
theorem dX9_isLetter_19 : decode cX9_isLetter 19 = .ok (.bipush 90, 2) := by decide +kernel
theorem dX9_isLetter_21 : decode cX9_isLetter 21 = .ok (.if_icmp .gt 7, 3) := by decide +kernel
theorem dX9_isLetter_24 : decode cX9_isLetter 24 = .ok (.iconst 1, 1) := by decide +kernel
theorem dX9_isLetter_25 : decode cX9_isLetter 25 = .ok (.goto 4, 3) := by decide +kernel
theorem dX9_isLetter_28 : decode cX9_isLetter 28 = .ok (.iconst 0, 1) := by decide +kernel
theorem dX9_isLetter_29 : decode cX9_isLetter 29 = .ok (.ireturn, 1) := by decide +kernel
theorem dX9_isSign_0 : decode cX9_isSign 0 = .ok (.iload_n 0, 1) := by decide +kernel
theorem dX9_isSign_1 : decode cX9_isSign 1 = .ok (.lookupswitch 149 #[(33, 147), (37, 147), (40, 147), (41, 147), (42, 147), (43, 147), (44, 147), (45, 147), (47, 147), (58, 147), (59, 147), (60, 147), (61, 147), (91, 147), (93, 147), (123, 147), (125, 147)], 147) := by decide +kernel
theorem dX9_isSign_148 : decode cX9_isSign 148 = .ok (.iconst 1, 1) := by decide +kernel
theorem dX9_isSign_149 : decode cX9_isSign 149 = .ok (.ireturn, 1) := by decide +kernel
theorem dX9_isSign_150 : decode cX9_isSign 150 = .ok (.iconst 0, 1) := by decide +kernel
theorem dX9_isSign_151 : decode cX9_isSign 151 = .ok (.ireturn, 1) := by decide +kernel
theorem dX9_stop_0 : decode cX9_stop 0 = .ok (.aload_n 0, 1) := by decide +kernel
theorem dX9_stop_1 : decode cX9_stop 1 = .ok (.sipush 260, 3) := by decide +kernel
theorem dX9_stop_4 : decode cX9_stop 4 = .ok (.putfield 24, 3) := by decide +kernel
theorem dX9_stop_7 : decode cX9_stop 7 = .ok (.aload_n 0, 1) := by decide +kernel
theorem dX9_stop_8 : decode cX9_stop 8 = .ok (.aload_n 0, 1) := by decide +kernel
theorem dX9_stop_9 : decode cX9_stop 9 = .ok (.getfield 15, 3) := by decide +kernel
theorem dX9_stop_12 : decode cX9_stop 12 = .ok (.putfield 19, 3) := by decide +kernel
theorem dX9_stop_15 : decode cX9_stop 15 = .ok (.return_, 1) := by decide +kernel
theorem dX9_takeNumber_0 : decode cX9_takeNumber 0 = .ok (.aload_n 0, 1) := by decide +kernel
theorem dX9_takeNumber_1 : decode cX9_takeNumber 1 = .ok (.lconst 0, 1) := by decide +kernel
theorem dX9_takeNumber_2 : decode cX9_takeNumber 2 = .ok (.putfield 37, 3) := by decide +kernel
theorem dX9_takeNumber_5 : decode cX9_takeNumber 5 = .ok (.aload_n 0, 1) := by decide +kernel
theorem dX9_takeNumber_6 : decode cX9_takeNumber 6 = .ok (.getfield 27, 3) := by decide +kernel
theorem dX9_takeNumber_9 : decode cX9_takeNumber 9 = .ok (.istore_n 1, 1) := by decide +kernel
theorem dX9_takeNumber_10 : decode cX9_takeNumber 10 = .ok (.iload_n 1, 1) := by decide +kernel
theorem dX9_takeNumber_11 : decode cX9_takeNumber 11 = .ok (.aload_n 0, 1) := by decide +kernel
theorem dX9_takeNumber_12 : decode cX9_takeNumber 12 = .ok (.getfield 15, 3) := by decide +kernel
theorem dX9_takeNumber_15 : decode cX9_takeNumber 15 = .ok (.if_icmp .ge 68, 3) := by decide +kernel
theorem dX9_takeNumber_18 : decode cX9_takeNumber 18 = .ok (.aload_n 0, 1) := by decide +kernel
theorem dX9_takeNumber_19 : decode cX9_takeNumber 19 = .ok (.iload_n 1, 1) := by decide +kernel
theorem dX9_takeNumber_20 : decode cX9_takeNumber 20 = .ok (.invokevirtual 53, 3) := by decide +kernel
theorem dX9_takeNumber_23 : decode cX9_takeNumber 23 = .ok (.invokestatic 64, 3) := by decide +kernel
theorem dX9_takeNumber_26 : decode cX9_takeNumber 26 = .ok (.ifCond .eq 57, 3) := by decide +kernel
theorem dX9_takeNumber_29 : decode cX9_takeNumber 29 = .ok (.aload_n 0, 1) := by decide +kernel
theorem dX9_takeNumber_30 : decode cX9_takeNumber 30 = .ok (.aload_n 0, 1) := by decide +kernel
theorem dX9_takeNumber_31 : decode cX9_takeNumber 31 = .ok (.getfield 37, 3) := by decide +kernel
theorem dX9_takeNumber_34 : decode cX9_takeNumber 34 = .ok (.ldc2_w 81, 3) := by decide +kernel
theorem dX9_takeNumber_37 : decode cX9_takeNumber 37 = .ok (.lmul, 1) := by decide +kernel
theorem dX9_takeNumber_38 : decode cX9_takeNumber 38 = .ok (.aload_n 0, 1) := by decide +kernel
theorem dX9_takeNumber_39 : decode cX9_takeNumber 39 = .ok (.iload_n 1, 1) := by decide +kernel
theorem dX9_takeNumber_40 : decode cX9_takeNumber 40 = .ok (.invokevirtual 53, 3) := by decide +kernel
theorem dX9_takeNumber_43 : decode cX9_takeNumber 43 = .ok (.i2l, 1) := by decide +kernel
theorem dX9_takeNumber_44 : decode cX9_takeNumber 44 = .ok (.ladd, 1) := by decide +kernel
theorem dX9_takeNumber_45 : decode cX9_takeNumber 45 = .ok (.ldc2_w 83, 3) := by decide +kernel
theorem dX9_takeNumber_48 : decode cX9_takeNumber 48 = .ok (.lsub, 1) := by decide +kernel
theorem dX9_takeNumber_49 : decode cX9_takeNumber 49 = .ok (.putfield 37, 3) := by decide +kernel
theorem dX9_takeNumber_52 : decode cX9_takeNumber 52 = .ok (.aload_n 0, 1) := by decide +kernel
theorem dX9_takeNumber_53 : decode cX9_takeNumber 53 = .ok (.aload_n 0, 1) := by decide +kernel
theorem dX9_takeNumber_54 : decode cX9_takeNumber 54 = .ok (.getfield 37, 3) := by decide +kernel
theorem dX9_takeNumber_57 : decode cX9_takeNumber 57 = .ok (.ldc2_w 85, 3) := by decide +kernel
theorem dX9_takeNumber_60 : decode cX9_takeNumber 60 = .ok (.lcmp, 1) := by decide +kernel
theorem dX9_takeNumber_61 : decode cX9_takeNumber 61 = .ok (.ifCond .le 9, 3) := by decide +kernel
theorem dX9_takeNumber_64 : decode cX9_takeNumber 64 = .ok (.ldc2_w 85, 3) := by decide +kernel
theorem dX9_takeNumber_67 : decode cX9_takeNumber 67 = .ok (.goto 7, 3) := by decide +kernel
theorem dX9_takeNumber_70 : decode cX9_takeNumber 70 = .ok (.aload_n 0, 1) := by decide +kernel
theorem dX9_takeNumber_71 : decode cX9_takeNumber 71 = .ok (.getfield 37, 3) := by decide +kernel
theorem dX9_takeNumber_74 : decode cX9_takeNumber 74 = .ok (.putfield 37, 3) := by decide +kernel
theorem dX9_takeNumber_77 : decode cX9_takeNumber 77 = .ok (.iinc 1 1, 3) := by decide +kernel
theorem dX9_takeNumber_80 : decode cX9_takeNumber 80 = .ok (.goto (-70), 3) := by decide +kernel
theorem dX9_takeNumber_83 : decode cX9_takeNumber 83 = .ok (.aload_n 0, 1) := by decide +kernel
theorem dX9_takeNumber_84 : decode cX9_takeNumber 84 = .ok (.iload_n 1, 1) := by decide +kernel
theorem dX9_takeNumber_85 : decode cX9_takeNumber 85 = .ok (.putfield 19, 3) := by decide +kernel
theorem dX9_takeNumber_88 : decode cX9_takeNumber 88 = .ok (.aload_n 0, 1) := by decide +kernel
theorem dX9_takeNumber_89 : decode cX9_takeNumber 89 = .ok (.sipush 259, 3) := by decide +kernel
theorem dX9_takeNumber_92 : decode cX9_takeNumber 92 = .ok (.putfield 24, 3) := by decide +kernel
theorem dX9_takeNumber_95 : decode cX9_takeNumber 95 = .ok (.return_, 1) := by decide +kernel
theorem dX9_takeSign_0 : decode cX9_takeSign 0 = .ok (.iload_n 1, 1) := by decide +kernel
theorem dX9_takeSign_1 : decode cX9_takeSign 1 = .ok (.bipush 58, 2) := by decide +kernel
theorem dX9_takeSign_3 : decode cX9_takeSign 3 = .ok (.if_icmp .ne 36, 3) := by decide +kernel
theorem dX9_takeSign_6 : decode cX9_takeSign 6 = .ok (.aload_n 0, 1) := by decide +kernel
theorem dX9_takeSign_7 : decode cX9_takeSign 7 = .ok (.aload_n 0, 1) := by decide +kernel
theorem dX9_takeSign_8 : decode cX9_takeSign 8 = .ok (.getfield 27, 3) := by decide +kernel
theorem dX9_takeSign_11 : decode cX9_takeSign 11 = .ok (.iconst 1, 1) := by decide +kernel
theorem dX9_takeSign_12 : decode cX9_takeSign 12 = .ok (.iadd, 1) := by decide +kernel
theorem dX9_takeSign_13 : decode cX9_takeSign 13 = .ok (.invokevirtual 53, 3) := by decide +kernel
theorem dX9_takeSign_16 : decode cX9_takeSign 16 = .ok (.bipush 61, 2) := by decide +kernel
theorem dX9_takeSign_18 : decode cX9_takeSign 18 = .ok (.if_icmp .ne 21, 3) := by decide +kernel
theorem dX9_takeSign_21 : decode cX9_takeSign 21 = .ok (.aload_n 0, 1) := by decide +kernel
theorem dX9_takeSign_22 : decode cX9_takeSign 22 = .ok (.sipush 256, 3) := by decide +kernel
theorem dX9_takeSign_25 : decode cX9_takeSign 25 = .ok (.putfield 24, 3) := by decide +kernel
theorem dX9_takeSign_28 : decode cX9_takeSign 28 = .ok (.aload_n 0, 1) := by decide +kernel
theorem dX9_takeSign_29 : decode cX9_takeSign 29 = .ok (.aload_n 0, 1) := by decide +kernel
theorem dX9_takeSign_30 : decode cX9_takeSign 30 = .ok (.getfield 27, 3) := by decide +kernel
theorem dX9_takeSign_33 : decode cX9_takeSign 33 = .ok (.iconst 2, 1) := by decide +kernel
theorem dX9_takeSign_34 : decode cX9_takeSign 34 = .ok (.iadd, 1) := by decide +kernel
theorem dX9_takeSign_35 : decode cX9_takeSign 35 = .ok (.putfield 19, 3) := by decide +kernel
theorem dX9_takeSign_38 : decode cX9_takeSign 38 = .ok (.return_, 1) := by decide +kernel
theorem dX9_takeSign_39 : decode cX9_takeSign 39 = .ok (.aload_n 0, 1) := by decide +kernel
theorem dX9_takeSign_40 : decode cX9_takeSign 40 = .ok (.iload_n 1, 1) := by decide +kernel
theorem dX9_takeSign_41 : decode cX9_takeSign 41 = .ok (.invokestatic 87, 3) := by decide +kernel
theorem dX9_takeSign_44 : decode cX9_takeSign 44 = .ok (.ifCond .eq 7, 3) := by decide +kernel
theorem dX9_takeSign_47 : decode cX9_takeSign 47 = .ok (.iload_n 1, 1) := by decide +kernel
theorem dX9_takeSign_48 : decode cX9_takeSign 48 = .ok (.goto 6, 3) := by decide +kernel
theorem dX9_takeSign_51 : decode cX9_takeSign 51 = .ok (.sipush 260, 3) := by decide +kernel
theorem dX9_takeSign_54 : decode cX9_takeSign 54 = .ok (.putfield 24, 3) := by decide +kernel
theorem dX9_takeSign_57 : decode cX9_takeSign 57 = .ok (.return_, 1) := by decide +kernel
theorem dX9_takeWord_0 : decode cX9_takeWord 0 = .ok (.aload_n 0, 1) := by decide +kernel
theorem dX9_takeWord_1 : decode cX9_takeWord 1 = .ok (.lconst 0, 1) := by decide +kernel
theorem dX9_takeWord_2 : decode cX9_takeWord 2 = .ok (.putfield 30, 3) := by decide +kernel
theorem dX9_takeWord_5 : decode cX9_takeWord 5 = .ok (.aload_n 0, 1) := by decide +kernel
theorem dX9_takeWord_6 : decode cX9_takeWord 6 = .ok (.getfield 27, 3) := by decide +kernel
theorem dX9_takeWord_9 : decode cX9_takeWord 9 = .ok (.istore_n 1, 1) := by decide +kernel
theorem dX9_takeWord_10 : decode cX9_takeWord 10 = .ok (.iload_n 1, 1) := by decide +kernel
theorem dX9_takeWord_11 : decode cX9_takeWord 11 = .ok (.aload_n 0, 1) := by decide +kernel
theorem dX9_takeWord_12 : decode cX9_takeWord 12 = .ok (.getfield 15, 3) := by decide +kernel
theorem dX9_takeWord_15 : decode cX9_takeWord 15 = .ok (.if_icmp .ge 38, 3) := by decide +kernel
theorem dX9_takeWord_18 : decode cX9_takeWord 18 = .ok (.aload_n 0, 1) := by decide +kernel
theorem dX9_takeWord_19 : decode cX9_takeWord 19 = .ok (.iload_n 1, 1) := by decide +kernel
theorem dX9_takeWord_20 : decode cX9_takeWord 20 = .ok (.invokevirtual 53, 3) := by decide +kernel
theorem dX9_takeWord_23 : decode cX9_takeWord 23 = .ok (.invokestatic 57, 3) := by decide +kernel
theorem dX9_takeWord_26 : decode cX9_takeWord 26 = .ok (.ifCond .eq 27, 3) := by decide +kernel
theorem dX9_takeWord_29 : decode cX9_takeWord 29 = .ok (.aload_n 0, 1) := by decide +kernel
theorem dX9_takeWord_30 : decode cX9_takeWord 30 = .ok (.aload_n 0, 1) := by decide +kernel
theorem dX9_takeWord_31 : decode cX9_takeWord 31 = .ok (.getfield 30, 3) := by decide +kernel
theorem dX9_takeWord_34 : decode cX9_takeWord 34 = .ok (.bipush 8, 2) := by decide +kernel
theorem dX9_takeWord_36 : decode cX9_takeWord 36 = .ok (.lshl, 1) := by decide +kernel
theorem dX9_takeWord_37 : decode cX9_takeWord 37 = .ok (.aload_n 0, 1) := by decide +kernel
theorem dX9_takeWord_38 : decode cX9_takeWord 38 = .ok (.iload_n 1, 1) := by decide +kernel
theorem dX9_takeWord_39 : decode cX9_takeWord 39 = .ok (.invokevirtual 53, 3) := by decide +kernel
theorem dX9_takeWord_42 : decode cX9_takeWord 42 = .ok (.i2l, 1) := by decide +kernel
theorem dX9_takeWord_43 : decode cX9_takeWord 43 = .ok (.lor, 1) := by decide +kernel
theorem dX9_takeWord_44 : decode cX9_takeWord 44 = .ok (.putfield 30, 3) := by decide +kernel
theorem dX9_takeWord_47 : decode cX9_takeWord 47 = .ok (.iinc 1 1, 3) := by decide +kernel
theorem dX9_takeWord_50 : decode cX9_takeWord 50 = .ok (.goto (-40), 3) := by decide +kernel
theorem dX9_takeWord_53 : decode cX9_takeWord 53 = .ok (.aload_n 0, 1) := by decide +kernel
theorem dX9_takeWord_54 : decode cX9_takeWord 54 = .ok (.iload_n 1, 1) := by decide +kernel
theorem dX9_takeWord_55 : decode cX9_takeWord 55 = .ok (.putfield 19, 3) := by decide +kernel
theorem dX9_takeWord_58 : decode cX9_takeWord 58 = .ok (.aload_n 0, 1) := by decide +kernel
theorem dX9_takeWord_59 : decode cX9_takeWord 59 = .ok (.iload_n 1, 1) := by decide +kernel
theorem dX9_takeWord_60 : decode cX9_takeWord 60 = .ok (.aload_n 0, 1) := by decide +kernel
theorem dX9_takeWord_61 : decode cX9_takeWord 61 = .ok (.getfield 27, 3) := by decide +kernel
theorem dX9_takeWord_64 : decode cX9_takeWord 64 = .ok (.isub, 1) := by decide +kernel
theorem dX9_takeWord_65 : decode cX9_takeWord 65 = .ok (.putfield 34, 3) := by decide +kernel
theorem dX9_takeWord_68 : decode cX9_takeWord 68 = .ok (.aload_n 0, 1) := by decide +kernel
theorem dX9_takeWord_69 : decode cX9_takeWord 69 = .ok (.aload_n 0, 1) := by decide +kernel
theorem dX9_takeWord_70 : decode cX9_takeWord 70 = .ok (.getfield 34, 3) := by decide +kernel
theorem dX9_takeWord_73 : decode cX9_takeWord 73 = .ok (.bipush 8, 2) := by decide +kernel
theorem dX9_takeWord_75 : decode cX9_takeWord 75 = .ok (.if_icmp .le 9, 3) := by decide +kernel
theorem dX9_takeWord_78 : decode cX9_takeWord 78 = .ok (.sipush 260, 3) := by decide +kernel
theorem dX9_takeWord_81 : decode cX9_takeWord 81 = .ok (.goto 7, 3) := by decide +kernel
theorem dX9_takeWord_84 : decode cX9_takeWord 84 = .ok (.aload_n 0, 1) := by decide +kernel
theorem dX9_takeWord_85 : decode cX9_takeWord 85 = .ok (.invokevirtual 73, 3) := by decide +kernel
theorem dX9_takeWord_88 : decode cX9_takeWord 88 = .ok (.putfield 24, 3) := by decide +kernel
theorem dX9_takeWord_91 : decode cX9_takeWord 91 = .ok (.return_, 1) := by decide +kernel
theorem dX9_wordType_0 : decode cX9_wordType 0 = .ok (.iconst 0, 1) := by decide +kernel
theorem dX9_wordType_1 : decode cX9_wordType 1 = .ok (.istore_n 1, 1) := by decide +kernel
theorem dX9_wordType_2 : decode cX9_wordType 2 = .ok (.iload_n 1, 1) := by decide +kernel
theorem dX9_wordType_3 : decode cX9_wordType 3 = .ok (.getstatic 77, 3) := by decide +kernel
theorem dX9_wordType_6 : decode cX9_wordType 6 = .ok (.arraylength, 1) := by decide +kernel
theorem dX9_wordType_7 : decode cX9_wordType 7 = .ok (.if_icmp .ge 28, 3) := by decide +kernel
theorem dX9_wordType_10 : decode cX9_wordType 10 = .ok (.getstatic 77, 3) := by decide +kernel
theorem dX9_wordType_13 : decode cX9_wordType 13 = .ok (.iload_n 1, 1) := by decide +kernel
theorem dX9_wordType_14 : decode cX9_wordType 14 = .ok (.laload, 1) := by decide +kernel
theorem dX9_wordType_15 : decode cX9_wordType 15 = .ok (.aload_n 0, 1) := by decide +kernel
theorem dX9_wordType_16 : decode cX9_wordType 16 = .ok (.getfield 30, 3) := by decide +kernel
theorem dX9_wordType_19 : decode cX9_wordType 19 = .ok (.lcmp, 1) := by decide +kernel
theorem dX9_wordType_20 : decode cX9_wordType 20 = .ok (.ifCond .ne 9, 3) := by decide +kernel
theorem dX9_wordType_23 : decode cX9_wordType 23 = .ok (.sipush 261, 3) := by decide +kernel
theorem dX9_wordType_26 : decode cX9_wordType 26 = .ok (.iload_n 1, 1) := by decide +kernel
theorem dX9_wordType_27 : decode cX9_wordType 27 = .ok (.iadd, 1) := by decide +kernel
theorem dX9_wordType_28 : decode cX9_wordType 28 = .ok (.ireturn, 1) := by decide +kernel
theorem dX9_wordType_29 : decode cX9_wordType 29 = .ok (.iinc 1 1, 3) := by decide +kernel
theorem dX9_wordType_32 : decode cX9_wordType 32 = .ok (.goto (-30), 3) := by decide +kernel
theorem dX9_wordType_35 : decode cX9_wordType 35 = .ok (.sipush 258, 3) := by decide +kernel
theorem dX9_wordType_38 : decode cX9_wordType 38 = .ok (.ireturn, 1) := by decide +kernel
theorem k279 : Cond.fieldLink "BlameCourt$Program" 12 "BlameCourt$Program" "kinds" "LBlameCourt$Kinds;" ∈ gtb := gtm (in_tables_1_1 (List.mem_of_getElem? (i := 93) rfl)) rfl
theorem k280 : Cond.fieldLink "BlameCourt$Judging" 62 "BlameCourt$Program" "kinds" "LBlameCourt$Kinds;" ∈ gtb := gtm (in_tables_1_1 (List.mem_of_getElem? (i := 94) rfl)) rfl
theorem k284 : Cond.fieldLink "BlameCourt$Program" 18 "BlameCourt$Program" "parts" "I" ∈ gtb := gtm (in_tables_1_1 (List.mem_of_getElem? (i := 98) rfl)) rfl
theorem k285 : Cond.fieldLink "BlameCourt$Judging" 79 "BlameCourt$Program" "parts" "I" ∈ gtb := gtm (in_tables_1_1 (List.mem_of_getElem? (i := 99) rfl)) rfl
theorem k289 : Cond.fieldLink "BlameCourt$Program" 22 "BlameCourt$Program" "mainPart" "I" ∈ gtb := gtm (in_tables_1_1 (List.mem_of_getElem? (i := 103) rfl)) rfl
theorem k292 : Cond.fieldLink "BlameCourt$Program" 25 "BlameCourt$Program" "name" "[J" ∈ gtb := gtm (in_tables_1_1 (List.mem_of_getElem? (i := 106) rfl)) rfl
theorem k293 : Cond.fieldLink "BlameCourt$Reade\x72" 135 "BlameCourt$Program" "name" "[J" ∈ gtb := gtm (in_tables_1_1 (List.mem_of_getElem? (i := 107) rfl)) rfl
theorem k294 : Cond.fieldLink "BlameCourt$Program" 29 "BlameCourt$Program" "letters" "[I" ∈ gtb := gtm (in_tables_1_1 (List.mem_of_getElem? (i := 108) rfl)) rfl
theorem k295 : Cond.fieldLink "BlameCourt$Reade\x72" 142 "BlameCourt$Program" "letters" "[I" ∈ gtb := gtm (in_tables_1_1 (List.mem_of_getElem? (i := 109) rfl)) rfl
theorem k298 : Cond.fieldLink "BlameCourt$Reade\x72" 132 "BlameCourt$Program" "partPlace" "[I" ∈ gtb := gtm (in_tables_1_1 (List.mem_of_getElem? (i := 112) rfl)) rfl
theorem k300 : Cond.fieldLink "BlameCourt$Program" 36 "BlameCourt$Program" "params" "[I" ∈ gtb := gtm (in_tables_1_1 (List.mem_of_getElem? (i := 114) rfl)) rfl
theorem k310 : Cond.fieldLink "BlameCourt$Program" 45 "BlameCourt$Program" "isTold" "[Z" ∈ gtb := gtm (in_tables_1_1 (List.mem_of_getElem? (i := 124) rfl)) rfl
theorem k315 : Cond.fieldLink "BlameCourt$Judging" 108 "BlameCourt$Program" "entry" "[I" ∈ gtb := gtm (in_tables_1_1 (List.mem_of_getElem? (i := 129) rfl)) rfl
theorem k318 : Cond.fieldLink "BlameCourt$Judging" 65 "BlameCourt$Program" "textKinds" "I" ∈ gtb := gtm (in_tables_1_1 (List.mem_of_getElem? (i := 132) rfl)) rfl
theorem k320 : Cond.fieldLink "BlameCourt$Program" 55 "BlameCourt$Program" "op" "[I" ∈ gtb := gtm (in_tables_1_1 (List.mem_of_getElem? (i := 134) rfl)) rfl
theorem k324 : Cond.fieldLink "BlameCourt$Program" 58 "BlameCourt$Program" "x" "[I" ∈ gtb := gtm (in_tables_1_1 (List.mem_of_getElem? (i := 138) rfl)) rfl
theorem k328 : Cond.fieldLink "BlameCourt$Program" 61 "BlameCourt$Program" "y" "[I" ∈ gtb := gtm (in_tables_1_1 (List.mem_of_getElem? (i := 142) rfl)) rfl
theorem k331 : Cond.fieldLink "BlameCourt$Program" 64 "BlameCourt$Program" "place" "[I" ∈ gtb := gtm (in_tables_1_1 (List.mem_of_getElem? (i := 145) rfl)) rfl
theorem k335 : Cond.fieldLink "BlameCourt$Program" 67 "BlameCourt$Program" "length" "I" ∈ gtb := gtm (in_tables_1_1 (List.mem_of_getElem? (i := 149) rfl)) rfl
theorem k386 : Cond.fieldLink "BlameCourt$Tokens" 9 "BlameCourt$Tokens" "text" "[B" ∈ gtb := gtm (in_tables_1_1 (List.mem_of_getElem? (i := 200) rfl)) rfl
theorem k387 : Cond.fieldLink "BlameCourt$Tokens" 15 "BlameCourt$Tokens" "length" "I" ∈ gtb := gtm (in_tables_1_1 (List.mem_of_getElem? (i := 201) rfl)) rfl
theorem k388 : Cond.fieldLink "BlameCourt$Tokens" 19 "BlameCourt$Tokens" "next" "I" ∈ gtb := gtm (in_tables_1_1 (List.mem_of_getElem? (i := 202) rfl)) rfl
theorem k389 : Cond.fieldLink "BlameCourt$Tokens" 24 "BlameCourt$Tokens" "type" "I" ∈ gtb := gtm (in_tables_1_1 (List.mem_of_getElem? (i := 203) rfl)) rfl
theorem k390 : Cond.fieldLink "BlameCourt$Reade\x72" 70 "BlameCourt$Tokens" "type" "I" ∈ gtb := gtm (in_tables_1_1 (List.mem_of_getElem? (i := 204) rfl)) rfl
theorem k391 : Cond.fieldLink "BlameCourt$Tokens" 27 "BlameCourt$Tokens" "place" "I" ∈ gtb := gtm (in_tables_1_1 (List.mem_of_getElem? (i := 205) rfl)) rfl
theorem k392 : Cond.fieldLink "BlameCourt$Reade\x72" 120 "BlameCourt$Tokens" "place" "I" ∈ gtb := gtm (in_tables_1_1 (List.mem_of_getElem? (i := 206) rfl)) rfl
theorem k393 : Cond.fieldLink "BlameCourt$Tokens" 30 "BlameCourt$Tokens" "letters" "J" ∈ gtb := gtm (in_tables_1_1 (List.mem_of_getElem? (i := 207) rfl)) rfl
theorem k394 : Cond.fieldLink "BlameCourt$Reade\x72" 138 "BlameCourt$Tokens" "letters" "J" ∈ gtb := gtm (in_tables_1_1 (List.mem_of_getElem? (i := 208) rfl)) rfl
theorem k395 : Cond.fieldLink "BlameCourt$Tokens" 34 "BlameCourt$Tokens" "letterCount" "I" ∈ gtb := gtm (in_tables_1_1 (List.mem_of_getElem? (i := 209) rfl)) rfl
theorem k396 : Cond.fieldLink "BlameCourt$Reade\x72" 144 "BlameCourt$Tokens" "letterCount" "I" ∈ gtb := gtm (in_tables_1_1 (List.mem_of_getElem? (i := 210) rfl)) rfl
theorem k397 : Cond.fieldLink "BlameCourt$Tokens" 37 "BlameCourt$Tokens" "numbe\x72" "J" ∈ gtb := gtm (in_tables_1_1 (List.mem_of_getElem? (i := 211) rfl)) rfl
theorem k416 : Cond.fieldLink "BlameCourt$Reade\x72" 14 "BlameCourt$Reade\x72" "tokens" "LBlameCourt$Tokens;" ∈ gtb := gtm (in_tables_1_1 (List.mem_of_getElem? (i := 230) rfl)) rfl
theorem k417 : Cond.fieldLink "BlameCourt$Reade\x72" 18 "BlameCourt$Reade\x72" "program" "LBlameCourt$Program;" ∈ gtb := gtm (in_tables_1_1 (List.mem_of_getElem? (i := 231) rfl)) rfl
theorem k418 : Cond.fieldLink "BlameCourt$Reade\x72" 22 "BlameCourt$Reade\x72" "open" "I" ∈ gtb := gtm (in_tables_1_1 (List.mem_of_getElem? (i := 232) rfl)) rfl
theorem k419 : Cond.fieldLink "BlameCourt$Reade\x72" 26 "BlameCourt$Reade\x72" "fault" "I" ∈ gtb := gtm (in_tables_1_1 (List.mem_of_getElem? (i := 233) rfl)) rfl
theorem k421 : Cond.fieldLink "BlameCourt$Reade\x72" 29 "BlameCourt$Reade\x72" "faultPlace" "I" ∈ gtb := gtm (in_tables_1_1 (List.mem_of_getElem? (i := 235) rfl)) rfl
theorem k423 : Cond.fieldLink "BlameCourt$Reade\x72" 32 "BlameCourt$Reade\x72" "namePlace" "[I" ∈ gtb := gtm (in_tables_1_1 (List.mem_of_getElem? (i := 237) rfl)) rfl
theorem k424 : Cond.fieldLink "BlameCourt$Reade\x72" 36 "BlameCourt$Reade\x72" "local" "[J" ∈ gtb := gtm (in_tables_1_1 (List.mem_of_getElem? (i := 238) rfl)) rfl
theorem k425 : Cond.fieldLink "BlameCourt$Reade\x72" 40 "BlameCourt$Reade\x72" "locals" "I" ∈ gtb := gtm (in_tables_1_1 (List.mem_of_getElem? (i := 239) rfl)) rfl
theorem k483 : Cond.fieldLink "BlameCourt$Judging" 74 "BlameCourt$Guards" "count" "I" ∈ gtb := gtm (in_tables_1_2 (List.mem_of_getElem? (i := 57) rfl)) rfl
theorem k743 : Cond.methodLink "BlameCourt$Program" 70 yX3_forgetTexts ∈ gtb := gtm (in_tables_1_3 (List.mem_of_getElem? (i := 77) rfl)) rfl
theorem k747 : Cond.methodLink "BlameCourt$Kinds" 56 yX3_cutTo ∈ gtb := gtm (in_tables_1_3 (List.mem_of_getElem? (i := 81) rfl)) rfl
theorem k755 : Cond.methodLink "BlameCourt$Tokens" 40 yJ9_min_7cf53 ∈ gtb := gtm (in_tables_1_3 (List.mem_of_getElem? (i := 89) rfl)) rfl
theorem k756 : Cond.static yJ9_min_7cf53 ∈ gtb := gtm (in_tables_1_3 (List.mem_of_getElem? (i := 90) rfl)) rfl
theorem k757 : Cond.code yJ9_min_7cf53 prog_14_method_69_code 2 (some .int) ∈ gtb := gtm (in_tables_1_3 (List.mem_of_getElem? (i := 91) rfl)) rfl
theorem k758 : Cond.methodLink "BlameCourt$Tokens" 46 yX9_goTo ∈ gtb := gtm (in_tables_1_3 (List.mem_of_getElem? (i := 92) rfl)) rfl
theorem k762 : Cond.methodLink "BlameCourt$Tokens" 50 yX9_advance ∈ gtb := gtm (in_tables_1_3 (List.mem_of_getElem? (i := 96) rfl)) rfl
theorem k766 : Cond.methodLink "BlameCourt$Tokens" 53 yX9_byteAt ∈ gtb := gtm (in_tables_1_3 (List.mem_of_getElem? (i := 100) rfl)) rfl
theorem k770 : Cond.methodLink "BlameCourt$Tokens" 57 yX9_isLetter ∈ gtb := gtm (in_tables_1_3 (List.mem_of_getElem? (i := 104) rfl)) rfl
theorem k771 : Cond.static yX9_isLetter ∈ gtb := gtm (in_tables_1_3 (List.mem_of_getElem? (i := 105) rfl)) rfl
theorem k773 : Cond.methodLink "BlameCourt$Tokens" 61 yX9_takeWord ∈ gtb := gtm (in_tables_1_3 (List.mem_of_getElem? (i := 107) rfl)) rfl
theorem k777 : Cond.methodLink "BlameCourt$Tokens" 73 yX9_wordType ∈ gtb := gtm (in_tables_1_3 (List.mem_of_getElem? (i := 111) rfl)) rfl
theorem k781 : Cond.fieldLink "BlameCourt$Tokens" 77 "BlameCourt$Token" "WORDS" "[J" ∈ gtb := gtm (in_tables_1_3 (List.mem_of_getElem? (i := 115) rfl)) rfl
theorem k783 : Cond.methodLink "BlameCourt$Tokens" 64 yX9_isDigit ∈ gtb := gtm (in_tables_1_3 (List.mem_of_getElem? (i := 117) rfl)) rfl
theorem k784 : Cond.static yX9_isDigit ∈ gtb := gtm (in_tables_1_3 (List.mem_of_getElem? (i := 118) rfl)) rfl
theorem k786 : Cond.methodLink "BlameCourt$Tokens" 67 yX9_takeNumber ∈ gtb := gtm (in_tables_1_3 (List.mem_of_getElem? (i := 120) rfl)) rfl
theorem k790 : Cond.constantLong "BlameCourt$Tokens" 81 10 ∈ gtb := gtm (in_tables_1_3 (List.mem_of_getElem? (i := 124) rfl)) rfl
theorem k791 : Cond.constantLong "BlameCourt$Tokens" 83 48 ∈ gtb := gtm (in_tables_1_3 (List.mem_of_getElem? (i := 125) rfl)) rfl
theorem k792 : Cond.constantLong "BlameCourt$Tokens" 85 2147483648 ∈ gtb := gtm (in_tables_1_3 (List.mem_of_getElem? (i := 126) rfl)) rfl
theorem k793 : Cond.methodLink "BlameCourt$Tokens" 70 yX9_takeSign ∈ gtb := gtm (in_tables_1_3 (List.mem_of_getElem? (i := 127) rfl)) rfl
theorem k797 : Cond.methodLink "BlameCourt$Tokens" 87 yX9_isSign ∈ gtb := gtm (in_tables_1_3 (List.mem_of_getElem? (i := 131) rfl)) rfl
theorem k798 : Cond.static yX9_isSign ∈ gtb := gtm (in_tables_1_3 (List.mem_of_getElem? (i := 132) rfl)) rfl
theorem k800 : Cond.methodLink "BlameCourt$Reade\x72" 75 yX6_refuse ∈ gtb := gtm (in_tables_1_3 (List.mem_of_getElem? (i := 134) rfl)) rfl
theorem k804 : Cond.methodLink "BlameCourt$Reade\x72" 123 yX6_refuseAt ∈ gtb := gtm (in_tables_1_3 (List.mem_of_getElem? (i := 138) rfl)) rfl
theorem k808 : Cond.methodLink "BlameCourt$Reade\x72" 126 yX9_stop ∈ gtb := gtm (in_tables_1_3 (List.mem_of_getElem? (i := 142) rfl)) rfl
theorem k816 : Cond.methodLink "BlameCourt$Reade\x72" 129 yX9_advance ∈ gtb := gtm (in_tables_1_3 (List.mem_of_getElem? (i := 150) rfl)) rfl
theorem k817 : Cond.methodLink "BlameCourt$Reade\x72" 147 yX6_want ∈ gtb := gtm (in_tables_1_3 (List.mem_of_getElem? (i := 151) rfl)) rfl
theorem k1000 : Cond.methodLink "BlameCourt$Judging" 68 yX3_cutTo ∈ gtb := gtm (in_tables_1_4 (List.mem_of_getElem? (i := 94) rfl)) rfl
theorem k1001 : Cond.methodLink "BlameCourt$Judging" 82 yX2_takeHeader ∈ gtb := gtm (in_tables_1_4 (List.mem_of_getElem? (i := 95) rfl)) rfl
theorem k1011 : Cond.methodLink "BlameCourt$Judging" 85 yX2_judgePart ∈ gtb := gtm (in_tables_1_4 (List.mem_of_getElem? (i := 105) rfl)) rfl
theorem k1015 : Cond.methodLink "BlameCourt$Judging" 119 yX2_judgeAsking ∈ gtb := gtm (in_tables_1_4 (List.mem_of_getElem? (i := 109) rfl)) rfl
theorem k1083 : Cond.methodLink "BlameCourt$Judging" 125 yX2_judgeWork ∈ gtb := gtm (in_tables_1_4 (List.mem_of_getElem? (i := 177) rfl)) rfl
theorem k1100 : Cond.methodLink "BlameCourt$Judging" 129 yX2_judgePlain ∈ gtb := gtm (in_tables_1_4 (List.mem_of_getElem? (i := 194) rfl)) rfl
theorem k999 : Cond.code yX2_judgeAll cX2_judgeAll 4 none ∈ gtb := gtm (in_tables_1_4 (List.mem_of_getElem? (i := 93) rfl)) rfl
theorem ka_X2_judgeAll : KA yX2_judgeAll cX2_judgeAll 4 none 2 := ⟨k999, k194, by decide, by decide, by decide +kernel⟩
theorem k997 : Cond.instanceMethod yX2_judgeAll ∈ gtb := gtm (in_tables_1_4 (List.mem_of_getElem? (i := 91) rfl)) rfl
theorem k998 : Cond.selects "BlameCourt$Judging" yX2_judgeAll yX2_judgeAll ∈ gtb := gtm (in_tables_1_4 (List.mem_of_getElem? (i := 92) rfl)) rfl
theorem kv_X2_judgeAll : KV yX2_judgeAll := ⟨k997, k998⟩
theorem k1014 : Cond.code yX2_judgePart cX2_judgePart 3 none ∈ gtb := gtm (in_tables_1_4 (List.mem_of_getElem? (i := 108) rfl)) rfl
theorem ka_X2_judgePart : KA yX2_judgePart cX2_judgePart 3 none 1 := ⟨k1014, k194, by decide, by decide, by decide +kernel⟩
theorem k1013 : Cond.instanceMethod yX2_judgePart ∈ gtb := gtm (in_tables_1_4 (List.mem_of_getElem? (i := 107) rfl)) rfl
theorem k49 : Cond.selects "BlameCourt$Judging" yX2_judgePart yX2_judgePart ∈ gtb := gtm (in_lw_privs_4 (q := (yX2_judgePart, 15)) (List.mem_of_getElem? (i := 1) rfl)) rfl
theorem kv_X2_judgePart : KV yX2_judgePart := ⟨k1013, k49⟩
theorem k746 : Cond.code yX3_forgetTexts cX3_forgetTexts 1 none ∈ gtb := gtm (in_tables_1_3 (List.mem_of_getElem? (i := 80) rfl)) rfl
theorem ka_X3_forgetTexts : KA yX3_forgetTexts cX3_forgetTexts 1 none 0 := ⟨k746, k189, by decide, by decide, by decide +kernel⟩
theorem k744 : Cond.instanceMethod yX3_forgetTexts ∈ gtb := gtm (in_tables_1_3 (List.mem_of_getElem? (i := 78) rfl)) rfl
theorem k745 : Cond.selects "BlameCourt$Kinds" yX3_forgetTexts yX3_forgetTexts ∈ gtb := gtm (in_tables_1_3 (List.mem_of_getElem? (i := 79) rfl)) rfl
theorem kv_X3_forgetTexts : KV yX3_forgetTexts := ⟨k744, k745⟩
theorem k1199 : Cond.code yX3_withAnys cX3_withAnys 2 (some .int) ∈ gtb := gtm (in_tables_1_5 (List.mem_of_getElem? (i := 53) rfl)) rfl
theorem ka_X3_withAnys : KA yX3_withAnys cX3_withAnys 2 (some .int) 1 := ⟨k1199, k189, by decide, by decide, by decide +kernel⟩
theorem k1197 : Cond.instanceMethod yX3_withAnys ∈ gtb := gtm (in_tables_1_5 (List.mem_of_getElem? (i := 51) rfl)) rfl
theorem k1198 : Cond.selects "BlameCourt$Kinds" yX3_withAnys yX3_withAnys ∈ gtb := gtm (in_tables_1_5 (List.mem_of_getElem? (i := 52) rfl)) rfl
theorem kv_X3_withAnys : KV yX3_withAnys := ⟨k1197, k1198⟩
theorem k742 : Cond.code yX5_clear cX5_clear 2 none ∈ gtb := gtm (in_tables_1_3 (List.mem_of_getElem? (i := 76) rfl)) rfl
theorem k188 : Cond.initialized "BlameCourt$Program" ∈ gtb := gtm (in_tables_1_1 (List.mem_of_getElem? (i := 2) rfl)) rfl
theorem ka_X5_clear : KA yX5_clear cX5_clear 2 none 0 := ⟨k742, k188, by decide, by decide, by decide +kernel⟩
theorem k740 : Cond.instanceMethod yX5_clear ∈ gtb := gtm (in_tables_1_3 (List.mem_of_getElem? (i := 74) rfl)) rfl
theorem k741 : Cond.selects "BlameCourt$Program" yX5_clear yX5_clear ∈ gtb := gtm (in_tables_1_3 (List.mem_of_getElem? (i := 75) rfl)) rfl
theorem kv_X5_clear : KV yX5_clear := ⟨k740, k741⟩
theorem k878 : Cond.code yX5_emit cX5_emit 4 (some .int) ∈ gtb := gtm (in_tables_1_3 (List.mem_of_getElem? (i := 212) rfl)) rfl
theorem ka_X5_emit : KA yX5_emit cX5_emit 4 (some .int) 3 := ⟨k878, k188, by decide, by decide, by decide +kernel⟩
theorem k876 : Cond.instanceMethod yX5_emit ∈ gtb := gtm (in_tables_1_3 (List.mem_of_getElem? (i := 210) rfl)) rfl
theorem k877 : Cond.selects "BlameCourt$Program" yX5_emit yX5_emit ∈ gtb := gtm (in_tables_1_3 (List.mem_of_getElem? (i := 211) rfl)) rfl
theorem kv_X5_emit : KV yX5_emit := ⟨k876, k877⟩
theorem k1124 : Cond.code yX5_letterOf cX5_letterOf 3 (some .int) ∈ gtb := gtm (in_tables_1_4 (List.mem_of_getElem? (i := 218) rfl)) rfl
theorem ka_X5_letterOf : KA yX5_letterOf cX5_letterOf 3 (some .int) 2 := ⟨k1124, k188, by decide, by decide, by decide +kernel⟩
theorem k1122 : Cond.instanceMethod yX5_letterOf ∈ gtb := gtm (in_tables_1_4 (List.mem_of_getElem? (i := 216) rfl)) rfl
theorem k1123 : Cond.selects "BlameCourt$Program" yX5_letterOf yX5_letterOf ∈ gtb := gtm (in_tables_1_4 (List.mem_of_getElem? (i := 217) rfl)) rfl
theorem kv_X5_letterOf : KV yX5_letterOf := ⟨k1122, k1123⟩
theorem k979 : Cond.code yX5_paramsOf cX5_paramsOf 2 (some .int) ∈ gtb := gtm (in_tables_1_4 (List.mem_of_getElem? (i := 73) rfl)) rfl
theorem ka_X5_paramsOf : KA yX5_paramsOf cX5_paramsOf 2 (some .int) 1 := ⟨k979, k188, by decide, by decide, by decide +kernel⟩
theorem k977 : Cond.instanceMethod yX5_paramsOf ∈ gtb := gtm (in_tables_1_4 (List.mem_of_getElem? (i := 71) rfl)) rfl
theorem k978 : Cond.selects "BlameCourt$Program" yX5_paramsOf yX5_paramsOf ∈ gtb := gtm (in_tables_1_4 (List.mem_of_getElem? (i := 72) rfl)) rfl
theorem kv_X5_paramsOf : KV yX5_paramsOf := ⟨k977, k978⟩
theorem k969 : Cond.code yX5_partOfName cX5_partOfName 4 (some .int) ∈ gtb := gtm (in_tables_1_4 (List.mem_of_getElem? (i := 63) rfl)) rfl
theorem ka_X5_partOfName : KA yX5_partOfName cX5_partOfName 4 (some .int) 1 := ⟨k969, k188, by decide, by decide, by decide +kernel⟩
theorem k967 : Cond.instanceMethod yX5_partOfName ∈ gtb := gtm (in_tables_1_4 (List.mem_of_getElem? (i := 61) rfl)) rfl
theorem k968 : Cond.selects "BlameCourt$Program" yX5_partOfName yX5_partOfName ∈ gtb := gtm (in_tables_1_4 (List.mem_of_getElem? (i := 62) rfl)) rfl
theorem kv_X5_partOfName : KV yX5_partOfName := ⟨k967, k968⟩
theorem k828 : Cond.code yX6_enter cX6_enter 2 none ∈ gtb := gtm (in_tables_1_3 (List.mem_of_getElem? (i := 162) rfl)) rfl
theorem k191 : Cond.initialized "BlameCourt$Reade\x72" ∈ gtb := gtm (in_tables_1_1 (List.mem_of_getElem? (i := 5) rfl)) rfl
theorem ka_X6_enter : KA yX6_enter cX6_enter 2 none 1 := ⟨k828, k191, by decide, by decide, by decide +kernel⟩
theorem k827 : Cond.instanceMethod yX6_enter ∈ gtb := gtm (in_tables_1_3 (List.mem_of_getElem? (i := 161) rfl)) rfl
theorem k13 : Cond.selects "BlameCourt$Reade\x72" yX6_enter yX6_enter ∈ gtb := gtm (in_lw_privs_1 (q := (yX6_enter, 14)) (List.mem_of_getElem? (i := 13) rfl)) rfl
theorem kv_X6_enter : KV yX6_enter := ⟨k827, k13⟩
theorem k803 : Cond.code yX6_refuse cX6_refuse 2 none ∈ gtb := gtm (in_tables_1_3 (List.mem_of_getElem? (i := 137) rfl)) rfl
theorem ka_X6_refuse : KA yX6_refuse cX6_refuse 2 none 1 := ⟨k803, k191, by decide, by decide, by decide +kernel⟩
theorem k802 : Cond.instanceMethod yX6_refuse ∈ gtb := gtm (in_tables_1_3 (List.mem_of_getElem? (i := 136) rfl)) rfl
theorem k8 : Cond.selects "BlameCourt$Reade\x72" yX6_refuse yX6_refuse ∈ gtb := gtm (in_lw_privs_1 (q := (yX6_refuse, 14)) (List.mem_of_getElem? (i := 8) rfl)) rfl
theorem kv_X6_refuse : KV yX6_refuse := ⟨k802, k8⟩
theorem k807 : Cond.code yX6_refuseAt cX6_refuseAt 3 none ∈ gtb := gtm (in_tables_1_3 (List.mem_of_getElem? (i := 141) rfl)) rfl
theorem ka_X6_refuseAt : KA yX6_refuseAt cX6_refuseAt 3 none 2 := ⟨k807, k191, by decide, by decide, by decide +kernel⟩
theorem k806 : Cond.instanceMethod yX6_refuseAt ∈ gtb := gtm (in_tables_1_3 (List.mem_of_getElem? (i := 140) rfl)) rfl
theorem k9 : Cond.selects "BlameCourt$Reade\x72" yX6_refuseAt yX6_refuseAt ∈ gtb := gtm (in_lw_privs_1 (q := (yX6_refuseAt, 14)) (List.mem_of_getElem? (i := 9) rfl)) rfl
theorem kv_X6_refuseAt : KV yX6_refuseAt := ⟨k806, k9⟩
theorem k832 : Cond.code yX6_slotOf cX6_slotOf 4 (some .int) ∈ gtb := gtm (in_tables_1_3 (List.mem_of_getElem? (i := 166) rfl)) rfl
theorem ka_X6_slotOf : KA yX6_slotOf cX6_slotOf 4 (some .int) 1 := ⟨k832, k191, by decide, by decide, by decide +kernel⟩
theorem k831 : Cond.instanceMethod yX6_slotOf ∈ gtb := gtm (in_tables_1_3 (List.mem_of_getElem? (i := 165) rfl)) rfl
theorem k14 : Cond.selects "BlameCourt$Reade\x72" yX6_slotOf yX6_slotOf ∈ gtb := gtm (in_lw_privs_1 (q := (yX6_slotOf, 14)) (List.mem_of_getElem? (i := 14) rfl)) rfl
theorem kv_X6_slotOf : KV yX6_slotOf := ⟨k831, k14⟩
theorem k815 : Cond.code yX6_takePartName cX6_takePartName 2 none ∈ gtb := gtm (in_tables_1_3 (List.mem_of_getElem? (i := 149) rfl)) rfl
theorem ka_X6_takePartName : KA yX6_takePartName cX6_takePartName 2 none 1 := ⟨k815, k191, by decide, by decide, by decide +kernel⟩
theorem k814 : Cond.instanceMethod yX6_takePartName ∈ gtb := gtm (in_tables_1_3 (List.mem_of_getElem? (i := 148) rfl)) rfl
theorem k10 : Cond.selects "BlameCourt$Reade\x72" yX6_takePartName yX6_takePartName ∈ gtb := gtm (in_lw_privs_1 (q := (yX6_takePartName, 14)) (List.mem_of_getElem? (i := 10) rfl)) rfl
theorem kv_X6_takePartName : KV yX6_takePartName := ⟨k814, k10⟩
theorem k820 : Cond.code yX6_want cX6_want 2 none ∈ gtb := gtm (in_tables_1_3 (List.mem_of_getElem? (i := 154) rfl)) rfl
theorem ka_X6_want : KA yX6_want cX6_want 2 none 1 := ⟨k820, k191, by decide, by decide, by decide +kernel⟩
theorem k819 : Cond.instanceMethod yX6_want ∈ gtb := gtm (in_tables_1_3 (List.mem_of_getElem? (i := 153) rfl)) rfl
theorem k11 : Cond.selects "BlameCourt$Reade\x72" yX6_want yX6_want ∈ gtb := gtm (in_lw_privs_1 (q := (yX6_want, 14)) (List.mem_of_getElem? (i := 11) rfl)) rfl
theorem kv_X6_want : KV yX6_want := ⟨k819, k11⟩
theorem k765 : Cond.code yX9_advance cX9_advance 3 none ∈ gtb := gtm (in_tables_1_3 (List.mem_of_getElem? (i := 99) rfl)) rfl
theorem k192 : Cond.initialized "BlameCourt$Tokens" ∈ gtb := gtm (in_tables_1_1 (List.mem_of_getElem? (i := 6) rfl)) rfl
theorem ka_X9_advance : KA yX9_advance cX9_advance 3 none 0 := ⟨k765, k192, by decide, by decide, by decide +kernel⟩
theorem k763 : Cond.instanceMethod yX9_advance ∈ gtb := gtm (in_tables_1_3 (List.mem_of_getElem? (i := 97) rfl)) rfl
theorem k764 : Cond.selects "BlameCourt$Tokens" yX9_advance yX9_advance ∈ gtb := gtm (in_tables_1_3 (List.mem_of_getElem? (i := 98) rfl)) rfl
theorem kv_X9_advance : KV yX9_advance := ⟨k763, k764⟩
theorem k754 : Cond.code yX9_begin cX9_begin 3 none ∈ gtb := gtm (in_tables_1_3 (List.mem_of_getElem? (i := 88) rfl)) rfl
theorem ka_X9_begin : KA yX9_begin cX9_begin 3 none 2 := ⟨k754, k192, by decide, by decide, by decide +kernel⟩
theorem k752 : Cond.instanceMethod yX9_begin ∈ gtb := gtm (in_tables_1_3 (List.mem_of_getElem? (i := 86) rfl)) rfl
theorem k753 : Cond.selects "BlameCourt$Tokens" yX9_begin yX9_begin ∈ gtb := gtm (in_tables_1_3 (List.mem_of_getElem? (i := 87) rfl)) rfl
theorem kv_X9_begin : KV yX9_begin := ⟨k752, k753⟩
theorem k769 : Cond.code yX9_byteAt cX9_byteAt 2 (some .int) ∈ gtb := gtm (in_tables_1_3 (List.mem_of_getElem? (i := 103) rfl)) rfl
theorem ka_X9_byteAt : KA yX9_byteAt cX9_byteAt 2 (some .int) 1 := ⟨k769, k192, by decide, by decide, by decide +kernel⟩
theorem k768 : Cond.instanceMethod yX9_byteAt ∈ gtb := gtm (in_tables_1_3 (List.mem_of_getElem? (i := 102) rfl)) rfl
theorem k3 : Cond.selects "BlameCourt$Tokens" yX9_byteAt yX9_byteAt ∈ gtb := gtm (in_lw_privs_1 (q := (yX9_byteAt, 8)) (List.mem_of_getElem? (i := 3) rfl)) rfl
theorem kv_X9_byteAt : KV yX9_byteAt := ⟨k768, k3⟩
theorem k761 : Cond.code yX9_goTo cX9_goTo 2 none ∈ gtb := gtm (in_tables_1_3 (List.mem_of_getElem? (i := 95) rfl)) rfl
theorem ka_X9_goTo : KA yX9_goTo cX9_goTo 2 none 1 := ⟨k761, k192, by decide, by decide, by decide +kernel⟩
theorem k759 : Cond.instanceMethod yX9_goTo ∈ gtb := gtm (in_tables_1_3 (List.mem_of_getElem? (i := 93) rfl)) rfl
theorem k760 : Cond.selects "BlameCourt$Tokens" yX9_goTo yX9_goTo ∈ gtb := gtm (in_tables_1_3 (List.mem_of_getElem? (i := 94) rfl)) rfl
theorem kv_X9_goTo : KV yX9_goTo := ⟨k759, k760⟩
theorem k785 : Cond.code yX9_isDigit cX9_isDigit 1 (some .boolean) ∈ gtb := gtm (in_tables_1_3 (List.mem_of_getElem? (i := 119) rfl)) rfl
theorem ka_X9_isDigit : KA yX9_isDigit cX9_isDigit 1 (some .boolean) 1 := ⟨k785, k192, by decide, by decide, by decide +kernel⟩
theorem k772 : Cond.code yX9_isLetter cX9_isLetter 1 (some .boolean) ∈ gtb := gtm (in_tables_1_3 (List.mem_of_getElem? (i := 106) rfl)) rfl
theorem ka_X9_isLetter : KA yX9_isLetter cX9_isLetter 1 (some .boolean) 1 := ⟨k772, k192, by decide, by decide, by decide +kernel⟩
theorem k799 : Cond.code yX9_isSign cX9_isSign 1 (some .boolean) ∈ gtb := gtm (in_tables_1_3 (List.mem_of_getElem? (i := 133) rfl)) rfl
theorem ka_X9_isSign : KA yX9_isSign cX9_isSign 1 (some .boolean) 1 := ⟨k799, k192, by decide, by decide, by decide +kernel⟩
theorem k811 : Cond.code yX9_stop cX9_stop 1 none ∈ gtb := gtm (in_tables_1_3 (List.mem_of_getElem? (i := 145) rfl)) rfl
theorem ka_X9_stop : KA yX9_stop cX9_stop 1 none 0 := ⟨k811, k192, by decide, by decide, by decide +kernel⟩
theorem k809 : Cond.instanceMethod yX9_stop ∈ gtb := gtm (in_tables_1_3 (List.mem_of_getElem? (i := 143) rfl)) rfl
theorem k810 : Cond.selects "BlameCourt$Tokens" yX9_stop yX9_stop ∈ gtb := gtm (in_tables_1_3 (List.mem_of_getElem? (i := 144) rfl)) rfl
theorem kv_X9_stop : KV yX9_stop := ⟨k809, k810⟩
theorem k789 : Cond.code yX9_takeNumber cX9_takeNumber 2 none ∈ gtb := gtm (in_tables_1_3 (List.mem_of_getElem? (i := 123) rfl)) rfl
theorem ka_X9_takeNumber : KA yX9_takeNumber cX9_takeNumber 2 none 0 := ⟨k789, k192, by decide, by decide, by decide +kernel⟩
theorem k788 : Cond.instanceMethod yX9_takeNumber ∈ gtb := gtm (in_tables_1_3 (List.mem_of_getElem? (i := 122) rfl)) rfl
theorem k6 : Cond.selects "BlameCourt$Tokens" yX9_takeNumber yX9_takeNumber ∈ gtb := gtm (in_lw_privs_1 (q := (yX9_takeNumber, 8)) (List.mem_of_getElem? (i := 6) rfl)) rfl
theorem kv_X9_takeNumber : KV yX9_takeNumber := ⟨k788, k6⟩
theorem k796 : Cond.code yX9_takeSign cX9_takeSign 2 none ∈ gtb := gtm (in_tables_1_3 (List.mem_of_getElem? (i := 130) rfl)) rfl
theorem ka_X9_takeSign : KA yX9_takeSign cX9_takeSign 2 none 1 := ⟨k796, k192, by decide, by decide, by decide +kernel⟩
theorem k795 : Cond.instanceMethod yX9_takeSign ∈ gtb := gtm (in_tables_1_3 (List.mem_of_getElem? (i := 129) rfl)) rfl
theorem k7 : Cond.selects "BlameCourt$Tokens" yX9_takeSign yX9_takeSign ∈ gtb := gtm (in_lw_privs_1 (q := (yX9_takeSign, 8)) (List.mem_of_getElem? (i := 7) rfl)) rfl
theorem kv_X9_takeSign : KV yX9_takeSign := ⟨k795, k7⟩
theorem k776 : Cond.code yX9_takeWord cX9_takeWord 2 none ∈ gtb := gtm (in_tables_1_3 (List.mem_of_getElem? (i := 110) rfl)) rfl
theorem ka_X9_takeWord : KA yX9_takeWord cX9_takeWord 2 none 0 := ⟨k776, k192, by decide, by decide, by decide +kernel⟩
theorem k775 : Cond.instanceMethod yX9_takeWord ∈ gtb := gtm (in_tables_1_3 (List.mem_of_getElem? (i := 109) rfl)) rfl
theorem k4 : Cond.selects "BlameCourt$Tokens" yX9_takeWord yX9_takeWord ∈ gtb := gtm (in_lw_privs_1 (q := (yX9_takeWord, 8)) (List.mem_of_getElem? (i := 4) rfl)) rfl
theorem kv_X9_takeWord : KV yX9_takeWord := ⟨k775, k4⟩
theorem k780 : Cond.code yX9_wordType cX9_wordType 2 (some .int) ∈ gtb := gtm (in_tables_1_3 (List.mem_of_getElem? (i := 114) rfl)) rfl
theorem ka_X9_wordType : KA yX9_wordType cX9_wordType 2 (some .int) 0 := ⟨k780, k192, by decide, by decide, by decide +kernel⟩
theorem k779 : Cond.instanceMethod yX9_wordType ∈ gtb := gtm (in_tables_1_3 (List.mem_of_getElem? (i := 113) rfl)) rfl
theorem k5 : Cond.selects "BlameCourt$Tokens" yX9_wordType yX9_wordType ∈ gtb := gtm (in_lw_privs_1 (q := (yX9_wordType, 8)) (List.mem_of_getElem? (i := 5) rfl)) rfl
theorem kv_X9_wordType : KV yX9_wordType := ⟨k779, k5⟩
noncomputable def g_Judging_judgePart_172 (r57 : Int32 → Int32 → St → Option (Int32 × St)) (a_1 : Int32) (a_2 : Int32) (X : St) : Option (Int32 × St) :=
  letV (a_2 + Int32.ofInt (1)) fun x27 =>
  r57 a_1 x27 X
set_option maxHeartbeats 4000000 in
set_option maxRecDepth 100000 in
theorem k_Judging_judgePart_172 (Γ : GxC) (As : List Value) (r57 : Int32 → Int32 → St → Option (Int32 × St)) (hr57 : ∀ (a_1 : Int32) (a_2 : Int32) (X : St), TC YC Γ cX2_judgePart 3 "BlameCourt$Judging" none { frames := 71, cells := 0, slots := 0, locals := 2830 } As kV 57 [(0, .ref (Γ.2.2.2.1 61)), (1, .int a_1), (2, .int a_2)] [] X (r57 a_1 a_2 X)) (a_1 : Int32) (a_2 : Int32) (X : St) : TC YC Γ cX2_judgePart 3 "BlameCourt$Judging" none { frames := 71, cells := 0, slots := 0, locals := 2830 } As kV 172 [(0, .ref (Γ.2.2.2.1 61)), (1, .int a_1), (2, .int a_2)] [] X (g_Judging_judgePart_172 r57 a_1 a_2 X) := by
  unfold g_Judging_judgePart_172
  refine TC.iinc dX2_judgePart_172 2 rfl (by decide) (lvf := fun x27 => [(2, .int x27), (0, .ref (Γ.2.2.2.1 61)), (1, .int a_1)]) (fun _ => rfl) (fun x27 => ?_)
  refine TC.goto (pc1 := 57) dX2_judgePart_175 (by decide) ?_
  refine TC.sub [1, 2, 0] rfl ?_
  exact hr57 a_1 x27 X
noncomputable def g_Judging_judgePart_57_s (r57 : Int32 → Int32 → St → Option (Int32 × St)) (a_1 : Int32) (a_2 : Int32) (X : St) : Option (Int32 × St) :=
  chk (refO YC (X.2.2 61 1) 4 17 = true) (letV (X.2.2 61 1 - 1) fun e9 =>
  letV (kY YC e9 4 - 3) fun e10 =>
  letV (a_1 + (1 : Int32)) fun x11 =>
  chk (inR x11 41) (letV (X.1 e10 (ix x11)) fun x12 =>
  if x12.toInt ≤ a_2.toInt then
    some (0, X)
  else
    letV (X.1 61 4) fun x13 =>
    if x13.toInt = 0 then
      chk (refO YC (X.2.2 61 1) 4 17 = true) (letV (X.2.2 61 1 - 1) fun e14 =>
      letV (kY YC e14 13 - 3) fun e15 =>
      chk (inR a_2 9080) (letV (X.1 e15 (ix a_2)) fun x16 =>
      if x16.toInt < 27 then
        chk (refO YC (X.2.2 61 1) 4 17 = true) (letV (X.2.2 61 1 - 1) fun e17 =>
        letV (kY YC e17 13 - 3) fun e18 =>
        chk (inR a_2 9080) (letV (X.1 e18 (ix a_2)) fun x19 =>
        if x19.toInt < 11 then
          chk (refO YC (X.2.2 61 1) 4 17 = true) (letV (X.2.2 61 1 - 1) fun e20 =>
          letV (kY YC e20 13 - 3) fun e21 =>
          chk (inR a_2 9080) (letV (X.1 e21 (ix a_2)) fun x22 =>
          chk (refO YC (X.2.2 61 1) 4 17 = true) (letV (X.2.2 61 1 - 1) fun e23 =>
          letV (kY YC e23 14 - 3) fun e24 =>
          chk (inR a_2 9080) (letV (X.1 e24 (ix a_2)) fun x25 =>
          bnd (g_Judging_judgePlain x22 x25 X) fun _ X26 =>
          g_Judging_judgePart_172 r57 a_1 a_2 X26))))
        else
          chk (refO YC (X.2.2 61 1) 4 17 = true) (letV (X.2.2 61 1 - 1) fun e28 =>
          letV (kY YC e28 13 - 3) fun e29 =>
          chk (inR a_2 9080) (letV (X.1 e29 (ix a_2)) fun x30 =>
          chk (refO YC (X.2.2 61 1) 4 17 = true) (letV (X.2.2 61 1 - 1) fun e31 =>
          letV (kY YC e31 14 - 3) fun e32 =>
          chk (inR a_2 9080) (letV (X.1 e32 (ix a_2)) fun x33 =>
          bnd (g_Judging_judgeWork x30 x33 X) fun _ X34 =>
          g_Judging_judgePart_172 r57 a_1 a_2 X34))))))
      else
        chk (refO YC (X.2.2 61 1) 4 17 = true) (letV (X.2.2 61 1 - 1) fun e35 =>
        letV (kY YC e35 15 - 3) fun e36 =>
        chk (inR a_2 9080) (letV (wI X e36 (ix a_2) (-1 : Int32)) fun X37 =>
        bnd (g_Judging_judgeAsking a_2 X37) fun _ X38 =>
        g_Judging_judgePart_172 r57 a_1 a_2 X38))))
    else
      some (0, X)))
noncomputable def g_Judging_judgePart_57 (n : Nat) : Int32 → Int32 → St → Option (Int32 × St) := lp (fun _ _ _ => none) (g_Judging_judgePart_57_s) n
set_option maxHeartbeats 4000000 in
set_option maxRecDepth 100000 in
theorem k_Judging_judgePart_57 (Γ : GxC) (As : List Value) (n : Nat) : ∀ (a_1 : Int32) (a_2 : Int32) (X : St), TC YC Γ cX2_judgePart 3 "BlameCourt$Judging" none { frames := 71, cells := 0, slots := 0, locals := 2830 } As kV 57 [(0, .ref (Γ.2.2.2.1 61)), (1, .int a_1), (2, .int a_2)] [] X (g_Judging_judgePart_57 n a_1 a_2 X) := by
  unfold g_Judging_judgePart_57
  refine lp_ind (P := fun (r57 : Int32 → Int32 → St → Option (Int32 × St)) => ∀ (a_1 : Int32) (a_2 : Int32) (X : St), TC YC Γ cX2_judgePart 3 "BlameCourt$Judging" none { frames := 71, cells := 0, slots := 0, locals := 2830 } As kV 57 [(0, .ref (Γ.2.2.2.1 61)), (1, .int a_1), (2, .int a_2)] [] X (r57 a_1 a_2 X)) (fun _ _ _ => TC.no) ?_ n
  intro r57 hr57 a_1 a_2 X
  unfold g_Judging_judgePart_57_s
  refine TC.iload_n dX2_judgePart_57 rfl 2 rfl ?_
  refine TC.aload_n dX2_judgePart_58 rfl 0 rfl ?_
  refine mC2_1 k506 dX2_judgePart_59 (fun e9 he9 => ?_)
  refine vC4_4 e9 he9 k315 dX2_judgePart_62 (fun e10 he10 => ?_)
  refine TC.iload_n dX2_judgePart_65 rfl 1 rfl ?_
  refine TC.iconst (w := 1) dX2_judgePart_66 (by decide) ?_
  refine TC.iadd dX2_judgePart_67 (fun x11 => ?_)
  refine TC.iald e10 he10 dX2_judgePart_68 (fun x12 => ?_)
  refine TC.icmp_ge (pc1 := 178) dX2_judgePart_69 (by decide) rfl ?_ ?_
  · exact TC.ret_v rfl dX2_judgePart_178
  · refine TC.aload_n dX2_judgePart_72 rfl 0 rfl ?_
    refine gC2_4 k509 dX2_judgePart_73 (fun x13 => ?_)
    refine TC.if_ne (pc1 := 178) dX2_judgePart_76 (by decide) ?_ ?_
    · exact TC.ret_v rfl dX2_judgePart_178
    · refine TC.aload_n dX2_judgePart_79 rfl 0 rfl ?_
      refine mC2_1 k506 dX2_judgePart_80 (fun e14 he14 => ?_)
      refine vC4_13 e14 he14 k322 dX2_judgePart_83 (fun e15 he15 => ?_)
      refine TC.iload_n dX2_judgePart_86 rfl 2 rfl ?_
      refine TC.iald e15 he15 dX2_judgePart_87 (fun x16 => ?_)
      refine TC.bipush (w := 27) dX2_judgePart_88 (by decide) ?_
      refine TC.icmp_lt (pc1 := 111) dX2_judgePart_90 (by decide) rfl ?_ ?_
      · refine TC.aload_n dX2_judgePart_111 rfl 0 rfl ?_
        refine mC2_1 k506 dX2_judgePart_112 (fun e17 he17 => ?_)
        refine vC4_13 e17 he17 k322 dX2_judgePart_115 (fun e18 he18 => ?_)
        refine TC.iload_n dX2_judgePart_118 rfl 2 rfl ?_
        refine TC.iald e18 he18 dX2_judgePart_119 (fun x19 => ?_)
        refine TC.bipush (w := 11) dX2_judgePart_120 (by decide) ?_
        refine TC.icmp_lt (pc1 := 150) dX2_judgePart_122 (by decide) rfl ?_ ?_
        · refine TC.aload_n dX2_judgePart_150 rfl 0 rfl ?_
          refine TC.aload_n dX2_judgePart_151 rfl 0 rfl ?_
          refine mC2_1 k506 dX2_judgePart_152 (fun e20 he20 => ?_)
          refine vC4_13 e20 he20 k322 dX2_judgePart_155 (fun e21 he21 => ?_)
          refine TC.iload_n dX2_judgePart_158 rfl 2 rfl ?_
          refine TC.iald e21 he21 dX2_judgePart_159 (fun x22 => ?_)
          refine TC.aload_n dX2_judgePart_160 rfl 0 rfl ?_
          refine mC2_1 k506 dX2_judgePart_161 (fun e23 he23 => ?_)
          refine vC4_14 e23 he23 k326 dX2_judgePart_164 (fun e24 he24 => ?_)
          refine TC.iload_n dX2_judgePart_167 rfl 2 rfl ?_
          refine TC.iald e24 he24 dX2_judgePart_168 (fun x25 => ?_)
          refine TC.callV_v 61 (As1 := [.int x22, .int x25]) (rest := []) (k_Judging_judgePlain Γ x22 x25 X) ka_X2_judgePlain kv_X2_judgePlain oC_61 rfl k1100 rfl rfl rfl rfl (show 5 + 1 ≤ 71 ∧ 8 + (3 + 11) + 190 ≤ 2830 from ⟨by omega, by omega⟩) (Nat.le_of_ble_eq_true rfl) dX2_judgePart_169 (fun _ X26 => ?_)
          exact k_Judging_judgePart_172 Γ _ r57 hr57 a_1 a_2 X26
        · refine TC.aload_n dX2_judgePart_125 rfl 0 rfl ?_
          refine TC.aload_n dX2_judgePart_126 rfl 0 rfl ?_
          refine mC2_1 k506 dX2_judgePart_127 (fun e28 he28 => ?_)
          refine vC4_13 e28 he28 k322 dX2_judgePart_130 (fun e29 he29 => ?_)
          refine TC.iload_n dX2_judgePart_133 rfl 2 rfl ?_
          refine TC.iald e29 he29 dX2_judgePart_134 (fun x30 => ?_)
          refine TC.aload_n dX2_judgePart_135 rfl 0 rfl ?_
          refine mC2_1 k506 dX2_judgePart_136 (fun e31 he31 => ?_)
          refine vC4_14 e31 he31 k326 dX2_judgePart_139 (fun e32 he32 => ?_)
          refine TC.iload_n dX2_judgePart_142 rfl 2 rfl ?_
          refine TC.iald e32 he32 dX2_judgePart_143 (fun x33 => ?_)
          refine TC.callV_v 61 (As1 := [.int x30, .int x33]) (rest := []) (k_Judging_judgeWork Γ x30 x33 X) ka_X2_judgeWork kv_X2_judgeWork oC_61 rfl k1083 rfl rfl rfl rfl (show 5 + 1 ≤ 71 ∧ 8 + (3 + 11) + 190 ≤ 2830 from ⟨by omega, by omega⟩) (Nat.le_of_ble_eq_true rfl) dX2_judgePart_144 (fun _ X34 => ?_)
          refine TC.goto (pc1 := 172) dX2_judgePart_147 (by decide) ?_
          exact k_Judging_judgePart_172 Γ _ r57 hr57 a_1 a_2 X34
      · refine TC.aload_n dX2_judgePart_93 rfl 0 rfl ?_
        refine mC2_1 k506 dX2_judgePart_94 (fun e35 he35 => ?_)
        refine vC4_15 e35 he35 k329 dX2_judgePart_97 (fun e36 he36 => ?_)
        refine TC.iload_n dX2_judgePart_100 rfl 2 rfl ?_
        refine TC.iconst (w := (-1)) dX2_judgePart_101 (by decide) ?_
        refine TC.iast e36 he36 dX2_judgePart_102 (fun X37 => ?_)
        refine TC.aload_n dX2_judgePart_103 rfl 0 rfl ?_
        refine TC.iload_n dX2_judgePart_104 rfl 2 rfl ?_
        refine TC.callV_v 61 (As1 := [.int a_2]) (rest := []) (k_Judging_judgeAsking Γ a_2 X37) ka_X2_judgeAsking kv_X2_judgeAsking oC_61 rfl k1015 rfl rfl rfl rfl (show 70 + 1 ≤ 71 ∧ 8 + (3 + 11) + 2790 ≤ 2830 from ⟨by omega, by omega⟩) (Nat.le_of_ble_eq_true rfl) dX2_judgePart_105 (fun _ X38 => ?_)
        refine TC.goto (pc1 := 172) dX2_judgePart_108 (by decide) ?_
        exact k_Judging_judgePart_172 Γ _ r57 hr57 a_1 a_2 X38
noncomputable def g_Judging_judgePart_12_s (r12 : Int32 → Int32 → St → Option (Int32 × St)) (a_1 : Int32) (a_2 : Int32) (X : St) : Option (Int32 × St) :=
  chk (refO YC (X.2.2 61 1) 4 17 = true) (letV (X.2.2 61 1 - 1) fun e3 =>
  letV (kY YC e3 10 - 3) fun e4 =>
  chk (inR a_1 40) (letV (X.1 e4 (ix a_1)) fun x5 =>
  if x5.toInt ≤ a_2.toInt then
    chk (refO YC (X.2.2 61 1) 4 17 = true) (letV (X.2.2 61 1 - 1) fun e6 =>
    letV (kY YC e6 4 - 3) fun e7 =>
    chk (inR a_1 41) (letV (X.1 e7 (ix a_1)) fun x8 =>
    g_Judging_judgePart_57 BIG a_1 x8 X))
  else
    letV (a_1 * (4 : Int32)) fun x39 =>
    letV (x39 + a_2) fun x40 =>
    chk (inR x40 160) (letV (X.1 63 (ix x40)) fun x41 =>
    chk (inR a_2 44) (letV (wI X 66 (ix a_2) x41) fun X42 =>
    letV (a_2 + Int32.ofInt (1)) fun x43 =>
    r12 a_1 x43 X42))))
noncomputable def g_Judging_judgePart_12 (n : Nat) : Int32 → Int32 → St → Option (Int32 × St) := lp (fun _ _ _ => none) (g_Judging_judgePart_12_s) n
set_option maxHeartbeats 4000000 in
set_option maxRecDepth 100000 in
theorem k_Judging_judgePart_12 (Γ : GxC) (As : List Value) (n : Nat) : ∀ (a_1 : Int32) (a_2 : Int32) (X : St), TC YC Γ cX2_judgePart 3 "BlameCourt$Judging" none { frames := 71, cells := 0, slots := 0, locals := 2830 } As kV 12 [(0, .ref (Γ.2.2.2.1 61)), (1, .int a_1), (2, .int a_2)] [] X (g_Judging_judgePart_12 n a_1 a_2 X) := by
  unfold g_Judging_judgePart_12
  refine lp_ind (P := fun (r12 : Int32 → Int32 → St → Option (Int32 × St)) => ∀ (a_1 : Int32) (a_2 : Int32) (X : St), TC YC Γ cX2_judgePart 3 "BlameCourt$Judging" none { frames := 71, cells := 0, slots := 0, locals := 2830 } As kV 12 [(0, .ref (Γ.2.2.2.1 61)), (1, .int a_1), (2, .int a_2)] [] X (r12 a_1 a_2 X)) (fun _ _ _ => TC.no) ?_ n
  intro r12 hr12 a_1 a_2 X
  unfold g_Judging_judgePart_12_s
  refine TC.iload_n dX2_judgePart_12 rfl 2 rfl ?_
  refine TC.aload_n dX2_judgePart_13 rfl 0 rfl ?_
  refine mC2_1 k506 dX2_judgePart_14 (fun e3 he3 => ?_)
  refine vC4_10 e3 he3 k301 dX2_judgePart_17 (fun e4 he4 => ?_)
  refine TC.iload_n dX2_judgePart_20 rfl 1 rfl ?_
  refine TC.iald e4 he4 dX2_judgePart_21 (fun x5 => ?_)
  refine TC.icmp_ge (pc1 := 47) dX2_judgePart_22 (by decide) rfl ?_ ?_
  · refine TC.aload_n dX2_judgePart_47 rfl 0 rfl ?_
    refine mC2_1 k506 dX2_judgePart_48 (fun e6 he6 => ?_)
    refine vC4_4 e6 he6 k315 dX2_judgePart_51 (fun e7 he7 => ?_)
    refine TC.iload_n dX2_judgePart_54 rfl 1 rfl ?_
    refine TC.iald e7 he7 dX2_judgePart_55 (fun x8 => ?_)
    refine TC.istore_n (lv1 := [(2, .int x8), (0, .ref (Γ.2.2.2.1 61)), (1, .int a_1)]) dX2_judgePart_56 rfl (by decide) rfl ?_
    refine TC.sub [1, 2, 0] rfl ?_
    exact k_Judging_judgePart_57 Γ _ BIG a_1 x8 X
  · refine TC.aload_n dX2_judgePart_25 rfl 0 rfl ?_
    refine cC2_10 k518 dX2_judgePart_26 ?_
    refine TC.iload_n dX2_judgePart_29 rfl 2 rfl ?_
    refine TC.aload_n dX2_judgePart_30 rfl 0 rfl ?_
    refine cC2_7 k515 dX2_judgePart_31 ?_
    refine TC.iload_n dX2_judgePart_34 rfl 1 rfl ?_
    refine TC.iconst (w := 4) dX2_judgePart_35 (by decide) ?_
    refine TC.imul dX2_judgePart_36 (fun x39 => ?_)
    refine TC.iload_n dX2_judgePart_37 rfl 2 rfl ?_
    refine TC.iadd dX2_judgePart_38 (fun x40 => ?_)
    refine alC63 dX2_judgePart_39 (fun x41 => ?_)
    refine asC66 dX2_judgePart_40 (fun X42 => ?_)
    refine TC.iinc dX2_judgePart_41 2 rfl (by decide) (lvf := fun x43 => [(2, .int x43), (0, .ref (Γ.2.2.2.1 61)), (1, .int a_1)]) (fun _ => rfl) (fun x43 => ?_)
    refine TC.goto (pc1 := 12) dX2_judgePart_44 (by decide) ?_
    refine TC.sub [1, 2, 0] rfl ?_
    exact hr12 a_1 x43 X42
noncomputable def g_Judging_judgePart (p1 : Int32) (X : St) : Option (Int32 × St) :=
  letV (wI X 61 3 p1) fun X1 =>
  letV (wI X1 61 14 ((0 : Int32))) fun X2 =>
  g_Judging_judgePart_12 BIG p1 (0 : Int32) X2
set_option maxHeartbeats 4000000 in
set_option maxRecDepth 100000 in
theorem k_Judging_judgePart (Γ : GxC) (p1 : Int32) (X : St) : TCV YC Γ yX2_judgePart cX2_judgePart 3 "BlameCourt$Judging" none { frames := 71, cells := 0, slots := 0, locals := 2830 } [.ref (Γ.2.2.2.1 61), .int p1] X (g_Judging_judgePart p1 X) := by
  refine TCV.of (by decide) (Nat.le_of_ble_eq_true rfl) rfl ?_
  show TC YC Γ cX2_judgePart 3 "BlameCourt$Judging" none { frames := 71, cells := 0, slots := 0, locals := 2830 } _ kV 0 [(0, .ref (Γ.2.2.2.1 61)), (1, .int p1)] [] X (g_Judging_judgePart p1 X)
  unfold g_Judging_judgePart
  refine TC.aload_n dX2_judgePart_0 rfl 0 rfl ?_
  refine TC.iload_n dX2_judgePart_1 rfl 1 rfl ?_
  refine pC2_3 k508 dX2_judgePart_2 (fun X1 => ?_)
  refine TC.aload_n dX2_judgePart_5 rfl 0 rfl ?_
  refine TC.iconst (w := 0) dX2_judgePart_6 (by decide) ?_
  refine pC2_14 k522 dX2_judgePart_7 (fun X2 => ?_)
  refine TC.iconst (w := 0) dX2_judgePart_10 (by decide) ?_
  refine TC.istore_n (lv1 := [(2, .int 0), (0, .ref (Γ.2.2.2.1 61)), (1, .int p1)]) dX2_judgePart_11 rfl (by decide) rfl ?_
  refine TC.sub [1, 2, 0] rfl ?_
  exact k_Judging_judgePart_12 Γ _ BIG p1 (0 : Int32) X2
noncomputable def g_Judging_judgeAll_85_s (r85 : Int32 → St → Option (Int32 × St)) (a_3 : Int32) (X : St) : Option (Int32 × St) :=
  chk (refO YC (X.2.2 61 1) 4 17 = true) (letV (X.2.2 61 1 - 1) fun e14 =>
  letV (X.1 e14 1) fun x15 =>
  if x15.toInt ≤ a_3.toInt then
    some (0, X)
  else
    letV (X.1 61 4) fun x16 =>
    if x16.toInt = 0 then
      bnd (g_Judging_judgePart a_3 X) fun _ X17 =>
      letV (a_3 + Int32.ofInt (1)) fun x18 =>
      r85 x18 X17
    else
      some (0, X))
noncomputable def g_Judging_judgeAll_85 (n : Nat) : Int32 → St → Option (Int32 × St) := lp (fun _ _ => none) (g_Judging_judgeAll_85_s) n
set_option maxHeartbeats 4000000 in
set_option maxRecDepth 100000 in
theorem k_Judging_judgeAll_85 (Γ : GxC) (As : List Value) (n : Nat) : ∀ (a_3 : Int32) (X : St), TC YC Γ cX2_judgeAll 4 "BlameCourt$Judging" none { frames := 72, cells := 0, slots := 0, locals := 2870 } As kV 85 [(0, .ref (Γ.2.2.2.1 61)), (3, .int a_3)] [] X (g_Judging_judgeAll_85 n a_3 X) := by
  unfold g_Judging_judgeAll_85
  refine lp_ind (P := fun (r85 : Int32 → St → Option (Int32 × St)) => ∀ (a_3 : Int32) (X : St), TC YC Γ cX2_judgeAll 4 "BlameCourt$Judging" none { frames := 72, cells := 0, slots := 0, locals := 2870 } As kV 85 [(0, .ref (Γ.2.2.2.1 61)), (3, .int a_3)] [] X (r85 a_3 X)) (fun _ _ => TC.no) ?_ n
  intro r85 hr85 a_3 X
  unfold g_Judging_judgeAll_85_s
  refine TC.iload_n dX2_judgeAll_85 rfl 1 rfl ?_
  refine TC.aload_n dX2_judgeAll_86 rfl 0 rfl ?_
  refine mC2_1 k506 dX2_judgeAll_87 (fun e14 he14 => ?_)
  refine gC4_1 e14 he14 k285 dX2_judgeAll_90 (fun x15 => ?_)
  refine TC.icmp_ge (pc1 := 114) dX2_judgeAll_93 (by decide) rfl ?_ ?_
  · exact TC.ret_v rfl dX2_judgeAll_114
  · refine TC.aload_n dX2_judgeAll_96 rfl 0 rfl ?_
    refine gC2_4 k509 dX2_judgeAll_97 (fun x16 => ?_)
    refine TC.if_ne (pc1 := 114) dX2_judgeAll_100 (by decide) ?_ ?_
    · exact TC.ret_v rfl dX2_judgeAll_114
    · refine TC.aload_n dX2_judgeAll_103 rfl 0 rfl ?_
      refine TC.iload_n dX2_judgeAll_104 rfl 1 rfl ?_
      refine TC.callV_v 61 (As1 := [.int a_3]) (rest := []) (k_Judging_judgePart Γ a_3 X) ka_X2_judgePart kv_X2_judgePart oC_61 rfl k1011 rfl rfl rfl rfl (show 71 + 1 ≤ 72 ∧ 8 + (3 + 11) + 2830 ≤ 2870 from ⟨by omega, by omega⟩) (Nat.le_of_ble_eq_true rfl) dX2_judgeAll_105 (fun _ X17 => ?_)
      refine TC.iinc dX2_judgeAll_108 1 rfl (by decide) (lvf := fun x18 => [(3, .int x18), (0, .ref (Γ.2.2.2.1 61))]) (fun _ => rfl) (fun x18 => ?_)
      refine TC.goto (pc1 := 85) dX2_judgeAll_111 (by decide) ?_
      refine TC.sub [1, 0] rfl ?_
      exact hr85 x18 X17
noncomputable def g_Judging_judgeAll_61_s (r61 : Int32 → St → Option (Int32 × St)) (a_3 : Int32) (X : St) : Option (Int32 × St) :=
  chk (refO YC (X.2.2 61 1) 4 17 = true) (letV (X.2.2 61 1 - 1) fun e12 =>
  letV (X.1 e12 1) fun x13 =>
  if x13.toInt ≤ a_3.toInt then
    g_Judging_judgeAll_85 BIG (0 : Int32) X
  else
    bnd (g_Judging_takeHeader a_3 X) fun _ X19 =>
    letV (a_3 + Int32.ofInt (1)) fun x20 =>
    r61 x20 X19)
noncomputable def g_Judging_judgeAll_61 (n : Nat) : Int32 → St → Option (Int32 × St) := lp (fun _ _ => none) (g_Judging_judgeAll_61_s) n
set_option maxHeartbeats 4000000 in
set_option maxRecDepth 100000 in
theorem k_Judging_judgeAll_61 (Γ : GxC) (As : List Value) (n : Nat) : ∀ (a_3 : Int32) (X : St), TC YC Γ cX2_judgeAll 4 "BlameCourt$Judging" none { frames := 72, cells := 0, slots := 0, locals := 2870 } As kV 61 [(0, .ref (Γ.2.2.2.1 61)), (3, .int a_3)] [] X (g_Judging_judgeAll_61 n a_3 X) := by
  unfold g_Judging_judgeAll_61
  refine lp_ind (P := fun (r61 : Int32 → St → Option (Int32 × St)) => ∀ (a_3 : Int32) (X : St), TC YC Γ cX2_judgeAll 4 "BlameCourt$Judging" none { frames := 72, cells := 0, slots := 0, locals := 2870 } As kV 61 [(0, .ref (Γ.2.2.2.1 61)), (3, .int a_3)] [] X (r61 a_3 X)) (fun _ _ => TC.no) ?_ n
  intro r61 hr61 a_3 X
  unfold g_Judging_judgeAll_61_s
  refine TC.iload_n dX2_judgeAll_61 rfl 1 rfl ?_
  refine TC.aload_n dX2_judgeAll_62 rfl 0 rfl ?_
  refine mC2_1 k506 dX2_judgeAll_63 (fun e12 he12 => ?_)
  refine gC4_1 e12 he12 k285 dX2_judgeAll_66 (fun x13 => ?_)
  refine TC.icmp_ge (pc1 := 83) dX2_judgeAll_69 (by decide) rfl ?_ ?_
  · refine TC.iconst (w := 0) dX2_judgeAll_83 (by decide) ?_
    refine TC.istore_n (lv1 := [(3, .int 0), (0, .ref (Γ.2.2.2.1 61))]) dX2_judgeAll_84 rfl (by decide) rfl ?_
    refine TC.sub [1, 0] rfl ?_
    exact k_Judging_judgeAll_85 Γ _ BIG (0 : Int32) X
  · refine TC.aload_n dX2_judgeAll_72 rfl 0 rfl ?_
    refine TC.iload_n dX2_judgeAll_73 rfl 1 rfl ?_
    refine TC.callV_v 61 (As1 := [.int a_3]) (rest := []) (k_Judging_takeHeader Γ a_3 X) ka_X2_takeHeader kv_X2_takeHeader oC_61 rfl k1001 rfl rfl rfl rfl (show 5 + 1 ≤ 72 ∧ 8 + (4 + 11) + 190 ≤ 2870 from ⟨by omega, by omega⟩) (Nat.le_of_ble_eq_true rfl) dX2_judgeAll_74 (fun _ X19 => ?_)
    refine TC.iinc dX2_judgeAll_77 1 rfl (by decide) (lvf := fun x20 => [(3, .int x20), (0, .ref (Γ.2.2.2.1 61))]) (fun _ => rfl) (fun x20 => ?_)
    refine TC.goto (pc1 := 61) dX2_judgeAll_80 (by decide) ?_
    refine TC.sub [1, 0] rfl ?_
    exact hr61 x20 X19
noncomputable def g_Judging_judgeAll (o1 : Nat) (o2 : Nat) (X : St) : Option (Int32 × St) :=
  letV (wR X 61 1 ((o1 + 1))) fun X1 =>
  letV (kY YC o1 0 - 3) fun e2 =>
  letV (wR X1 61 2 ((e2 + 1))) fun X3 =>
  letV (wR X3 61 0 ((o2 + 1))) fun X4 =>
  chk (refO YC (X4.2.2 61 2) 3 8 = true) (letV (X4.2.2 61 2 - 1) fun e5 =>
  chk (refO YC (X4.2.2 61 1) 4 17 = true) (letV (X4.2.2 61 1 - 1) fun e6 =>
  letV (X4.1 e6 5) fun x7 =>
  bnd (g_Kinds_cutTo e5 x7 X4) fun _ X8 =>
  chk (X8.2.2 61 0 = 56) (
  letV (wI X8 55 5 ((0 : Int32))) fun X9 =>
  letV (wI X9 61 4 ((0 : Int32))) fun X10 =>
  letV (wI X10 61 5 ((-1 : Int32))) fun X11 =>
  g_Judging_judgeAll_61 BIG (0 : Int32) X11)))
set_option maxHeartbeats 4000000 in
set_option maxRecDepth 100000 in
theorem k_Judging_judgeAll (Γ : GxC) (o1 : Nat) (ho1 : isO YC o1 4 17) (o2 : Nat) (ho2 : isO YC o2 0 6) (X : St) : TCV YC Γ yX2_judgeAll cX2_judgeAll 4 "BlameCourt$Judging" none { frames := 72, cells := 0, slots := 0, locals := 2870 } [.ref (Γ.2.2.2.1 61), .ref (Γ.2.2.2.1 o1), .ref (Γ.2.2.2.1 o2)] X (g_Judging_judgeAll o1 o2 X) := by
  refine TCV.of (by decide) (Nat.le_of_ble_eq_true rfl) rfl ?_
  show TC YC Γ cX2_judgeAll 4 "BlameCourt$Judging" none { frames := 72, cells := 0, slots := 0, locals := 2870 } _ kV 0 [(0, .ref (Γ.2.2.2.1 61)), (1, .ref (Γ.2.2.2.1 o1)), (2, .ref (Γ.2.2.2.1 o2))] [] X (g_Judging_judgeAll o1 o2 X)
  unfold g_Judging_judgeAll
  refine TC.aload_n dX2_judgeAll_0 rfl 1 rfl ?_
  refine TC.ifnull dX2_judgeAll_1 ?_
  refine TC.aload_n dX2_judgeAll_4 rfl 2 rfl ?_
  refine TC.ifnonnull (pc1 := 9) dX2_judgeAll_5 (by decide) ?_
  refine TC.aload_n dX2_judgeAll_9 rfl 0 rfl ?_
  refine TC.aload_n dX2_judgeAll_10 rfl 1 rfl ?_
  refine pC2_1 k506 dX2_judgeAll_11 (fun X1 => ?_)
  refine TC.aload_n dX2_judgeAll_14 rfl 0 rfl ?_
  refine TC.aload_n dX2_judgeAll_15 rfl 1 rfl ?_
  refine vC4_0 o1 ho1 k280 dX2_judgeAll_16 (fun e2 he2 => ?_)
  refine pC2_2 k507 dX2_judgeAll_19 (fun X3 => ?_)
  refine TC.aload_n dX2_judgeAll_22 rfl 0 rfl ?_
  refine TC.aload_n dX2_judgeAll_23 rfl 2 rfl ?_
  refine pC2_0 k505 dX2_judgeAll_24 (fun X4 => ?_)
  refine TC.aload_n dX2_judgeAll_27 rfl 0 rfl ?_
  refine mC2_2 k507 dX2_judgeAll_28 (fun e5 he5 => ?_)
  refine TC.aload_n dX2_judgeAll_31 rfl 0 rfl ?_
  refine mC2_1 k506 dX2_judgeAll_32 (fun e6 he6 => ?_)
  refine gC4_5 e6 he6 k318 dX2_judgeAll_35 (fun x7 => ?_)
  refine TC.callV_v e5 (As1 := [.int x7]) (rest := []) (k_Kinds_cutTo Γ e5 he5 x7 X4) ka_X3_cutTo kv_X3_cutTo he5 rfl k1000 rfl rfl rfl rfl (show 3 + 1 ≤ 72 ∧ 8 + (3 + 11) + 110 ≤ 2870 from ⟨by omega, by omega⟩) (Nat.le_of_ble_eq_true rfl) dX2_judgeAll_38 (fun _ X8 => ?_)
  refine TC.aload_n dX2_judgeAll_41 rfl 0 rfl ?_
  refine mC2_0 k505 dX2_judgeAll_42 ?_
  refine TC.iconst (w := 0) dX2_judgeAll_45 (by decide) ?_
  refine pC0_5 k483 dX2_judgeAll_46 (fun X9 => ?_)
  refine TC.aload_n dX2_judgeAll_49 rfl 0 rfl ?_
  refine TC.iconst (w := 0) dX2_judgeAll_50 (by decide) ?_
  refine pC2_4 k509 dX2_judgeAll_51 (fun X10 => ?_)
  refine TC.aload_n dX2_judgeAll_54 rfl 0 rfl ?_
  refine TC.iconst (w := (-1)) dX2_judgeAll_55 (by decide) ?_
  refine pC2_5 k511 dX2_judgeAll_56 (fun X11 => ?_)
  refine TC.iconst (w := 0) dX2_judgeAll_59 (by decide) ?_
  refine TC.istore_n (lv1 := [(3, .int 0), (0, .ref (Γ.2.2.2.1 61)), (1, .ref (Γ.2.2.2.1 o1)), (2, .ref (Γ.2.2.2.1 o2))]) dX2_judgeAll_60 rfl (by decide) rfl ?_
  refine TC.sub [1, 0] rfl ?_
  exact k_Judging_judgeAll_61 Γ _ BIG (0 : Int32) X11
noncomputable def g_Kinds_forgetTexts (o0 : Nat) (X : St) : Option (Int32 × St) :=
  bnd (g_Kinds_cutTo o0 (9 : Int32) X) fun _ X1 =>
  some (0, X1)
set_option maxHeartbeats 4000000 in
set_option maxRecDepth 100000 in
theorem k_Kinds_forgetTexts (Γ : GxC) (o0 : Nat) (ho0 : isO YC o0 3 8) (X : St) : TCV YC Γ yX3_forgetTexts cX3_forgetTexts 1 "BlameCourt$Kinds" none { frames := 4, cells := 0, slots := 0, locals := 150 } [.ref (Γ.2.2.2.1 o0)] X (g_Kinds_forgetTexts o0 X) := by
  refine TCV.of (by decide) (Nat.le_of_ble_eq_true rfl) rfl ?_
  show TC YC Γ cX3_forgetTexts 1 "BlameCourt$Kinds" none { frames := 4, cells := 0, slots := 0, locals := 150 } _ kV 0 [(0, .ref (Γ.2.2.2.1 o0))] [] X (g_Kinds_forgetTexts o0 X)
  unfold g_Kinds_forgetTexts
  refine TC.aload_n dX3_forgetTexts_0 rfl 0 rfl ?_
  refine TC.bipush (w := 9) dX3_forgetTexts_1 (by decide) ?_
  refine TC.callV_v o0 (As1 := [.int 9]) (rest := []) (k_Kinds_cutTo Γ o0 ho0 (9 : Int32) X) ka_X3_cutTo kv_X3_cutTo ho0 rfl k747 rfl rfl rfl rfl (show 3 + 1 ≤ 4 ∧ 8 + (3 + 11) + 110 ≤ 150 from ⟨by omega, by omega⟩) (Nat.le_of_ble_eq_true rfl) dX3_forgetTexts_3 (fun _ X1 => ?_)
  exact TC.ret_v rfl dX3_forgetTexts_6
noncomputable def g_Kinds_withAnys (o0 : Nat) (p1 : Int32) (X : St) : Option (Int32 × St) :=
  bnd (g_Kinds_sortOf o0 p1 X) fun x1 X2 =>
  if x1.toInt = 3 then
    some (3, X2)
  else
    bnd (g_Kinds_sortOf o0 p1 X2) fun x3 X4 =>
    if x3.toInt = 4 then
      bnd (g_Kinds_takenBy o0 p1 X4) fun x5 X6 =>
      letV ((4 : Int32) + x5) fun x7 =>
      some (x7, X6)
    else
      some (2, X4)
set_option maxHeartbeats 4000000 in
set_option maxRecDepth 100000 in
theorem k_Kinds_withAnys (Γ : GxC) (o0 : Nat) (ho0 : isO YC o0 3 8) (p1 : Int32) (X : St) : TCI YC Γ yX3_withAnys cX3_withAnys 2 "BlameCourt$Kinds" (some .int) { frames := 3, cells := 0, slots := 0, locals := 110 } [.ref (Γ.2.2.2.1 o0), .int p1] X (g_Kinds_withAnys o0 p1 X) := by
  refine TCI.of (by decide) (Nat.le_of_ble_eq_true rfl) rfl ?_
  show TC YC Γ cX3_withAnys 2 "BlameCourt$Kinds" (some .int) { frames := 3, cells := 0, slots := 0, locals := 110 } _ kI 0 [(0, .ref (Γ.2.2.2.1 o0)), (1, .int p1)] [] X (g_Kinds_withAnys o0 p1 X)
  unfold g_Kinds_withAnys
  refine TC.aload_n dX3_withAnys_0 rfl 0 rfl ?_
  refine TC.iload_n dX3_withAnys_1 rfl 1 rfl ?_
  refine TC.callV_i o0 (As1 := [.int p1]) (rest := []) (k_Kinds_sortOf Γ o0 ho0 p1 X) ka_X3_sortOf kv_X3_sortOf ho0 rfl k1031 rfl rfl rfl rfl (show 2 + 1 ≤ 3 ∧ 8 + (2 + 11) + 70 ≤ 110 from ⟨by omega, by omega⟩) (Nat.le_of_ble_eq_true rfl) dX3_withAnys_2 (fun x1 X2 => ?_)
  refine TC.iconst (w := 3) dX3_withAnys_5 (by decide) ?_
  refine TC.icmp_ne (pc1 := 11) dX3_withAnys_6 (by decide) rfl ?_ ?_
  · refine TC.aload_n dX3_withAnys_11 rfl 0 rfl ?_
    refine TC.iload_n dX3_withAnys_12 rfl 1 rfl ?_
    refine TC.callV_i o0 (As1 := [.int p1]) (rest := []) (k_Kinds_sortOf Γ o0 ho0 p1 X2) ka_X3_sortOf kv_X3_sortOf ho0 rfl k1031 rfl rfl rfl rfl (show 2 + 1 ≤ 3 ∧ 8 + (2 + 11) + 70 ≤ 110 from ⟨by omega, by omega⟩) (Nat.le_of_ble_eq_true rfl) dX3_withAnys_13 (fun x3 X4 => ?_)
    refine TC.iconst (w := 4) dX3_withAnys_16 (by decide) ?_
    refine TC.icmp_ne (pc1 := 30) dX3_withAnys_17 (by decide) rfl ?_ ?_
    · refine TC.iconst (w := 2) dX3_withAnys_30 (by decide) ?_
      exact TC.ret_i rfl dX3_withAnys_31
    · refine TC.iconst (w := 4) dX3_withAnys_20 (by decide) ?_
      refine TC.aload_n dX3_withAnys_21 rfl 0 rfl ?_
      refine TC.iload_n dX3_withAnys_22 rfl 1 rfl ?_
      refine TC.callV_i o0 (As1 := [.int p1]) (rest := [.int 4]) (k_Kinds_takenBy Γ o0 ho0 p1 X4) ka_X3_takenBy kv_X3_takenBy ho0 rfl k1035 rfl rfl rfl rfl (show 2 + 1 ≤ 3 ∧ 8 + (2 + 11) + 70 ≤ 110 from ⟨by omega, by omega⟩) (Nat.le_of_ble_eq_true rfl) dX3_withAnys_23 (fun x5 X6 => ?_)
      refine TC.iadd dX3_withAnys_26 (fun x7 => ?_)
      refine TC.goto (pc1 := 31) dX3_withAnys_27 (by decide) ?_
      exact TC.ret_i rfl dX3_withAnys_31
  · refine TC.iconst (w := 3) dX3_withAnys_9 (by decide) ?_
    exact TC.ret_i rfl dX3_withAnys_10
noncomputable def g_Program_clear_24_s (r24 : Nat → Int32 → St → Option (Int32 × St)) (e_0 : Nat) (a_1 : Int32) (X : St) : Option (Int32 × St) :=
  if 40 ≤ a_1.toInt then
    some (0, X)
  else
    letV (kY YC e_0 3 - 3) fun e6 =>
    chk (inR a_1 40) (letV (wI X e6 (ix a_1) (vp_nar .boolean (1 : Int32))) fun X7 =>
    letV (a_1 + Int32.ofInt (1)) fun x8 =>
    r24 e_0 x8 X7)
noncomputable def g_Program_clear_24 (n : Nat) : Nat → Int32 → St → Option (Int32 × St) := lp (fun _ _ _ => none) (g_Program_clear_24_s) n
set_option maxHeartbeats 4000000 in
set_option maxRecDepth 100000 in
theorem k_Program_clear_24 (Γ : GxC) (As : List Value) (n : Nat) : ∀ (e_0 : Nat) (he_0 : isO YC e_0 4 17) (a_1 : Int32) (X : St), TC YC Γ cX5_clear 2 "BlameCourt$Program" none { frames := 5, cells := 0, slots := 0, locals := 190 } As kV 24 [(0, .ref (Γ.2.2.2.1 e_0)), (1, .int a_1)] [] X (g_Program_clear_24 n e_0 a_1 X) := by
  unfold g_Program_clear_24
  refine lp_ind (P := fun (r24 : Nat → Int32 → St → Option (Int32 × St)) => ∀ (e_0 : Nat) (he_0 : isO YC e_0 4 17) (a_1 : Int32) (X : St), TC YC Γ cX5_clear 2 "BlameCourt$Program" none { frames := 5, cells := 0, slots := 0, locals := 190 } As kV 24 [(0, .ref (Γ.2.2.2.1 e_0)), (1, .int a_1)] [] X (r24 e_0 a_1 X)) (fun _ _ _ _ => TC.no) ?_ n
  intro r24 hr24 e_0 he_0 a_1 X
  unfold g_Program_clear_24_s
  refine TC.iload_n dX5_clear_24 rfl 1 rfl ?_
  refine TC.bipush (w := 40) dX5_clear_25 (by decide) ?_
  refine TC.icmp_ge (pc1 := 43) dX5_clear_27 (by decide) rfl ?_ ?_
  · exact TC.ret_v rfl dX5_clear_43
  · refine TC.aload_n dX5_clear_30 rfl 0 rfl ?_
    refine vC4_3 e_0 he_0 k310 dX5_clear_31 (fun e6 he6 => ?_)
    refine TC.iload_n dX5_clear_34 rfl 1 rfl ?_
    refine TC.iconst (w := 1) dX5_clear_35 (by decide) ?_
    refine TC.zast e6 he6 dX5_clear_36 (fun X7 => ?_)
    refine TC.iinc dX5_clear_37 1 rfl (by decide) (lvf := fun x8 => [(1, .int x8), (0, .ref (Γ.2.2.2.1 e_0))]) (fun _ => rfl) (fun x8 => ?_)
    refine TC.goto (pc1 := 24) dX5_clear_40 (by decide) ?_
    refine TC.sub [1, 0] rfl ?_
    exact hr24 e_0 he_0 x8 X7
noncomputable def g_Program_clear (o0 : Nat) (X : St) : Option (Int32 × St) :=
  letV (kY YC o0 0 - 3) fun e1 =>
  bnd (g_Kinds_forgetTexts e1 X) fun _ X2 =>
  letV (wI X2 o0 1 ((0 : Int32))) fun X3 =>
  letV (wI X3 o0 2 ((-1 : Int32))) fun X4 =>
  letV (wI X4 o0 6 ((0 : Int32))) fun X5 =>
  g_Program_clear_24 BIG o0 (0 : Int32) X5
set_option maxHeartbeats 4000000 in
set_option maxRecDepth 100000 in
theorem k_Program_clear (Γ : GxC) (o0 : Nat) (ho0 : isO YC o0 4 17) (X : St) : TCV YC Γ yX5_clear cX5_clear 2 "BlameCourt$Program" none { frames := 5, cells := 0, slots := 0, locals := 190 } [.ref (Γ.2.2.2.1 o0)] X (g_Program_clear o0 X) := by
  refine TCV.of (by decide) (Nat.le_of_ble_eq_true rfl) rfl ?_
  show TC YC Γ cX5_clear 2 "BlameCourt$Program" none { frames := 5, cells := 0, slots := 0, locals := 190 } _ kV 0 [(0, .ref (Γ.2.2.2.1 o0))] [] X (g_Program_clear o0 X)
  unfold g_Program_clear
  refine TC.aload_n dX5_clear_0 rfl 0 rfl ?_
  refine vC4_0 o0 ho0 k279 dX5_clear_1 (fun e1 he1 => ?_)
  refine TC.callV_v e1 (As1 := []) (rest := []) (k_Kinds_forgetTexts Γ e1 he1 X) ka_X3_forgetTexts kv_X3_forgetTexts he1 rfl k743 rfl rfl rfl rfl (show 4 + 1 ≤ 5 ∧ 8 + (1 + 11) + 150 ≤ 190 from ⟨by omega, by omega⟩) (Nat.le_of_ble_eq_true rfl) dX5_clear_4 (fun _ X2 => ?_)
  refine TC.aload_n dX5_clear_7 rfl 0 rfl ?_
  refine TC.iconst (w := 0) dX5_clear_8 (by decide) ?_
  refine pC4_1 o0 ho0 k284 dX5_clear_9 (fun X3 => ?_)
  refine TC.aload_n dX5_clear_12 rfl 0 rfl ?_
  refine TC.iconst (w := (-1)) dX5_clear_13 (by decide) ?_
  refine pC4_2 o0 ho0 k289 dX5_clear_14 (fun X4 => ?_)
  refine TC.aload_n dX5_clear_17 rfl 0 rfl ?_
  refine TC.iconst (w := 0) dX5_clear_18 (by decide) ?_
  refine pC4_6 o0 ho0 k335 dX5_clear_19 (fun X5 => ?_)
  refine TC.iconst (w := 0) dX5_clear_22 (by decide) ?_
  refine TC.istore_n (lv1 := [(1, .int 0), (0, .ref (Γ.2.2.2.1 o0))]) dX5_clear_23 rfl (by decide) rfl ?_
  refine TC.sub [1, 0] rfl ?_
  exact k_Program_clear_24 Γ _ BIG o0 ho0 (0 : Int32) X5
noncomputable def g_Program_letterOf (o0 : Nat) (p1 : Int32) (p2 : Int32) (X : St) : Option (Int32 × St) :=
  if p2.toInt < 0 then
    some ((-1), X)
  else
    letV (kY YC o0 8 - 3) fun e1 =>
    chk (inR p1 40) (letV (X.1 e1 (ix p1)) fun x2 =>
    if p2.toInt < x2.toInt then
      letV (kY YC o0 7 - 3) fun e3 =>
      chk (inR p1 40) (letV (X.2.1 e3 (ix p1)) fun y4 =>
      letV (kY YC o0 8 - 3) fun e5 =>
      chk (inR p1 40) (letV (X.1 e5 (ix p1)) fun x6 =>
      letV (x6 - (1 : Int32)) fun x7 =>
      letV (x7 - p2) fun x8 =>
      letV ((8 : Int32) * x8) fun x9 =>
      letV (y4 >>> (x9.toInt64 &&& 63)) fun y10 =>
      letV (y10.toInt32) fun x11 =>
      letV (x11 &&& (255 : Int32)) fun x12 =>
      some (x12, X)))
    else
      some ((-1), X))
set_option maxHeartbeats 4000000 in
set_option maxRecDepth 100000 in
theorem k_Program_letterOf (Γ : GxC) (o0 : Nat) (ho0 : isO YC o0 4 17) (p1 : Int32) (p2 : Int32) (X : St) : TCI YC Γ yX5_letterOf cX5_letterOf 3 "BlameCourt$Program" (some .int) { frames := 2, cells := 0, slots := 0, locals := 70 } [.ref (Γ.2.2.2.1 o0), .int p1, .int p2] X (g_Program_letterOf o0 p1 p2 X) := by
  refine TCI.of (by decide) (Nat.le_of_ble_eq_true rfl) rfl ?_
  show TC YC Γ cX5_letterOf 3 "BlameCourt$Program" (some .int) { frames := 2, cells := 0, slots := 0, locals := 70 } _ kI 0 [(0, .ref (Γ.2.2.2.1 o0)), (1, .int p1), (2, .int p2)] [] X (g_Program_letterOf o0 p1 p2 X)
  unfold g_Program_letterOf
  refine TC.iload_n dX5_letterOf_0 rfl 2 rfl ?_
  refine TC.if_lt (pc1 := 14) dX5_letterOf_1 (by decide) ?_ ?_
  · refine TC.iconst (w := (-1)) dX5_letterOf_14 (by decide) ?_
    exact TC.ret_i rfl dX5_letterOf_15
  · refine TC.iload_n dX5_letterOf_4 rfl 2 rfl ?_
    refine TC.aload_n dX5_letterOf_5 rfl 0 rfl ?_
    refine vC4_8 o0 ho0 k294 dX5_letterOf_6 (fun e1 he1 => ?_)
    refine TC.iload_n dX5_letterOf_9 rfl 1 rfl ?_
    refine TC.iald e1 he1 dX5_letterOf_10 (fun x2 => ?_)
    refine TC.icmp_lt (pc1 := 16) dX5_letterOf_11 (by decide) rfl ?_ ?_
    · refine TC.aload_n dX5_letterOf_16 rfl 0 rfl ?_
      refine vC4_7 o0 ho0 k292 dX5_letterOf_17 (fun e3 he3 => ?_)
      refine TC.iload_n dX5_letterOf_20 rfl 1 rfl ?_
      refine TC.lald e3 he3 dX5_letterOf_21 (fun y4 => ?_)
      refine TC.bipush (w := 8) dX5_letterOf_22 (by decide) ?_
      refine TC.aload_n dX5_letterOf_24 rfl 0 rfl ?_
      refine vC4_8 o0 ho0 k294 dX5_letterOf_25 (fun e5 he5 => ?_)
      refine TC.iload_n dX5_letterOf_28 rfl 1 rfl ?_
      refine TC.iald e5 he5 dX5_letterOf_29 (fun x6 => ?_)
      refine TC.iconst (w := 1) dX5_letterOf_30 (by decide) ?_
      refine TC.isub dX5_letterOf_31 (fun x7 => ?_)
      refine TC.iload_n dX5_letterOf_32 rfl 2 rfl ?_
      refine TC.isub dX5_letterOf_33 (fun x8 => ?_)
      refine TC.imul dX5_letterOf_34 (fun x9 => ?_)
      refine TC.lshr dX5_letterOf_35 (fun y10 => ?_)
      refine TC.l2i dX5_letterOf_36 (fun x11 => ?_)
      refine TC.sipush (w := 255) dX5_letterOf_37 (by decide) ?_
      refine TC.iand dX5_letterOf_40 (fun x12 => ?_)
      exact TC.ret_i rfl dX5_letterOf_41
    · refine TC.iconst (w := (-1)) dX5_letterOf_14 (by decide) ?_
      exact TC.ret_i rfl dX5_letterOf_15
noncomputable def g_Program_partOfName_2_s (r2 : Nat → Int64 → Int32 → St → Option (Int32 × St)) (e_0 : Nat) (l_1 : Int64) (a_3 : Int32) (X : St) : Option (Int32 × St) :=
  letV (X.1 e_0 1) fun x1 =>
  if x1.toInt ≤ a_3.toInt then
    some ((-1), X)
  else
    letV (kY YC e_0 7 - 3) fun e2 =>
    chk (inR a_3 40) (letV (X.2.1 e2 (ix a_3)) fun y3 =>
    letV (lg_cmp y3 l_1) fun x4 =>
    if x4.toInt = 0 then
      some (a_3, X)
    else
      letV (a_3 + Int32.ofInt (1)) fun x5 =>
      r2 e_0 l_1 x5 X)
noncomputable def g_Program_partOfName_2 (n : Nat) : Nat → Int64 → Int32 → St → Option (Int32 × St) := lp (fun _ _ _ _ => none) (g_Program_partOfName_2_s) n
set_option maxHeartbeats 4000000 in
set_option maxRecDepth 100000 in
theorem k_Program_partOfName_2 (Γ : GxC) (As : List Value) (n : Nat) : ∀ (e_0 : Nat) (he_0 : isO YC e_0 4 17) (l_1 : Int64) (a_3 : Int32) (X : St), TC YC Γ cX5_partOfName 4 "BlameCourt$Program" (some .int) { frames := 2, cells := 0, slots := 0, locals := 70 } As kI 2 [(0, .ref (Γ.2.2.2.1 e_0)), (1, .long l_1), (3, .int a_3)] [] X (g_Program_partOfName_2 n e_0 l_1 a_3 X) := by
  unfold g_Program_partOfName_2
  refine lp_ind (P := fun (r2 : Nat → Int64 → Int32 → St → Option (Int32 × St)) => ∀ (e_0 : Nat) (he_0 : isO YC e_0 4 17) (l_1 : Int64) (a_3 : Int32) (X : St), TC YC Γ cX5_partOfName 4 "BlameCourt$Program" (some .int) { frames := 2, cells := 0, slots := 0, locals := 70 } As kI 2 [(0, .ref (Γ.2.2.2.1 e_0)), (1, .long l_1), (3, .int a_3)] [] X (r2 e_0 l_1 a_3 X)) (fun _ _ _ _ _ => TC.no) ?_ n
  intro r2 hr2 e_0 he_0 l_1 a_3 X
  unfold g_Program_partOfName_2_s
  refine TC.iload_n dX5_partOfName_2 rfl 2 rfl ?_
  refine TC.aload_n dX5_partOfName_3 rfl 0 rfl ?_
  refine gC4_1 e_0 he_0 k284 dX5_partOfName_4 (fun x1 => ?_)
  refine TC.icmp_ge (pc1 := 29) dX5_partOfName_7 (by decide) rfl ?_ ?_
  · refine TC.iconst (w := (-1)) dX5_partOfName_29 (by decide) ?_
    exact TC.ret_i rfl dX5_partOfName_30
  · refine TC.aload_n dX5_partOfName_10 rfl 0 rfl ?_
    refine vC4_7 e_0 he_0 k292 dX5_partOfName_11 (fun e2 he2 => ?_)
    refine TC.iload_n dX5_partOfName_14 rfl 2 rfl ?_
    refine TC.lald e2 he2 dX5_partOfName_15 (fun y3 => ?_)
    refine TC.lload_n dX5_partOfName_16 rfl 1 rfl ?_
    refine TC.lcmp dX5_partOfName_17 (fun x4 => ?_)
    refine TC.if_ne (pc1 := 23) dX5_partOfName_18 (by decide) ?_ ?_
    · refine TC.iinc dX5_partOfName_23 2 rfl (by decide) (lvf := fun x5 => [(3, .int x5), (0, .ref (Γ.2.2.2.1 e_0)), (1, .long l_1)]) (fun _ => rfl) (fun x5 => ?_)
      refine TC.goto (pc1 := 2) dX5_partOfName_26 (by decide) ?_
      refine TC.sub [1, 2, 0] rfl ?_
      exact hr2 e_0 he_0 l_1 x5 X
    · refine TC.iload_n dX5_partOfName_21 rfl 2 rfl ?_
      exact TC.ret_i rfl dX5_partOfName_22
noncomputable def g_Program_partOfName (o0 : Nat) (q1 : Int64) (X : St) : Option (Int32 × St) :=
  g_Program_partOfName_2 BIG o0 q1 (0 : Int32) X
set_option maxHeartbeats 4000000 in
set_option maxRecDepth 100000 in
theorem k_Program_partOfName (Γ : GxC) (o0 : Nat) (ho0 : isO YC o0 4 17) (q1 : Int64) (X : St) : TCI YC Γ yX5_partOfName cX5_partOfName 4 "BlameCourt$Program" (some .int) { frames := 2, cells := 0, slots := 0, locals := 70 } [.ref (Γ.2.2.2.1 o0), .long q1] X (g_Program_partOfName o0 q1 X) := by
  refine TCI.of (by decide) (Nat.le_of_ble_eq_true rfl) rfl ?_
  show TC YC Γ cX5_partOfName 4 "BlameCourt$Program" (some .int) { frames := 2, cells := 0, slots := 0, locals := 70 } _ kI 0 [(0, .ref (Γ.2.2.2.1 o0)), (1, .long q1)] [] X (g_Program_partOfName o0 q1 X)
  unfold g_Program_partOfName
  refine TC.iconst (w := 0) dX5_partOfName_0 (by decide) ?_
  refine TC.istore_n (lv1 := [(3, .int 0), (0, .ref (Γ.2.2.2.1 o0)), (1, .long q1)]) dX5_partOfName_1 rfl (by decide) rfl ?_
  refine TC.sub [1, 2, 0] rfl ?_
  exact k_Program_partOfName_2 Γ _ BIG o0 ho0 q1 (0 : Int32) X
noncomputable def g_Program_paramsOf (o0 : Nat) (p1 : Int32) (X : St) : Option (Int32 × St) :=
  if p1.toInt < 0 then
    some ((-1), X)
  else
    letV (X.1 o0 1) fun x1 =>
    if x1.toInt ≤ p1.toInt then
      some ((-1), X)
    else
      letV (kY YC o0 10 - 3) fun e2 =>
      chk (inR p1 40) (letV (X.1 e2 (ix p1)) fun x3 =>
      some (x3, X))
set_option maxHeartbeats 4000000 in
set_option maxRecDepth 100000 in
theorem k_Program_paramsOf (Γ : GxC) (o0 : Nat) (ho0 : isO YC o0 4 17) (p1 : Int32) (X : St) : TCI YC Γ yX5_paramsOf cX5_paramsOf 2 "BlameCourt$Program" (some .int) { frames := 2, cells := 0, slots := 0, locals := 70 } [.ref (Γ.2.2.2.1 o0), .int p1] X (g_Program_paramsOf o0 p1 X) := by
  refine TCI.of (by decide) (Nat.le_of_ble_eq_true rfl) rfl ?_
  show TC YC Γ cX5_paramsOf 2 "BlameCourt$Program" (some .int) { frames := 2, cells := 0, slots := 0, locals := 70 } _ kI 0 [(0, .ref (Γ.2.2.2.1 o0)), (1, .int p1)] [] X (g_Program_paramsOf o0 p1 X)
  unfold g_Program_paramsOf
  refine TC.iload_n dX5_paramsOf_0 rfl 1 rfl ?_
  refine TC.if_lt (pc1 := 21) dX5_paramsOf_1 (by decide) ?_ ?_
  · refine TC.iconst (w := (-1)) dX5_paramsOf_21 (by decide) ?_
    exact TC.ret_i rfl dX5_paramsOf_22
  · refine TC.iload_n dX5_paramsOf_4 rfl 1 rfl ?_
    refine TC.aload_n dX5_paramsOf_5 rfl 0 rfl ?_
    refine gC4_1 o0 ho0 k284 dX5_paramsOf_6 (fun x1 => ?_)
    refine TC.icmp_ge (pc1 := 21) dX5_paramsOf_9 (by decide) rfl ?_ ?_
    · refine TC.iconst (w := (-1)) dX5_paramsOf_21 (by decide) ?_
      exact TC.ret_i rfl dX5_paramsOf_22
    · refine TC.aload_n dX5_paramsOf_12 rfl 0 rfl ?_
      refine vC4_10 o0 ho0 k300 dX5_paramsOf_13 (fun e2 he2 => ?_)
      refine TC.iload_n dX5_paramsOf_16 rfl 1 rfl ?_
      refine TC.iald e2 he2 dX5_paramsOf_17 (fun x3 => ?_)
      refine TC.goto (pc1 := 22) dX5_paramsOf_18 (by decide) ?_
      exact TC.ret_i rfl dX5_paramsOf_22
noncomputable def g_Program_emit (o0 : Nat) (p1 : Int32) (p2 : Int32) (p3 : Int32) (X : St) : Option (Int32 × St) :=
  letV (X.1 o0 6) fun x1 =>
  if x1.toInt < 9080 then
    letV (kY YC o0 13 - 3) fun e2 =>
    letV (X.1 o0 6) fun x3 =>
    chk (inR x3 9080) (letV (wI X e2 (ix x3) p1) fun X4 =>
    letV (kY YC o0 14 - 3) fun e5 =>
    letV (X4.1 o0 6) fun x6 =>
    chk (inR x6 9080) (letV (wI X4 e5 (ix x6) p2) fun X7 =>
    letV (kY YC o0 15 - 3) fun e8 =>
    letV (X7.1 o0 6) fun x9 =>
    chk (inR x9 9080) (letV (wI X7 e8 (ix x9) (-1 : Int32)) fun X10 =>
    letV (kY YC o0 16 - 3) fun e11 =>
    letV (X10.1 o0 6) fun x12 =>
    chk (inR x12 9080) (letV (wI X10 e11 (ix x12) p3) fun X13 =>
    letV (X13.1 o0 6) fun x14 =>
    letV (x14 + (1 : Int32)) fun x15 =>
    letV (wI X13 o0 6 x15) fun X16 =>
    letV (X16.1 o0 6) fun x17 =>
    letV (x17 - (1 : Int32)) fun x18 =>
    some (x18, X16)))))
  else
    some (9079, X)
set_option maxHeartbeats 4000000 in
set_option maxRecDepth 100000 in
theorem k_Program_emit (Γ : GxC) (o0 : Nat) (ho0 : isO YC o0 4 17) (p1 : Int32) (p2 : Int32) (p3 : Int32) (X : St) : TCI YC Γ yX5_emit cX5_emit 4 "BlameCourt$Program" (some .int) { frames := 2, cells := 0, slots := 0, locals := 70 } [.ref (Γ.2.2.2.1 o0), .int p1, .int p2, .int p3] X (g_Program_emit o0 p1 p2 p3 X) := by
  refine TCI.of (by decide) (Nat.le_of_ble_eq_true rfl) rfl ?_
  show TC YC Γ cX5_emit 4 "BlameCourt$Program" (some .int) { frames := 2, cells := 0, slots := 0, locals := 70 } _ kI 0 [(0, .ref (Γ.2.2.2.1 o0)), (1, .int p1), (2, .int p2), (3, .int p3)] [] X (g_Program_emit o0 p1 p2 p3 X)
  unfold g_Program_emit
  refine TC.aload_n dX5_emit_0 rfl 0 rfl ?_
  refine gC4_6 o0 ho0 k335 dX5_emit_1 (fun x1 => ?_)
  refine TC.sipush (w := 9080) dX5_emit_4 (by decide) ?_
  refine TC.icmp_lt (pc1 := 14) dX5_emit_7 (by decide) rfl ?_ ?_
  · refine TC.aload_n dX5_emit_14 rfl 0 rfl ?_
    refine vC4_13 o0 ho0 k320 dX5_emit_15 (fun e2 he2 => ?_)
    refine TC.aload_n dX5_emit_18 rfl 0 rfl ?_
    refine gC4_6 o0 ho0 k335 dX5_emit_19 (fun x3 => ?_)
    refine TC.iload_n dX5_emit_22 rfl 1 rfl ?_
    refine TC.iast e2 he2 dX5_emit_23 (fun X4 => ?_)
    refine TC.aload_n dX5_emit_24 rfl 0 rfl ?_
    refine vC4_14 o0 ho0 k324 dX5_emit_25 (fun e5 he5 => ?_)
    refine TC.aload_n dX5_emit_28 rfl 0 rfl ?_
    refine gC4_6 o0 ho0 k335 dX5_emit_29 (fun x6 => ?_)
    refine TC.iload_n dX5_emit_32 rfl 2 rfl ?_
    refine TC.iast e5 he5 dX5_emit_33 (fun X7 => ?_)
    refine TC.aload_n dX5_emit_34 rfl 0 rfl ?_
    refine vC4_15 o0 ho0 k328 dX5_emit_35 (fun e8 he8 => ?_)
    refine TC.aload_n dX5_emit_38 rfl 0 rfl ?_
    refine gC4_6 o0 ho0 k335 dX5_emit_39 (fun x9 => ?_)
    refine TC.iconst (w := (-1)) dX5_emit_42 (by decide) ?_
    refine TC.iast e8 he8 dX5_emit_43 (fun X10 => ?_)
    refine TC.aload_n dX5_emit_44 rfl 0 rfl ?_
    refine vC4_16 o0 ho0 k331 dX5_emit_45 (fun e11 he11 => ?_)
    refine TC.aload_n dX5_emit_48 rfl 0 rfl ?_
    refine gC4_6 o0 ho0 k335 dX5_emit_49 (fun x12 => ?_)
    refine TC.iload_n dX5_emit_52 rfl 3 rfl ?_
    refine TC.iast e11 he11 dX5_emit_53 (fun X13 => ?_)
    refine TC.aload_n dX5_emit_54 rfl 0 rfl ?_
    refine TC.dupr dX5_emit_55 ?_
    refine gC4_6 o0 ho0 k335 dX5_emit_56 (fun x14 => ?_)
    refine TC.iconst (w := 1) dX5_emit_59 (by decide) ?_
    refine TC.iadd dX5_emit_60 (fun x15 => ?_)
    refine pC4_6 o0 ho0 k335 dX5_emit_61 (fun X16 => ?_)
    refine TC.aload_n dX5_emit_64 rfl 0 rfl ?_
    refine gC4_6 o0 ho0 k335 dX5_emit_65 (fun x17 => ?_)
    refine TC.iconst (w := 1) dX5_emit_68 (by decide) ?_
    refine TC.isub dX5_emit_69 (fun x18 => ?_)
    exact TC.ret_i rfl dX5_emit_70
  · refine TC.sipush (w := 9079) dX5_emit_10 (by decide) ?_
    exact TC.ret_i rfl dX5_emit_13
noncomputable def g_Tokens_byteAt (p1 : Int32) (X : St) : Option (Int32 × St) :=
  if p1.toInt < 0 then
    some ((-1), X)
  else
    letV (X.1 47 1) fun x1 =>
    if x1.toInt ≤ p1.toInt then
      some ((-1), X)
    else
      chk (refA YC (X.2.2 47 0) .byte = true) (letV (X.2.2 47 0 - 1) fun e2 =>
      chk (inR p1 (zY YC e2)) (letV (X.1 e2 (ix p1)) fun x3 =>
      letV (x3 &&& (255 : Int32)) fun x4 =>
      some (x4, X)))
set_option maxHeartbeats 4000000 in
set_option maxRecDepth 100000 in
theorem k_Tokens_byteAt (Γ : GxC) (p1 : Int32) (X : St) : TCI YC Γ yX9_byteAt cX9_byteAt 2 "BlameCourt$Tokens" (some .int) { frames := 2, cells := 0, slots := 0, locals := 70 } [.ref (Γ.2.2.2.1 47), .int p1] X (g_Tokens_byteAt p1 X) := by
  refine TCI.of (by decide) (Nat.le_of_ble_eq_true rfl) rfl ?_
  show TC YC Γ cX9_byteAt 2 "BlameCourt$Tokens" (some .int) { frames := 2, cells := 0, slots := 0, locals := 70 } _ kI 0 [(0, .ref (Γ.2.2.2.1 47)), (1, .int p1)] [] X (g_Tokens_byteAt p1 X)
  unfold g_Tokens_byteAt
  refine TC.iload_n dX9_byteAt_0 rfl 1 rfl ?_
  refine TC.if_lt (pc1 := 25) dX9_byteAt_1 (by decide) ?_ ?_
  · refine TC.iconst (w := (-1)) dX9_byteAt_25 (by decide) ?_
    exact TC.ret_i rfl dX9_byteAt_26
  · refine TC.iload_n dX9_byteAt_4 rfl 1 rfl ?_
    refine TC.aload_n dX9_byteAt_5 rfl 0 rfl ?_
    refine gC7_1 k387 dX9_byteAt_6 (fun x1 => ?_)
    refine TC.icmp_ge (pc1 := 25) dX9_byteAt_9 (by decide) rfl ?_ ?_
    · refine TC.iconst (w := (-1)) dX9_byteAt_25 (by decide) ?_
      exact TC.ret_i rfl dX9_byteAt_26
    · refine TC.aload_n dX9_byteAt_12 rfl 0 rfl ?_
      refine mC7_0 k386 dX9_byteAt_13 (fun e2 he2 => ?_)
      refine TC.iload_n dX9_byteAt_16 rfl 1 rfl ?_
      refine TC.bald e2 he2 dX9_byteAt_17 (fun x3 => ?_)
      refine TC.sipush (w := 255) dX9_byteAt_18 (by decide) ?_
      refine TC.iand dX9_byteAt_21 (fun x4 => ?_)
      refine TC.goto (pc1 := 26) dX9_byteAt_22 (by decide) ?_
      exact TC.ret_i rfl dX9_byteAt_26
noncomputable def g_Tokens_isLetter_12 (a_0 : Int32) (X : St) : Option (Int32 × St) :=
  if a_0.toInt < 65 then
    some (0, X)
  else
    if 90 < a_0.toInt then
      some (0, X)
    else
      some (1, X)
set_option maxHeartbeats 4000000 in
set_option maxRecDepth 100000 in
theorem k_Tokens_isLetter_12 (Γ : GxC) (As : List Value) (a_0 : Int32) (X : St) : TC YC Γ cX9_isLetter 1 "BlameCourt$Tokens" (some .boolean) { frames := 2, cells := 0, slots := 0, locals := 70 } As kI 12 [(0, .int a_0)] [] X (g_Tokens_isLetter_12 a_0 X) := by
  unfold g_Tokens_isLetter_12
  refine TC.iload_n dX9_isLetter_12 rfl 0 rfl ?_
  refine TC.bipush (w := 65) dX9_isLetter_13 (by decide) ?_
  refine TC.icmp_lt (pc1 := 28) dX9_isLetter_15 (by decide) rfl ?_ ?_
  · refine TC.iconst (w := 0) dX9_isLetter_28 (by decide) ?_
    exact TC.ret_z rfl dX9_isLetter_29 rfl
  · refine TC.iload_n dX9_isLetter_18 rfl 0 rfl ?_
    refine TC.bipush (w := 90) dX9_isLetter_19 (by decide) ?_
    refine TC.icmp_gt (pc1 := 28) dX9_isLetter_21 (by decide) rfl ?_ ?_
    · refine TC.iconst (w := 0) dX9_isLetter_28 (by decide) ?_
      exact TC.ret_z rfl dX9_isLetter_29 rfl
    · refine TC.iconst (w := 1) dX9_isLetter_24 (by decide) ?_
      refine TC.goto (pc1 := 29) dX9_isLetter_25 (by decide) ?_
      exact TC.ret_z rfl dX9_isLetter_29 rfl
noncomputable def g_Tokens_isLetter (p0 : Int32) (X : St) : Option (Int32 × St) :=
  if p0.toInt < 97 then
    g_Tokens_isLetter_12 p0 X
  else
    if p0.toInt ≤ 122 then
      some (1, X)
    else
      g_Tokens_isLetter_12 p0 X
set_option maxHeartbeats 4000000 in
set_option maxRecDepth 100000 in
theorem k_Tokens_isLetter (Γ : GxC) (p0 : Int32) (X : St) : TCI YC Γ yX9_isLetter cX9_isLetter 1 "BlameCourt$Tokens" (some .boolean) { frames := 2, cells := 0, slots := 0, locals := 70 } [.int p0] X (g_Tokens_isLetter p0 X) := by
  refine TCI.of (by decide) (Nat.le_of_ble_eq_true rfl) rfl ?_
  show TC YC Γ cX9_isLetter 1 "BlameCourt$Tokens" (some .boolean) { frames := 2, cells := 0, slots := 0, locals := 70 } _ kI 0 [(0, .int p0)] [] X (g_Tokens_isLetter p0 X)
  unfold g_Tokens_isLetter
  refine TC.iload_n dX9_isLetter_0 rfl 0 rfl ?_
  refine TC.bipush (w := 97) dX9_isLetter_1 (by decide) ?_
  refine TC.icmp_lt (pc1 := 12) dX9_isLetter_3 (by decide) rfl ?_ ?_
  · exact k_Tokens_isLetter_12 Γ _ p0 X
  · refine TC.iload_n dX9_isLetter_6 rfl 0 rfl ?_
    refine TC.bipush (w := 122) dX9_isLetter_7 (by decide) ?_
    refine TC.icmp_le (pc1 := 24) dX9_isLetter_9 (by decide) rfl ?_ ?_
    · refine TC.iconst (w := 1) dX9_isLetter_24 (by decide) ?_
      refine TC.goto (pc1 := 29) dX9_isLetter_25 (by decide) ?_
      exact TC.ret_z rfl dX9_isLetter_29 rfl
    · exact k_Tokens_isLetter_12 Γ _ p0 X
noncomputable def g_Tokens_wordType_2_s (r2 : Int32 → St → Option (Int32 × St)) (a_1 : Int32) (X : St) : Option (Int32 × St) :=
  if 15 ≤ a_1.toInt then
    some (258, X)
  else
    chk (inR a_1 15) (letV (WRD (ix a_1)) fun y1 =>
    letV (X.2.1 47 5) fun y2 =>
    letV (lg_cmp y1 y2) fun x3 =>
    if x3.toInt = 0 then
      letV ((261 : Int32) + a_1) fun x5 =>
      some (x5, X)
    else
      letV (a_1 + Int32.ofInt (1)) fun x4 =>
      r2 x4 X)
noncomputable def g_Tokens_wordType_2 (n : Nat) : Int32 → St → Option (Int32 × St) := lp (fun _ _ => none) (g_Tokens_wordType_2_s) n
set_option maxHeartbeats 4000000 in
set_option maxRecDepth 100000 in
theorem k_Tokens_wordType_2 (Γ : GxC) (As : List Value) (n : Nat) : ∀ (a_1 : Int32) (X : St), TC YC Γ cX9_wordType 2 "BlameCourt$Tokens" (some .int) { frames := 2, cells := 0, slots := 0, locals := 70 } As kI 2 [(0, .ref (Γ.2.2.2.1 47)), (1, .int a_1)] [] X (g_Tokens_wordType_2 n a_1 X) := by
  unfold g_Tokens_wordType_2
  refine lp_ind (P := fun (r2 : Int32 → St → Option (Int32 × St)) => ∀ (a_1 : Int32) (X : St), TC YC Γ cX9_wordType 2 "BlameCourt$Tokens" (some .int) { frames := 2, cells := 0, slots := 0, locals := 70 } As kI 2 [(0, .ref (Γ.2.2.2.1 47)), (1, .int a_1)] [] X (r2 a_1 X)) (fun _ _ => TC.no) ?_ n
  intro r2 hr2 a_1 X
  unfold g_Tokens_wordType_2_s
  refine TC.iload_n dX9_wordType_2 rfl 1 rfl ?_
  refine TC.getW k781 dX9_wordType_3 ?_
  refine TC.lenW dX9_wordType_6 ?_
  refine TC.icmp_ge (pc1 := 35) dX9_wordType_7 (by decide) rfl ?_ ?_
  · refine TC.sipush (w := 258) dX9_wordType_35 (by decide) ?_
    exact TC.ret_i rfl dX9_wordType_38
  · refine TC.getW k781 dX9_wordType_10 ?_
    refine TC.iload_n dX9_wordType_13 rfl 1 rfl ?_
    refine TC.ldW dX9_wordType_14 (fun y1 => ?_)
    refine TC.aload_n dX9_wordType_15 rfl 0 rfl ?_
    refine gC7_5 k393 dX9_wordType_16 (fun y2 => ?_)
    refine TC.lcmp dX9_wordType_19 (fun x3 => ?_)
    refine TC.if_ne (pc1 := 29) dX9_wordType_20 (by decide) ?_ ?_
    · refine TC.iinc dX9_wordType_29 1 rfl (by decide) (lvf := fun x4 => [(1, .int x4), (0, .ref (Γ.2.2.2.1 47))]) (fun _ => rfl) (fun x4 => ?_)
      refine TC.goto (pc1 := 2) dX9_wordType_32 (by decide) ?_
      refine TC.sub [1, 0] rfl ?_
      exact hr2 x4 X
    · refine TC.sipush (w := 261) dX9_wordType_23 (by decide) ?_
      refine TC.iload_n dX9_wordType_26 rfl 1 rfl ?_
      refine TC.iadd dX9_wordType_27 (fun x5 => ?_)
      exact TC.ret_i rfl dX9_wordType_28
noncomputable def g_Tokens_wordType (X : St) : Option (Int32 × St) :=
  g_Tokens_wordType_2 BIG (0 : Int32) X
set_option maxHeartbeats 4000000 in
set_option maxRecDepth 100000 in
theorem k_Tokens_wordType (Γ : GxC) (X : St) : TCI YC Γ yX9_wordType cX9_wordType 2 "BlameCourt$Tokens" (some .int) { frames := 2, cells := 0, slots := 0, locals := 70 } [.ref (Γ.2.2.2.1 47)] X (g_Tokens_wordType X) := by
  refine TCI.of (by decide) (Nat.le_of_ble_eq_true rfl) rfl ?_
  show TC YC Γ cX9_wordType 2 "BlameCourt$Tokens" (some .int) { frames := 2, cells := 0, slots := 0, locals := 70 } _ kI 0 [(0, .ref (Γ.2.2.2.1 47))] [] X (g_Tokens_wordType X)
  unfold g_Tokens_wordType
  refine TC.iconst (w := 0) dX9_wordType_0 (by decide) ?_
  refine TC.istore_n (lv1 := [(1, .int 0), (0, .ref (Γ.2.2.2.1 47))]) dX9_wordType_1 rfl (by decide) rfl ?_
  refine TC.sub [1, 0] rfl ?_
  exact k_Tokens_wordType_2 Γ _ BIG (0 : Int32) X
noncomputable def g_Tokens_takeWord_88 (b_0 : Int32) (X : St) : Option (Int32 × St) :=
  letV (wI X 47 3 b_0) fun X11 =>
  some (0, X11)
set_option maxHeartbeats 4000000 in
set_option maxRecDepth 100000 in
theorem k_Tokens_takeWord_88 (Γ : GxC) (As : List Value) (b_0 : Int32) (X : St) : TC YC Γ cX9_takeWord 2 "BlameCourt$Tokens" none { frames := 3, cells := 0, slots := 0, locals := 110 } As kV 88 [] [.int b_0, .ref (Γ.2.2.2.1 47)] X (g_Tokens_takeWord_88 b_0 X) := by
  unfold g_Tokens_takeWord_88
  refine pC7_3 k389 dX9_takeWord_88 (fun X11 => ?_)
  exact TC.ret_v rfl dX9_takeWord_91
noncomputable def g_Tokens_takeWord_53 (a_1 : Int32) (X : St) : Option (Int32 × St) :=
  letV (wI X 47 2 a_1) fun X4 =>
  letV (X4.1 47 4) fun x5 =>
  letV (a_1 - x5) fun x6 =>
  letV (wI X4 47 6 x6) fun X7 =>
  letV (X7.1 47 6) fun x8 =>
  if x8.toInt ≤ 8 then
    bnd (g_Tokens_wordType X7) fun x9 X10 =>
    g_Tokens_takeWord_88 x9 X10
  else
    g_Tokens_takeWord_88 (260 : Int32) X7
set_option maxHeartbeats 4000000 in
set_option maxRecDepth 100000 in
theorem k_Tokens_takeWord_53 (Γ : GxC) (As : List Value) (a_1 : Int32) (X : St) : TC YC Γ cX9_takeWord 2 "BlameCourt$Tokens" none { frames := 3, cells := 0, slots := 0, locals := 110 } As kV 53 [(0, .ref (Γ.2.2.2.1 47)), (1, .int a_1)] [] X (g_Tokens_takeWord_53 a_1 X) := by
  unfold g_Tokens_takeWord_53
  refine TC.aload_n dX9_takeWord_53 rfl 0 rfl ?_
  refine TC.iload_n dX9_takeWord_54 rfl 1 rfl ?_
  refine pC7_2 k388 dX9_takeWord_55 (fun X4 => ?_)
  refine TC.aload_n dX9_takeWord_58 rfl 0 rfl ?_
  refine TC.iload_n dX9_takeWord_59 rfl 1 rfl ?_
  refine TC.aload_n dX9_takeWord_60 rfl 0 rfl ?_
  refine gC7_4 k391 dX9_takeWord_61 (fun x5 => ?_)
  refine TC.isub dX9_takeWord_64 (fun x6 => ?_)
  refine pC7_6 k395 dX9_takeWord_65 (fun X7 => ?_)
  refine TC.aload_n dX9_takeWord_68 rfl 0 rfl ?_
  refine TC.aload_n dX9_takeWord_69 rfl 0 rfl ?_
  refine gC7_6 k395 dX9_takeWord_70 (fun x8 => ?_)
  refine TC.bipush (w := 8) dX9_takeWord_73 (by decide) ?_
  refine TC.icmp_le (pc1 := 84) dX9_takeWord_75 (by decide) rfl ?_ ?_
  · refine TC.aload_n dX9_takeWord_84 rfl 0 rfl ?_
    refine TC.callV_i 47 (As1 := []) (rest := [.ref (Γ.2.2.2.1 47)]) (k_Tokens_wordType Γ X7) ka_X9_wordType kv_X9_wordType oC_47 rfl k777 rfl rfl rfl rfl (show 2 + 1 ≤ 3 ∧ 8 + (2 + 11) + 70 ≤ 110 from ⟨by omega, by omega⟩) (Nat.le_of_ble_eq_true rfl) dX9_takeWord_85 (fun x9 X10 => ?_)
    refine TC.sub [] rfl ?_
    exact k_Tokens_takeWord_88 Γ _ x9 X10
  · refine TC.sipush (w := 260) dX9_takeWord_78 (by decide) ?_
    refine TC.goto (pc1 := 88) dX9_takeWord_81 (by decide) ?_
    refine TC.sub [] rfl ?_
    exact k_Tokens_takeWord_88 Γ _ (260 : Int32) X7
noncomputable def g_Tokens_takeWord_10_s (r10 : Int32 → St → Option (Int32 × St)) (a_1 : Int32) (X : St) : Option (Int32 × St) :=
  letV (X.1 47 1) fun x3 =>
  if x3.toInt ≤ a_1.toInt then
    g_Tokens_takeWord_53 a_1 X
  else
    bnd (g_Tokens_byteAt a_1 X) fun x12 X13 =>
    bnd (g_Tokens_isLetter x12 X13) fun x14 X15 =>
    if x14.toInt = 0 then
      g_Tokens_takeWord_53 a_1 X15
    else
      letV (X15.2.1 47 5) fun y16 =>
      letV (y16 <<< ((8 : Int32).toInt64 &&& 63)) fun y17 =>
      bnd (g_Tokens_byteAt a_1 X15) fun x18 X19 =>
      letV (x18.toInt64) fun y20 =>
      letV (y17 ||| y20) fun y21 =>
      letV (wL X19 47 5 y21) fun X22 =>
      letV (a_1 + Int32.ofInt (1)) fun x23 =>
      r10 x23 X22
noncomputable def g_Tokens_takeWord_10 (n : Nat) : Int32 → St → Option (Int32 × St) := lp (fun _ _ => none) (g_Tokens_takeWord_10_s) n
set_option maxHeartbeats 4000000 in
set_option maxRecDepth 100000 in
theorem k_Tokens_takeWord_10 (Γ : GxC) (As : List Value) (n : Nat) : ∀ (a_1 : Int32) (X : St), TC YC Γ cX9_takeWord 2 "BlameCourt$Tokens" none { frames := 3, cells := 0, slots := 0, locals := 110 } As kV 10 [(0, .ref (Γ.2.2.2.1 47)), (1, .int a_1)] [] X (g_Tokens_takeWord_10 n a_1 X) := by
  unfold g_Tokens_takeWord_10
  refine lp_ind (P := fun (r10 : Int32 → St → Option (Int32 × St)) => ∀ (a_1 : Int32) (X : St), TC YC Γ cX9_takeWord 2 "BlameCourt$Tokens" none { frames := 3, cells := 0, slots := 0, locals := 110 } As kV 10 [(0, .ref (Γ.2.2.2.1 47)), (1, .int a_1)] [] X (r10 a_1 X)) (fun _ _ => TC.no) ?_ n
  intro r10 hr10 a_1 X
  unfold g_Tokens_takeWord_10_s
  refine TC.iload_n dX9_takeWord_10 rfl 1 rfl ?_
  refine TC.aload_n dX9_takeWord_11 rfl 0 rfl ?_
  refine gC7_1 k387 dX9_takeWord_12 (fun x3 => ?_)
  refine TC.icmp_ge (pc1 := 53) dX9_takeWord_15 (by decide) rfl ?_ ?_
  · exact k_Tokens_takeWord_53 Γ _ a_1 X
  · refine TC.aload_n dX9_takeWord_18 rfl 0 rfl ?_
    refine TC.iload_n dX9_takeWord_19 rfl 1 rfl ?_
    refine TC.callV_i 47 (As1 := [.int a_1]) (rest := []) (k_Tokens_byteAt Γ a_1 X) ka_X9_byteAt kv_X9_byteAt oC_47 rfl k766 rfl rfl rfl rfl (show 2 + 1 ≤ 3 ∧ 8 + (2 + 11) + 70 ≤ 110 from ⟨by omega, by omega⟩) (Nat.le_of_ble_eq_true rfl) dX9_takeWord_20 (fun x12 X13 => ?_)
    refine TC.callS_i (As1 := [.int x12]) (rest := []) (k_Tokens_isLetter Γ x12 X13) ka_X9_isLetter k771 k770 rfl rfl rfl rfl (show 2 + 1 ≤ 3 ∧ 8 + (1 + 11) + 70 ≤ 110 from ⟨by omega, by omega⟩) (Nat.le_of_ble_eq_true rfl) dX9_takeWord_23 (fun x14 X15 => ?_)
    refine TC.if_eq (pc1 := 53) dX9_takeWord_26 (by decide) ?_ ?_
    · exact k_Tokens_takeWord_53 Γ _ a_1 X15
    · refine TC.aload_n dX9_takeWord_29 rfl 0 rfl ?_
      refine TC.aload_n dX9_takeWord_30 rfl 0 rfl ?_
      refine gC7_5 k393 dX9_takeWord_31 (fun y16 => ?_)
      refine TC.bipush (w := 8) dX9_takeWord_34 (by decide) ?_
      refine TC.lshl dX9_takeWord_36 (fun y17 => ?_)
      refine TC.aload_n dX9_takeWord_37 rfl 0 rfl ?_
      refine TC.iload_n dX9_takeWord_38 rfl 1 rfl ?_
      refine TC.callV_i 47 (As1 := [.int a_1]) (rest := [.long y17, .ref (Γ.2.2.2.1 47)]) (k_Tokens_byteAt Γ a_1 X15) ka_X9_byteAt kv_X9_byteAt oC_47 rfl k766 rfl rfl rfl rfl (show 2 + 1 ≤ 3 ∧ 8 + (2 + 11) + 70 ≤ 110 from ⟨by omega, by omega⟩) (Nat.le_of_ble_eq_true rfl) dX9_takeWord_39 (fun x18 X19 => ?_)
      refine TC.i2l dX9_takeWord_42 (fun y20 => ?_)
      refine TC.lor dX9_takeWord_43 (fun y21 => ?_)
      refine pC7_5 k393 dX9_takeWord_44 (fun X22 => ?_)
      refine TC.iinc dX9_takeWord_47 1 rfl (by decide) (lvf := fun x23 => [(1, .int x23), (0, .ref (Γ.2.2.2.1 47))]) (fun _ => rfl) (fun x23 => ?_)
      refine TC.goto (pc1 := 10) dX9_takeWord_50 (by decide) ?_
      refine TC.sub [1, 0] rfl ?_
      exact hr10 x23 X22
noncomputable def g_Tokens_takeWord (X : St) : Option (Int32 × St) :=
  letV (wL X 47 5 ((0 : Int64))) fun X1 =>
  letV (X1.1 47 4) fun x2 =>
  g_Tokens_takeWord_10 BIG x2 X1
set_option maxHeartbeats 4000000 in
set_option maxRecDepth 100000 in
theorem k_Tokens_takeWord (Γ : GxC) (X : St) : TCV YC Γ yX9_takeWord cX9_takeWord 2 "BlameCourt$Tokens" none { frames := 3, cells := 0, slots := 0, locals := 110 } [.ref (Γ.2.2.2.1 47)] X (g_Tokens_takeWord X) := by
  refine TCV.of (by decide) (Nat.le_of_ble_eq_true rfl) rfl ?_
  show TC YC Γ cX9_takeWord 2 "BlameCourt$Tokens" none { frames := 3, cells := 0, slots := 0, locals := 110 } _ kV 0 [(0, .ref (Γ.2.2.2.1 47))] [] X (g_Tokens_takeWord X)
  unfold g_Tokens_takeWord
  refine TC.aload_n dX9_takeWord_0 rfl 0 rfl ?_
  refine TC.lconst (w := 0) dX9_takeWord_1 (by decide) ?_
  refine pC7_5 k393 dX9_takeWord_2 (fun X1 => ?_)
  refine TC.aload_n dX9_takeWord_5 rfl 0 rfl ?_
  refine gC7_4 k391 dX9_takeWord_6 (fun x2 => ?_)
  refine TC.istore_n (lv1 := [(1, .int x2), (0, .ref (Γ.2.2.2.1 47))]) dX9_takeWord_9 rfl (by decide) rfl ?_
  refine TC.sub [1, 0] rfl ?_
  exact k_Tokens_takeWord_10 Γ _ BIG x2 X1
noncomputable def g_Tokens_isDigit (p0 : Int32) (X : St) : Option (Int32 × St) :=
  if p0.toInt < 48 then
    some (0, X)
  else
    if 57 < p0.toInt then
      some (0, X)
    else
      some (1, X)
set_option maxHeartbeats 4000000 in
set_option maxRecDepth 100000 in
theorem k_Tokens_isDigit (Γ : GxC) (p0 : Int32) (X : St) : TCI YC Γ yX9_isDigit cX9_isDigit 1 "BlameCourt$Tokens" (some .boolean) { frames := 2, cells := 0, slots := 0, locals := 70 } [.int p0] X (g_Tokens_isDigit p0 X) := by
  refine TCI.of (by decide) (Nat.le_of_ble_eq_true rfl) rfl ?_
  show TC YC Γ cX9_isDigit 1 "BlameCourt$Tokens" (some .boolean) { frames := 2, cells := 0, slots := 0, locals := 70 } _ kI 0 [(0, .int p0)] [] X (g_Tokens_isDigit p0 X)
  unfold g_Tokens_isDigit
  refine TC.iload_n dX9_isDigit_0 rfl 0 rfl ?_
  refine TC.bipush (w := 48) dX9_isDigit_1 (by decide) ?_
  refine TC.icmp_lt (pc1 := 16) dX9_isDigit_3 (by decide) rfl ?_ ?_
  · refine TC.iconst (w := 0) dX9_isDigit_16 (by decide) ?_
    exact TC.ret_z rfl dX9_isDigit_17 rfl
  · refine TC.iload_n dX9_isDigit_6 rfl 0 rfl ?_
    refine TC.bipush (w := 57) dX9_isDigit_7 (by decide) ?_
    refine TC.icmp_gt (pc1 := 16) dX9_isDigit_9 (by decide) rfl ?_ ?_
    · refine TC.iconst (w := 0) dX9_isDigit_16 (by decide) ?_
      exact TC.ret_z rfl dX9_isDigit_17 rfl
    · refine TC.iconst (w := 1) dX9_isDigit_12 (by decide) ?_
      refine TC.goto (pc1 := 17) dX9_isDigit_13 (by decide) ?_
      exact TC.ret_z rfl dX9_isDigit_17 rfl
noncomputable def g_Tokens_takeNumber_83 (a_1 : Int32) (X : St) : Option (Int32 × St) :=
  letV (wI X 47 2 a_1) fun X4 =>
  letV (wI X4 47 3 ((259 : Int32))) fun X5 =>
  some (0, X5)
set_option maxHeartbeats 4000000 in
set_option maxRecDepth 100000 in
theorem k_Tokens_takeNumber_83 (Γ : GxC) (As : List Value) (a_1 : Int32) (X : St) : TC YC Γ cX9_takeNumber 2 "BlameCourt$Tokens" none { frames := 3, cells := 0, slots := 0, locals := 110 } As kV 83 [(0, .ref (Γ.2.2.2.1 47)), (1, .int a_1)] [] X (g_Tokens_takeNumber_83 a_1 X) := by
  unfold g_Tokens_takeNumber_83
  refine TC.aload_n dX9_takeNumber_83 rfl 0 rfl ?_
  refine TC.iload_n dX9_takeNumber_84 rfl 1 rfl ?_
  refine pC7_2 k388 dX9_takeNumber_85 (fun X4 => ?_)
  refine TC.aload_n dX9_takeNumber_88 rfl 0 rfl ?_
  refine TC.sipush (w := 259) dX9_takeNumber_89 (by decide) ?_
  refine pC7_3 k389 dX9_takeNumber_92 (fun X5 => ?_)
  exact TC.ret_v rfl dX9_takeNumber_95
noncomputable def g_Tokens_takeNumber_74 (r10 : Int32 → St → Option (Int32 × St)) (a_1 : Int32) (m_0 : Int64) (X : St) : Option (Int32 × St) :=
  letV (wL X 47 7 m_0) fun X21 =>
  letV (a_1 + Int32.ofInt (1)) fun x22 =>
  r10 x22 X21
set_option maxHeartbeats 4000000 in
set_option maxRecDepth 100000 in
theorem k_Tokens_takeNumber_74 (Γ : GxC) (As : List Value) (r10 : Int32 → St → Option (Int32 × St)) (hr10 : ∀ (a_1 : Int32) (X : St), TC YC Γ cX9_takeNumber 2 "BlameCourt$Tokens" none { frames := 3, cells := 0, slots := 0, locals := 110 } As kV 10 [(0, .ref (Γ.2.2.2.1 47)), (1, .int a_1)] [] X (r10 a_1 X)) (a_1 : Int32) (m_0 : Int64) (X : St) : TC YC Γ cX9_takeNumber 2 "BlameCourt$Tokens" none { frames := 3, cells := 0, slots := 0, locals := 110 } As kV 74 [(0, .ref (Γ.2.2.2.1 47)), (1, .int a_1)] [.long m_0, .ref (Γ.2.2.2.1 47)] X (g_Tokens_takeNumber_74 r10 a_1 m_0 X) := by
  unfold g_Tokens_takeNumber_74
  refine pC7_7 k397 dX9_takeNumber_74 (fun X21 => ?_)
  refine TC.iinc dX9_takeNumber_77 1 rfl (by decide) (lvf := fun x22 => [(1, .int x22), (0, .ref (Γ.2.2.2.1 47))]) (fun _ => rfl) (fun x22 => ?_)
  refine TC.goto (pc1 := 10) dX9_takeNumber_80 (by decide) ?_
  refine TC.sub [1, 0] rfl ?_
  exact hr10 x22 X21
noncomputable def g_Tokens_takeNumber_10_s (r10 : Int32 → St → Option (Int32 × St)) (a_1 : Int32) (X : St) : Option (Int32 × St) :=
  letV (X.1 47 1) fun x3 =>
  if x3.toInt ≤ a_1.toInt then
    g_Tokens_takeNumber_83 a_1 X
  else
    bnd (g_Tokens_byteAt a_1 X) fun x6 X7 =>
    bnd (g_Tokens_isDigit x6 X7) fun x8 X9 =>
    if x8.toInt = 0 then
      g_Tokens_takeNumber_83 a_1 X9
    else
      letV (X9.2.1 47 7) fun y10 =>
      letV (y10 * (10 : Int64)) fun y11 =>
      bnd (g_Tokens_byteAt a_1 X9) fun x12 X13 =>
      letV (x12.toInt64) fun y14 =>
      letV (y11 + y14) fun y15 =>
      letV (y15 - (48 : Int64)) fun y16 =>
      letV (wL X13 47 7 y16) fun X17 =>
      letV (X17.2.1 47 7) fun y18 =>
      letV (lg_cmp y18 (2147483648 : Int64)) fun x19 =>
      if x19.toInt ≤ 0 then
        letV (X17.2.1 47 7) fun y20 =>
        g_Tokens_takeNumber_74 r10 a_1 y20 X17
      else
        g_Tokens_takeNumber_74 r10 a_1 (2147483648 : Int64) X17
noncomputable def g_Tokens_takeNumber_10 (n : Nat) : Int32 → St → Option (Int32 × St) := lp (fun _ _ => none) (g_Tokens_takeNumber_10_s) n
set_option maxHeartbeats 4000000 in
set_option maxRecDepth 100000 in
theorem k_Tokens_takeNumber_10 (Γ : GxC) (As : List Value) (n : Nat) : ∀ (a_1 : Int32) (X : St), TC YC Γ cX9_takeNumber 2 "BlameCourt$Tokens" none { frames := 3, cells := 0, slots := 0, locals := 110 } As kV 10 [(0, .ref (Γ.2.2.2.1 47)), (1, .int a_1)] [] X (g_Tokens_takeNumber_10 n a_1 X) := by
  unfold g_Tokens_takeNumber_10
  refine lp_ind (P := fun (r10 : Int32 → St → Option (Int32 × St)) => ∀ (a_1 : Int32) (X : St), TC YC Γ cX9_takeNumber 2 "BlameCourt$Tokens" none { frames := 3, cells := 0, slots := 0, locals := 110 } As kV 10 [(0, .ref (Γ.2.2.2.1 47)), (1, .int a_1)] [] X (r10 a_1 X)) (fun _ _ => TC.no) ?_ n
  intro r10 hr10 a_1 X
  unfold g_Tokens_takeNumber_10_s
  refine TC.iload_n dX9_takeNumber_10 rfl 1 rfl ?_
  refine TC.aload_n dX9_takeNumber_11 rfl 0 rfl ?_
  refine gC7_1 k387 dX9_takeNumber_12 (fun x3 => ?_)
  refine TC.icmp_ge (pc1 := 83) dX9_takeNumber_15 (by decide) rfl ?_ ?_
  · exact k_Tokens_takeNumber_83 Γ _ a_1 X
  · refine TC.aload_n dX9_takeNumber_18 rfl 0 rfl ?_
    refine TC.iload_n dX9_takeNumber_19 rfl 1 rfl ?_
    refine TC.callV_i 47 (As1 := [.int a_1]) (rest := []) (k_Tokens_byteAt Γ a_1 X) ka_X9_byteAt kv_X9_byteAt oC_47 rfl k766 rfl rfl rfl rfl (show 2 + 1 ≤ 3 ∧ 8 + (2 + 11) + 70 ≤ 110 from ⟨by omega, by omega⟩) (Nat.le_of_ble_eq_true rfl) dX9_takeNumber_20 (fun x6 X7 => ?_)
    refine TC.callS_i (As1 := [.int x6]) (rest := []) (k_Tokens_isDigit Γ x6 X7) ka_X9_isDigit k784 k783 rfl rfl rfl rfl (show 2 + 1 ≤ 3 ∧ 8 + (1 + 11) + 70 ≤ 110 from ⟨by omega, by omega⟩) (Nat.le_of_ble_eq_true rfl) dX9_takeNumber_23 (fun x8 X9 => ?_)
    refine TC.if_eq (pc1 := 83) dX9_takeNumber_26 (by decide) ?_ ?_
    · exact k_Tokens_takeNumber_83 Γ _ a_1 X9
    · refine TC.aload_n dX9_takeNumber_29 rfl 0 rfl ?_
      refine TC.aload_n dX9_takeNumber_30 rfl 0 rfl ?_
      refine gC7_7 k397 dX9_takeNumber_31 (fun y10 => ?_)
      refine TC.ldc2 (w := 10) dX9_takeNumber_34 k790 ?_
      refine TC.lmul dX9_takeNumber_37 (fun y11 => ?_)
      refine TC.aload_n dX9_takeNumber_38 rfl 0 rfl ?_
      refine TC.iload_n dX9_takeNumber_39 rfl 1 rfl ?_
      refine TC.callV_i 47 (As1 := [.int a_1]) (rest := [.long y11, .ref (Γ.2.2.2.1 47)]) (k_Tokens_byteAt Γ a_1 X9) ka_X9_byteAt kv_X9_byteAt oC_47 rfl k766 rfl rfl rfl rfl (show 2 + 1 ≤ 3 ∧ 8 + (2 + 11) + 70 ≤ 110 from ⟨by omega, by omega⟩) (Nat.le_of_ble_eq_true rfl) dX9_takeNumber_40 (fun x12 X13 => ?_)
      refine TC.i2l dX9_takeNumber_43 (fun y14 => ?_)
      refine TC.ladd dX9_takeNumber_44 (fun y15 => ?_)
      refine TC.ldc2 (w := 48) dX9_takeNumber_45 k791 ?_
      refine TC.lsub dX9_takeNumber_48 (fun y16 => ?_)
      refine pC7_7 k397 dX9_takeNumber_49 (fun X17 => ?_)
      refine TC.aload_n dX9_takeNumber_52 rfl 0 rfl ?_
      refine TC.aload_n dX9_takeNumber_53 rfl 0 rfl ?_
      refine gC7_7 k397 dX9_takeNumber_54 (fun y18 => ?_)
      refine TC.ldc2 (w := 2147483648) dX9_takeNumber_57 k792 ?_
      refine TC.lcmp dX9_takeNumber_60 (fun x19 => ?_)
      refine TC.if_le (pc1 := 70) dX9_takeNumber_61 (by decide) ?_ ?_
      · refine TC.aload_n dX9_takeNumber_70 rfl 0 rfl ?_
        refine gC7_7 k397 dX9_takeNumber_71 (fun y20 => ?_)
        exact k_Tokens_takeNumber_74 Γ _ r10 hr10 a_1 y20 X17
      · refine TC.ldc2 (w := 2147483648) dX9_takeNumber_64 k792 ?_
        refine TC.goto (pc1 := 74) dX9_takeNumber_67 (by decide) ?_
        exact k_Tokens_takeNumber_74 Γ _ r10 hr10 a_1 (2147483648 : Int64) X17
noncomputable def g_Tokens_takeNumber (X : St) : Option (Int32 × St) :=
  letV (wL X 47 7 ((0 : Int64))) fun X1 =>
  letV (X1.1 47 4) fun x2 =>
  g_Tokens_takeNumber_10 BIG x2 X1
set_option maxHeartbeats 4000000 in
set_option maxRecDepth 100000 in
theorem k_Tokens_takeNumber (Γ : GxC) (X : St) : TCV YC Γ yX9_takeNumber cX9_takeNumber 2 "BlameCourt$Tokens" none { frames := 3, cells := 0, slots := 0, locals := 110 } [.ref (Γ.2.2.2.1 47)] X (g_Tokens_takeNumber X) := by
  refine TCV.of (by decide) (Nat.le_of_ble_eq_true rfl) rfl ?_
  show TC YC Γ cX9_takeNumber 2 "BlameCourt$Tokens" none { frames := 3, cells := 0, slots := 0, locals := 110 } _ kV 0 [(0, .ref (Γ.2.2.2.1 47))] [] X (g_Tokens_takeNumber X)
  unfold g_Tokens_takeNumber
  refine TC.aload_n dX9_takeNumber_0 rfl 0 rfl ?_
  refine TC.lconst (w := 0) dX9_takeNumber_1 (by decide) ?_
  refine pC7_7 k397 dX9_takeNumber_2 (fun X1 => ?_)
  refine TC.aload_n dX9_takeNumber_5 rfl 0 rfl ?_
  refine gC7_4 k391 dX9_takeNumber_6 (fun x2 => ?_)
  refine TC.istore_n (lv1 := [(1, .int x2), (0, .ref (Γ.2.2.2.1 47))]) dX9_takeNumber_9 rfl (by decide) rfl ?_
  refine TC.sub [1, 0] rfl ?_
  exact k_Tokens_takeNumber_10 Γ _ BIG x2 X1
noncomputable def g_Tokens_isSign (p0 : Int32) (X : St) : Option (Int32 × St) :=
  if p0.toInt = 33 then
    some (1, X)
  else if p0.toInt = 37 then
    some (1, X)
  else if p0.toInt = 40 then
    some (1, X)
  else if p0.toInt = 41 then
    some (1, X)
  else if p0.toInt = 42 then
    some (1, X)
  else if p0.toInt = 43 then
    some (1, X)
  else if p0.toInt = 44 then
    some (1, X)
  else if p0.toInt = 45 then
    some (1, X)
  else if p0.toInt = 47 then
    some (1, X)
  else if p0.toInt = 58 then
    some (1, X)
  else if p0.toInt = 59 then
    some (1, X)
  else if p0.toInt = 60 then
    some (1, X)
  else if p0.toInt = 61 then
    some (1, X)
  else if p0.toInt = 91 then
    some (1, X)
  else if p0.toInt = 93 then
    some (1, X)
  else if p0.toInt = 123 then
    some (1, X)
  else if p0.toInt = 125 then
    some (1, X)
  else some (0, X)
set_option maxHeartbeats 4000000 in
set_option maxRecDepth 100000 in
theorem k_Tokens_isSign (Γ : GxC) (p0 : Int32) (X : St) : TCI YC Γ yX9_isSign cX9_isSign 1 "BlameCourt$Tokens" (some .boolean) { frames := 2, cells := 0, slots := 0, locals := 70 } [.int p0] X (g_Tokens_isSign p0 X) := by
  refine TCI.of (by decide) (Nat.le_of_ble_eq_true rfl) rfl ?_
  show TC YC Γ cX9_isSign 1 "BlameCourt$Tokens" (some .boolean) { frames := 2, cells := 0, slots := 0, locals := 70 } _ kI 0 [(0, .int p0)] [] X (g_Tokens_isSign p0 X)
  unfold g_Tokens_isSign
  refine TC.iload_n dX9_isSign_0 rfl 0 rfl ?_
  refine TC.ite (fun s1 => ?_) (fun s1 => ?_)
  · refine TC.lookup (pc1 := 148) dX9_isSign_1 (by decide) (off := 147) (by rw [s1]; rfl) (by decide) ?_
    refine TC.iconst (w := 1) dX9_isSign_148 (by decide) ?_
    exact TC.ret_z rfl dX9_isSign_149 rfl
  refine TC.ite (fun s2 => ?_) (fun s2 => ?_)
  · refine TC.lookup (pc1 := 148) dX9_isSign_1 (by decide) (off := 147) (by rw [s2]; rfl) (by decide) ?_
    refine TC.iconst (w := 1) dX9_isSign_148 (by decide) ?_
    exact TC.ret_z rfl dX9_isSign_149 rfl
  refine TC.ite (fun s3 => ?_) (fun s3 => ?_)
  · refine TC.lookup (pc1 := 148) dX9_isSign_1 (by decide) (off := 147) (by rw [s3]; rfl) (by decide) ?_
    refine TC.iconst (w := 1) dX9_isSign_148 (by decide) ?_
    exact TC.ret_z rfl dX9_isSign_149 rfl
  refine TC.ite (fun s4 => ?_) (fun s4 => ?_)
  · refine TC.lookup (pc1 := 148) dX9_isSign_1 (by decide) (off := 147) (by rw [s4]; rfl) (by decide) ?_
    refine TC.iconst (w := 1) dX9_isSign_148 (by decide) ?_
    exact TC.ret_z rfl dX9_isSign_149 rfl
  refine TC.ite (fun s5 => ?_) (fun s5 => ?_)
  · refine TC.lookup (pc1 := 148) dX9_isSign_1 (by decide) (off := 147) (by rw [s5]; rfl) (by decide) ?_
    refine TC.iconst (w := 1) dX9_isSign_148 (by decide) ?_
    exact TC.ret_z rfl dX9_isSign_149 rfl
  refine TC.ite (fun s6 => ?_) (fun s6 => ?_)
  · refine TC.lookup (pc1 := 148) dX9_isSign_1 (by decide) (off := 147) (by rw [s6]; rfl) (by decide) ?_
    refine TC.iconst (w := 1) dX9_isSign_148 (by decide) ?_
    exact TC.ret_z rfl dX9_isSign_149 rfl
  refine TC.ite (fun s7 => ?_) (fun s7 => ?_)
  · refine TC.lookup (pc1 := 148) dX9_isSign_1 (by decide) (off := 147) (by rw [s7]; rfl) (by decide) ?_
    refine TC.iconst (w := 1) dX9_isSign_148 (by decide) ?_
    exact TC.ret_z rfl dX9_isSign_149 rfl
  refine TC.ite (fun s8 => ?_) (fun s8 => ?_)
  · refine TC.lookup (pc1 := 148) dX9_isSign_1 (by decide) (off := 147) (by rw [s8]; rfl) (by decide) ?_
    refine TC.iconst (w := 1) dX9_isSign_148 (by decide) ?_
    exact TC.ret_z rfl dX9_isSign_149 rfl
  refine TC.ite (fun s9 => ?_) (fun s9 => ?_)
  · refine TC.lookup (pc1 := 148) dX9_isSign_1 (by decide) (off := 147) (by rw [s9]; rfl) (by decide) ?_
    refine TC.iconst (w := 1) dX9_isSign_148 (by decide) ?_
    exact TC.ret_z rfl dX9_isSign_149 rfl
  refine TC.ite (fun s10 => ?_) (fun s10 => ?_)
  · refine TC.lookup (pc1 := 148) dX9_isSign_1 (by decide) (off := 147) (by rw [s10]; rfl) (by decide) ?_
    refine TC.iconst (w := 1) dX9_isSign_148 (by decide) ?_
    exact TC.ret_z rfl dX9_isSign_149 rfl
  refine TC.ite (fun s11 => ?_) (fun s11 => ?_)
  · refine TC.lookup (pc1 := 148) dX9_isSign_1 (by decide) (off := 147) (by rw [s11]; rfl) (by decide) ?_
    refine TC.iconst (w := 1) dX9_isSign_148 (by decide) ?_
    exact TC.ret_z rfl dX9_isSign_149 rfl
  refine TC.ite (fun s12 => ?_) (fun s12 => ?_)
  · refine TC.lookup (pc1 := 148) dX9_isSign_1 (by decide) (off := 147) (by rw [s12]; rfl) (by decide) ?_
    refine TC.iconst (w := 1) dX9_isSign_148 (by decide) ?_
    exact TC.ret_z rfl dX9_isSign_149 rfl
  refine TC.ite (fun s13 => ?_) (fun s13 => ?_)
  · refine TC.lookup (pc1 := 148) dX9_isSign_1 (by decide) (off := 147) (by rw [s13]; rfl) (by decide) ?_
    refine TC.iconst (w := 1) dX9_isSign_148 (by decide) ?_
    exact TC.ret_z rfl dX9_isSign_149 rfl
  refine TC.ite (fun s14 => ?_) (fun s14 => ?_)
  · refine TC.lookup (pc1 := 148) dX9_isSign_1 (by decide) (off := 147) (by rw [s14]; rfl) (by decide) ?_
    refine TC.iconst (w := 1) dX9_isSign_148 (by decide) ?_
    exact TC.ret_z rfl dX9_isSign_149 rfl
  refine TC.ite (fun s15 => ?_) (fun s15 => ?_)
  · refine TC.lookup (pc1 := 148) dX9_isSign_1 (by decide) (off := 147) (by rw [s15]; rfl) (by decide) ?_
    refine TC.iconst (w := 1) dX9_isSign_148 (by decide) ?_
    exact TC.ret_z rfl dX9_isSign_149 rfl
  refine TC.ite (fun s16 => ?_) (fun s16 => ?_)
  · refine TC.lookup (pc1 := 148) dX9_isSign_1 (by decide) (off := 147) (by rw [s16]; rfl) (by decide) ?_
    refine TC.iconst (w := 1) dX9_isSign_148 (by decide) ?_
    exact TC.ret_z rfl dX9_isSign_149 rfl
  refine TC.ite (fun s17 => ?_) (fun s17 => ?_)
  · refine TC.lookup (pc1 := 148) dX9_isSign_1 (by decide) (off := 147) (by rw [s17]; rfl) (by decide) ?_
    refine TC.iconst (w := 1) dX9_isSign_148 (by decide) ?_
    exact TC.ret_z rfl dX9_isSign_149 rfl
  refine TC.lookup (pc1 := 150) dX9_isSign_1 (by decide) (off := 149) ((osw2 s1).trans ((osw2 s2).trans ((osw2 s3).trans ((osw2 s4).trans ((osw2 s5).trans ((osw2 s6).trans ((osw2 s7).trans ((osw2 s8).trans ((osw2 s9).trans ((osw2 s10).trans ((osw2 s11).trans ((osw2 s12).trans ((osw2 s13).trans ((osw2 s14).trans ((osw2 s15).trans ((osw2 s16).trans ((osw2 s17).trans rfl))))))))))))))))) (by decide) ?_
  refine TC.iconst (w := 0) dX9_isSign_150 (by decide) ?_
  exact TC.ret_z rfl dX9_isSign_151 rfl
noncomputable def g_Tokens_takeSign_54 (b_0 : Int32) (X : St) : Option (Int32 × St) :=
  letV (wI X 47 3 b_0) fun X3 =>
  some (0, X3)
set_option maxHeartbeats 4000000 in
set_option maxRecDepth 100000 in
theorem k_Tokens_takeSign_54 (Γ : GxC) (As : List Value) (b_0 : Int32) (X : St) : TC YC Γ cX9_takeSign 2 "BlameCourt$Tokens" none { frames := 3, cells := 0, slots := 0, locals := 110 } As kV 54 [] [.int b_0, .ref (Γ.2.2.2.1 47)] X (g_Tokens_takeSign_54 b_0 X) := by
  unfold g_Tokens_takeSign_54
  refine pC7_3 k389 dX9_takeSign_54 (fun X3 => ?_)
  exact TC.ret_v rfl dX9_takeSign_57
noncomputable def g_Tokens_takeSign_39 (a_1 : Int32) (X : St) : Option (Int32 × St) :=
  bnd (g_Tokens_isSign a_1 X) fun x1 X2 =>
  if x1.toInt = 0 then
    g_Tokens_takeSign_54 (260 : Int32) X2
  else
    g_Tokens_takeSign_54 a_1 X2
set_option maxHeartbeats 4000000 in
set_option maxRecDepth 100000 in
theorem k_Tokens_takeSign_39 (Γ : GxC) (As : List Value) (a_1 : Int32) (X : St) : TC YC Γ cX9_takeSign 2 "BlameCourt$Tokens" none { frames := 3, cells := 0, slots := 0, locals := 110 } As kV 39 [(0, .ref (Γ.2.2.2.1 47)), (1, .int a_1)] [] X (g_Tokens_takeSign_39 a_1 X) := by
  unfold g_Tokens_takeSign_39
  refine TC.aload_n dX9_takeSign_39 rfl 0 rfl ?_
  refine TC.iload_n dX9_takeSign_40 rfl 1 rfl ?_
  refine TC.callS_i (As1 := [.int a_1]) (rest := [.ref (Γ.2.2.2.1 47)]) (k_Tokens_isSign Γ a_1 X) ka_X9_isSign k798 k797 rfl rfl rfl rfl (show 2 + 1 ≤ 3 ∧ 8 + (1 + 11) + 70 ≤ 110 from ⟨by omega, by omega⟩) (Nat.le_of_ble_eq_true rfl) dX9_takeSign_41 (fun x1 X2 => ?_)
  refine TC.if_eq (pc1 := 51) dX9_takeSign_44 (by decide) ?_ ?_
  · refine TC.sipush (w := 260) dX9_takeSign_51 (by decide) ?_
    refine TC.sub [] rfl ?_
    exact k_Tokens_takeSign_54 Γ _ (260 : Int32) X2
  · refine TC.iload_n dX9_takeSign_47 rfl 1 rfl ?_
    refine TC.goto (pc1 := 54) dX9_takeSign_48 (by decide) ?_
    refine TC.sub [] rfl ?_
    exact k_Tokens_takeSign_54 Γ _ a_1 X2
noncomputable def g_Tokens_takeSign (p1 : Int32) (X : St) : Option (Int32 × St) :=
  if p1.toInt = 58 then
    letV (X.1 47 4) fun x4 =>
    letV (x4 + (1 : Int32)) fun x5 =>
    bnd (g_Tokens_byteAt x5 X) fun x6 X7 =>
    if x6.toInt = 61 then
      letV (wI X7 47 3 ((256 : Int32))) fun X8 =>
      letV (X8.1 47 4) fun x9 =>
      letV (x9 + (2 : Int32)) fun x10 =>
      letV (wI X8 47 2 x10) fun X11 =>
      some (0, X11)
    else
      g_Tokens_takeSign_39 p1 X7
  else
    g_Tokens_takeSign_39 p1 X
set_option maxHeartbeats 4000000 in
set_option maxRecDepth 100000 in
theorem k_Tokens_takeSign (Γ : GxC) (p1 : Int32) (X : St) : TCV YC Γ yX9_takeSign cX9_takeSign 2 "BlameCourt$Tokens" none { frames := 3, cells := 0, slots := 0, locals := 110 } [.ref (Γ.2.2.2.1 47), .int p1] X (g_Tokens_takeSign p1 X) := by
  refine TCV.of (by decide) (Nat.le_of_ble_eq_true rfl) rfl ?_
  show TC YC Γ cX9_takeSign 2 "BlameCourt$Tokens" none { frames := 3, cells := 0, slots := 0, locals := 110 } _ kV 0 [(0, .ref (Γ.2.2.2.1 47)), (1, .int p1)] [] X (g_Tokens_takeSign p1 X)
  unfold g_Tokens_takeSign
  refine TC.iload_n dX9_takeSign_0 rfl 1 rfl ?_
  refine TC.bipush (w := 58) dX9_takeSign_1 (by decide) ?_
  refine TC.icmp_ne (pc1 := 39) dX9_takeSign_3 (by decide) rfl ?_ ?_
  · exact k_Tokens_takeSign_39 Γ _ p1 X
  · refine TC.aload_n dX9_takeSign_6 rfl 0 rfl ?_
    refine TC.aload_n dX9_takeSign_7 rfl 0 rfl ?_
    refine gC7_4 k391 dX9_takeSign_8 (fun x4 => ?_)
    refine TC.iconst (w := 1) dX9_takeSign_11 (by decide) ?_
    refine TC.iadd dX9_takeSign_12 (fun x5 => ?_)
    refine TC.callV_i 47 (As1 := [.int x5]) (rest := []) (k_Tokens_byteAt Γ x5 X) ka_X9_byteAt kv_X9_byteAt oC_47 rfl k766 rfl rfl rfl rfl (show 2 + 1 ≤ 3 ∧ 8 + (2 + 11) + 70 ≤ 110 from ⟨by omega, by omega⟩) (Nat.le_of_ble_eq_true rfl) dX9_takeSign_13 (fun x6 X7 => ?_)
    refine TC.bipush (w := 61) dX9_takeSign_16 (by decide) ?_
    refine TC.icmp_ne (pc1 := 39) dX9_takeSign_18 (by decide) rfl ?_ ?_
    · exact k_Tokens_takeSign_39 Γ _ p1 X7
    · refine TC.aload_n dX9_takeSign_21 rfl 0 rfl ?_
      refine TC.sipush (w := 256) dX9_takeSign_22 (by decide) ?_
      refine pC7_3 k389 dX9_takeSign_25 (fun X8 => ?_)
      refine TC.aload_n dX9_takeSign_28 rfl 0 rfl ?_
      refine TC.aload_n dX9_takeSign_29 rfl 0 rfl ?_
      refine gC7_4 k391 dX9_takeSign_30 (fun x9 => ?_)
      refine TC.iconst (w := 2) dX9_takeSign_33 (by decide) ?_
      refine TC.iadd dX9_takeSign_34 (fun x10 => ?_)
      refine pC7_2 k388 dX9_takeSign_35 (fun X11 => ?_)
      exact TC.ret_v rfl dX9_takeSign_38
noncomputable def g_Tokens_advance_50 (a_1 : Int32) (X : St) : Option (Int32 × St) :=
  letV (wI X 47 4 a_1) fun X4 =>
  letV (a_1 + (1 : Int32)) fun x5 =>
  letV (wI X4 47 2 x5) fun X6 =>
  bnd (g_Tokens_byteAt a_1 X6) fun x7 X8 =>
  if x7.toInt = -1 then
    letV (wI X8 47 3 ((257 : Int32))) fun X16 =>
    letV (X16.1 47 1) fun x17 =>
    letV (wI X16 47 2 x17) fun X18 =>
    some (0, X18)
  else
    bnd (g_Tokens_isLetter x7 X8) fun x9 X10 =>
    if x9.toInt = 0 then
      bnd (g_Tokens_isDigit x7 X10) fun x11 X12 =>
      if x11.toInt = 0 then
        bnd (g_Tokens_takeSign x7 X12) fun _ X13 =>
        some (0, X13)
      else
        bnd (g_Tokens_takeNumber X12) fun _ X14 =>
        some (0, X14)
    else
      bnd (g_Tokens_takeWord X10) fun _ X15 =>
      some (0, X15)
set_option maxHeartbeats 4000000 in
set_option maxRecDepth 100000 in
theorem k_Tokens_advance_50 (Γ : GxC) (As : List Value) (a_1 : Int32) (X : St) : TC YC Γ cX9_advance 3 "BlameCourt$Tokens" none { frames := 4, cells := 0, slots := 0, locals := 150 } As kV 50 [(0, .ref (Γ.2.2.2.1 47)), (1, .int a_1)] [] X (g_Tokens_advance_50 a_1 X) := by
  unfold g_Tokens_advance_50
  refine TC.aload_n dX9_advance_50 rfl 0 rfl ?_
  refine TC.iload_n dX9_advance_51 rfl 1 rfl ?_
  refine pC7_4 k391 dX9_advance_52 (fun X4 => ?_)
  refine TC.aload_n dX9_advance_55 rfl 0 rfl ?_
  refine TC.iload_n dX9_advance_56 rfl 1 rfl ?_
  refine TC.iconst (w := 1) dX9_advance_57 (by decide) ?_
  refine TC.iadd dX9_advance_58 (fun x5 => ?_)
  refine pC7_2 k388 dX9_advance_59 (fun X6 => ?_)
  refine TC.aload_n dX9_advance_62 rfl 0 rfl ?_
  refine TC.iload_n dX9_advance_63 rfl 1 rfl ?_
  refine TC.callV_i 47 (As1 := [.int a_1]) (rest := []) (k_Tokens_byteAt Γ a_1 X6) ka_X9_byteAt kv_X9_byteAt oC_47 rfl k766 rfl rfl rfl rfl (show 2 + 1 ≤ 4 ∧ 8 + (2 + 11) + 70 ≤ 150 from ⟨by omega, by omega⟩) (Nat.le_of_ble_eq_true rfl) dX9_advance_64 (fun x7 X8 => ?_)
  refine TC.istore_n (lv1 := [(2, .int x7), (0, .ref (Γ.2.2.2.1 47)), (1, .int a_1)]) dX9_advance_67 rfl (by decide) rfl ?_
  refine TC.iload_n dX9_advance_68 rfl 0 rfl ?_
  refine TC.iconst (w := (-1)) dX9_advance_69 (by decide) ?_
  refine TC.icmp_ne (pc1 := 91) dX9_advance_70 (by decide) rfl ?_ ?_
  · refine TC.iload_n dX9_advance_91 rfl 0 rfl ?_
    refine TC.callS_i (As1 := [.int x7]) (rest := []) (k_Tokens_isLetter Γ x7 X8) ka_X9_isLetter k771 k770 rfl rfl rfl rfl (show 2 + 1 ≤ 4 ∧ 8 + (1 + 11) + 70 ≤ 150 from ⟨by omega, by omega⟩) (Nat.le_of_ble_eq_true rfl) dX9_advance_92 (fun x9 X10 => ?_)
    refine TC.if_eq (pc1 := 105) dX9_advance_95 (by decide) ?_ ?_
    · refine TC.iload_n dX9_advance_105 rfl 0 rfl ?_
      refine TC.callS_i (As1 := [.int x7]) (rest := []) (k_Tokens_isDigit Γ x7 X10) ka_X9_isDigit k784 k783 rfl rfl rfl rfl (show 2 + 1 ≤ 4 ∧ 8 + (1 + 11) + 70 ≤ 150 from ⟨by omega, by omega⟩) (Nat.le_of_ble_eq_true rfl) dX9_advance_106 (fun x11 X12 => ?_)
      refine TC.if_eq (pc1 := 119) dX9_advance_109 (by decide) ?_ ?_
      · refine TC.aload_n dX9_advance_119 rfl 1 rfl ?_
        refine TC.iload_n dX9_advance_120 rfl 0 rfl ?_
        refine TC.callV_v 47 (As1 := [.int x7]) (rest := []) (k_Tokens_takeSign Γ x7 X12) ka_X9_takeSign kv_X9_takeSign oC_47 rfl k793 rfl rfl rfl rfl (show 3 + 1 ≤ 4 ∧ 8 + (2 + 11) + 110 ≤ 150 from ⟨by omega, by omega⟩) (Nat.le_of_ble_eq_true rfl) dX9_advance_121 (fun _ X13 => ?_)
        exact TC.ret_v rfl dX9_advance_124
      · refine TC.aload_n dX9_advance_112 rfl 1 rfl ?_
        refine TC.callV_v 47 (As1 := []) (rest := []) (k_Tokens_takeNumber Γ X12) ka_X9_takeNumber kv_X9_takeNumber oC_47 rfl k786 rfl rfl rfl rfl (show 3 + 1 ≤ 4 ∧ 8 + (2 + 11) + 110 ≤ 150 from ⟨by omega, by omega⟩) (Nat.le_of_ble_eq_true rfl) dX9_advance_113 (fun _ X14 => ?_)
        refine TC.goto (pc1 := 124) dX9_advance_116 (by decide) ?_
        exact TC.ret_v rfl dX9_advance_124
    · refine TC.aload_n dX9_advance_98 rfl 1 rfl ?_
      refine TC.callV_v 47 (As1 := []) (rest := []) (k_Tokens_takeWord Γ X10) ka_X9_takeWord kv_X9_takeWord oC_47 rfl k773 rfl rfl rfl rfl (show 3 + 1 ≤ 4 ∧ 8 + (2 + 11) + 110 ≤ 150 from ⟨by omega, by omega⟩) (Nat.le_of_ble_eq_true rfl) dX9_advance_99 (fun _ X15 => ?_)
      refine TC.goto (pc1 := 124) dX9_advance_102 (by decide) ?_
      exact TC.ret_v rfl dX9_advance_124
  · refine TC.aload_n dX9_advance_73 rfl 1 rfl ?_
    refine TC.sipush (w := 257) dX9_advance_74 (by decide) ?_
    refine pC7_3 k389 dX9_advance_77 (fun X16 => ?_)
    refine TC.aload_n dX9_advance_80 rfl 1 rfl ?_
    refine TC.aload_n dX9_advance_81 rfl 1 rfl ?_
    refine gC7_1 k387 dX9_advance_82 (fun x17 => ?_)
    refine pC7_2 k388 dX9_advance_85 (fun X18 => ?_)
    refine TC.goto (pc1 := 124) dX9_advance_88 (by decide) ?_
    exact TC.ret_v rfl dX9_advance_124
noncomputable def g_Tokens_advance_44 (r16 : Int32 → St → Option (Int32 × St)) (a_1 : Int32) (X : St) : Option (Int32 × St) :=
  letV (a_1 + Int32.ofInt (1)) fun x21 =>
  r16 x21 X
set_option maxHeartbeats 4000000 in
set_option maxRecDepth 100000 in
theorem k_Tokens_advance_44 (Γ : GxC) (As : List Value) (r16 : Int32 → St → Option (Int32 × St)) (hr16 : ∀ (a_1 : Int32) (X : St), TC YC Γ cX9_advance 3 "BlameCourt$Tokens" none { frames := 4, cells := 0, slots := 0, locals := 150 } As kV 16 [(0, .ref (Γ.2.2.2.1 47)), (1, .int a_1)] [] X (r16 a_1 X)) (a_1 : Int32) (X : St) : TC YC Γ cX9_advance 3 "BlameCourt$Tokens" none { frames := 4, cells := 0, slots := 0, locals := 150 } As kV 44 [(0, .ref (Γ.2.2.2.1 47)), (1, .int a_1)] [] X (g_Tokens_advance_44 r16 a_1 X) := by
  unfold g_Tokens_advance_44
  refine TC.iinc dX9_advance_44 1 rfl (by decide) (lvf := fun x21 => [(1, .int x21), (0, .ref (Γ.2.2.2.1 47))]) (fun _ => rfl) (fun x21 => ?_)
  refine TC.goto (pc1 := 16) dX9_advance_47 (by decide) ?_
  refine TC.sub [1, 0] rfl ?_
  exact hr16 x21 X
noncomputable def g_Tokens_advance_16_s (r16 : Int32 → St → Option (Int32 × St)) (a_1 : Int32) (X : St) : Option (Int32 × St) :=
  letV (X.1 47 1) fun x3 =>
  if x3.toInt ≤ a_1.toInt then
    g_Tokens_advance_50 a_1 X
  else
    bnd (g_Tokens_byteAt a_1 X) fun x19 X20 =>
    if x19.toInt = 32 then
      g_Tokens_advance_44 r16 a_1 X20
    else
      bnd (g_Tokens_byteAt a_1 X20) fun x22 X23 =>
      if x22.toInt = 10 then
        g_Tokens_advance_44 r16 a_1 X23
      else
        g_Tokens_advance_50 a_1 X23
noncomputable def g_Tokens_advance_16 (n : Nat) : Int32 → St → Option (Int32 × St) := lp (fun _ _ => none) (g_Tokens_advance_16_s) n
set_option maxHeartbeats 4000000 in
set_option maxRecDepth 100000 in
theorem k_Tokens_advance_16 (Γ : GxC) (As : List Value) (n : Nat) : ∀ (a_1 : Int32) (X : St), TC YC Γ cX9_advance 3 "BlameCourt$Tokens" none { frames := 4, cells := 0, slots := 0, locals := 150 } As kV 16 [(0, .ref (Γ.2.2.2.1 47)), (1, .int a_1)] [] X (g_Tokens_advance_16 n a_1 X) := by
  unfold g_Tokens_advance_16
  refine lp_ind (P := fun (r16 : Int32 → St → Option (Int32 × St)) => ∀ (a_1 : Int32) (X : St), TC YC Γ cX9_advance 3 "BlameCourt$Tokens" none { frames := 4, cells := 0, slots := 0, locals := 150 } As kV 16 [(0, .ref (Γ.2.2.2.1 47)), (1, .int a_1)] [] X (r16 a_1 X)) (fun _ _ => TC.no) ?_ n
  intro r16 hr16 a_1 X
  unfold g_Tokens_advance_16_s
  refine TC.iload_n dX9_advance_16 rfl 1 rfl ?_
  refine TC.aload_n dX9_advance_17 rfl 0 rfl ?_
  refine gC7_1 k387 dX9_advance_18 (fun x3 => ?_)
  refine TC.icmp_ge (pc1 := 50) dX9_advance_21 (by decide) rfl ?_ ?_
  · exact k_Tokens_advance_50 Γ _ a_1 X
  · refine TC.aload_n dX9_advance_24 rfl 0 rfl ?_
    refine TC.iload_n dX9_advance_25 rfl 1 rfl ?_
    refine TC.callV_i 47 (As1 := [.int a_1]) (rest := []) (k_Tokens_byteAt Γ a_1 X) ka_X9_byteAt kv_X9_byteAt oC_47 rfl k766 rfl rfl rfl rfl (show 2 + 1 ≤ 4 ∧ 8 + (2 + 11) + 70 ≤ 150 from ⟨by omega, by omega⟩) (Nat.le_of_ble_eq_true rfl) dX9_advance_26 (fun x19 X20 => ?_)
    refine TC.bipush (w := 32) dX9_advance_29 (by decide) ?_
    refine TC.icmp_eq (pc1 := 44) dX9_advance_31 (by decide) rfl ?_ ?_
    · exact k_Tokens_advance_44 Γ _ r16 hr16 a_1 X20
    · refine TC.aload_n dX9_advance_34 rfl 0 rfl ?_
      refine TC.iload_n dX9_advance_35 rfl 1 rfl ?_
      refine TC.callV_i 47 (As1 := [.int a_1]) (rest := []) (k_Tokens_byteAt Γ a_1 X20) ka_X9_byteAt kv_X9_byteAt oC_47 rfl k766 rfl rfl rfl rfl (show 2 + 1 ≤ 4 ∧ 8 + (2 + 11) + 70 ≤ 150 from ⟨by omega, by omega⟩) (Nat.le_of_ble_eq_true rfl) dX9_advance_36 (fun x22 X23 => ?_)
      refine TC.bipush (w := 10) dX9_advance_39 (by decide) ?_
      refine TC.icmp_ne (pc1 := 50) dX9_advance_41 (by decide) rfl ?_ ?_
      · exact k_Tokens_advance_50 Γ _ a_1 X23
      · exact k_Tokens_advance_44 Γ _ r16 hr16 a_1 X23
noncomputable def g_Tokens_advance (X : St) : Option (Int32 × St) :=
  letV (X.1 47 3) fun x1 =>
  if x1.toInt = 260 then
    some (0, X)
  else
    letV (X.1 47 2) fun x2 =>
    g_Tokens_advance_16 BIG x2 X
set_option maxHeartbeats 4000000 in
set_option maxRecDepth 100000 in
theorem k_Tokens_advance (Γ : GxC) (X : St) : TCV YC Γ yX9_advance cX9_advance 3 "BlameCourt$Tokens" none { frames := 4, cells := 0, slots := 0, locals := 150 } [.ref (Γ.2.2.2.1 47)] X (g_Tokens_advance X) := by
  refine TCV.of (by decide) (Nat.le_of_ble_eq_true rfl) rfl ?_
  show TC YC Γ cX9_advance 3 "BlameCourt$Tokens" none { frames := 4, cells := 0, slots := 0, locals := 150 } _ kV 0 [(0, .ref (Γ.2.2.2.1 47))] [] X (g_Tokens_advance X)
  unfold g_Tokens_advance
  refine TC.aload_n dX9_advance_0 rfl 0 rfl ?_
  refine gC7_3 k389 dX9_advance_1 (fun x1 => ?_)
  refine TC.sipush (w := 260) dX9_advance_4 (by decide) ?_
  refine TC.icmp_ne (pc1 := 11) dX9_advance_7 (by decide) rfl ?_ ?_
  · refine TC.aload_n dX9_advance_11 rfl 0 rfl ?_
    refine gC7_2 k388 dX9_advance_12 (fun x2 => ?_)
    refine TC.istore_n (lv1 := [(1, .int x2), (0, .ref (Γ.2.2.2.1 47))]) dX9_advance_15 rfl (by decide) rfl ?_
    refine TC.sub [1, 0] rfl ?_
    exact k_Tokens_advance_16 Γ _ BIG x2 X
  · exact TC.ret_v rfl dX9_advance_10
noncomputable def g_Tokens_goTo (p1 : Int32) (X : St) : Option (Int32 × St) :=
  letV (wI X 47 2 p1) fun X1 =>
  letV (wI X1 47 3 ((257 : Int32))) fun X2 =>
  bnd (g_Tokens_advance X2) fun _ X3 =>
  some (0, X3)
set_option maxHeartbeats 4000000 in
set_option maxRecDepth 100000 in
theorem k_Tokens_goTo (Γ : GxC) (p1 : Int32) (X : St) : TCV YC Γ yX9_goTo cX9_goTo 2 "BlameCourt$Tokens" none { frames := 5, cells := 0, slots := 0, locals := 190 } [.ref (Γ.2.2.2.1 47), .int p1] X (g_Tokens_goTo p1 X) := by
  refine TCV.of (by decide) (Nat.le_of_ble_eq_true rfl) rfl ?_
  show TC YC Γ cX9_goTo 2 "BlameCourt$Tokens" none { frames := 5, cells := 0, slots := 0, locals := 190 } _ kV 0 [(0, .ref (Γ.2.2.2.1 47)), (1, .int p1)] [] X (g_Tokens_goTo p1 X)
  unfold g_Tokens_goTo
  refine TC.aload_n dX9_goTo_0 rfl 0 rfl ?_
  refine TC.iload_n dX9_goTo_1 rfl 1 rfl ?_
  refine pC7_2 k388 dX9_goTo_2 (fun X1 => ?_)
  refine TC.aload_n dX9_goTo_5 rfl 0 rfl ?_
  refine TC.sipush (w := 257) dX9_goTo_6 (by decide) ?_
  refine pC7_3 k389 dX9_goTo_9 (fun X2 => ?_)
  refine TC.aload_n dX9_goTo_12 rfl 0 rfl ?_
  refine TC.callV_v 47 (As1 := []) (rest := []) (k_Tokens_advance Γ X2) ka_X9_advance kv_X9_advance oC_47 rfl k762 rfl rfl rfl rfl (show 4 + 1 ≤ 5 ∧ 8 + (3 + 11) + 150 ≤ 190 from ⟨by omega, by omega⟩) (Nat.le_of_ble_eq_true rfl) dX9_goTo_13 (fun _ X3 => ?_)
  exact TC.ret_v rfl dX9_goTo_16
noncomputable def g_Tokens_begin (o1 : Nat) (p2 : Int32) (X : St) : Option (Int32 × St) :=
  letV (wR X 47 0 ((o1 + 1))) fun X1 =>
  letV (Int32.ofNat (zY YC o1)) fun x2 =>
  letV (if x2 < p2 then x2 else p2) fun x3 =>
  letV (wI X1 47 1 x3) fun X4 =>
  bnd (g_Tokens_goTo (0 : Int32) X4) fun _ X5 =>
  some (0, X5)
set_option maxHeartbeats 4000000 in
set_option maxRecDepth 100000 in
theorem k_Tokens_begin (Γ : GxC) (o1 : Nat) (ho1 : isA YC o1 1 (zY YC o1) .byte) (p2 : Int32) (X : St) : TCV YC Γ yX9_begin cX9_begin 3 "BlameCourt$Tokens" none { frames := 6, cells := 0, slots := 0, locals := 230 } [.ref (Γ.2.2.2.1 47), .ref (Γ.2.2.2.1 o1), .int p2] X (g_Tokens_begin o1 p2 X) := by
  refine TCV.of (by decide) (Nat.le_of_ble_eq_true rfl) rfl ?_
  show TC YC Γ cX9_begin 3 "BlameCourt$Tokens" none { frames := 6, cells := 0, slots := 0, locals := 230 } _ kV 0 [(0, .ref (Γ.2.2.2.1 47)), (1, .ref (Γ.2.2.2.1 o1)), (2, .int p2)] [] X (g_Tokens_begin o1 p2 X)
  unfold g_Tokens_begin
  refine TC.aload_n dX9_begin_0 rfl 0 rfl ?_
  refine TC.aload_n dX9_begin_1 rfl 1 rfl ?_
  refine pC7_0 k386 dX9_begin_2 (fun X1 => ?_)
  refine TC.aload_n dX9_begin_5 rfl 0 rfl ?_
  refine TC.iload_n dX9_begin_6 rfl 2 rfl ?_
  refine TC.aload_n dX9_begin_7 rfl 1 rfl ?_
  refine TC.alenV o1 ho1 dX9_begin_8 (fun x2 => ?_)
  refine TC.mmin k755 k756 k198 k757 rfl dX9_begin_9 (show 1 ≤ 6 ∧ 8 + 13 ≤ 230 from ⟨by omega, by omega⟩) (Nat.le_of_ble_eq_true rfl) (fun x3 => ?_)
  refine pC7_1 k387 dX9_begin_12 (fun X4 => ?_)
  refine TC.aload_n dX9_begin_15 rfl 0 rfl ?_
  refine TC.iconst (w := 0) dX9_begin_16 (by decide) ?_
  refine TC.callV_v 47 (As1 := [.int 0]) (rest := []) (k_Tokens_goTo Γ (0 : Int32) X4) ka_X9_goTo kv_X9_goTo oC_47 rfl k758 rfl rfl rfl rfl (show 5 + 1 ≤ 6 ∧ 8 + (2 + 11) + 190 ≤ 230 from ⟨by omega, by omega⟩) (Nat.le_of_ble_eq_true rfl) dX9_begin_17 (fun _ X5 => ?_)
  exact TC.ret_v rfl dX9_begin_20
noncomputable def g_Reader_refuseAt (p1 : Int32) (p2 : Int32) (X : St) : Option (Int32 × St) :=
  letV (X.1 46 3) fun x1 =>
  if x1.toInt = 0 then
    letV (wI X 46 3 p1) fun X2 =>
    letV (wI X2 46 4 p2) fun X3 =>
    some (0, X3)
  else
    some (0, X)
set_option maxHeartbeats 4000000 in
set_option maxRecDepth 100000 in
theorem k_Reader_refuseAt (Γ : GxC) (p1 : Int32) (p2 : Int32) (X : St) : TCV YC Γ yX6_refuseAt cX6_refuseAt 3 "BlameCourt$Reade\x72" none { frames := 2, cells := 0, slots := 0, locals := 70 } [.ref (Γ.2.2.2.1 46), .int p1, .int p2] X (g_Reader_refuseAt p1 p2 X) := by
  refine TCV.of (by decide) (Nat.le_of_ble_eq_true rfl) rfl ?_
  show TC YC Γ cX6_refuseAt 3 "BlameCourt$Reade\x72" none { frames := 2, cells := 0, slots := 0, locals := 70 } _ kV 0 [(0, .ref (Γ.2.2.2.1 46)), (1, .int p1), (2, .int p2)] [] X (g_Reader_refuseAt p1 p2 X)
  unfold g_Reader_refuseAt
  refine TC.aload_n dX6_refuseAt_0 rfl 0 rfl ?_
  refine gC5_3 k419 dX6_refuseAt_1 (fun x1 => ?_)
  refine TC.if_ne (pc1 := 17) dX6_refuseAt_4 (by decide) ?_ ?_
  · exact TC.ret_v rfl dX6_refuseAt_17
  · refine TC.aload_n dX6_refuseAt_7 rfl 0 rfl ?_
    refine TC.iload_n dX6_refuseAt_8 rfl 1 rfl ?_
    refine pC5_3 k419 dX6_refuseAt_9 (fun X2 => ?_)
    refine TC.aload_n dX6_refuseAt_12 rfl 0 rfl ?_
    refine TC.iload_n dX6_refuseAt_13 rfl 2 rfl ?_
    refine pC5_4 k421 dX6_refuseAt_14 (fun X3 => ?_)
    exact TC.ret_v rfl dX6_refuseAt_17
noncomputable def g_Tokens_stop (X : St) : Option (Int32 × St) :=
  letV (wI X 47 3 ((260 : Int32))) fun X1 =>
  letV (X1.1 47 1) fun x2 =>
  letV (wI X1 47 2 x2) fun X3 =>
  some (0, X3)
set_option maxHeartbeats 4000000 in
set_option maxRecDepth 100000 in
theorem k_Tokens_stop (Γ : GxC) (X : St) : TCV YC Γ yX9_stop cX9_stop 1 "BlameCourt$Tokens" none { frames := 2, cells := 0, slots := 0, locals := 70 } [.ref (Γ.2.2.2.1 47)] X (g_Tokens_stop X) := by
  refine TCV.of (by decide) (Nat.le_of_ble_eq_true rfl) rfl ?_
  show TC YC Γ cX9_stop 1 "BlameCourt$Tokens" none { frames := 2, cells := 0, slots := 0, locals := 70 } _ kV 0 [(0, .ref (Γ.2.2.2.1 47))] [] X (g_Tokens_stop X)
  unfold g_Tokens_stop
  refine TC.aload_n dX9_stop_0 rfl 0 rfl ?_
  refine TC.sipush (w := 260) dX9_stop_1 (by decide) ?_
  refine pC7_3 k389 dX9_stop_4 (fun X1 => ?_)
  refine TC.aload_n dX9_stop_7 rfl 0 rfl ?_
  refine TC.aload_n dX9_stop_8 rfl 0 rfl ?_
  refine gC7_1 k387 dX9_stop_9 (fun x2 => ?_)
  refine pC7_2 k388 dX9_stop_12 (fun X3 => ?_)
  exact TC.ret_v rfl dX9_stop_15
noncomputable def g_Reader_refuse (p1 : Int32) (X : St) : Option (Int32 × St) :=
  letV (X.1 47 4) fun x1 =>
  bnd (g_Reader_refuseAt p1 x1 X) fun _ X2 =>
  bnd (g_Tokens_stop X2) fun _ X3 =>
  some (0, X3)
set_option maxHeartbeats 4000000 in
set_option maxRecDepth 100000 in
theorem k_Reader_refuse (Γ : GxC) (p1 : Int32) (X : St) : TCV YC Γ yX6_refuse cX6_refuse 2 "BlameCourt$Reade\x72" none { frames := 3, cells := 0, slots := 0, locals := 110 } [.ref (Γ.2.2.2.1 46), .int p1] X (g_Reader_refuse p1 X) := by
  refine TCV.of (by decide) (Nat.le_of_ble_eq_true rfl) rfl ?_
  show TC YC Γ cX6_refuse 2 "BlameCourt$Reade\x72" none { frames := 3, cells := 0, slots := 0, locals := 110 } _ kV 0 [(0, .ref (Γ.2.2.2.1 46)), (1, .int p1)] [] X (g_Reader_refuse p1 X)
  unfold g_Reader_refuse
  refine TC.aload_n dX6_refuse_0 rfl 0 rfl ?_
  refine TC.iload_n dX6_refuse_1 rfl 1 rfl ?_
  refine TC.aload_n dX6_refuse_2 rfl 0 rfl ?_
  refine cC5_0 k416 dX6_refuse_3 ?_
  refine gC7_4 k392 dX6_refuse_6 (fun x1 => ?_)
  refine TC.callV_v 46 (As1 := [.int p1, .int x1]) (rest := []) (k_Reader_refuseAt Γ p1 x1 X) ka_X6_refuseAt kv_X6_refuseAt oC_46 rfl k804 rfl rfl rfl rfl (show 2 + 1 ≤ 3 ∧ 8 + (3 + 11) + 70 ≤ 110 from ⟨by omega, by omega⟩) (Nat.le_of_ble_eq_true rfl) dX6_refuse_9 (fun _ X2 => ?_)
  refine TC.aload_n dX6_refuse_12 rfl 0 rfl ?_
  refine cC5_0 k416 dX6_refuse_13 ?_
  refine TC.callV_v 47 (As1 := []) (rest := []) (k_Tokens_stop Γ X2) ka_X9_stop kv_X9_stop oC_47 rfl k808 rfl rfl rfl rfl (show 2 + 1 ≤ 3 ∧ 8 + (1 + 11) + 70 ≤ 110 from ⟨by omega, by omega⟩) (Nat.le_of_ble_eq_true rfl) dX6_refuse_16 (fun _ X3 => ?_)
  exact TC.ret_v rfl dX6_refuse_19
noncomputable def g_Reader_want (p1 : Int32) (X : St) : Option (Int32 × St) :=
  letV (X.1 47 3) fun x1 =>
  if x1.toInt = p1.toInt then
    bnd (g_Tokens_advance X) fun _ X3 =>
    some (0, X3)
  else
    bnd (g_Reader_refuse (1 : Int32) X) fun _ X2 =>
    some (0, X2)
set_option maxHeartbeats 4000000 in
set_option maxRecDepth 100000 in
theorem k_Reader_want (Γ : GxC) (p1 : Int32) (X : St) : TCV YC Γ yX6_want cX6_want 2 "BlameCourt$Reade\x72" none { frames := 5, cells := 0, slots := 0, locals := 190 } [.ref (Γ.2.2.2.1 46), .int p1] X (g_Reader_want p1 X) := by
  refine TCV.of (by decide) (Nat.le_of_ble_eq_true rfl) rfl ?_
  show TC YC Γ cX6_want 2 "BlameCourt$Reade\x72" none { frames := 5, cells := 0, slots := 0, locals := 190 } _ kV 0 [(0, .ref (Γ.2.2.2.1 46)), (1, .int p1)] [] X (g_Reader_want p1 X)
  unfold g_Reader_want
  refine TC.aload_n dX6_want_0 rfl 0 rfl ?_
  refine cC5_0 k416 dX6_want_1 ?_
  refine gC7_3 k390 dX6_want_4 (fun x1 => ?_)
  refine TC.iload_n dX6_want_7 rfl 1 rfl ?_
  refine TC.icmp_ne (pc1 := 21) dX6_want_8 (by decide) rfl ?_ ?_
  · refine TC.aload_n dX6_want_21 rfl 0 rfl ?_
    refine TC.iconst (w := 1) dX6_want_22 (by decide) ?_
    refine TC.callV_v 46 (As1 := [.int 1]) (rest := []) (k_Reader_refuse Γ (1 : Int32) X) ka_X6_refuse kv_X6_refuse oC_46 rfl k800 rfl rfl rfl rfl (show 3 + 1 ≤ 5 ∧ 8 + (2 + 11) + 110 ≤ 190 from ⟨by omega, by omega⟩) (Nat.le_of_ble_eq_true rfl) dX6_want_23 (fun _ X2 => ?_)
    exact TC.ret_v rfl dX6_want_26
  · refine TC.aload_n dX6_want_11 rfl 0 rfl ?_
    refine cC5_0 k416 dX6_want_12 ?_
    refine TC.callV_v 47 (As1 := []) (rest := []) (k_Tokens_advance Γ X) ka_X9_advance kv_X9_advance oC_47 rfl k816 rfl rfl rfl rfl (show 4 + 1 ≤ 5 ∧ 8 + (3 + 11) + 150 ≤ 190 from ⟨by omega, by omega⟩) (Nat.le_of_ble_eq_true rfl) dX6_want_15 (fun _ X3 => ?_)
    refine TC.goto (pc1 := 26) dX6_want_18 (by decide) ?_
    exact TC.ret_v rfl dX6_want_26
noncomputable def g_Reader_takePartName (p1 : Int32) (X : St) : Option (Int32 × St) :=
  chk (refO YC (X.2.2 46 1) 4 17 = true) (letV (X.2.2 46 1 - 1) fun e1 =>
  letV (kY YC e1 9 - 3) fun e2 =>
  letV (X.1 47 4) fun x3 =>
  chk (inR p1 40) (letV (wI X e2 (ix p1) x3) fun X4 =>
  bnd (g_Tokens_advance X4) fun _ X5 =>
  letV (X5.1 47 4) fun x6 =>
  chk (inR p1 40) (letV (wI X5 49 (ix p1) x6) fun X7 =>
  chk (refO YC (X7.2.2 46 1) 4 17 = true) (letV (X7.2.2 46 1 - 1) fun e8 =>
  letV (kY YC e8 7 - 3) fun e9 =>
  letV (X7.2.1 47 5) fun y10 =>
  chk (inR p1 40) (letV (wL X7 e9 (ix p1) y10) fun X11 =>
  chk (refO YC (X11.2.2 46 1) 4 17 = true) (letV (X11.2.2 46 1 - 1) fun e12 =>
  letV (kY YC e12 8 - 3) fun e13 =>
  letV (X11.1 47 6) fun x14 =>
  chk (inR p1 40) (letV (wI X11 e13 (ix p1) x14) fun X15 =>
  bnd (g_Reader_want (258 : Int32) X15) fun _ X16 =>
  some (0, X16))))))))
set_option maxHeartbeats 4000000 in
set_option maxRecDepth 100000 in
theorem k_Reader_takePartName (Γ : GxC) (p1 : Int32) (X : St) : TCV YC Γ yX6_takePartName cX6_takePartName 2 "BlameCourt$Reade\x72" none { frames := 6, cells := 0, slots := 0, locals := 230 } [.ref (Γ.2.2.2.1 46), .int p1] X (g_Reader_takePartName p1 X) := by
  refine TCV.of (by decide) (Nat.le_of_ble_eq_true rfl) rfl ?_
  show TC YC Γ cX6_takePartName 2 "BlameCourt$Reade\x72" none { frames := 6, cells := 0, slots := 0, locals := 230 } _ kV 0 [(0, .ref (Γ.2.2.2.1 46)), (1, .int p1)] [] X (g_Reader_takePartName p1 X)
  unfold g_Reader_takePartName
  refine TC.aload_n dX6_takePartName_0 rfl 0 rfl ?_
  refine mC5_1 k417 dX6_takePartName_1 (fun e1 he1 => ?_)
  refine vC4_9 e1 he1 k298 dX6_takePartName_4 (fun e2 he2 => ?_)
  refine TC.iload_n dX6_takePartName_7 rfl 1 rfl ?_
  refine TC.aload_n dX6_takePartName_8 rfl 0 rfl ?_
  refine cC5_0 k416 dX6_takePartName_9 ?_
  refine gC7_4 k392 dX6_takePartName_12 (fun x3 => ?_)
  refine TC.iast e2 he2 dX6_takePartName_15 (fun X4 => ?_)
  refine TC.aload_n dX6_takePartName_16 rfl 0 rfl ?_
  refine cC5_0 k416 dX6_takePartName_17 ?_
  refine TC.callV_v 47 (As1 := []) (rest := []) (k_Tokens_advance Γ X4) ka_X9_advance kv_X9_advance oC_47 rfl k816 rfl rfl rfl rfl (show 4 + 1 ≤ 6 ∧ 8 + (3 + 11) + 150 ≤ 230 from ⟨by omega, by omega⟩) (Nat.le_of_ble_eq_true rfl) dX6_takePartName_20 (fun _ X5 => ?_)
  refine TC.aload_n dX6_takePartName_23 rfl 0 rfl ?_
  refine cC5_7 k423 dX6_takePartName_24 ?_
  refine TC.iload_n dX6_takePartName_27 rfl 1 rfl ?_
  refine TC.aload_n dX6_takePartName_28 rfl 0 rfl ?_
  refine cC5_0 k416 dX6_takePartName_29 ?_
  refine gC7_4 k392 dX6_takePartName_32 (fun x6 => ?_)
  refine asC49 dX6_takePartName_35 (fun X7 => ?_)
  refine TC.aload_n dX6_takePartName_36 rfl 0 rfl ?_
  refine mC5_1 k417 dX6_takePartName_37 (fun e8 he8 => ?_)
  refine vC4_7 e8 he8 k293 dX6_takePartName_40 (fun e9 he9 => ?_)
  refine TC.iload_n dX6_takePartName_43 rfl 1 rfl ?_
  refine TC.aload_n dX6_takePartName_44 rfl 0 rfl ?_
  refine cC5_0 k416 dX6_takePartName_45 ?_
  refine gC7_5 k394 dX6_takePartName_48 (fun y10 => ?_)
  refine TC.last e9 he9 dX6_takePartName_51 (fun X11 => ?_)
  refine TC.aload_n dX6_takePartName_52 rfl 0 rfl ?_
  refine mC5_1 k417 dX6_takePartName_53 (fun e12 he12 => ?_)
  refine vC4_8 e12 he12 k295 dX6_takePartName_56 (fun e13 he13 => ?_)
  refine TC.iload_n dX6_takePartName_59 rfl 1 rfl ?_
  refine TC.aload_n dX6_takePartName_60 rfl 0 rfl ?_
  refine cC5_0 k416 dX6_takePartName_61 ?_
  refine gC7_6 k396 dX6_takePartName_64 (fun x14 => ?_)
  refine TC.iast e13 he13 dX6_takePartName_67 (fun X15 => ?_)
  refine TC.aload_n dX6_takePartName_68 rfl 0 rfl ?_
  refine TC.sipush (w := 258) dX6_takePartName_69 (by decide) ?_
  refine TC.callV_v 46 (As1 := [.int 258]) (rest := []) (k_Reader_want Γ (258 : Int32) X15) ka_X6_want kv_X6_want oC_46 rfl k817 rfl rfl rfl rfl (show 5 + 1 ≤ 6 ∧ 8 + (2 + 11) + 190 ≤ 230 from ⟨by omega, by omega⟩) (Nat.le_of_ble_eq_true rfl) dX6_takePartName_72 (fun _ X16 => ?_)
  exact TC.ret_v rfl dX6_takePartName_75
noncomputable def g_Reader_enter_43 (X : St) : Option (Int32 × St) :=
  letV (X.1 46 2) fun x4 =>
  letV (x4 + (1 : Int32)) fun x5 =>
  letV (wI X 46 2 x5) fun X6 =>
  some (0, X6)
set_option maxHeartbeats 4000000 in
set_option maxRecDepth 100000 in
theorem k_Reader_enter_43 (Γ : GxC) (As : List Value) (X : St) : TC YC Γ cX6_enter 2 "BlameCourt$Reade\x72" none { frames := 5, cells := 0, slots := 0, locals := 190 } As kV 43 [(0, .ref (Γ.2.2.2.1 46))] [] X (g_Reader_enter_43 X) := by
  unfold g_Reader_enter_43
  refine TC.aload_n dX6_enter_43 rfl 0 rfl ?_
  refine TC.dupr dX6_enter_44 ?_
  refine gC5_2 k418 dX6_enter_45 (fun x4 => ?_)
  refine TC.iconst (w := 1) dX6_enter_48 (by decide) ?_
  refine TC.iadd dX6_enter_49 (fun x5 => ?_)
  refine pC5_2 k418 dX6_enter_50 (fun X6 => ?_)
  exact TC.ret_v rfl dX6_enter_53
noncomputable def g_Reader_enter (p1 : Int32) (X : St) : Option (Int32 × St) :=
  letV (X.1 47 3) fun x1 =>
  if x1.toInt = p1.toInt then
    letV (X.1 46 2) fun x2 =>
    if x2.toInt < 40 then
      bnd (g_Tokens_advance X) fun _ X3 =>
      g_Reader_enter_43 X3
    else
      bnd (g_Reader_refuse (3 : Int32) X) fun _ X7 =>
      g_Reader_enter_43 X7
  else
    bnd (g_Reader_refuse (1 : Int32) X) fun _ X8 =>
    g_Reader_enter_43 X8
set_option maxHeartbeats 4000000 in
set_option maxRecDepth 100000 in
theorem k_Reader_enter (Γ : GxC) (p1 : Int32) (X : St) : TCV YC Γ yX6_enter cX6_enter 2 "BlameCourt$Reade\x72" none { frames := 5, cells := 0, slots := 0, locals := 190 } [.ref (Γ.2.2.2.1 46), .int p1] X (g_Reader_enter p1 X) := by
  refine TCV.of (by decide) (Nat.le_of_ble_eq_true rfl) rfl ?_
  show TC YC Γ cX6_enter 2 "BlameCourt$Reade\x72" none { frames := 5, cells := 0, slots := 0, locals := 190 } _ kV 0 [(0, .ref (Γ.2.2.2.1 46)), (1, .int p1)] [] X (g_Reader_enter p1 X)
  unfold g_Reader_enter
  refine TC.aload_n dX6_enter_0 rfl 0 rfl ?_
  refine cC5_0 k416 dX6_enter_1 ?_
  refine gC7_3 k390 dX6_enter_4 (fun x1 => ?_)
  refine TC.iload_n dX6_enter_7 rfl 1 rfl ?_
  refine TC.icmp_eq (pc1 := 19) dX6_enter_8 (by decide) rfl ?_ ?_
  · refine TC.aload_n dX6_enter_19 rfl 0 rfl ?_
    refine gC5_2 k418 dX6_enter_20 (fun x2 => ?_)
    refine TC.bipush (w := 40) dX6_enter_23 (by decide) ?_
    refine TC.icmp_lt (pc1 := 36) dX6_enter_25 (by decide) rfl ?_ ?_
    · refine TC.aload_n dX6_enter_36 rfl 0 rfl ?_
      refine cC5_0 k416 dX6_enter_37 ?_
      refine TC.callV_v 47 (As1 := []) (rest := []) (k_Tokens_advance Γ X) ka_X9_advance kv_X9_advance oC_47 rfl k816 rfl rfl rfl rfl (show 4 + 1 ≤ 5 ∧ 8 + (3 + 11) + 150 ≤ 190 from ⟨by omega, by omega⟩) (Nat.le_of_ble_eq_true rfl) dX6_enter_40 (fun _ X3 => ?_)
      refine TC.sub [0] rfl ?_
      exact k_Reader_enter_43 Γ _ X3
    · refine TC.aload_n dX6_enter_28 rfl 0 rfl ?_
      refine TC.iconst (w := 3) dX6_enter_29 (by decide) ?_
      refine TC.callV_v 46 (As1 := [.int 3]) (rest := []) (k_Reader_refuse Γ (3 : Int32) X) ka_X6_refuse kv_X6_refuse oC_46 rfl k800 rfl rfl rfl rfl (show 3 + 1 ≤ 5 ∧ 8 + (2 + 11) + 110 ≤ 190 from ⟨by omega, by omega⟩) (Nat.le_of_ble_eq_true rfl) dX6_enter_30 (fun _ X7 => ?_)
      refine TC.goto (pc1 := 43) dX6_enter_33 (by decide) ?_
      refine TC.sub [0] rfl ?_
      exact k_Reader_enter_43 Γ _ X7
  · refine TC.aload_n dX6_enter_11 rfl 0 rfl ?_
    refine TC.iconst (w := 1) dX6_enter_12 (by decide) ?_
    refine TC.callV_v 46 (As1 := [.int 1]) (rest := []) (k_Reader_refuse Γ (1 : Int32) X) ka_X6_refuse kv_X6_refuse oC_46 rfl k800 rfl rfl rfl rfl (show 3 + 1 ≤ 5 ∧ 8 + (2 + 11) + 110 ≤ 190 from ⟨by omega, by omega⟩) (Nat.le_of_ble_eq_true rfl) dX6_enter_13 (fun _ X8 => ?_)
    refine TC.goto (pc1 := 43) dX6_enter_16 (by decide) ?_
    refine TC.sub [0] rfl ?_
    exact k_Reader_enter_43 Γ _ X8
noncomputable def g_Reader_slotOf_7_s (r7 : Int64 → Int32 → St → Option (Int32 × St)) (l_1 : Int64) (a_3 : Int32) (X : St) : Option (Int32 × St) :=
  if a_3.toInt < 0 then
    some ((-1), X)
  else
    chk (inR a_3 44) (letV (X.2.1 50 (ix a_3)) fun y3 =>
    letV (lg_cmp y3 l_1) fun x4 =>
    if x4.toInt = 0 then
      some (a_3, X)
    else
      letV (a_3 + Int32.ofInt (-1)) fun x5 =>
      r7 l_1 x5 X)
noncomputable def g_Reader_slotOf_7 (n : Nat) : Int64 → Int32 → St → Option (Int32 × St) := lp (fun _ _ _ => none) (g_Reader_slotOf_7_s) n
set_option maxHeartbeats 4000000 in
set_option maxRecDepth 100000 in
theorem k_Reader_slotOf_7 (Γ : GxC) (As : List Value) (n : Nat) : ∀ (l_1 : Int64) (a_3 : Int32) (X : St), TC YC Γ cX6_slotOf 4 "BlameCourt$Reade\x72" (some .int) { frames := 2, cells := 0, slots := 0, locals := 70 } As kI 7 [(0, .ref (Γ.2.2.2.1 46)), (1, .long l_1), (3, .int a_3)] [] X (g_Reader_slotOf_7 n l_1 a_3 X) := by
  unfold g_Reader_slotOf_7
  refine lp_ind (P := fun (r7 : Int64 → Int32 → St → Option (Int32 × St)) => ∀ (l_1 : Int64) (a_3 : Int32) (X : St), TC YC Γ cX6_slotOf 4 "BlameCourt$Reade\x72" (some .int) { frames := 2, cells := 0, slots := 0, locals := 70 } As kI 7 [(0, .ref (Γ.2.2.2.1 46)), (1, .long l_1), (3, .int a_3)] [] X (r7 l_1 a_3 X)) (fun _ _ _ => TC.no) ?_ n
  intro r7 hr7 l_1 a_3 X
  unfold g_Reader_slotOf_7_s
  refine TC.iload_n dX6_slotOf_7 rfl 2 rfl ?_
  refine TC.if_lt (pc1 := 30) dX6_slotOf_8 (by decide) ?_ ?_
  · refine TC.iconst (w := (-1)) dX6_slotOf_30 (by decide) ?_
    exact TC.ret_i rfl dX6_slotOf_31
  · refine TC.aload_n dX6_slotOf_11 rfl 0 rfl ?_
    refine cC5_8 k424 dX6_slotOf_12 ?_
    refine TC.iload_n dX6_slotOf_15 rfl 2 rfl ?_
    refine alC50 dX6_slotOf_16 (fun y3 => ?_)
    refine TC.lload_n dX6_slotOf_17 rfl 1 rfl ?_
    refine TC.lcmp dX6_slotOf_18 (fun x4 => ?_)
    refine TC.if_ne (pc1 := 24) dX6_slotOf_19 (by decide) ?_ ?_
    · refine TC.iinc dX6_slotOf_24 2 rfl (by decide) (lvf := fun x5 => [(3, .int x5), (0, .ref (Γ.2.2.2.1 46)), (1, .long l_1)]) (fun _ => rfl) (fun x5 => ?_)
      refine TC.goto (pc1 := 7) dX6_slotOf_27 (by decide) ?_
      refine TC.sub [1, 2, 0] rfl ?_
      exact hr7 l_1 x5 X
    · refine TC.iload_n dX6_slotOf_22 rfl 2 rfl ?_
      exact TC.ret_i rfl dX6_slotOf_23
noncomputable def g_Reader_slotOf (q1 : Int64) (X : St) : Option (Int32 × St) :=
  letV (X.1 46 9) fun x1 =>
  letV (x1 - (1 : Int32)) fun x2 =>
  g_Reader_slotOf_7 BIG q1 x2 X
set_option maxHeartbeats 4000000 in
set_option maxRecDepth 100000 in
theorem k_Reader_slotOf (Γ : GxC) (q1 : Int64) (X : St) : TCI YC Γ yX6_slotOf cX6_slotOf 4 "BlameCourt$Reade\x72" (some .int) { frames := 2, cells := 0, slots := 0, locals := 70 } [.ref (Γ.2.2.2.1 46), .long q1] X (g_Reader_slotOf q1 X) := by
  refine TCI.of (by decide) (Nat.le_of_ble_eq_true rfl) rfl ?_
  show TC YC Γ cX6_slotOf 4 "BlameCourt$Reade\x72" (some .int) { frames := 2, cells := 0, slots := 0, locals := 70 } _ kI 0 [(0, .ref (Γ.2.2.2.1 46)), (1, .long q1)] [] X (g_Reader_slotOf q1 X)
  unfold g_Reader_slotOf
  refine TC.aload_n dX6_slotOf_0 rfl 0 rfl ?_
  refine gC5_9 k425 dX6_slotOf_1 (fun x1 => ?_)
  refine TC.iconst (w := 1) dX6_slotOf_4 (by decide) ?_
  refine TC.isub dX6_slotOf_5 (fun x2 => ?_)
  refine TC.istore_n (lv1 := [(3, .int x2), (0, .ref (Γ.2.2.2.1 46)), (1, .long q1)]) dX6_slotOf_6 rfl (by decide) rfl ?_
  refine TC.sub [1, 2, 0] rfl ?_
  exact k_Reader_slotOf_7 Γ _ BIG q1 x2 X
