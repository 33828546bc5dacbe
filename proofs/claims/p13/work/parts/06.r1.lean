theorem dX11_anyFunction_0 : decode cX11_anyFunction 0 = .ok (.iconst 0, 1) := by decide +kernel
theorem dX11_anyFunction_1 : decode cX11_anyFunction 1 = .ok (.istore_n 2, 1) := by decide +kernel
theorem dX11_anyFunction_2 : decode cX11_anyFunction 2 = .ok (.iload_n 2, 1) := by decide +kernel
theorem dX11_anyFunction_3 : decode cX11_anyFunction 3 = .ok (.iload_n 1, 1) := by decide +kernel
theorem dX11_anyFunction_4 : decode cX11_anyFunction 4 = .ok (.if_icmp .gt 20, 3) := by decide +kernel
theorem dX11_anyFunction_7 : decode cX11_anyFunction 7 = .ok (.aload_n 0, 1) := by decide +kernel
theorem dX11_anyFunction_8 : decode cX11_anyFunction 8 = .ok (.getfield 46, 3) := by decide +kernel
theorem dX11_anyFunction_11 : decode cX11_anyFunction 11 = .ok (.sipush 3000, 3) := by decide +kernel
theorem dX11_anyFunction_14 : decode cX11_anyFunction 14 = .ok (.iload_n 2, 1) := by decide +kernel
theorem dX11_anyFunction_15 : decode cX11_anyFunction 15 = .ok (.iadd, 1) := by decide +kernel
theorem dX11_anyFunction_16 : decode cX11_anyFunction 16 = .ok (.iconst 2, 1) := by decide +kernel
theorem dX11_anyFunction_17 : decode cX11_anyFunction 17 = .ok (.iastore, 1) := by decide +kernel
theorem dX11_anyFunction_18 : decode cX11_anyFunction 18 = .ok (.iinc 2 1, 3) := by decide +kernel
theorem dX11_anyFunction_21 : decode cX11_anyFunction 21 = .ok (.goto (-19), 3) := by decide +kernel
theorem dX11_anyFunction_24 : decode cX11_anyFunction 24 = .ok (.aload_n 0, 1) := by decide +kernel
theorem dX11_anyFunction_25 : decode cX11_anyFunction 25 = .ok (.iconst 5, 1) := by decide +kernel
theorem dX11_anyFunction_26 : decode cX11_anyFunction 26 = .ok (.sipush 3000, 3) := by decide +kernel
theorem dX11_anyFunction_29 : decode cX11_anyFunction 29 = .ok (.iload_n 1, 1) := by decide +kernel
theorem dX11_anyFunction_30 : decode cX11_anyFunction 30 = .ok (.iconst 1, 1) := by decide +kernel
theorem dX11_anyFunction_31 : decode cX11_anyFunction 31 = .ok (.iadd, 1) := by decide +kernel
theorem dX11_anyFunction_32 : decode cX11_anyFunction 32 = .ok (.invokevirtual 272, 3) := by decide +kernel
theorem dX11_anyFunction_35 : decode cX11_anyFunction 35 = .ok (.ireturn, 1) := by decide +kernel
theorem dX11_closes_0 : decode cX11_closes 0 = .ok (.aload_n 0, 1) := by decide +kernel
theorem dX11_closes_1 : decode cX11_closes 1 = .ok (.iload_n 1, 1) := by decide +kernel
theorem dX11_closes_2 : decode cX11_closes 2 = .ok (.invokevirtual 361, 3) := by decide +kernel
theorem dX11_closes_5 : decode cX11_closes 5 = .ok (.aload_n 0, 1) := by decide +kernel
theorem dX11_closes_6 : decode cX11_closes 6 = .ok (.dup, 1) := by decide +kernel
theorem dX11_closes_7 : decode cX11_closes 7 = .ok (.getfield 355, 3) := by decide +kernel
theorem dX11_closes_10 : decode cX11_closes 10 = .ok (.iconst 1, 1) := by decide +kernel
theorem dX11_closes_11 : decode cX11_closes 11 = .ok (.isub, 1) := by decide +kernel
theorem dX11_closes_12 : decode cX11_closes 12 = .ok (.putfield 355, 3) := by decide +kernel
theorem dX11_closes_15 : decode cX11_closes 15 = .ok (.return_, 1) := by decide +kernel
theorem dX11_elementOf_0 : decode cX11_elementOf 0 = .ok (.aload_n 0, 1) := by decide +kernel
theorem dX11_elementOf_1 : decode cX11_elementOf 1 = .ok (.getfield 43, 3) := by decide +kernel
theorem dX11_elementOf_4 : decode cX11_elementOf 4 = .ok (.aload_n 0, 1) := by decide +kernel
theorem dX11_elementOf_5 : decode cX11_elementOf 5 = .ok (.getfield 33, 3) := by decide +kernel
theorem dX11_elementOf_8 : decode cX11_elementOf 8 = .ok (.iload_n 1, 1) := by decide +kernel
theorem dX11_elementOf_9 : decode cX11_elementOf 9 = .ok (.iaload, 1) := by decide +kernel
theorem dX11_elementOf_10 : decode cX11_elementOf 10 = .ok (.iaload, 1) := by decide +kernel
theorem dX11_elementOf_11 : decode cX11_elementOf 11 = .ok (.ireturn, 1) := by decide +kernel
theorem dX11_end_0 : decode cX11_end 0 = .ok (.iload_n 1, 1) := by decide +kernel
theorem dX11_end_1 : decode cX11_end 1 = .ok (.iconst 0, 1) := by decide +kernel
theorem dX11_end_2 : decode cX11_end 2 = .ok (.aload_n 0, 1) := by decide +kernel
theorem dX11_end_3 : decode cX11_end 3 = .ok (.getfield 276, 3) := by decide +kernel
theorem dX11_end_6 : decode cX11_end 6 = .ok (.invokestatic 282, 3) := by decide +kernel
theorem dX11_end_9 : decode cX11_end 9 = .ok (.ifCond .ne 5, 3) := by decide +kernel
theorem dX11_end_12 : decode cX11_end 12 = .ok (.iconst (-1), 1) := by decide +kernel
theorem dX11_end_13 : decode cX11_end 13 = .ok (.ireturn, 1) := by decide +kernel
theorem dX11_end_14 : decode cX11_end 14 = .ok (.aload_n 0, 1) := by decide +kernel
theorem dX11_end_15 : decode cX11_end 15 = .ok (.iload_n 1, 1) := by decide +kernel
theorem dX11_end_16 : decode cX11_end 16 = .ok (.putfield 276, 3) := by decide +kernel
theorem dX11_end_19 : decode cX11_end 19 = .ok (.iload_n 1, 1) := by decide +kernel
theorem dX11_end_20 : decode cX11_end 20 = .ok (.ireturn, 1) := by decide +kernel
theorem dX11_fails_0 : decode cX11_fails 0 = .ok (.aload_n 0, 1) := by decide +kernel
theorem dX11_fails_1 : decode cX11_fails 1 = .ok (.getfield 286, 3) := by decide +kernel
theorem dX11_fails_4 : decode cX11_fails 4 = .ok (.ifCond .ne 13, 3) := by decide +kernel
theorem dX11_fails_7 : decode cX11_fails 7 = .ok (.aload_n 0, 1) := by decide +kernel
theorem dX11_fails_8 : decode cX11_fails 8 = .ok (.iload_n 1, 1) := by decide +kernel
theorem dX11_fails_9 : decode cX11_fails 9 = .ok (.putfield 286, 3) := by decide +kernel
theorem dX11_fails_12 : decode cX11_fails 12 = .ok (.aload_n 0, 1) := by decide +kernel
theorem dX11_fails_13 : decode cX11_fails 13 = .ok (.iload_n 2, 1) := by decide +kernel
theorem dX11_fails_14 : decode cX11_fails 14 = .ok (.putfield 289, 3) := by decide +kernel
theorem dX11_fails_17 : decode cX11_fails 17 = .ok (.return_, 1) := by decide +kernel
theorem dX11_feed_0 : decode cX11_feed 0 = .ok (.aload_n 0, 1) := by decide +kernel
theorem dX11_feed_1 : decode cX11_feed 1 = .ok (.getfield 276, 3) := by decide +kernel
theorem dX11_feed_4 : decode cX11_feed 4 = .ok (.bipush 20, 2) := by decide +kernel
theorem dX11_feed_6 : decode cX11_feed 6 = .ok (.iadd, 1) := by decide +kernel
theorem dX11_feed_7 : decode cX11_feed 7 = .ok (.sipush 3000, 3) := by decide +kernel
theorem dX11_feed_10 : decode cX11_feed 10 = .ok (.if_icmp .le 5, 3) := by decide +kernel
theorem dX11_feed_13 : decode cX11_feed 13 = .ok (.iconst (-1), 1) := by decide +kernel
theorem dX11_feed_14 : decode cX11_feed 14 = .ok (.ireturn, 1) := by decide +kernel
theorem dX11_feed_15 : decode cX11_feed 15 = .ok (.aload_n 0, 1) := by decide +kernel
theorem dX11_feed_16 : decode cX11_feed 16 = .ok (.iload_n 1, 1) := by decide +kernel
theorem dX11_feed_17 : decode cX11_feed 17 = .ok (.invokevirtual 279, 3) := by decide +kernel
theorem dX11_feed_20 : decode cX11_feed 20 = .ok (.aload_n 0, 1) := by decide +kernel
theorem dX11_feed_21 : decode cX11_feed 21 = .ok (.iload_n 2, 1) := by decide +kernel
theorem dX11_feed_22 : decode cX11_feed 22 = .ok (.invokevirtual 279, 3) := by decide +kernel
theorem dX11_feed_25 : decode cX11_feed 25 = .ok (.aload_n 0, 1) := by decide +kernel
theorem dX11_feed_26 : decode cX11_feed 26 = .ok (.iload_n 3, 1) := by decide +kernel
theorem dX11_feed_27 : decode cX11_feed 27 = .ok (.invokevirtual 279, 3) := by decide +kernel
theorem dX11_feed_30 : decode cX11_feed 30 = .ok (.aload_n 0, 1) := by decide +kernel
theorem dX11_feed_31 : decode cX11_feed 31 = .ok (.iload 4, 2) := by decide +kernel
theorem dX11_feed_33 : decode cX11_feed 33 = .ok (.invokevirtual 279, 3) := by decide +kernel
theorem dX11_feed_36 : decode cX11_feed 36 = .ok (.aload_n 0, 1) := by decide +kernel
theorem dX11_feed_37 : decode cX11_feed 37 = .ok (.iload 5, 2) := by decide +kernel
theorem dX11_feed_39 : decode cX11_feed 39 = .ok (.invokevirtual 279, 3) := by decide +kernel
theorem dX11_feed_42 : decode cX11_feed 42 = .ok (.aload_n 0, 1) := by decide +kernel
theorem dX11_feed_43 : decode cX11_feed 43 = .ok (.getfield 276, 3) := by decide +kernel
theorem dX11_feed_46 : decode cX11_feed 46 = .ok (.ireturn, 1) := by decide +kernel
theorem dX11_fits_0 : decode cX11_fits 0 = .ok (.iconst 1, 1) := by decide +kernel
theorem dX11_fits_1 : decode cX11_fits 1 = .ok (.istore_n 3, 1) := by decide +kernel
theorem dX11_fits_2 : decode cX11_fits 2 = .ok (.aload_n 0, 1) := by decide +kernel
theorem dX11_fits_3 : decode cX11_fits 3 = .ok (.getfield 110, 3) := by decide +kernel
theorem dX11_fits_6 : decode cX11_fits 6 = .ok (.iconst 0, 1) := by decide +kernel
theorem dX11_fits_7 : decode cX11_fits 7 = .ok (.iload_n 1, 1) := by decide +kernel
theorem dX11_fits_8 : decode cX11_fits 8 = .ok (.iastore, 1) := by decide +kernel
theorem dX11_fits_9 : decode cX11_fits 9 = .ok (.aload_n 0, 1) := by decide +kernel
theorem dX11_fits_10 : decode cX11_fits 10 = .ok (.getfield 113, 3) := by decide +kernel
theorem dX11_fits_13 : decode cX11_fits 13 = .ok (.iconst 0, 1) := by decide +kernel
theorem dX11_fits_14 : decode cX11_fits 14 = .ok (.iload_n 2, 1) := by decide +kernel
theorem dX11_fits_15 : decode cX11_fits 15 = .ok (.iastore, 1) := by decide +kernel
theorem dX11_fits_16 : decode cX11_fits 16 = .ok (.iload_n 3, 1) := by decide +kernel
theorem dX11_fits_17 : decode cX11_fits 17 = .ok (.ifCond .le 160, 3) := by decide +kernel
theorem dX11_fits_20 : decode cX11_fits 20 = .ok (.iinc 3 (-1), 3) := by decide +kernel
theorem dX11_fits_23 : decode cX11_fits 23 = .ok (.aload_n 0, 1) := by decide +kernel
theorem dX11_fits_24 : decode cX11_fits 24 = .ok (.getfield 110, 3) := by decide +kernel
theorem dX11_fits_27 : decode cX11_fits 27 = .ok (.iload_n 3, 1) := by decide +kernel
theorem dX11_fits_28 : decode cX11_fits 28 = .ok (.iaload, 1) := by decide +kernel
theorem dX11_fits_29 : decode cX11_fits 29 = .ok (.istore 4, 2) := by decide +kernel
theorem dX11_fits_31 : decode cX11_fits 31 = .ok (.aload_n 0, 1) := by decide +kernel
theorem dX11_fits_32 : decode cX11_fits 32 = .ok (.getfield 113, 3) := by decide +kernel
theorem dX11_fits_35 : decode cX11_fits 35 = .ok (.iload_n 3, 1) := by decide +kernel
theorem dX11_fits_36 : decode cX11_fits 36 = .ok (.iaload, 1) := by decide +kernel
theorem dX11_fits_37 : decode cX11_fits 37 = .ok (.istore 5, 2) := by decide +kernel
theorem dX11_fits_39 : decode cX11_fits 39 = .ok (.iload 4, 2) := by decide +kernel
theorem dX11_fits_41 : decode cX11_fits 41 = .ok (.iload 5, 2) := by decide +kernel
theorem dX11_fits_43 : decode cX11_fits 43 = .ok (.if_icmp .eq (-27), 3) := by decide +kernel
theorem dX11_fits_46 : decode cX11_fits 46 = .ok (.iload 4, 2) := by decide +kernel
theorem dX11_fits_48 : decode cX11_fits 48 = .ok (.iconst 2, 1) := by decide +kernel
theorem dX11_fits_49 : decode cX11_fits 49 = .ok (.if_icmp .eq (-33), 3) := by decide +kernel
theorem dX11_fits_52 : decode cX11_fits 52 = .ok (.iload 5, 2) := by decide +kernel
theorem dX11_fits_54 : decode cX11_fits 54 = .ok (.iconst 2, 1) := by decide +kernel
theorem dX11_fits_55 : decode cX11_fits 55 = .ok (.if_icmp .ne 6, 3) := by decide +kernel
theorem dX11_fits_58 : decode cX11_fits 58 = .ok (.goto (-42), 3) := by decide +kernel
theorem dX11_fits_61 : decode cX11_fits 61 = .ok (.aload_n 0, 1) := by decide +kernel
theorem dX11_fits_62 : decode cX11_fits 62 = .ok (.getfield 26, 3) := by decide +kernel
theorem dX11_fits_65 : decode cX11_fits 65 = .ok (.iload 4, 2) := by decide +kernel
theorem dX11_fits_67 : decode cX11_fits 67 = .ok (.iaload, 1) := by decide +kernel
theorem dX11_fits_68 : decode cX11_fits 68 = .ok (.aload_n 0, 1) := by decide +kernel
theorem dX11_fits_69 : decode cX11_fits 69 = .ok (.getfield 26, 3) := by decide +kernel
theorem dX11_fits_72 : decode cX11_fits 72 = .ok (.iload 5, 2) := by decide +kernel
theorem dX11_fits_74 : decode cX11_fits 74 = .ok (.iaload, 1) := by decide +kernel
theorem dX11_fits_75 : decode cX11_fits 75 = .ok (.if_icmp .ne 31, 3) := by decide +kernel
theorem dX11_fits_78 : decode cX11_fits 78 = .ok (.aload_n 0, 1) := by decide +kernel
theorem dX11_fits_79 : decode cX11_fits 79 = .ok (.getfield 26, 3) := by decide +kernel
theorem dX11_fits_82 : decode cX11_fits 82 = .ok (.iload 4, 2) := by decide +kernel
theorem dX11_fits_84 : decode cX11_fits 84 = .ok (.iaload, 1) := by decide +kernel
theorem dX11_fits_85 : decode cX11_fits 85 = .ok (.iconst 4, 1) := by decide +kernel
theorem dX11_fits_86 : decode cX11_fits 86 = .ok (.if_icmp .lt 20, 3) := by decide +kernel
theorem dX11_fits_89 : decode cX11_fits 89 = .ok (.aload_n 0, 1) := by decide +kernel
theorem dX11_fits_90 : decode cX11_fits 90 = .ok (.getfield 30, 3) := by decide +kernel
theorem dX11_fits_93 : decode cX11_fits 93 = .ok (.iload 4, 2) := by decide +kernel
theorem dX11_fits_95 : decode cX11_fits 95 = .ok (.iaload, 1) := by decide +kernel
theorem dX11_fits_96 : decode cX11_fits 96 = .ok (.aload_n 0, 1) := by decide +kernel
theorem dX11_fits_97 : decode cX11_fits 97 = .ok (.getfield 30, 3) := by decide +kernel
theorem dX11_fits_100 : decode cX11_fits 100 = .ok (.iload 5, 2) := by decide +kernel
theorem dX11_fits_102 : decode cX11_fits 102 = .ok (.iaload, 1) := by decide +kernel
theorem dX11_fits_103 : decode cX11_fits 103 = .ok (.if_icmp .eq 5, 3) := by decide +kernel
theorem dX11_fits_106 : decode cX11_fits 106 = .ok (.iconst 0, 1) := by decide +kernel
theorem dX11_fits_107 : decode cX11_fits 107 = .ok (.ireturn, 1) := by decide +kernel
theorem dX11_fits_108 : decode cX11_fits 108 = .ok (.iconst 0, 1) := by decide +kernel
theorem dX11_fits_109 : decode cX11_fits 109 = .ok (.istore 6, 2) := by decide +kernel
theorem dX11_fits_111 : decode cX11_fits 111 = .ok (.iload 6, 2) := by decide +kernel
theorem dX11_fits_113 : decode cX11_fits 113 = .ok (.aload_n 0, 1) := by decide +kernel
theorem dX11_fits_114 : decode cX11_fits 114 = .ok (.getfield 30, 3) := by decide +kernel
theorem dX11_fits_117 : decode cX11_fits 117 = .ok (.iload 4, 2) := by decide +kernel
theorem dX11_fits_119 : decode cX11_fits 119 = .ok (.iaload, 1) := by decide +kernel
theorem dX11_fits_120 : decode cX11_fits 120 = .ok (.if_icmp .ge 54, 3) := by decide +kernel
theorem dX11_fits_123 : decode cX11_fits 123 = .ok (.aload_n 0, 1) := by decide +kernel
theorem dX11_fits_124 : decode cX11_fits 124 = .ok (.getfield 110, 3) := by decide +kernel
theorem dX11_fits_127 : decode cX11_fits 127 = .ok (.iload_n 3, 1) := by decide +kernel
theorem dX11_fits_128 : decode cX11_fits 128 = .ok (.aload_n 0, 1) := by decide +kernel
theorem dX11_fits_129 : decode cX11_fits 129 = .ok (.getfield 43, 3) := by decide +kernel
theorem dX11_fits_132 : decode cX11_fits 132 = .ok (.aload_n 0, 1) := by decide +kernel
theorem dX11_fits_133 : decode cX11_fits 133 = .ok (.getfield 33, 3) := by decide +kernel
theorem dX11_fits_136 : decode cX11_fits 136 = .ok (.iload 4, 2) := by decide +kernel
theorem dX11_fits_138 : decode cX11_fits 138 = .ok (.iaload, 1) := by decide +kernel
theorem dX11_fits_139 : decode cX11_fits 139 = .ok (.iload 6, 2) := by decide +kernel
theorem dX11_fits_141 : decode cX11_fits 141 = .ok (.iadd, 1) := by decide +kernel
theorem dX11_fits_142 : decode cX11_fits 142 = .ok (.iaload, 1) := by decide +kernel
theorem dX11_fits_143 : decode cX11_fits 143 = .ok (.iastore, 1) := by decide +kernel
theorem dX11_fits_144 : decode cX11_fits 144 = .ok (.aload_n 0, 1) := by decide +kernel
theorem dX11_fits_145 : decode cX11_fits 145 = .ok (.getfield 113, 3) := by decide +kernel
theorem dX11_fits_148 : decode cX11_fits 148 = .ok (.iload_n 3, 1) := by decide +kernel
theorem dX11_fits_149 : decode cX11_fits 149 = .ok (.aload_n 0, 1) := by decide +kernel
theorem dX11_fits_150 : decode cX11_fits 150 = .ok (.getfield 43, 3) := by decide +kernel
theorem dX11_fits_153 : decode cX11_fits 153 = .ok (.aload_n 0, 1) := by decide +kernel
theorem dX11_fits_154 : decode cX11_fits 154 = .ok (.getfield 33, 3) := by decide +kernel
theorem dX11_fits_157 : decode cX11_fits 157 = .ok (.iload 5, 2) := by decide +kernel
theorem dX11_fits_159 : decode cX11_fits 159 = .ok (.iaload, 1) := by decide +kernel
theorem dX11_fits_160 : decode cX11_fits 160 = .ok (.iload 6, 2) := by decide +kernel
theorem dX11_fits_162 : decode cX11_fits 162 = .ok (.iadd, 1) := by decide +kernel
theorem dX11_fits_163 : decode cX11_fits 163 = .ok (.iaload, 1) := by decide +kernel
theorem dX11_fits_164 : decode cX11_fits 164 = .ok (.iastore, 1) := by decide +kernel
theorem dX11_fits_165 : decode cX11_fits 165 = .ok (.iinc 3 1, 3) := by decide +kernel
theorem dX11_fits_168 : decode cX11_fits 168 = .ok (.iinc 6 1, 3) := by decide +kernel
theorem dX11_fits_171 : decode cX11_fits 171 = .ok (.goto (-60), 3) := by decide +kernel
theorem dX11_fits_174 : decode cX11_fits 174 = .ok (.goto (-158), 3) := by decide +kernel
theorem dX11_fits_177 : decode cX11_fits 177 = .ok (.iconst 1, 1) := by decide +kernel
theorem dX11_fits_178 : decode cX11_fits 178 = .ok (.ireturn, 1) := by decide +kernel
theorem dX11_in_0 : decode cX11_in 0 = .ok (.iload_n 0, 1) := by decide +kernel
theorem dX11_in_1 : decode cX11_in 1 = .ok (.iload_n 1, 1) := by decide +kernel
theorem dX11_in_2 : decode cX11_in 2 = .ok (.if_icmp .lt 12, 3) := by decide +kernel
theorem dX11_in_5 : decode cX11_in 5 = .ok (.iload_n 0, 1) := by decide +kernel
theorem dX11_in_6 : decode cX11_in 6 = .ok (.iload_n 2, 1) := by decide +kernel
theorem dX11_in_7 : decode cX11_in 7 = .ok (.if_icmp .gt 7, 3) := by decide +kernel
theorem dX11_in_10 : decode cX11_in 10 = .ok (.iconst 1, 1) := by decide +kernel
theorem dX11_in_11 : decode cX11_in 11 = .ok (.goto 4, 3) := by decide +kernel
theorem dX11_in_14 : decode cX11_in 14 = .ok (.iconst 0, 1) := by decide +kernel
theorem dX11_in_15 : decode cX11_in 15 = .ok (.ireturn, 1) := by decide +kernel
theorem dX11_isSign_0 : decode cX11_isSign 0 = .ok (.aload_n 0, 1) := by decide +kernel
theorem dX11_isSign_1 : decode cX11_isSign 1 = .ok (.invokevirtual 341, 3) := by decide +kernel
theorem dX11_isSign_4 : decode cX11_isSign 4 = .ok (.ifCond .eq 25, 3) := by decide +kernel
theorem dX11_isSign_7 : decode cX11_isSign 7 = .ok (.aload_n 0, 1) := by decide +kernel
theorem dX11_isSign_8 : decode cX11_isSign 8 = .ok (.getfield 309, 3) := by decide +kernel
theorem dX11_isSign_11 : decode cX11_isSign 11 = .ok (.iconst 4, 1) := by decide +kernel
theorem dX11_isSign_12 : decode cX11_isSign 12 = .ok (.if_icmp .ne 17, 3) := by decide +kernel
theorem dX11_isSign_15 : decode cX11_isSign 15 = .ok (.aload_n 0, 1) := by decide +kernel
theorem dX11_isSign_16 : decode cX11_isSign 16 = .ok (.getfield 305, 3) := by decide +kernel
theorem dX11_isSign_19 : decode cX11_isSign 19 = .ok (.iload_n 1, 1) := by decide +kernel
theorem dX11_isSign_20 : decode cX11_isSign 20 = .ok (.i2l, 1) := by decide +kernel
theorem dX11_isSign_21 : decode cX11_isSign 21 = .ok (.lcmp, 1) := by decide +kernel
theorem dX11_isSign_22 : decode cX11_isSign 22 = .ok (.ifCond .ne 7, 3) := by decide +kernel
theorem dX11_isSign_25 : decode cX11_isSign 25 = .ok (.iconst 1, 1) := by decide +kernel
theorem dX11_isSign_26 : decode cX11_isSign 26 = .ok (.goto 4, 3) := by decide +kernel
theorem dX11_isSign_29 : decode cX11_isSign 29 = .ok (.iconst 0, 1) := by decide +kernel
theorem dX11_isSign_30 : decode cX11_isSign 30 = .ok (.ireturn, 1) := by decide +kernel
theorem dX11_isWell_0 : decode cX11_isWell 0 = .ok (.aload_n 0, 1) := by decide +kernel
theorem dX11_isWell_1 : decode cX11_isWell 1 = .ok (.getfield 286, 3) := by decide +kernel
theorem dX11_isWell_4 : decode cX11_isWell 4 = .ok (.ifCond .ne 7, 3) := by decide +kernel
theorem dX11_isWell_7 : decode cX11_isWell 7 = .ok (.iconst 1, 1) := by decide +kernel
theorem dX11_isWell_8 : decode cX11_isWell 8 = .ok (.goto 4, 3) := by decide +kernel
theorem dX11_isWell_11 : decode cX11_isWell 11 = .ok (.iconst 0, 1) := by decide +kernel
theorem dX11_isWell_12 : decode cX11_isWell 12 = .ok (.ireturn, 1) := by decide +kernel
theorem dX11_isWord_0 : decode cX11_isWord 0 = .ok (.aload_n 0, 1) := by decide +kernel
theorem dX11_isWord_1 : decode cX11_isWord 1 = .ok (.invokevirtual 341, 3) := by decide +kernel
theorem dX11_isWord_4 : decode cX11_isWord 4 = .ok (.ifCond .eq 25, 3) := by decide +kernel
theorem dX11_isWord_7 : decode cX11_isWord 7 = .ok (.aload_n 0, 1) := by decide +kernel
theorem dX11_isWord_8 : decode cX11_isWord 8 = .ok (.getfield 309, 3) := by decide +kernel
theorem dX11_isWord_11 : decode cX11_isWord 11 = .ok (.iconst 2, 1) := by decide +kernel
theorem dX11_isWord_12 : decode cX11_isWord 12 = .ok (.if_icmp .ne 17, 3) := by decide +kernel
theorem dX11_isWord_15 : decode cX11_isWord 15 = .ok (.aload_n 0, 1) := by decide +kernel
theorem dX11_isWord_16 : decode cX11_isWord 16 = .ok (.getfield 305, 3) := by decide +kernel
theorem dX11_isWord_19 : decode cX11_isWord 19 = .ok (.iload_n 1, 1) := by decide +kernel
theorem dX11_isWord_20 : decode cX11_isWord 20 = .ok (.i2l, 1) := by decide +kernel
theorem dX11_isWord_21 : decode cX11_isWord 21 = .ok (.lcmp, 1) := by decide +kernel
theorem dX11_isWord_22 : decode cX11_isWord 22 = .ok (.ifCond .ne 7, 3) := by decide +kernel
theorem dX11_isWord_25 : decode cX11_isWord 25 = .ok (.iconst 1, 1) := by decide +kernel
theorem dX11_isWord_26 : decode cX11_isWord 26 = .ok (.goto 4, 3) := by decide +kernel
theorem dX11_isWord_29 : decode cX11_isWord 29 = .ok (.iconst 0, 1) := by decide +kernel
theorem dX11_isWord_30 : decode cX11_isWord 30 = .ok (.ireturn, 1) := by decide +kernel
theorem dX11_kindOf_0 : decode cX11_kindOf 0 = .ok (.iconst 0, 1) := by decide +kernel
theorem dX11_kindOf_1 : decode cX11_kindOf 1 = .ok (.istore 4, 2) := by decide +kernel
theorem dX11_kindOf_3 : decode cX11_kindOf 3 = .ok (.iload 4, 2) := by decide +kernel
theorem dX11_kindOf_5 : decode cX11_kindOf 5 = .ok (.aload_n 0, 1) := by decide +kernel
theorem dX11_kindOf_6 : decode cX11_kindOf 6 = .ok (.getfield 267, 3) := by decide +kernel
theorem dX11_kindOf_9 : decode cX11_kindOf 9 = .ok (.if_icmp .ge 100, 3) := by decide +kernel
theorem dX11_kindOf_12 : decode cX11_kindOf 12 = .ok (.aload_n 0, 1) := by decide +kernel
theorem dX11_kindOf_13 : decode cX11_kindOf 13 = .ok (.getfield 26, 3) := by decide +kernel
theorem dX11_kindOf_16 : decode cX11_kindOf 16 = .ok (.iload 4, 2) := by decide +kernel
theorem dX11_kindOf_18 : decode cX11_kindOf 18 = .ok (.iaload, 1) := by decide +kernel
theorem dX11_kindOf_19 : decode cX11_kindOf 19 = .ok (.iload_n 1, 1) := by decide +kernel
theorem dX11_kindOf_20 : decode cX11_kindOf 20 = .ok (.if_icmp .ne 18, 3) := by decide +kernel
theorem dX11_kindOf_23 : decode cX11_kindOf 23 = .ok (.aload_n 0, 1) := by decide +kernel
theorem dX11_kindOf_24 : decode cX11_kindOf 24 = .ok (.getfield 30, 3) := by decide +kernel
theorem dX11_kindOf_27 : decode cX11_kindOf 27 = .ok (.iload 4, 2) := by decide +kernel
theorem dX11_kindOf_29 : decode cX11_kindOf 29 = .ok (.iaload, 1) := by decide +kernel
theorem dX11_kindOf_30 : decode cX11_kindOf 30 = .ok (.iload_n 3, 1) := by decide +kernel
theorem dX11_kindOf_31 : decode cX11_kindOf 31 = .ok (.if_icmp .ne 7, 3) := by decide +kernel
theorem dX11_kindOf_34 : decode cX11_kindOf 34 = .ok (.iconst 1, 1) := by decide +kernel
theorem dX11_kindOf_35 : decode cX11_kindOf 35 = .ok (.goto 4, 3) := by decide +kernel
theorem dX11_kindOf_38 : decode cX11_kindOf 38 = .ok (.iconst 0, 1) := by decide +kernel
theorem dX11_kindOf_39 : decode cX11_kindOf 39 = .ok (.istore 5, 2) := by decide +kernel
theorem dX11_kindOf_41 : decode cX11_kindOf 41 = .ok (.iconst 0, 1) := by decide +kernel
theorem dX11_kindOf_42 : decode cX11_kindOf 42 = .ok (.istore 6, 2) := by decide +kernel
theorem dX11_kindOf_44 : decode cX11_kindOf 44 = .ok (.iload 6, 2) := by decide +kernel
theorem dX11_kindOf_46 : decode cX11_kindOf 46 = .ok (.iload_n 3, 1) := by decide +kernel
theorem dX11_kindOf_47 : decode cX11_kindOf 47 = .ok (.if_icmp .ge 48, 3) := by decide +kernel
theorem dX11_kindOf_50 : decode cX11_kindOf 50 = .ok (.iload 5, 2) := by decide +kernel
theorem dX11_kindOf_52 : decode cX11_kindOf 52 = .ok (.ifCond .eq 43, 3) := by decide +kernel
theorem dX11_kindOf_55 : decode cX11_kindOf 55 = .ok (.aload_n 0, 1) := by decide +kernel
theorem dX11_kindOf_56 : decode cX11_kindOf 56 = .ok (.getfield 43, 3) := by decide +kernel
theorem dX11_kindOf_59 : decode cX11_kindOf 59 = .ok (.aload_n 0, 1) := by decide +kernel
theorem dX11_kindOf_60 : decode cX11_kindOf 60 = .ok (.getfield 33, 3) := by decide +kernel
theorem dX11_kindOf_63 : decode cX11_kindOf 63 = .ok (.iload 4, 2) := by decide +kernel
theorem dX11_kindOf_65 : decode cX11_kindOf 65 = .ok (.iaload, 1) := by decide +kernel
theorem dX11_kindOf_66 : decode cX11_kindOf 66 = .ok (.iload 6, 2) := by decide +kernel
theorem dX11_kindOf_68 : decode cX11_kindOf 68 = .ok (.iadd, 1) := by decide +kernel
theorem dX11_kindOf_69 : decode cX11_kindOf 69 = .ok (.iaload, 1) := by decide +kernel
theorem dX11_kindOf_70 : decode cX11_kindOf 70 = .ok (.aload_n 0, 1) := by decide +kernel
theorem dX11_kindOf_71 : decode cX11_kindOf 71 = .ok (.getfield 46, 3) := by decide +kernel
theorem dX11_kindOf_74 : decode cX11_kindOf 74 = .ok (.iload_n 2, 1) := by decide +kernel
theorem dX11_kindOf_75 : decode cX11_kindOf 75 = .ok (.iload 6, 2) := by decide +kernel
theorem dX11_kindOf_77 : decode cX11_kindOf 77 = .ok (.iadd, 1) := by decide +kernel
theorem dX11_kindOf_78 : decode cX11_kindOf 78 = .ok (.iaload, 1) := by decide +kernel
theorem dX11_kindOf_79 : decode cX11_kindOf 79 = .ok (.if_icmp .ne 7, 3) := by decide +kernel
theorem dX11_kindOf_82 : decode cX11_kindOf 82 = .ok (.iconst 1, 1) := by decide +kernel
theorem dX11_kindOf_83 : decode cX11_kindOf 83 = .ok (.goto 4, 3) := by decide +kernel
theorem dX11_kindOf_86 : decode cX11_kindOf 86 = .ok (.iconst 0, 1) := by decide +kernel
theorem dX11_kindOf_87 : decode cX11_kindOf 87 = .ok (.istore 5, 2) := by decide +kernel
theorem dX11_kindOf_89 : decode cX11_kindOf 89 = .ok (.iinc 6 1, 3) := by decide +kernel
theorem dX11_kindOf_92 : decode cX11_kindOf 92 = .ok (.goto (-48), 3) := by decide +kernel
theorem dX11_kindOf_95 : decode cX11_kindOf 95 = .ok (.iload 5, 2) := by decide +kernel
theorem dX11_kindOf_97 : decode cX11_kindOf 97 = .ok (.ifCond .eq 6, 3) := by decide +kernel
theorem dX11_kindOf_100 : decode cX11_kindOf 100 = .ok (.iload 4, 2) := by decide +kernel
theorem dX11_kindOf_102 : decode cX11_kindOf 102 = .ok (.ireturn, 1) := by decide +kernel
theorem dX11_kindOf_103 : decode cX11_kindOf 103 = .ok (.iinc 4 1, 3) := by decide +kernel
theorem dX11_kindOf_106 : decode cX11_kindOf 106 = .ok (.goto (-103), 3) := by decide +kernel
theorem dX11_kindOf_109 : decode cX11_kindOf 109 = .ok (.aload_n 0, 1) := by decide +kernel
theorem dX11_kindOf_110 : decode cX11_kindOf 110 = .ok (.getfield 267, 3) := by decide +kernel
theorem dX11_kindOf_113 : decode cX11_kindOf 113 = .ok (.istore 4, 2) := by decide +kernel
theorem dX11_kindOf_115 : decode cX11_kindOf 115 = .ok (.aload_n 0, 1) := by decide +kernel
theorem dX11_kindOf_116 : decode cX11_kindOf 116 = .ok (.dup, 1) := by decide +kernel
theorem dX11_kindOf_117 : decode cX11_kindOf 117 = .ok (.getfield 267, 3) := by decide +kernel
theorem dX11_kindOf_120 : decode cX11_kindOf 120 = .ok (.iconst 1, 1) := by decide +kernel
theorem dX11_kindOf_121 : decode cX11_kindOf 121 = .ok (.iadd, 1) := by decide +kernel
theorem dX11_kindOf_122 : decode cX11_kindOf 122 = .ok (.putfield 267, 3) := by decide +kernel
theorem dX11_kindOf_125 : decode cX11_kindOf 125 = .ok (.aload_n 0, 1) := by decide +kernel
theorem dX11_kindOf_126 : decode cX11_kindOf 126 = .ok (.getfield 26, 3) := by decide +kernel
theorem dX11_kindOf_129 : decode cX11_kindOf 129 = .ok (.iload 4, 2) := by decide +kernel
theorem dX11_kindOf_131 : decode cX11_kindOf 131 = .ok (.iload_n 1, 1) := by decide +kernel
theorem dX11_kindOf_132 : decode cX11_kindOf 132 = .ok (.iastore, 1) := by decide +kernel
theorem dX11_kindOf_133 : decode cX11_kindOf 133 = .ok (.aload_n 0, 1) := by decide +kernel
theorem dX11_kindOf_134 : decode cX11_kindOf 134 = .ok (.getfield 30, 3) := by decide +kernel
theorem dX11_kindOf_137 : decode cX11_kindOf 137 = .ok (.iload 4, 2) := by decide +kernel
theorem dX11_kindOf_139 : decode cX11_kindOf 139 = .ok (.iload_n 3, 1) := by decide +kernel
theorem dX11_kindOf_140 : decode cX11_kindOf 140 = .ok (.iastore, 1) := by decide +kernel
theorem dX11_kindOf_141 : decode cX11_kindOf 141 = .ok (.aload_n 0, 1) := by decide +kernel
theorem dX11_kindOf_142 : decode cX11_kindOf 142 = .ok (.getfield 33, 3) := by decide +kernel
theorem dX11_kindOf_145 : decode cX11_kindOf 145 = .ok (.iload 4, 2) := by decide +kernel
theorem dX11_kindOf_147 : decode cX11_kindOf 147 = .ok (.aload_n 0, 1) := by decide +kernel
theorem dX11_kindOf_148 : decode cX11_kindOf 148 = .ok (.getfield 269, 3) := by decide +kernel
theorem dX11_kindOf_151 : decode cX11_kindOf 151 = .ok (.iastore, 1) := by decide +kernel
theorem dX11_kindOf_152 : decode cX11_kindOf 152 = .ok (.aload_n 0, 1) := by decide +kernel
theorem dX11_kindOf_153 : decode cX11_kindOf 153 = .ok (.getfield 39, 3) := by decide +kernel
theorem dX11_kindOf_156 : decode cX11_kindOf 156 = .ok (.iload 4, 2) := by decide +kernel
theorem dX11_kindOf_158 : decode cX11_kindOf 158 = .ok (.iload_n 1, 1) := by decide +kernel
theorem dX11_kindOf_159 : decode cX11_kindOf 159 = .ok (.iconst 3, 1) := by decide +kernel
theorem dX11_kindOf_160 : decode cX11_kindOf 160 = .ok (.if_icmp .ne 7, 3) := by decide +kernel
theorem dX11_kindOf_163 : decode cX11_kindOf 163 = .ok (.iconst 1, 1) := by decide +kernel
theorem dX11_kindOf_164 : decode cX11_kindOf 164 = .ok (.goto 4, 3) := by decide +kernel
theorem dX11_kindOf_167 : decode cX11_kindOf 167 = .ok (.iconst 0, 1) := by decide +kernel
theorem dX11_kindOf_168 : decode cX11_kindOf 168 = .ok (.bastore, 1) := by decide +kernel
theorem dX11_kindOf_169 : decode cX11_kindOf 169 = .ok (.iload_n 1, 1) := by decide +kernel
theorem dX11_kindOf_170 : decode cX11_kindOf 170 = .ok (.iconst 4, 1) := by decide +kernel
theorem dX11_kindOf_171 : decode cX11_kindOf 171 = .ok (.if_icmp .ne 21, 3) := by decide +kernel
theorem dX11_kindOf_174 : decode cX11_kindOf 174 = .ok (.iconst 5, 1) := by decide +kernel
theorem dX11_kindOf_175 : decode cX11_kindOf 175 = .ok (.aload_n 0, 1) := by decide +kernel
theorem dX11_kindOf_176 : decode cX11_kindOf 176 = .ok (.getfield 36, 3) := by decide +kernel
theorem dX11_kindOf_179 : decode cX11_kindOf 179 = .ok (.aload_n 0, 1) := by decide +kernel
theorem dX11_kindOf_180 : decode cX11_kindOf 180 = .ok (.getfield 46, 3) := by decide +kernel
theorem dX11_kindOf_183 : decode cX11_kindOf 183 = .ok (.iload_n 2, 1) := by decide +kernel
theorem dX11_kindOf_184 : decode cX11_kindOf 184 = .ok (.iaload, 1) := by decide +kernel
theorem dX11_kindOf_185 : decode cX11_kindOf 185 = .ok (.iaload, 1) := by decide +kernel
theorem dX11_kindOf_186 : decode cX11_kindOf 186 = .ok (.imul, 1) := by decide +kernel
theorem dX11_kindOf_187 : decode cX11_kindOf 187 = .ok (.iconst 4, 1) := by decide +kernel
theorem dX11_kindOf_188 : decode cX11_kindOf 188 = .ok (.iadd, 1) := by decide +kernel
theorem dX11_kindOf_189 : decode cX11_kindOf 189 = .ok (.goto 18, 3) := by decide +kernel
theorem dX11_kindOf_192 : decode cX11_kindOf 192 = .ok (.iload_n 1, 1) := by decide +kernel
theorem dX11_kindOf_193 : decode cX11_kindOf 193 = .ok (.iconst 5, 1) := by decide +kernel
theorem dX11_kindOf_194 : decode cX11_kindOf 194 = .ok (.if_icmp .ne 12, 3) := by decide +kernel
theorem dX11_kindOf_197 : decode cX11_kindOf 197 = .ok (.bipush 7, 2) := by decide +kernel
theorem dX11_kindOf_199 : decode cX11_kindOf 199 = .ok (.iload_n 3, 1) := by decide +kernel
theorem dX11_kindOf_200 : decode cX11_kindOf 200 = .ok (.iadd, 1) := by decide +kernel
theorem dX11_kindOf_201 : decode cX11_kindOf 201 = .ok (.iconst 1, 1) := by decide +kernel
theorem dX11_kindOf_202 : decode cX11_kindOf 202 = .ok (.isub, 1) := by decide +kernel
theorem dX11_kindOf_203 : decode cX11_kindOf 203 = .ok (.goto 4, 3) := by decide +kernel
theorem dX11_kindOf_206 : decode cX11_kindOf 206 = .ok (.iload_n 1, 1) := by decide +kernel
theorem dX11_kindOf_207 : decode cX11_kindOf 207 = .ok (.istore 5, 2) := by decide +kernel
theorem dX11_kindOf_209 : decode cX11_kindOf 209 = .ok (.iconst 0, 1) := by decide +kernel
theorem dX11_kindOf_210 : decode cX11_kindOf 210 = .ok (.istore 6, 2) := by decide +kernel
theorem dX11_kindOf_212 : decode cX11_kindOf 212 = .ok (.iload 6, 2) := by decide +kernel
theorem dX11_kindOf_214 : decode cX11_kindOf 214 = .ok (.iload_n 3, 1) := by decide +kernel
theorem dX11_kindOf_215 : decode cX11_kindOf 215 = .ok (.if_icmp .ge 108, 3) := by decide +kernel
theorem dX11_kindOf_218 : decode cX11_kindOf 218 = .ok (.aload_n 0, 1) := by decide +kernel
theorem dX11_kindOf_219 : decode cX11_kindOf 219 = .ok (.getfield 43, 3) := by decide +kernel
theorem dX11_kindOf_222 : decode cX11_kindOf 222 = .ok (.aload_n 0, 1) := by decide +kernel
theorem dX11_kindOf_223 : decode cX11_kindOf 223 = .ok (.getfield 269, 3) := by decide +kernel
theorem dX11_kindOf_226 : decode cX11_kindOf 226 = .ok (.aload_n 0, 1) := by decide +kernel
theorem dX11_kindOf_227 : decode cX11_kindOf 227 = .ok (.getfield 46, 3) := by decide +kernel
theorem dX11_kindOf_230 : decode cX11_kindOf 230 = .ok (.iload_n 2, 1) := by decide +kernel
theorem dX11_kindOf_231 : decode cX11_kindOf 231 = .ok (.iload 6, 2) := by decide +kernel
theorem dX11_kindOf_233 : decode cX11_kindOf 233 = .ok (.iadd, 1) := by decide +kernel
theorem dX11_kindOf_234 : decode cX11_kindOf 234 = .ok (.iaload, 1) := by decide +kernel
theorem dX11_kindOf_235 : decode cX11_kindOf 235 = .ok (.iastore, 1) := by decide +kernel
theorem dX11_kindOf_236 : decode cX11_kindOf 236 = .ok (.aload_n 0, 1) := by decide +kernel
theorem dX11_kindOf_237 : decode cX11_kindOf 237 = .ok (.dup, 1) := by decide +kernel
theorem dX11_kindOf_238 : decode cX11_kindOf 238 = .ok (.getfield 269, 3) := by decide +kernel
theorem dX11_kindOf_241 : decode cX11_kindOf 241 = .ok (.iconst 1, 1) := by decide +kernel
theorem dX11_kindOf_242 : decode cX11_kindOf 242 = .ok (.iadd, 1) := by decide +kernel
theorem dX11_kindOf_243 : decode cX11_kindOf 243 = .ok (.putfield 269, 3) := by decide +kernel
theorem dX11_kindOf_246 : decode cX11_kindOf 246 = .ok (.aload_n 0, 1) := by decide +kernel
theorem dX11_kindOf_247 : decode cX11_kindOf 247 = .ok (.getfield 39, 3) := by decide +kernel
theorem dX11_kindOf_250 : decode cX11_kindOf 250 = .ok (.iload 4, 2) := by decide +kernel
theorem dX11_kindOf_252 : decode cX11_kindOf 252 = .ok (.aload_n 0, 1) := by decide +kernel
theorem dX11_kindOf_253 : decode cX11_kindOf 253 = .ok (.getfield 39, 3) := by decide +kernel
theorem dX11_kindOf_256 : decode cX11_kindOf 256 = .ok (.iload 4, 2) := by decide +kernel
theorem dX11_kindOf_258 : decode cX11_kindOf 258 = .ok (.baload, 1) := by decide +kernel
theorem dX11_kindOf_259 : decode cX11_kindOf 259 = .ok (.ifCond .ne 20, 3) := by decide +kernel
theorem dX11_kindOf_262 : decode cX11_kindOf 262 = .ok (.aload_n 0, 1) := by decide +kernel
theorem dX11_kindOf_263 : decode cX11_kindOf 263 = .ok (.getfield 39, 3) := by decide +kernel
theorem dX11_kindOf_266 : decode cX11_kindOf 266 = .ok (.aload_n 0, 1) := by decide +kernel
theorem dX11_kindOf_267 : decode cX11_kindOf 267 = .ok (.getfield 46, 3) := by decide +kernel
theorem dX11_kindOf_270 : decode cX11_kindOf 270 = .ok (.iload_n 2, 1) := by decide +kernel
theorem dX11_kindOf_271 : decode cX11_kindOf 271 = .ok (.iload 6, 2) := by decide +kernel
theorem dX11_kindOf_273 : decode cX11_kindOf 273 = .ok (.iadd, 1) := by decide +kernel
theorem dX11_kindOf_274 : decode cX11_kindOf 274 = .ok (.iaload, 1) := by decide +kernel
theorem dX11_kindOf_275 : decode cX11_kindOf 275 = .ok (.baload, 1) := by decide +kernel
theorem dX11_kindOf_276 : decode cX11_kindOf 276 = .ok (.ifCond .eq 7, 3) := by decide +kernel
theorem dX11_kindOf_279 : decode cX11_kindOf 279 = .ok (.iconst 1, 1) := by decide +kernel
theorem dX11_kindOf_280 : decode cX11_kindOf 280 = .ok (.goto 4, 3) := by decide +kernel
theorem dX11_kindOf_283 : decode cX11_kindOf 283 = .ok (.iconst 0, 1) := by decide +kernel
theorem dX11_kindOf_284 : decode cX11_kindOf 284 = .ok (.bastore, 1) := by decide +kernel
theorem dX11_kindOf_285 : decode cX11_kindOf 285 = .ok (.iload_n 1, 1) := by decide +kernel
theorem dX11_kindOf_286 : decode cX11_kindOf 286 = .ok (.iconst 5, 1) := by decide +kernel
theorem dX11_kindOf_287 : decode cX11_kindOf 287 = .ok (.if_icmp .ne 26, 3) := by decide +kernel
theorem dX11_kindOf_290 : decode cX11_kindOf 290 = .ok (.bipush 31, 2) := by decide +kernel
theorem dX11_kindOf_292 : decode cX11_kindOf 292 = .ok (.iload 5, 2) := by decide +kernel
theorem dX11_kindOf_294 : decode cX11_kindOf 294 = .ok (.imul, 1) := by decide +kernel
theorem dX11_kindOf_295 : decode cX11_kindOf 295 = .ok (.aload_n 0, 1) := by decide +kernel
theorem dX11_kindOf_296 : decode cX11_kindOf 296 = .ok (.getfield 36, 3) := by decide +kernel
theorem dX11_kindOf_299 : decode cX11_kindOf 299 = .ok (.aload_n 0, 1) := by decide +kernel
theorem dX11_kindOf_300 : decode cX11_kindOf 300 = .ok (.getfield 46, 3) := by decide +kernel
theorem dX11_kindOf_303 : decode cX11_kindOf 303 = .ok (.iload_n 2, 1) := by decide +kernel
theorem dX11_kindOf_304 : decode cX11_kindOf 304 = .ok (.iload 6, 2) := by decide +kernel
theorem dX11_kindOf_306 : decode cX11_kindOf 306 = .ok (.iadd, 1) := by decide +kernel
theorem dX11_kindOf_307 : decode cX11_kindOf 307 = .ok (.iaload, 1) := by decide +kernel
theorem dX11_kindOf_308 : decode cX11_kindOf 308 = .ok (.iaload, 1) := by decide +kernel
theorem dX11_kindOf_309 : decode cX11_kindOf 309 = .ok (.iadd, 1) := by decide +kernel
theorem dX11_kindOf_310 : decode cX11_kindOf 310 = .ok (.goto 5, 3) := by decide +kernel
theorem dX11_kindOf_313 : decode cX11_kindOf 313 = .ok (.iload 5, 2) := by decide +kernel
theorem dX11_kindOf_315 : decode cX11_kindOf 315 = .ok (.istore 5, 2) := by decide +kernel
theorem dX11_kindOf_317 : decode cX11_kindOf 317 = .ok (.iinc 6 1, 3) := by decide +kernel
theorem dX11_kindOf_320 : decode cX11_kindOf 320 = .ok (.goto (-108), 3) := by decide +kernel
theorem dX11_kindOf_323 : decode cX11_kindOf 323 = .ok (.aload_n 0, 1) := by decide +kernel
theorem dX11_kindOf_324 : decode cX11_kindOf 324 = .ok (.getfield 36, 3) := by decide +kernel
theorem dX11_kindOf_327 : decode cX11_kindOf 327 = .ok (.iload 4, 2) := by decide +kernel
theorem dX11_kindOf_329 : decode cX11_kindOf 329 = .ok (.iload 5, 2) := by decide +kernel
theorem dX11_kindOf_331 : decode cX11_kindOf 331 = .ok (.iastore, 1) := by decide +kernel
theorem dX11_kindOf_332 : decode cX11_kindOf 332 = .ok (.iload 4, 2) := by decide +kernel
theorem dX11_kindOf_334 : decode cX11_kindOf 334 = .ok (.ireturn, 1) := by decide +kernel
theorem dX11_kinds_0 : decode cX11_kinds 0 = .ok (.aload_n 0, 1) := by decide +kernel
theorem dX11_kinds_1 : decode cX11_kinds 1 = .ok (.iload_n 1, 1) := by decide +kernel
theorem dX11_kinds_2 : decode cX11_kinds 2 = .ok (.putfield 267, 3) := by decide +kernel
theorem dX11_kinds_5 : decode cX11_kinds 5 = .ok (.aload_n 0, 1) := by decide +kernel
theorem dX11_kinds_6 : decode cX11_kinds 6 = .ok (.iconst 0, 1) := by decide +kernel
theorem dX11_kinds_7 : decode cX11_kinds 7 = .ok (.putfield 269, 3) := by decide +kernel
theorem dX11_kinds_10 : decode cX11_kinds 10 = .ok (.aload_n 0, 1) := by decide +kernel
theorem dX11_kinds_11 : decode cX11_kinds 11 = .ok (.iconst 1, 1) := by decide +kernel
theorem dX11_kinds_12 : decode cX11_kinds 12 = .ok (.iconst 0, 1) := by decide +kernel
theorem dX11_kinds_13 : decode cX11_kinds 13 = .ok (.iconst 0, 1) := by decide +kernel
theorem dX11_kinds_14 : decode cX11_kinds 14 = .ok (.invokevirtual 272, 3) := by decide +kernel
theorem dX11_kinds_17 : decode cX11_kinds 17 = .ok (.pop, 1) := by decide +kernel
theorem dX11_kinds_18 : decode cX11_kinds 18 = .ok (.aload_n 0, 1) := by decide +kernel
theorem dX11_kinds_19 : decode cX11_kinds 19 = .ok (.iconst 2, 1) := by decide +kernel
theorem dX11_kinds_20 : decode cX11_kinds 20 = .ok (.iconst 0, 1) := by decide +kernel
theorem dX11_kinds_21 : decode cX11_kinds 21 = .ok (.iconst 0, 1) := by decide +kernel
theorem dX11_kinds_22 : decode cX11_kinds 22 = .ok (.invokevirtual 272, 3) := by decide +kernel
theorem dX11_kinds_25 : decode cX11_kinds 25 = .ok (.pop, 1) := by decide +kernel
theorem dX11_kinds_26 : decode cX11_kinds 26 = .ok (.aload_n 0, 1) := by decide +kernel
theorem dX11_kinds_27 : decode cX11_kinds 27 = .ok (.iconst 3, 1) := by decide +kernel
theorem dX11_kinds_28 : decode cX11_kinds 28 = .ok (.iconst 0, 1) := by decide +kernel
theorem dX11_kinds_29 : decode cX11_kinds 29 = .ok (.iconst 0, 1) := by decide +kernel
theorem dX11_kinds_30 : decode cX11_kinds 30 = .ok (.invokevirtual 272, 3) := by decide +kernel
theorem dX11_kinds_33 : decode cX11_kinds 33 = .ok (.pop, 1) := by decide +kernel
theorem dX11_kinds_34 : decode cX11_kinds 34 = .ok (.return_, 1) := by decide +kernel
theorem dX11_letterOf_0 : decode cX11_letterOf 0 = .ok (.iload_n 0, 1) := by decide +kernel
theorem dX11_letterOf_1 : decode cX11_letterOf 1 = .ok (.bipush 97, 2) := by decide +kernel
theorem dX11_letterOf_3 : decode cX11_letterOf 3 = .ok (.bipush 122, 2) := by decide +kernel
theorem dX11_letterOf_5 : decode cX11_letterOf 5 = .ok (.invokestatic 282, 3) := by decide +kernel
theorem dX11_letterOf_8 : decode cX11_letterOf 8 = .ok (.ifCond .eq 10, 3) := by decide +kernel
theorem dX11_letterOf_11 : decode cX11_letterOf 11 = .ok (.iload_n 0, 1) := by decide +kernel
theorem dX11_letterOf_12 : decode cX11_letterOf 12 = .ok (.bipush 96, 2) := by decide +kernel
theorem dX11_letterOf_14 : decode cX11_letterOf 14 = .ok (.isub, 1) := by decide +kernel
theorem dX11_letterOf_15 : decode cX11_letterOf 15 = .ok (.goto 22, 3) := by decide +kernel
theorem dX11_letterOf_18 : decode cX11_letterOf 18 = .ok (.iload_n 0, 1) := by decide +kernel
theorem dX11_letterOf_19 : decode cX11_letterOf 19 = .ok (.bipush 65, 2) := by decide +kernel
theorem dX11_letterOf_21 : decode cX11_letterOf 21 = .ok (.bipush 90, 2) := by decide +kernel
theorem dX11_letterOf_23 : decode cX11_letterOf 23 = .ok (.invokestatic 282, 3) := by decide +kernel
theorem dX11_letterOf_26 : decode cX11_letterOf 26 = .ok (.ifCond .eq 10, 3) := by decide +kernel
theorem dX11_letterOf_29 : decode cX11_letterOf 29 = .ok (.iload_n 0, 1) := by decide +kernel
theorem dX11_letterOf_30 : decode cX11_letterOf 30 = .ok (.bipush 38, 2) := by decide +kernel
theorem dX11_letterOf_32 : decode cX11_letterOf 32 = .ok (.isub, 1) := by decide +kernel
theorem dX11_letterOf_33 : decode cX11_letterOf 33 = .ok (.goto 4, 3) := by decide +kernel
theorem dX11_letterOf_36 : decode cX11_letterOf 36 = .ok (.iconst 0, 1) := by decide +kernel
theorem dX11_letterOf_37 : decode cX11_letterOf 37 = .ok (.ireturn, 1) := by decide +kernel
theorem dX11_name_0 : decode cX11_name 0 = .ok (.aload_n 0, 1) := by decide +kernel
theorem dX11_name_1 : decode cX11_name 1 = .ok (.iconst 0, 1) := by decide +kernel
theorem dX11_name_2 : decode cX11_name 2 = .ok (.putfield 328, 3) := by decide +kernel
theorem dX11_name_5 : decode cX11_name 5 = .ok (.aload_n 0, 1) := by decide +kernel
theorem dX11_name_6 : decode cX11_name 6 = .ok (.getfield 299, 3) := by decide +kernel
theorem dX11_name_9 : decode cX11_name 9 = .ok (.aload_n 0, 1) := by decide +kernel
theorem dX11_name_10 : decode cX11_name 10 = .ok (.getfield 302, 3) := by decide +kernel
theorem dX11_name_13 : decode cX11_name 13 = .ok (.if_icmp .ge 83, 3) := by decide +kernel
theorem dX11_name_16 : decode cX11_name 16 = .ok (.aload_n 0, 1) := by decide +kernel
theorem dX11_name_17 : decode cX11_name 17 = .ok (.getfield 13, 3) := by decide +kernel
theorem dX11_name_20 : decode cX11_name 20 = .ok (.aload_n 0, 1) := by decide +kernel
theorem dX11_name_21 : decode cX11_name 21 = .ok (.getfield 299, 3) := by decide +kernel
theorem dX11_name_24 : decode cX11_name 24 = .ok (.baload, 1) := by decide +kernel
theorem dX11_name_25 : decode cX11_name 25 = .ok (.invokestatic 312, 3) := by decide +kernel
theorem dX11_name_28 : decode cX11_name 28 = .ok (.ifCond .le 68, 3) := by decide +kernel
theorem dX11_name_31 : decode cX11_name 31 = .ok (.aload_n 0, 1) := by decide +kernel
theorem dX11_name_32 : decode cX11_name 32 = .ok (.aload_n 0, 1) := by decide +kernel
theorem dX11_name_33 : decode cX11_name 33 = .ok (.getfield 328, 3) := by decide +kernel
theorem dX11_name_36 : decode cX11_name 36 = .ok (.bipush 8, 2) := by decide +kernel
theorem dX11_name_38 : decode cX11_name 38 = .ok (.if_icmp .ge 28, 3) := by decide +kernel
theorem dX11_name_41 : decode cX11_name 41 = .ok (.ldc2_w 331, 3) := by decide +kernel
theorem dX11_name_44 : decode cX11_name 44 = .ok (.aload_n 0, 1) := by decide +kernel
theorem dX11_name_45 : decode cX11_name 45 = .ok (.getfield 305, 3) := by decide +kernel
theorem dX11_name_48 : decode cX11_name 48 = .ok (.lmul, 1) := by decide +kernel
theorem dX11_name_49 : decode cX11_name 49 = .ok (.aload_n 0, 1) := by decide +kernel
theorem dX11_name_50 : decode cX11_name 50 = .ok (.getfield 13, 3) := by decide +kernel
theorem dX11_name_53 : decode cX11_name 53 = .ok (.aload_n 0, 1) := by decide +kernel
theorem dX11_name_54 : decode cX11_name 54 = .ok (.getfield 299, 3) := by decide +kernel
theorem dX11_name_57 : decode cX11_name 57 = .ok (.baload, 1) := by decide +kernel
theorem dX11_name_58 : decode cX11_name 58 = .ok (.invokestatic 312, 3) := by decide +kernel
theorem dX11_name_61 : decode cX11_name 61 = .ok (.i2l, 1) := by decide +kernel
theorem dX11_name_62 : decode cX11_name 62 = .ok (.ladd, 1) := by decide +kernel
theorem dX11_name_63 : decode cX11_name 63 = .ok (.goto 7, 3) := by decide +kernel
theorem dX11_name_66 : decode cX11_name 66 = .ok (.aload_n 0, 1) := by decide +kernel
theorem dX11_name_67 : decode cX11_name 67 = .ok (.getfield 305, 3) := by decide +kernel
theorem dX11_name_70 : decode cX11_name 70 = .ok (.putfield 305, 3) := by decide +kernel
theorem dX11_name_73 : decode cX11_name 73 = .ok (.aload_n 0, 1) := by decide +kernel
theorem dX11_name_74 : decode cX11_name 74 = .ok (.dup, 1) := by decide +kernel
theorem dX11_name_75 : decode cX11_name 75 = .ok (.getfield 328, 3) := by decide +kernel
theorem dX11_name_78 : decode cX11_name 78 = .ok (.iconst 1, 1) := by decide +kernel
theorem dX11_name_79 : decode cX11_name 79 = .ok (.iadd, 1) := by decide +kernel
theorem dX11_name_80 : decode cX11_name 80 = .ok (.putfield 328, 3) := by decide +kernel
theorem dX11_name_83 : decode cX11_name 83 = .ok (.aload_n 0, 1) := by decide +kernel
theorem dX11_name_84 : decode cX11_name 84 = .ok (.dup, 1) := by decide +kernel
theorem dX11_name_85 : decode cX11_name 85 = .ok (.getfield 299, 3) := by decide +kernel
theorem dX11_name_88 : decode cX11_name 88 = .ok (.iconst 1, 1) := by decide +kernel
theorem dX11_name_89 : decode cX11_name 89 = .ok (.iadd, 1) := by decide +kernel
theorem dX11_name_90 : decode cX11_name 90 = .ok (.putfield 299, 3) := by decide +kernel
theorem dX11_name_93 : decode cX11_name 93 = .ok (.goto (-88), 3) := by decide +kernel
theorem dX11_name_96 : decode cX11_name 96 = .ok (.aload_n 0, 1) := by decide +kernel
theorem dX11_name_97 : decode cX11_name 97 = .ok (.getfield 328, 3) := by decide +kernel
theorem dX11_name_100 : decode cX11_name 100 = .ok (.iconst 5, 1) := by decide +kernel
theorem dX11_name_101 : decode cX11_name 101 = .ok (.if_icmp .le 7, 3) := by decide +kernel
theorem dX11_name_104 : decode cX11_name 104 = .ok (.iconst (-1), 1) := by decide +kernel
theorem dX11_name_105 : decode cX11_name 105 = .ok (.goto 10, 3) := by decide +kernel
theorem dX11_name_108 : decode cX11_name 108 = .ok (.aload_n 0, 1) := by decide +kernel
theorem dX11_name_109 : decode cX11_name 109 = .ok (.getfield 305, 3) := by decide +kernel
theorem dX11_name_112 : decode cX11_name 112 = .ok (.invokestatic 333, 3) := by decide +kernel
theorem dX11_name_115 : decode cX11_name 115 = .ok (.istore_n 1, 1) := by decide +kernel
theorem dX11_name_116 : decode cX11_name 116 = .ok (.aload_n 0, 1) := by decide +kernel
theorem dX11_name_117 : decode cX11_name 117 = .ok (.iload_n 1, 1) := by decide +kernel
theorem dX11_name_118 : decode cX11_name 118 = .ok (.ifCond .lt 7, 3) := by decide +kernel
theorem dX11_name_121 : decode cX11_name 121 = .ok (.iconst 2, 1) := by decide +kernel
theorem dX11_name_122 : decode cX11_name 122 = .ok (.goto 17, 3) := by decide +kernel
theorem dX11_name_125 : decode cX11_name 125 = .ok (.aload_n 0, 1) := by decide +kernel
theorem dX11_name_126 : decode cX11_name 126 = .ok (.getfield 328, 3) := by decide +kernel
theorem dX11_name_129 : decode cX11_name 129 = .ok (.bipush 8, 2) := by decide +kernel
theorem dX11_name_131 : decode cX11_name 131 = .ok (.if_icmp .le 7, 3) := by decide +kernel
theorem dX11_name_134 : decode cX11_name 134 = .ok (.iconst 5, 1) := by decide +kernel
theorem dX11_name_135 : decode cX11_name 135 = .ok (.goto 4, 3) := by decide +kernel
theorem dX11_name_138 : decode cX11_name 138 = .ok (.iconst 1, 1) := by decide +kernel
theorem dX11_name_139 : decode cX11_name 139 = .ok (.putfield 309, 3) := by decide +kernel
theorem dX11_name_142 : decode cX11_name 142 = .ok (.aload_n 0, 1) := by decide +kernel
theorem dX11_name_143 : decode cX11_name 143 = .ok (.iload_n 1, 1) := by decide +kernel
theorem dX11_name_144 : decode cX11_name 144 = .ok (.ifCond .lt 8, 3) := by decide +kernel
theorem dX11_name_147 : decode cX11_name 147 = .ok (.iload_n 1, 1) := by decide +kernel
theorem dX11_name_148 : decode cX11_name 148 = .ok (.i2l, 1) := by decide +kernel
theorem dX11_name_149 : decode cX11_name 149 = .ok (.goto 7, 3) := by decide +kernel
theorem dX11_name_152 : decode cX11_name 152 = .ok (.aload_n 0, 1) := by decide +kernel
theorem dX11_name_153 : decode cX11_name 153 = .ok (.getfield 305, 3) := by decide +kernel
theorem dX11_name_156 : decode cX11_name 156 = .ok (.putfield 305, 3) := by decide +kernel
theorem dX11_name_159 : decode cX11_name 159 = .ok (.return_, 1) := by decide +kernel
theorem dX11_nests_0 : decode cX11_nests 0 = .ok (.aload_n 0, 1) := by decide +kernel
theorem dX11_nests_1 : decode cX11_nests 1 = .ok (.getfield 355, 3) := by decide +kernel
theorem dX11_nests_4 : decode cX11_nests 4 = .ok (.bipush 40, 2) := by decide +kernel
theorem dX11_nests_6 : decode cX11_nests 6 = .ok (.if_icmp .ne 12, 3) := by decide +kernel
theorem dX11_nests_9 : decode cX11_nests 9 = .ok (.aload_n 0, 1) := by decide +kernel
theorem dX11_nests_10 : decode cX11_nests 10 = .ok (.iconst 3, 1) := by decide +kernel
theorem dX11_nests_11 : decode cX11_nests 11 = .ok (.aload_n 0, 1) := by decide +kernel
theorem dX11_nests_12 : decode cX11_nests 12 = .ok (.getfield 292, 3) := by decide +kernel
theorem dX11_nests_15 : decode cX11_nests 15 = .ok (.invokevirtual 295, 3) := by decide +kernel
theorem dX11_nests_18 : decode cX11_nests 18 = .ok (.aload_n 0, 1) := by decide +kernel
theorem dX11_nests_19 : decode cX11_nests 19 = .ok (.dup, 1) := by decide +kernel
theorem dX11_nests_20 : decode cX11_nests 20 = .ok (.getfield 355, 3) := by decide +kernel
theorem dX11_nests_23 : decode cX11_nests 23 = .ok (.iconst 1, 1) := by decide +kernel
theorem dX11_nests_24 : decode cX11_nests 24 = .ok (.iadd, 1) := by decide +kernel
theorem dX11_nests_25 : decode cX11_nests 25 = .ok (.putfield 355, 3) := by decide +kernel
theorem dX11_nests_28 : decode cX11_nests 28 = .ok (.return_, 1) := by decide +kernel
theorem dX11_next_0 : decode cX11_next 0 = .ok (.aload_n 0, 1) := by decide +kernel
theorem dX11_next_1 : decode cX11_next 1 = .ok (.getfield 299, 3) := by decide +kernel
theorem dX11_next_4 : decode cX11_next 4 = .ok (.aload_n 0, 1) := by decide +kernel
theorem dX11_next_5 : decode cX11_next 5 = .ok (.getfield 302, 3) := by decide +kernel
theorem dX11_next_8 : decode cX11_next 8 = .ok (.if_icmp .ge 44, 3) := by decide +kernel
theorem dX11_next_11 : decode cX11_next 11 = .ok (.aload_n 0, 1) := by decide +kernel
theorem dX11_next_12 : decode cX11_next 12 = .ok (.getfield 13, 3) := by decide +kernel
theorem dX11_next_15 : decode cX11_next 15 = .ok (.aload_n 0, 1) := by decide +kernel
theorem dX11_next_16 : decode cX11_next 16 = .ok (.getfield 299, 3) := by decide +kernel
theorem dX11_next_19 : decode cX11_next 19 = .ok (.baload, 1) := by decide +kernel
theorem dX11_next_20 : decode cX11_next 20 = .ok (.bipush 32, 2) := by decide +kernel
theorem dX11_next_22 : decode cX11_next 22 = .ok (.if_icmp .eq 17, 3) := by decide +kernel
theorem dX11_next_25 : decode cX11_next 25 = .ok (.aload_n 0, 1) := by decide +kernel
theorem dX11_next_26 : decode cX11_next 26 = .ok (.getfield 13, 3) := by decide +kernel
theorem dX11_next_29 : decode cX11_next 29 = .ok (.aload_n 0, 1) := by decide +kernel
theorem dX11_next_30 : decode cX11_next 30 = .ok (.getfield 299, 3) := by decide +kernel
theorem dX11_next_33 : decode cX11_next 33 = .ok (.baload, 1) := by decide +kernel
theorem dX11_next_34 : decode cX11_next 34 = .ok (.bipush 10, 2) := by decide +kernel
theorem dX11_next_36 : decode cX11_next 36 = .ok (.if_icmp .ne 16, 3) := by decide +kernel
theorem dX11_next_39 : decode cX11_next 39 = .ok (.aload_n 0, 1) := by decide +kernel
theorem dX11_next_40 : decode cX11_next 40 = .ok (.dup, 1) := by decide +kernel
theorem dX11_next_41 : decode cX11_next 41 = .ok (.getfield 299, 3) := by decide +kernel
theorem dX11_next_44 : decode cX11_next 44 = .ok (.iconst 1, 1) := by decide +kernel
theorem dX11_next_45 : decode cX11_next 45 = .ok (.iadd, 1) := by decide +kernel
theorem dX11_next_46 : decode cX11_next 46 = .ok (.putfield 299, 3) := by decide +kernel
theorem dX11_next_49 : decode cX11_next 49 = .ok (.goto (-49), 3) := by decide +kernel
theorem dX11_next_52 : decode cX11_next 52 = .ok (.aload_n 0, 1) := by decide +kernel
theorem dX11_next_53 : decode cX11_next 53 = .ok (.aload_n 0, 1) := by decide +kernel
theorem dX11_next_54 : decode cX11_next 54 = .ok (.getfield 299, 3) := by decide +kernel
theorem dX11_next_57 : decode cX11_next 57 = .ok (.putfield 292, 3) := by decide +kernel
theorem dX11_next_60 : decode cX11_next 60 = .ok (.aload_n 0, 1) := by decide +kernel
theorem dX11_next_61 : decode cX11_next 61 = .ok (.lconst 0, 1) := by decide +kernel
theorem dX11_next_62 : decode cX11_next 62 = .ok (.putfield 305, 3) := by decide +kernel
theorem dX11_next_65 : decode cX11_next 65 = .ok (.aload_n 0, 1) := by decide +kernel
theorem dX11_next_66 : decode cX11_next 66 = .ok (.getfield 299, 3) := by decide +kernel
theorem dX11_next_69 : decode cX11_next 69 = .ok (.aload_n 0, 1) := by decide +kernel
theorem dX11_next_70 : decode cX11_next 70 = .ok (.getfield 302, 3) := by decide +kernel
theorem dX11_next_73 : decode cX11_next 73 = .ok (.if_icmp .ne 9, 3) := by decide +kernel
theorem dX11_next_76 : decode cX11_next 76 = .ok (.aload_n 0, 1) := by decide +kernel
theorem dX11_next_77 : decode cX11_next 77 = .ok (.iconst 0, 1) := by decide +kernel
theorem dX11_next_78 : decode cX11_next 78 = .ok (.putfield 309, 3) := by decide +kernel
theorem dX11_next_81 : decode cX11_next 81 = .ok (.return_, 1) := by decide +kernel
theorem dX11_next_82 : decode cX11_next 82 = .ok (.aload_n 0, 1) := by decide +kernel
theorem dX11_next_83 : decode cX11_next 83 = .ok (.getfield 13, 3) := by decide +kernel
theorem dX11_next_86 : decode cX11_next 86 = .ok (.aload_n 0, 1) := by decide +kernel
theorem dX11_next_87 : decode cX11_next 87 = .ok (.getfield 299, 3) := by decide +kernel
theorem dX11_next_90 : decode cX11_next 90 = .ok (.baload, 1) := by decide +kernel
theorem dX11_next_91 : decode cX11_next 91 = .ok (.istore_n 1, 1) := by decide +kernel
theorem dX11_next_92 : decode cX11_next 92 = .ok (.iload_n 1, 1) := by decide +kernel
theorem dX11_next_93 : decode cX11_next 93 = .ok (.invokestatic 312, 3) := by decide +kernel
theorem dX11_next_96 : decode cX11_next 96 = .ok (.ifCond .le 10, 3) := by decide +kernel
theorem dX11_next_99 : decode cX11_next 99 = .ok (.aload_n 0, 1) := by decide +kernel
theorem dX11_next_100 : decode cX11_next 100 = .ok (.invokevirtual 316, 3) := by decide +kernel
theorem dX11_next_103 : decode cX11_next 103 = .ok (.goto 112, 3) := by decide +kernel
theorem dX11_next_106 : decode cX11_next 106 = .ok (.iload_n 1, 1) := by decide +kernel
theorem dX11_next_107 : decode cX11_next 107 = .ok (.bipush 48, 2) := by decide +kernel
theorem dX11_next_109 : decode cX11_next 109 = .ok (.bipush 57, 2) := by decide +kernel
theorem dX11_next_111 : decode cX11_next 111 = .ok (.invokestatic 282, 3) := by decide +kernel
theorem dX11_next_114 : decode cX11_next 114 = .ok (.ifCond .eq 96, 3) := by decide +kernel
theorem dX11_next_117 : decode cX11_next 117 = .ok (.aload_n 0, 1) := by decide +kernel
theorem dX11_next_118 : decode cX11_next 118 = .ok (.iconst 3, 1) := by decide +kernel
theorem dX11_next_119 : decode cX11_next 119 = .ok (.putfield 309, 3) := by decide +kernel
theorem dX11_next_122 : decode cX11_next 122 = .ok (.aload_n 0, 1) := by decide +kernel
theorem dX11_next_123 : decode cX11_next 123 = .ok (.getfield 299, 3) := by decide +kernel
theorem dX11_next_126 : decode cX11_next 126 = .ok (.aload_n 0, 1) := by decide +kernel
theorem dX11_next_127 : decode cX11_next 127 = .ok (.getfield 302, 3) := by decide +kernel
theorem dX11_next_130 : decode cX11_next 130 = .ok (.if_icmp .ge 85, 3) := by decide +kernel
theorem dX11_next_133 : decode cX11_next 133 = .ok (.aload_n 0, 1) := by decide +kernel
theorem dX11_next_134 : decode cX11_next 134 = .ok (.getfield 13, 3) := by decide +kernel
theorem dX11_next_137 : decode cX11_next 137 = .ok (.aload_n 0, 1) := by decide +kernel
theorem dX11_next_138 : decode cX11_next 138 = .ok (.getfield 299, 3) := by decide +kernel
theorem dX11_next_141 : decode cX11_next 141 = .ok (.baload, 1) := by decide +kernel
theorem dX11_next_142 : decode cX11_next 142 = .ok (.bipush 48, 2) := by decide +kernel
theorem dX11_next_144 : decode cX11_next 144 = .ok (.bipush 57, 2) := by decide +kernel
theorem dX11_next_146 : decode cX11_next 146 = .ok (.invokestatic 282, 3) := by decide +kernel
theorem dX11_next_149 : decode cX11_next 149 = .ok (.ifCond .eq 66, 3) := by decide +kernel
theorem dX11_next_152 : decode cX11_next 152 = .ok (.aload_n 0, 1) := by decide +kernel
theorem dX11_next_153 : decode cX11_next 153 = .ok (.aload_n 0, 1) := by decide +kernel
theorem dX11_next_154 : decode cX11_next 154 = .ok (.getfield 305, 3) := by decide +kernel
theorem dX11_next_157 : decode cX11_next 157 = .ok (.ldc2_w 319, 3) := by decide +kernel
theorem dX11_next_160 : decode cX11_next 160 = .ok (.lcmp, 1) := by decide +kernel
theorem dX11_next_161 : decode cX11_next 161 = .ok (.ifCond .le 10, 3) := by decide +kernel
theorem dX11_next_164 : decode cX11_next 164 = .ok (.aload_n 0, 1) := by decide +kernel
theorem dX11_next_165 : decode cX11_next 165 = .ok (.getfield 305, 3) := by decide +kernel
theorem dX11_next_168 : decode cX11_next 168 = .ok (.goto 26, 3) := by decide +kernel
theorem dX11_next_171 : decode cX11_next 171 = .ok (.ldc2_w 321, 3) := by decide +kernel
theorem dX11_next_174 : decode cX11_next 174 = .ok (.aload_n 0, 1) := by decide +kernel
theorem dX11_next_175 : decode cX11_next 175 = .ok (.getfield 305, 3) := by decide +kernel
theorem dX11_next_178 : decode cX11_next 178 = .ok (.lmul, 1) := by decide +kernel
theorem dX11_next_179 : decode cX11_next 179 = .ok (.aload_n 0, 1) := by decide +kernel
theorem dX11_next_180 : decode cX11_next 180 = .ok (.getfield 13, 3) := by decide +kernel
theorem dX11_next_183 : decode cX11_next 183 = .ok (.aload_n 0, 1) := by decide +kernel
theorem dX11_next_184 : decode cX11_next 184 = .ok (.getfield 299, 3) := by decide +kernel
theorem dX11_next_187 : decode cX11_next 187 = .ok (.baload, 1) := by decide +kernel
theorem dX11_next_188 : decode cX11_next 188 = .ok (.i2l, 1) := by decide +kernel
theorem dX11_next_189 : decode cX11_next 189 = .ok (.ladd, 1) := by decide +kernel
theorem dX11_next_190 : decode cX11_next 190 = .ok (.ldc2_w 323, 3) := by decide +kernel
theorem dX11_next_193 : decode cX11_next 193 = .ok (.lsub, 1) := by decide +kernel
theorem dX11_next_194 : decode cX11_next 194 = .ok (.putfield 305, 3) := by decide +kernel
theorem dX11_next_197 : decode cX11_next 197 = .ok (.aload_n 0, 1) := by decide +kernel
theorem dX11_next_198 : decode cX11_next 198 = .ok (.dup, 1) := by decide +kernel
theorem dX11_next_199 : decode cX11_next 199 = .ok (.getfield 299, 3) := by decide +kernel
theorem dX11_next_202 : decode cX11_next 202 = .ok (.iconst 1, 1) := by decide +kernel
theorem dX11_next_203 : decode cX11_next 203 = .ok (.iadd, 1) := by decide +kernel
theorem dX11_next_204 : decode cX11_next 204 = .ok (.putfield 299, 3) := by decide +kernel
theorem dX11_next_207 : decode cX11_next 207 = .ok (.goto (-85), 3) := by decide +kernel
theorem dX11_next_210 : decode cX11_next 210 = .ok (.aload_n 0, 1) := by decide +kernel
theorem dX11_next_211 : decode cX11_next 211 = .ok (.iload_n 1, 1) := by decide +kernel
theorem dX11_next_212 : decode cX11_next 212 = .ok (.invokevirtual 325, 3) := by decide +kernel
theorem dX11_next_215 : decode cX11_next 215 = .ok (.return_, 1) := by decide +kernel
theorem dX11_opens_0 : decode cX11_opens 0 = .ok (.aload_n 0, 1) := by decide +kernel
theorem dX11_opens_1 : decode cX11_opens 1 = .ok (.iload_n 1, 1) := by decide +kernel
theorem dX11_opens_2 : decode cX11_opens 2 = .ok (.invokevirtual 345, 3) := by decide +kernel
theorem dX11_opens_5 : decode cX11_opens 5 = .ok (.ifCond .ne 8, 3) := by decide +kernel
theorem dX11_opens_8 : decode cX11_opens 8 = .ok (.aload_n 0, 1) := by decide +kernel
theorem dX11_opens_9 : decode cX11_opens 9 = .ok (.invokevirtual 352, 3) := by decide +kernel
theorem dX11_opens_12 : decode cX11_opens 12 = .ok (.return_, 1) := by decide +kernel
theorem dX11_opens_13 : decode cX11_opens 13 = .ok (.aload_n 0, 1) := by decide +kernel
theorem dX11_opens_14 : decode cX11_opens 14 = .ok (.invokevirtual 358, 3) := by decide +kernel
theorem dX11_opens_17 : decode cX11_opens 17 = .ok (.aload_n 0, 1) := by decide +kernel
theorem dX11_opens_18 : decode cX11_opens 18 = .ok (.invokevirtual 341, 3) := by decide +kernel
theorem dX11_opens_21 : decode cX11_opens 21 = .ok (.ifCond .eq 7, 3) := by decide +kernel
theorem dX11_opens_24 : decode cX11_opens 24 = .ok (.aload_n 0, 1) := by decide +kernel
theorem dX11_opens_25 : decode cX11_opens 25 = .ok (.invokevirtual 349, 3) := by decide +kernel
theorem dX11_opens_28 : decode cX11_opens 28 = .ok (.return_, 1) := by decide +kernel
theorem dX11_paramOf_0 : decode cX11_paramOf 0 = .ok (.aload_n 0, 1) := by decide +kernel
theorem dX11_paramOf_1 : decode cX11_paramOf 1 = .ok (.getfield 43, 3) := by decide +kernel
theorem dX11_paramOf_4 : decode cX11_paramOf 4 = .ok (.aload_n 0, 1) := by decide +kernel
theorem dX11_paramOf_5 : decode cX11_paramOf 5 = .ok (.getfield 33, 3) := by decide +kernel
theorem dX11_paramOf_8 : decode cX11_paramOf 8 = .ok (.iload_n 1, 1) := by decide +kernel
theorem dX11_paramOf_9 : decode cX11_paramOf 9 = .ok (.iaload, 1) := by decide +kernel
theorem dX11_paramOf_10 : decode cX11_paramOf 10 = .ok (.iload_n 2, 1) := by decide +kernel
theorem dX11_paramOf_11 : decode cX11_paramOf 11 = .ok (.iadd, 1) := by decide +kernel
theorem dX11_paramOf_12 : decode cX11_paramOf 12 = .ok (.iaload, 1) := by decide +kernel
theorem dX11_paramOf_13 : decode cX11_paramOf 13 = .ok (.ireturn, 1) := by decide +kernel
theorem dX11_plainKind_0 : decode cX11_plainKind 0 = .ok (.aload_n 0, 1) := by decide +kernel
theorem dX11_plainKind_1 : decode cX11_plainKind 1 = .ok (.bipush 11, 2) := by decide +kernel
theorem dX11_plainKind_3 : decode cX11_plainKind 3 = .ok (.invokevirtual 370, 3) := by decide +kernel
theorem dX11_plainKind_6 : decode cX11_plainKind 6 = .ok (.ifCond .eq 7, 3) := by decide +kernel
theorem dX11_plainKind_9 : decode cX11_plainKind 9 = .ok (.iconst 0, 1) := by decide +kernel
theorem dX11_plainKind_10 : decode cX11_plainKind 10 = .ok (.goto 30, 3) := by decide +kernel
theorem dX11_plainKind_13 : decode cX11_plainKind 13 = .ok (.aload_n 0, 1) := by decide +kernel
theorem dX11_plainKind_14 : decode cX11_plainKind 14 = .ok (.bipush 12, 2) := by decide +kernel
theorem dX11_plainKind_16 : decode cX11_plainKind 16 = .ok (.invokevirtual 370, 3) := by decide +kernel
theorem dX11_plainKind_19 : decode cX11_plainKind 19 = .ok (.ifCond .eq 7, 3) := by decide +kernel
theorem dX11_plainKind_22 : decode cX11_plainKind 22 = .ok (.iconst 1, 1) := by decide +kernel
theorem dX11_plainKind_23 : decode cX11_plainKind 23 = .ok (.goto 17, 3) := by decide +kernel
theorem dX11_plainKind_26 : decode cX11_plainKind 26 = .ok (.aload_n 0, 1) := by decide +kernel
theorem dX11_plainKind_27 : decode cX11_plainKind 27 = .ok (.bipush 13, 2) := by decide +kernel
theorem dX11_plainKind_29 : decode cX11_plainKind 29 = .ok (.invokevirtual 370, 3) := by decide +kernel
theorem dX11_plainKind_32 : decode cX11_plainKind 32 = .ok (.ifCond .eq 7, 3) := by decide +kernel
theorem dX11_plainKind_35 : decode cX11_plainKind 35 = .ok (.iconst 2, 1) := by decide +kernel
theorem dX11_plainKind_36 : decode cX11_plainKind 36 = .ok (.goto 4, 3) := by decide +kernel
theorem dX11_plainKind_39 : decode cX11_plainKind 39 = .ok (.iconst (-1), 1) := by decide +kernel
theorem dX11_plainKind_40 : decode cX11_plainKind 40 = .ok (.istore_n 1, 1) := by decide +kernel
theorem dX11_plainKind_41 : decode cX11_plainKind 41 = .ok (.iload_n 1, 1) := by decide +kernel
theorem dX11_plainKind_42 : decode cX11_plainKind 42 = .ok (.ifCond .ge 10, 3) := by decide +kernel
theorem dX11_plainKind_45 : decode cX11_plainKind 45 = .ok (.aload_n 0, 1) := by decide +kernel
theorem dX11_plainKind_46 : decode cX11_plainKind 46 = .ok (.invokevirtual 352, 3) := by decide +kernel
theorem dX11_plainKind_49 : decode cX11_plainKind 49 = .ok (.goto 7, 3) := by decide +kernel
theorem dX11_plainKind_52 : decode cX11_plainKind 52 = .ok (.aload_n 0, 1) := by decide +kernel
theorem dX11_plainKind_53 : decode cX11_plainKind 53 = .ok (.invokevirtual 349, 3) := by decide +kernel
theorem dX11_plainKind_56 : decode cX11_plainKind 56 = .ok (.iload_n 1, 1) := by decide +kernel
theorem dX11_plainKind_57 : decode cX11_plainKind 57 = .ok (.ireturn, 1) := by decide +kernel
theorem dX11_put_0 : decode cX11_put 0 = .ok (.aload_n 0, 1) := by decide +kernel
theorem dX11_put_1 : decode cX11_put 1 = .ok (.getfield 7, 3) := by decide +kernel
theorem dX11_put_4 : decode cX11_put 4 = .ok (.aload_n 0, 1) := by decide +kernel
theorem dX11_put_5 : decode cX11_put 5 = .ok (.getfield 276, 3) := by decide +kernel
theorem dX11_put_8 : decode cX11_put 8 = .ok (.iload_n 1, 1) := by decide +kernel
theorem dX11_put_9 : decode cX11_put 9 = .ok (.bipush 24, 2) := by decide +kernel
theorem dX11_put_11 : decode cX11_put 11 = .ok (.ishr, 1) := by decide +kernel
theorem dX11_put_12 : decode cX11_put 12 = .ok (.i2b, 1) := by decide +kernel
theorem dX11_put_13 : decode cX11_put 13 = .ok (.bastore, 1) := by decide +kernel
theorem dX11_put_14 : decode cX11_put 14 = .ok (.aload_n 0, 1) := by decide +kernel
theorem dX11_put_15 : decode cX11_put 15 = .ok (.getfield 7, 3) := by decide +kernel
theorem dX11_put_18 : decode cX11_put 18 = .ok (.aload_n 0, 1) := by decide +kernel
theorem dX11_put_19 : decode cX11_put 19 = .ok (.getfield 276, 3) := by decide +kernel
theorem dX11_put_22 : decode cX11_put 22 = .ok (.iconst 1, 1) := by decide +kernel
theorem dX11_put_23 : decode cX11_put 23 = .ok (.iadd, 1) := by decide +kernel
theorem dX11_put_24 : decode cX11_put 24 = .ok (.iload_n 1, 1) := by decide +kernel
theorem dX11_put_25 : decode cX11_put 25 = .ok (.bipush 16, 2) := by decide +kernel
theorem dX11_put_27 : decode cX11_put 27 = .ok (.ishr, 1) := by decide +kernel
theorem dX11_put_28 : decode cX11_put 28 = .ok (.i2b, 1) := by decide +kernel
theorem dX11_put_29 : decode cX11_put 29 = .ok (.bastore, 1) := by decide +kernel
theorem dX11_put_30 : decode cX11_put 30 = .ok (.aload_n 0, 1) := by decide +kernel
theorem dX11_put_31 : decode cX11_put 31 = .ok (.getfield 7, 3) := by decide +kernel
theorem dX11_put_34 : decode cX11_put 34 = .ok (.aload_n 0, 1) := by decide +kernel
theorem dX11_put_35 : decode cX11_put 35 = .ok (.getfield 276, 3) := by decide +kernel
theorem dX11_put_38 : decode cX11_put 38 = .ok (.iconst 2, 1) := by decide +kernel
theorem dX11_put_39 : decode cX11_put 39 = .ok (.iadd, 1) := by decide +kernel
theorem dX11_put_40 : decode cX11_put 40 = .ok (.iload_n 1, 1) := by decide +kernel
theorem dX11_put_41 : decode cX11_put 41 = .ok (.bipush 8, 2) := by decide +kernel
theorem dX11_put_43 : decode cX11_put 43 = .ok (.ishr, 1) := by decide +kernel
theorem dX11_put_44 : decode cX11_put 44 = .ok (.i2b, 1) := by decide +kernel
theorem dX11_put_45 : decode cX11_put 45 = .ok (.bastore, 1) := by decide +kernel
theorem dX11_put_46 : decode cX11_put 46 = .ok (.aload_n 0, 1) := by decide +kernel
theorem dX11_put_47 : decode cX11_put 47 = .ok (.getfield 7, 3) := by decide +kernel
theorem dX11_put_50 : decode cX11_put 50 = .ok (.aload_n 0, 1) := by decide +kernel
theorem dX11_put_51 : decode cX11_put 51 = .ok (.getfield 276, 3) := by decide +kernel
theorem dX11_put_54 : decode cX11_put 54 = .ok (.iconst 3, 1) := by decide +kernel
theorem dX11_put_55 : decode cX11_put 55 = .ok (.iadd, 1) := by decide +kernel
theorem dX11_put_56 : decode cX11_put 56 = .ok (.iload_n 1, 1) := by decide +kernel
theorem dX11_put_57 : decode cX11_put 57 = .ok (.i2b, 1) := by decide +kernel
theorem dX11_put_58 : decode cX11_put 58 = .ok (.bastore, 1) := by decide +kernel
theorem dX11_put_59 : decode cX11_put 59 = .ok (.aload_n 0, 1) := by decide +kernel
theorem dX11_put_60 : decode cX11_put 60 = .ok (.dup, 1) := by decide +kernel
theorem dX11_put_61 : decode cX11_put 61 = .ok (.getfield 276, 3) := by decide +kernel
theorem dX11_put_64 : decode cX11_put 64 = .ok (.iconst 4, 1) := by decide +kernel
theorem dX11_put_65 : decode cX11_put 65 = .ok (.iadd, 1) := by decide +kernel
theorem dX11_put_66 : decode cX11_put 66 = .ok (.putfield 276, 3) := by decide +kernel
theorem dX11_put_69 : decode cX11_put 69 = .ok (.return_, 1) := by decide +kernel
theorem dX11_resultOf_0 : decode cX11_resultOf 0 = .ok (.aload_n 0, 1) := by decide +kernel
theorem dX11_resultOf_1 : decode cX11_resultOf 1 = .ok (.getfield 43, 3) := by decide +kernel
theorem dX11_resultOf_4 : decode cX11_resultOf 4 = .ok (.aload_n 0, 1) := by decide +kernel
theorem dX11_resultOf_5 : decode cX11_resultOf 5 = .ok (.getfield 33, 3) := by decide +kernel
theorem dX11_resultOf_8 : decode cX11_resultOf 8 = .ok (.iload_n 1, 1) := by decide +kernel
theorem dX11_resultOf_9 : decode cX11_resultOf 9 = .ok (.iaload, 1) := by decide +kernel
theorem dX11_resultOf_10 : decode cX11_resultOf 10 = .ok (.aload_n 0, 1) := by decide +kernel
theorem dX11_resultOf_11 : decode cX11_resultOf 11 = .ok (.getfield 30, 3) := by decide +kernel
theorem dX11_resultOf_14 : decode cX11_resultOf 14 = .ok (.iload_n 1, 1) := by decide +kernel
theorem dX11_resultOf_15 : decode cX11_resultOf 15 = .ok (.iaload, 1) := by decide +kernel
theorem dX11_resultOf_16 : decode cX11_resultOf 16 = .ok (.iadd, 1) := by decide +kernel
theorem dX11_resultOf_17 : decode cX11_resultOf 17 = .ok (.iconst 1, 1) := by decide +kernel
theorem dX11_resultOf_18 : decode cX11_resultOf 18 = .ok (.isub, 1) := by decide +kernel
theorem dX11_resultOf_19 : decode cX11_resultOf 19 = .ok (.iaload, 1) := by decide +kernel
theorem dX11_resultOf_20 : decode cX11_resultOf 20 = .ok (.ireturn, 1) := by decide +kernel
theorem dX11_rowOf_0 : decode cX11_rowOf 0 = .ok (.aload_n 0, 1) := by decide +kernel
theorem dX11_rowOf_1 : decode cX11_rowOf 1 = .ok (.getfield 46, 3) := by decide +kernel
theorem dX11_rowOf_4 : decode cX11_rowOf 4 = .ok (.sipush 3000, 3) := by decide +kernel
theorem dX11_rowOf_7 : decode cX11_rowOf 7 = .ok (.iload_n 1, 1) := by decide +kernel
theorem dX11_rowOf_8 : decode cX11_rowOf 8 = .ok (.iastore, 1) := by decide +kernel
theorem dX11_rowOf_9 : decode cX11_rowOf 9 = .ok (.aload_n 0, 1) := by decide +kernel
theorem dX11_rowOf_10 : decode cX11_rowOf 10 = .ok (.iconst 4, 1) := by decide +kernel
theorem dX11_rowOf_11 : decode cX11_rowOf 11 = .ok (.sipush 3000, 3) := by decide +kernel
theorem dX11_rowOf_14 : decode cX11_rowOf 14 = .ok (.iconst 1, 1) := by decide +kernel
theorem dX11_rowOf_15 : decode cX11_rowOf 15 = .ok (.invokevirtual 272, 3) := by decide +kernel
theorem dX11_rowOf_18 : decode cX11_rowOf 18 = .ok (.ireturn, 1) := by decide +kernel
theorem dX11_sign_0 : decode cX11_sign 0 = .ok (.aload_n 0, 1) := by decide +kernel
theorem dX11_sign_1 : decode cX11_sign 1 = .ok (.iconst 4, 1) := by decide +kernel
theorem dX11_sign_2 : decode cX11_sign 2 = .ok (.putfield 309, 3) := by decide +kernel
theorem dX11_sign_5 : decode cX11_sign 5 = .ok (.aload_n 0, 1) := by decide +kernel
theorem dX11_sign_6 : decode cX11_sign 6 = .ok (.iload_n 1, 1) := by decide +kernel
theorem dX11_sign_7 : decode cX11_sign 7 = .ok (.i2l, 1) := by decide +kernel
theorem dX11_sign_8 : decode cX11_sign 8 = .ok (.putfield 305, 3) := by decide +kernel
theorem dX11_sign_11 : decode cX11_sign 11 = .ok (.aload_n 0, 1) := by decide +kernel
theorem dX11_sign_12 : decode cX11_sign 12 = .ok (.dup, 1) := by decide +kernel
theorem dX11_sign_13 : decode cX11_sign 13 = .ok (.getfield 299, 3) := by decide +kernel
theorem dX11_sign_16 : decode cX11_sign 16 = .ok (.iconst 1, 1) := by decide +kernel
theorem dX11_sign_17 : decode cX11_sign 17 = .ok (.iadd, 1) := by decide +kernel
theorem dX11_sign_18 : decode cX11_sign 18 = .ok (.putfield 299, 3) := by decide +kernel
theorem dX11_sign_21 : decode cX11_sign 21 = .ok (.iload_n 1, 1) := by decide +kernel
theorem dX11_sign_22 : decode cX11_sign 22 = .ok (.bipush 58, 2) := by decide +kernel
theorem dX11_sign_24 : decode cX11_sign 24 = .ok (.if_icmp .ne 46, 3) := by decide +kernel
theorem dX11_sign_27 : decode cX11_sign 27 = .ok (.aload_n 0, 1) := by decide +kernel
theorem dX11_sign_28 : decode cX11_sign 28 = .ok (.getfield 299, 3) := by decide +kernel
theorem dX11_sign_31 : decode cX11_sign 31 = .ok (.aload_n 0, 1) := by decide +kernel
theorem dX11_sign_32 : decode cX11_sign 32 = .ok (.getfield 302, 3) := by decide +kernel
theorem dX11_sign_35 : decode cX11_sign 35 = .ok (.if_icmp .ge 35, 3) := by decide +kernel
theorem dX11_sign_38 : decode cX11_sign 38 = .ok (.aload_n 0, 1) := by decide +kernel
theorem dX11_sign_39 : decode cX11_sign 39 = .ok (.getfield 13, 3) := by decide +kernel
theorem dX11_sign_42 : decode cX11_sign 42 = .ok (.aload_n 0, 1) := by decide +kernel
theorem dX11_sign_43 : decode cX11_sign 43 = .ok (.getfield 299, 3) := by decide +kernel
theorem dX11_sign_46 : decode cX11_sign 46 = .ok (.baload, 1) := by decide +kernel
theorem dX11_sign_47 : decode cX11_sign 47 = .ok (.bipush 61, 2) := by decide +kernel
theorem dX11_sign_49 : decode cX11_sign 49 = .ok (.if_icmp .ne 21, 3) := by decide +kernel
theorem dX11_sign_52 : decode cX11_sign 52 = .ok (.aload_n 0, 1) := by decide +kernel
theorem dX11_sign_53 : decode cX11_sign 53 = .ok (.ldc2_w 339, 3) := by decide +kernel
theorem dX11_sign_56 : decode cX11_sign 56 = .ok (.putfield 305, 3) := by decide +kernel
theorem dX11_sign_59 : decode cX11_sign 59 = .ok (.aload_n 0, 1) := by decide +kernel
theorem dX11_sign_60 : decode cX11_sign 60 = .ok (.dup, 1) := by decide +kernel
theorem dX11_sign_61 : decode cX11_sign 61 = .ok (.getfield 299, 3) := by decide +kernel
theorem dX11_sign_64 : decode cX11_sign 64 = .ok (.iconst 1, 1) := by decide +kernel
theorem dX11_sign_65 : decode cX11_sign 65 = .ok (.iadd, 1) := by decide +kernel
theorem dX11_sign_66 : decode cX11_sign 66 = .ok (.putfield 299, 3) := by decide +kernel
theorem dX11_sign_69 : decode cX11_sign 69 = .ok (.return_, 1) := by decide +kernel
theorem dX11_sign_70 : decode cX11_sign 70 = .ok (.iload_n 1, 1) := by decide +kernel
theorem dX11_sign_71 : decode cX11_sign 71 = .ok (.lookupswitch 148 #[(33, 145), (37, 145), (40, 145), (41, 145), (42, 145), (43, 145), (44, 145), (45, 145), (47, 145), (58, 145), (59, 145), (60, 145), (61, 145), (91, 145), (93, 145), (123, 145), (125, 145)], 145) := by decide +kernel
theorem dX11_sign_216 : decode cX11_sign 216 = .ok (.goto 8, 3) := by decide +kernel
theorem dX11_sign_219 : decode cX11_sign 219 = .ok (.aload_n 0, 1) := by decide +kernel
theorem dX11_sign_220 : decode cX11_sign 220 = .ok (.iconst 5, 1) := by decide +kernel
theorem dX11_sign_221 : decode cX11_sign 221 = .ok (.putfield 309, 3) := by decide +kernel
theorem dX11_sign_224 : decode cX11_sign 224 = .ok (.return_, 1) := by decide +kernel
theorem dX11_stray_0 : decode cX11_stray 0 = .ok (.aload_n 0, 1) := by decide +kernel
theorem dX11_stray_1 : decode cX11_stray 1 = .ok (.iconst 1, 1) := by decide +kernel
theorem dX11_stray_2 : decode cX11_stray 2 = .ok (.aload_n 0, 1) := by decide +kernel
theorem dX11_stray_3 : decode cX11_stray 3 = .ok (.getfield 292, 3) := by decide +kernel
theorem dX11_stray_6 : decode cX11_stray 6 = .ok (.invokevirtual 295, 3) := by decide +kernel
theorem dX11_stray_9 : decode cX11_stray 9 = .ok (.return_, 1) := by decide +kernel
theorem dX11_takes_0 : decode cX11_takes 0 = .ok (.aload_n 0, 1) := by decide +kernel
theorem dX11_takes_1 : decode cX11_takes 1 = .ok (.iload_n 1, 1) := by decide +kernel
theorem dX11_takes_2 : decode cX11_takes 2 = .ok (.invokevirtual 345, 3) := by decide +kernel
theorem dX11_takes_5 : decode cX11_takes 5 = .ok (.ifCond .eq 10, 3) := by decide +kernel
theorem dX11_takes_8 : decode cX11_takes 8 = .ok (.aload_n 0, 1) := by decide +kernel
theorem dX11_takes_9 : decode cX11_takes 9 = .ok (.invokevirtual 349, 3) := by decide +kernel
theorem dX11_takes_12 : decode cX11_takes 12 = .ok (.goto 7, 3) := by decide +kernel
theorem dX11_takes_15 : decode cX11_takes 15 = .ok (.aload_n 0, 1) := by decide +kernel
theorem dX11_takes_16 : decode cX11_takes 16 = .ok (.invokevirtual 352, 3) := by decide +kernel
theorem dX11_takes_19 : decode cX11_takes 19 = .ok (.return_, 1) := by decide +kernel
theorem dX11_wordOf_0 : decode cX11_wordOf 0 = .ok (.lload_n 0, 1) := by decide +kernel
theorem dX11_wordOf_1 : decode cX11_wordOf 1 = .ok (.ldc2_w 337, 3) := by decide +kernel
theorem dX11_wordOf_4 : decode cX11_wordOf 4 = .ok (.lcmp, 1) := by decide +kernel
theorem dX11_wordOf_5 : decode cX11_wordOf 5 = .ok (.ifCond .le 5, 3) := by decide +kernel
theorem dX11_wordOf_8 : decode cX11_wordOf 8 = .ok (.iconst (-1), 1) := by decide +kernel
theorem dX11_wordOf_9 : decode cX11_wordOf 9 = .ok (.ireturn, 1) := by decide +kernel
theorem dX11_wordOf_10 : decode cX11_wordOf 10 = .ok (.lload_n 0, 1) := by decide +kernel
theorem dX11_wordOf_11 : decode cX11_wordOf 11 = .ok (.l2i, 1) := by decide +kernel
theorem dX11_wordOf_12 : decode cX11_wordOf 12 = .ok (.lookupswitch 171 #[(398, 168), (582, 138), (590, 136), (5017, 165), (37780, 159), (49492, 134), (57687, 150), (1361093, 142), (1622087, 162), (4199572, 132), (5019269, 153), (5275982, 140), (5317957, 144), (100975813, 147), (273191828, 156)], 132) := by decide +kernel
theorem dX11_wordOf_144 : decode cX11_wordOf 144 = .ok (.iconst 0, 1) := by decide +kernel
theorem dX11_wordOf_145 : decode cX11_wordOf 145 = .ok (.ireturn, 1) := by decide +kernel
theorem dX11_wordOf_146 : decode cX11_wordOf 146 = .ok (.iconst 1, 1) := by decide +kernel
theorem dX11_wordOf_147 : decode cX11_wordOf 147 = .ok (.ireturn, 1) := by decide +kernel
theorem dX11_wordOf_148 : decode cX11_wordOf 148 = .ok (.iconst 2, 1) := by decide +kernel
theorem dX11_wordOf_149 : decode cX11_wordOf 149 = .ok (.ireturn, 1) := by decide +kernel
theorem dX11_wordOf_150 : decode cX11_wordOf 150 = .ok (.iconst 3, 1) := by decide +kernel
theorem dX11_wordOf_151 : decode cX11_wordOf 151 = .ok (.ireturn, 1) := by decide +kernel
theorem dX11_wordOf_152 : decode cX11_wordOf 152 = .ok (.iconst 4, 1) := by decide +kernel
theorem dX11_wordOf_153 : decode cX11_wordOf 153 = .ok (.ireturn, 1) := by decide +kernel
theorem dX11_wordOf_154 : decode cX11_wordOf 154 = .ok (.iconst 5, 1) := by decide +kernel
theorem dX11_wordOf_155 : decode cX11_wordOf 155 = .ok (.ireturn, 1) := by decide +kernel
theorem dX11_wordOf_156 : decode cX11_wordOf 156 = .ok (.bipush 6, 2) := by decide +kernel
theorem dX11_wordOf_158 : decode cX11_wordOf 158 = .ok (.ireturn, 1) := by decide +kernel
theorem dX11_wordOf_159 : decode cX11_wordOf 159 = .ok (.bipush 7, 2) := by decide +kernel
theorem dX11_wordOf_161 : decode cX11_wordOf 161 = .ok (.ireturn, 1) := by decide +kernel
theorem dX11_wordOf_162 : decode cX11_wordOf 162 = .ok (.bipush 8, 2) := by decide +kernel
theorem dX11_wordOf_164 : decode cX11_wordOf 164 = .ok (.ireturn, 1) := by decide +kernel
theorem dX11_wordOf_165 : decode cX11_wordOf 165 = .ok (.bipush 9, 2) := by decide +kernel
theorem dX11_wordOf_167 : decode cX11_wordOf 167 = .ok (.ireturn, 1) := by decide +kernel
theorem dX11_wordOf_168 : decode cX11_wordOf 168 = .ok (.bipush 10, 2) := by decide +kernel
theorem dX11_wordOf_170 : decode cX11_wordOf 170 = .ok (.ireturn, 1) := by decide +kernel
theorem dX11_wordOf_171 : decode cX11_wordOf 171 = .ok (.bipush 11, 2) := by decide +kernel
theorem dX11_wordOf_173 : decode cX11_wordOf 173 = .ok (.ireturn, 1) := by decide +kernel
theorem dX11_wordOf_174 : decode cX11_wordOf 174 = .ok (.bipush 12, 2) := by decide +kernel
theorem dX11_wordOf_176 : decode cX11_wordOf 176 = .ok (.ireturn, 1) := by decide +kernel
theorem dX11_wordOf_177 : decode cX11_wordOf 177 = .ok (.bipush 13, 2) := by decide +kernel
theorem dX11_wordOf_179 : decode cX11_wordOf 179 = .ok (.ireturn, 1) := by decide +kernel
theorem dX11_wordOf_180 : decode cX11_wordOf 180 = .ok (.bipush 14, 2) := by decide +kernel
theorem dX11_wordOf_182 : decode cX11_wordOf 182 = .ok (.ireturn, 1) := by decide +kernel
theorem dX11_wordOf_183 : decode cX11_wordOf 183 = .ok (.iconst (-1), 1) := by decide +kernel
theorem dX11_wordOf_184 : decode cX11_wordOf 184 = .ok (.ireturn, 1) := by decide +kernel
theorem k1361 : Cond.methodLink "BlameCourtModel" 272 yX11_kindOf ∈ gtb := gtm (in_tables_1_5 (List.mem_of_getElem? (i := 215) rfl)) rfl
theorem k1365 : Cond.fieldLink "BlameCourtModel" 7 "BlameCourtModel" "tape" "[B" ∈ gtb := gtm (in_tables_1_5 (List.mem_of_getElem? (i := 219) rfl)) rfl
theorem k1366 : Cond.fieldLink "BlameCourtModel" 276 "BlameCourtModel" "taped" "I" ∈ gtb := gtm (in_tables_1_5 (List.mem_of_getElem? (i := 220) rfl)) rfl
theorem k1367 : Cond.fieldLink "BlameCourtModel" 13 "BlameCourtModel" "text" "[B" ∈ gtb := gtm (in_tables_1_5 (List.mem_of_getElem? (i := 221) rfl)) rfl
theorem k1368 : Cond.fieldLink "BlameCourtModel" 302 "BlameCourtModel" "length" "I" ∈ gtb := gtm (in_tables_1_5 (List.mem_of_getElem? (i := 222) rfl)) rfl
theorem k1373 : Cond.fieldLink "BlameCourtModel" 299 "BlameCourtModel" "at" "I" ∈ gtb := gtm (in_tables_1_5 (List.mem_of_getElem? (i := 227) rfl)) rfl
theorem k1374 : Cond.fieldLink "BlameCourtModel" 292 "BlameCourtModel" "token" "I" ∈ gtb := gtm (in_tables_1_5 (List.mem_of_getElem? (i := 228) rfl)) rfl
theorem k1375 : Cond.fieldLink "BlameCourtModel" 309 "BlameCourtModel" "sort" "I" ∈ gtb := gtm (in_tables_1_5 (List.mem_of_getElem? (i := 229) rfl)) rfl
theorem k1376 : Cond.fieldLink "BlameCourtModel" 305 "BlameCourtModel" "told" "J" ∈ gtb := gtm (in_tables_1_5 (List.mem_of_getElem? (i := 230) rfl)) rfl
theorem k1377 : Cond.fieldLink "BlameCourtModel" 328 "BlameCourtModel" "letters" "I" ∈ gtb := gtm (in_tables_1_5 (List.mem_of_getElem? (i := 231) rfl)) rfl
theorem k1378 : Cond.fieldLink "BlameCourtModel" 286 "BlameCourtModel" "wrong" "I" ∈ gtb := gtm (in_tables_1_5 (List.mem_of_getElem? (i := 232) rfl)) rfl
theorem k1379 : Cond.fieldLink "BlameCourtModel" 289 "BlameCourtModel" "wrongAt" "I" ∈ gtb := gtm (in_tables_1_5 (List.mem_of_getElem? (i := 233) rfl)) rfl
theorem k1382 : Cond.fieldLink "BlameCourtModel" 267 "BlameCourtModel" "kinds" "I" ∈ gtb := gtm (in_tables_1_5 (List.mem_of_getElem? (i := 236) rfl)) rfl
theorem k1384 : Cond.fieldLink "BlameCourtModel" 26 "BlameCourtModel" "kSort" "[I" ∈ gtb := gtm (in_tables_1_5 (List.mem_of_getElem? (i := 238) rfl)) rfl
theorem k1385 : Cond.fieldLink "BlameCourtModel" 30 "BlameCourtModel" "kMany" "[I" ∈ gtb := gtm (in_tables_1_5 (List.mem_of_getElem? (i := 239) rfl)) rfl
theorem k1386 : Cond.fieldLink "BlameCourtModel" 33 "BlameCourtModel" "kFirst" "[I" ∈ gtb := gtm (in_tables_1_6 (List.mem_of_getElem? (i := 0) rfl)) rfl
theorem k1387 : Cond.fieldLink "BlameCourtModel" 36 "BlameCourtModel" "kCode" "[I" ∈ gtb := gtm (in_tables_1_6 (List.mem_of_getElem? (i := 1) rfl)) rfl
theorem k1388 : Cond.fieldLink "BlameCourtModel" 39 "BlameCourtModel" "kAny" "[Z" ∈ gtb := gtm (in_tables_1_6 (List.mem_of_getElem? (i := 2) rfl)) rfl
theorem k1389 : Cond.fieldLink "BlameCourtModel" 269 "BlameCourtModel" "listed" "I" ∈ gtb := gtm (in_tables_1_6 (List.mem_of_getElem? (i := 3) rfl)) rfl
theorem k1391 : Cond.fieldLink "BlameCourtModel" 43 "BlameCourtModel" "kList" "[I" ∈ gtb := gtm (in_tables_1_6 (List.mem_of_getElem? (i := 5) rfl)) rfl
theorem k1392 : Cond.fieldLink "BlameCourtModel" 46 "BlameCourtModel" "given" "[I" ∈ gtb := gtm (in_tables_1_6 (List.mem_of_getElem? (i := 6) rfl)) rfl
theorem k1417 : Cond.fieldLink "BlameCourtModel" 110 "BlameCourtModel" "pairA" "[I" ∈ gtb := gtm (in_tables_1_6 (List.mem_of_getElem? (i := 31) rfl)) rfl
theorem k1418 : Cond.fieldLink "BlameCourtModel" 113 "BlameCourtModel" "pairB" "[I" ∈ gtb := gtm (in_tables_1_6 (List.mem_of_getElem? (i := 32) rfl)) rfl
theorem k1419 : Cond.fieldLink "BlameCourtModel" 355 "BlameCourtModel" "nest" "I" ∈ gtb := gtm (in_tables_1_6 (List.mem_of_getElem? (i := 33) rfl)) rfl
theorem k1757 : Cond.methodLink "BlameCourtModel" 279 yX11_put ∈ gtb := gtm (in_tables_1_7 (List.mem_of_getElem? (i := 131) rfl)) rfl
theorem k1765 : Cond.methodLink "BlameCourtModel" 282 yX11_in ∈ gtb := gtm (in_tables_1_7 (List.mem_of_getElem? (i := 139) rfl)) rfl
theorem k1766 : Cond.static yX11_in ∈ gtb := gtm (in_tables_1_7 (List.mem_of_getElem? (i := 140) rfl)) rfl
theorem k1776 : Cond.methodLink "BlameCourtModel" 349 yX11_next ∈ gtb := gtm (in_tables_1_7 (List.mem_of_getElem? (i := 150) rfl)) rfl
theorem k1780 : Cond.methodLink "BlameCourtModel" 312 yX11_letterOf ∈ gtb := gtm (in_tables_1_7 (List.mem_of_getElem? (i := 154) rfl)) rfl
theorem k1781 : Cond.static yX11_letterOf ∈ gtb := gtm (in_tables_1_7 (List.mem_of_getElem? (i := 155) rfl)) rfl
theorem k1783 : Cond.methodLink "BlameCourtModel" 316 yX11_name ∈ gtb := gtm (in_tables_1_7 (List.mem_of_getElem? (i := 157) rfl)) rfl
theorem k1787 : Cond.constantLong "BlameCourtModel" 331 64 ∈ gtb := gtm (in_tables_1_7 (List.mem_of_getElem? (i := 161) rfl)) rfl
theorem k1788 : Cond.methodLink "BlameCourtModel" 333 yX11_wordOf ∈ gtb := gtm (in_tables_1_7 (List.mem_of_getElem? (i := 162) rfl)) rfl
theorem k1789 : Cond.static yX11_wordOf ∈ gtb := gtm (in_tables_1_7 (List.mem_of_getElem? (i := 163) rfl)) rfl
theorem k1791 : Cond.constantLong "BlameCourtModel" 337 2000000000 ∈ gtb := gtm (in_tables_1_7 (List.mem_of_getElem? (i := 165) rfl)) rfl
theorem k1792 : Cond.constantLong "BlameCourtModel" 319 2147483647 ∈ gtb := gtm (in_tables_1_7 (List.mem_of_getElem? (i := 166) rfl)) rfl
theorem k1793 : Cond.constantLong "BlameCourtModel" 321 10 ∈ gtb := gtm (in_tables_1_7 (List.mem_of_getElem? (i := 167) rfl)) rfl
theorem k1794 : Cond.constantLong "BlameCourtModel" 323 48 ∈ gtb := gtm (in_tables_1_7 (List.mem_of_getElem? (i := 168) rfl)) rfl
theorem k1795 : Cond.methodLink "BlameCourtModel" 325 yX11_sign ∈ gtb := gtm (in_tables_1_7 (List.mem_of_getElem? (i := 169) rfl)) rfl
theorem k1799 : Cond.constantLong "BlameCourtModel" 339 1000 ∈ gtb := gtm (in_tables_1_7 (List.mem_of_getElem? (i := 173) rfl)) rfl
theorem k1800 : Cond.methodLink "BlameCourtModel" 341 yX11_isWell ∈ gtb := gtm (in_tables_1_7 (List.mem_of_getElem? (i := 174) rfl)) rfl
theorem k1804 : Cond.methodLink "BlameCourtModel" 370 yX11_isWord ∈ gtb := gtm (in_tables_1_7 (List.mem_of_getElem? (i := 178) rfl)) rfl
theorem k1808 : Cond.methodLink "BlameCourtModel" 352 yX11_stray ∈ gtb := gtm (in_tables_1_7 (List.mem_of_getElem? (i := 182) rfl)) rfl
theorem k1812 : Cond.methodLink "BlameCourtModel" 295 yX11_fails ∈ gtb := gtm (in_tables_1_7 (List.mem_of_getElem? (i := 186) rfl)) rfl
theorem k1824 : Cond.methodLink "BlameCourtModel" 345 yX11_isSign ∈ gtb := gtm (in_tables_1_7 (List.mem_of_getElem? (i := 198) rfl)) rfl
theorem k1828 : Cond.methodLink "BlameCourtModel" 358 yX11_nests ∈ gtb := gtm (in_tables_1_7 (List.mem_of_getElem? (i := 202) rfl)) rfl
theorem k1836 : Cond.methodLink "BlameCourtModel" 361 yX11_takes ∈ gtb := gtm (in_tables_1_7 (List.mem_of_getElem? (i := 210) rfl)) rfl
theorem k2039 : Cond.code yX11_anyFunction cX11_anyFunction 3 (some .int) ∈ gtb := gtm (in_tables_1_8 (List.mem_of_getElem? (i := 173) rfl)) rfl
theorem k197 : Cond.initialized "BlameCourtModel" ∈ gtb := gtm (in_tables_1_1 (List.mem_of_getElem? (i := 11) rfl)) rfl
theorem ka_X11_anyFunction : KA yX11_anyFunction cX11_anyFunction 3 (some .int) 1 := ⟨k2039, k197, by decide, by decide, by decide +kernel⟩
theorem k2038 : Cond.instanceMethod yX11_anyFunction ∈ gtb := gtm (in_tables_1_8 (List.mem_of_getElem? (i := 172) rfl)) rfl
theorem k156 : Cond.selects "BlameCourtModel" yX11_anyFunction yX11_anyFunction ∈ gtb := gtm (in_lw_privs_10 (q := (yX11_anyFunction, 129)) (List.mem_of_getElem? (i := 12) rfl)) rfl
theorem kv_X11_anyFunction : KV yX11_anyFunction := ⟨k2038, k156⟩
theorem k1835 : Cond.code yX11_closes cX11_closes 2 none ∈ gtb := gtm (in_tables_1_7 (List.mem_of_getElem? (i := 209) rfl)) rfl
theorem ka_X11_closes : KA yX11_closes cX11_closes 2 none 1 := ⟨k1835, k197, by decide, by decide, by decide +kernel⟩
theorem k1834 : Cond.instanceMethod yX11_closes ∈ gtb := gtm (in_tables_1_7 (List.mem_of_getElem? (i := 208) rfl)) rfl
theorem k110 : Cond.selects "BlameCourtModel" yX11_closes yX11_closes ∈ gtb := gtm (in_lw_privs_7 (q := (yX11_closes, 129)) (List.mem_of_getElem? (i := 14) rfl)) rfl
theorem kv_X11_closes : KV yX11_closes := ⟨k1834, k110⟩
theorem k2051 : Cond.code yX11_elementOf cX11_elementOf 2 (some .int) ∈ gtb := gtm (in_tables_1_8 (List.mem_of_getElem? (i := 185) rfl)) rfl
theorem ka_X11_elementOf : KA yX11_elementOf cX11_elementOf 2 (some .int) 1 := ⟨k2051, k197, by decide, by decide, by decide +kernel⟩
theorem k2050 : Cond.instanceMethod yX11_elementOf ∈ gtb := gtm (in_tables_1_8 (List.mem_of_getElem? (i := 184) rfl)) rfl
theorem k159 : Cond.selects "BlameCourtModel" yX11_elementOf yX11_elementOf ∈ gtb := gtm (in_lw_privs_10 (q := (yX11_elementOf, 129)) (List.mem_of_getElem? (i := 15) rfl)) rfl
theorem kv_X11_elementOf : KV yX11_elementOf := ⟨k2050, k159⟩
theorem k1764 : Cond.code yX11_end cX11_end 2 (some .int) ∈ gtb := gtm (in_tables_1_7 (List.mem_of_getElem? (i := 138) rfl)) rfl
theorem ka_X11_end : KA yX11_end cX11_end 2 (some .int) 1 := ⟨k1764, k197, by decide, by decide, by decide +kernel⟩
theorem k1762 : Cond.instanceMethod yX11_end ∈ gtb := gtm (in_tables_1_7 (List.mem_of_getElem? (i := 136) rfl)) rfl
theorem k1763 : Cond.selects "BlameCourtModel" yX11_end yX11_end ∈ gtb := gtm (in_tables_1_7 (List.mem_of_getElem? (i := 137) rfl)) rfl
theorem kv_X11_end : KV yX11_end := ⟨k1762, k1763⟩
theorem k1815 : Cond.code yX11_fails cX11_fails 3 none ∈ gtb := gtm (in_tables_1_7 (List.mem_of_getElem? (i := 189) rfl)) rfl
theorem ka_X11_fails : KA yX11_fails cX11_fails 3 none 2 := ⟨k1815, k197, by decide, by decide, by decide +kernel⟩
theorem k1814 : Cond.instanceMethod yX11_fails ∈ gtb := gtm (in_tables_1_7 (List.mem_of_getElem? (i := 188) rfl)) rfl
theorem k105 : Cond.selects "BlameCourtModel" yX11_fails yX11_fails ∈ gtb := gtm (in_lw_privs_7 (q := (yX11_fails, 129)) (List.mem_of_getElem? (i := 9) rfl)) rfl
theorem kv_X11_fails : KV yX11_fails := ⟨k1814, k105⟩
theorem k1756 : Cond.code yX11_feed cX11_feed 6 (some .int) ∈ gtb := gtm (in_tables_1_7 (List.mem_of_getElem? (i := 130) rfl)) rfl
theorem ka_X11_feed : KA yX11_feed cX11_feed 6 (some .int) 5 := ⟨k1756, k197, by decide, by decide, by decide +kernel⟩
theorem k1754 : Cond.instanceMethod yX11_feed ∈ gtb := gtm (in_tables_1_7 (List.mem_of_getElem? (i := 128) rfl)) rfl
theorem k1755 : Cond.selects "BlameCourtModel" yX11_feed yX11_feed ∈ gtb := gtm (in_tables_1_7 (List.mem_of_getElem? (i := 129) rfl)) rfl
theorem kv_X11_feed : KV yX11_feed := ⟨k1754, k1755⟩
theorem k2027 : Cond.code yX11_fits cX11_fits 7 (some .boolean) ∈ gtb := gtm (in_tables_1_8 (List.mem_of_getElem? (i := 161) rfl)) rfl
theorem ka_X11_fits : KA yX11_fits cX11_fits 7 (some .boolean) 2 := ⟨k2027, k197, by decide, by decide, by decide +kernel⟩
theorem k2026 : Cond.instanceMethod yX11_fits ∈ gtb := gtm (in_tables_1_8 (List.mem_of_getElem? (i := 160) rfl)) rfl
theorem k153 : Cond.selects "BlameCourtModel" yX11_fits yX11_fits ∈ gtb := gtm (in_lw_privs_10 (q := (yX11_fits, 129)) (List.mem_of_getElem? (i := 9) rfl)) rfl
theorem kv_X11_fits : KV yX11_fits := ⟨k2026, k153⟩
theorem k1767 : Cond.code yX11_in cX11_in 3 (some .boolean) ∈ gtb := gtm (in_tables_1_7 (List.mem_of_getElem? (i := 141) rfl)) rfl
theorem ka_X11_in : KA yX11_in cX11_in 3 (some .boolean) 3 := ⟨k1767, k197, by decide, by decide, by decide +kernel⟩
theorem k1827 : Cond.code yX11_isSign cX11_isSign 2 (some .boolean) ∈ gtb := gtm (in_tables_1_7 (List.mem_of_getElem? (i := 201) rfl)) rfl
theorem ka_X11_isSign : KA yX11_isSign cX11_isSign 2 (some .boolean) 1 := ⟨k1827, k197, by decide, by decide, by decide +kernel⟩
theorem k1826 : Cond.instanceMethod yX11_isSign ∈ gtb := gtm (in_tables_1_7 (List.mem_of_getElem? (i := 200) rfl)) rfl
theorem k108 : Cond.selects "BlameCourtModel" yX11_isSign yX11_isSign ∈ gtb := gtm (in_lw_privs_7 (q := (yX11_isSign, 129)) (List.mem_of_getElem? (i := 12) rfl)) rfl
theorem kv_X11_isSign : KV yX11_isSign := ⟨k1826, k108⟩
theorem k1803 : Cond.code yX11_isWell cX11_isWell 1 (some .boolean) ∈ gtb := gtm (in_tables_1_7 (List.mem_of_getElem? (i := 177) rfl)) rfl
theorem ka_X11_isWell : KA yX11_isWell cX11_isWell 1 (some .boolean) 0 := ⟨k1803, k197, by decide, by decide, by decide +kernel⟩
theorem k1802 : Cond.instanceMethod yX11_isWell ∈ gtb := gtm (in_tables_1_7 (List.mem_of_getElem? (i := 176) rfl)) rfl
theorem k102 : Cond.selects "BlameCourtModel" yX11_isWell yX11_isWell ∈ gtb := gtm (in_lw_privs_7 (q := (yX11_isWell, 129)) (List.mem_of_getElem? (i := 6) rfl)) rfl
theorem kv_X11_isWell : KV yX11_isWell := ⟨k1802, k102⟩
theorem k1807 : Cond.code yX11_isWord cX11_isWord 2 (some .boolean) ∈ gtb := gtm (in_tables_1_7 (List.mem_of_getElem? (i := 181) rfl)) rfl
theorem ka_X11_isWord : KA yX11_isWord cX11_isWord 2 (some .boolean) 1 := ⟨k1807, k197, by decide, by decide, by decide +kernel⟩
theorem k1806 : Cond.instanceMethod yX11_isWord ∈ gtb := gtm (in_tables_1_7 (List.mem_of_getElem? (i := 180) rfl)) rfl
theorem k103 : Cond.selects "BlameCourtModel" yX11_isWord yX11_isWord ∈ gtb := gtm (in_lw_privs_7 (q := (yX11_isWord, 129)) (List.mem_of_getElem? (i := 7) rfl)) rfl
theorem kv_X11_isWord : KV yX11_isWord := ⟨k1806, k103⟩
theorem k1364 : Cond.code yX11_kindOf cX11_kindOf 7 (some .int) ∈ gtb := gtm (in_tables_1_5 (List.mem_of_getElem? (i := 218) rfl)) rfl
theorem ka_X11_kindOf : KA yX11_kindOf cX11_kindOf 7 (some .int) 3 := ⟨k1364, k197, by decide, by decide, by decide +kernel⟩
theorem k1363 : Cond.instanceMethod yX11_kindOf ∈ gtb := gtm (in_tables_1_5 (List.mem_of_getElem? (i := 217) rfl)) rfl
theorem k96 : Cond.selects "BlameCourtModel" yX11_kindOf yX11_kindOf ∈ gtb := gtm (in_lw_privs_7 (q := (yX11_kindOf, 129)) (List.mem_of_getElem? (i := 0) rfl)) rfl
theorem kv_X11_kindOf : KV yX11_kindOf := ⟨k1363, k96⟩
theorem k1360 : Cond.code yX11_kinds cX11_kinds 2 none ∈ gtb := gtm (in_tables_1_5 (List.mem_of_getElem? (i := 214) rfl)) rfl
theorem ka_X11_kinds : KA yX11_kinds cX11_kinds 2 none 1 := ⟨k1360, k197, by decide, by decide, by decide +kernel⟩
theorem k1359 : Cond.instanceMethod yX11_kinds ∈ gtb := gtm (in_tables_1_5 (List.mem_of_getElem? (i := 213) rfl)) rfl
theorem k95 : Cond.selects "BlameCourtModel" yX11_kinds yX11_kinds ∈ gtb := gtm (in_lw_privs_6 (q := (yX11_kinds, 129)) (List.mem_of_getElem? (i := 15) rfl)) rfl
theorem kv_X11_kinds : KV yX11_kinds := ⟨k1359, k95⟩
theorem k1782 : Cond.code yX11_letterOf cX11_letterOf 1 (some .int) ∈ gtb := gtm (in_tables_1_7 (List.mem_of_getElem? (i := 156) rfl)) rfl
theorem ka_X11_letterOf : KA yX11_letterOf cX11_letterOf 1 (some .int) 1 := ⟨k1782, k197, by decide, by decide, by decide +kernel⟩
theorem k1786 : Cond.code yX11_name cX11_name 2 none ∈ gtb := gtm (in_tables_1_7 (List.mem_of_getElem? (i := 160) rfl)) rfl
theorem ka_X11_name : KA yX11_name cX11_name 2 none 0 := ⟨k1786, k197, by decide, by decide, by decide +kernel⟩
theorem k1785 : Cond.instanceMethod yX11_name ∈ gtb := gtm (in_tables_1_7 (List.mem_of_getElem? (i := 159) rfl)) rfl
theorem k100 : Cond.selects "BlameCourtModel" yX11_name yX11_name ∈ gtb := gtm (in_lw_privs_7 (q := (yX11_name, 129)) (List.mem_of_getElem? (i := 4) rfl)) rfl
theorem kv_X11_name : KV yX11_name := ⟨k1785, k100⟩
theorem k1831 : Cond.code yX11_nests cX11_nests 1 none ∈ gtb := gtm (in_tables_1_7 (List.mem_of_getElem? (i := 205) rfl)) rfl
theorem ka_X11_nests : KA yX11_nests cX11_nests 1 none 0 := ⟨k1831, k197, by decide, by decide, by decide +kernel⟩
theorem k1830 : Cond.instanceMethod yX11_nests ∈ gtb := gtm (in_tables_1_7 (List.mem_of_getElem? (i := 204) rfl)) rfl
theorem k109 : Cond.selects "BlameCourtModel" yX11_nests yX11_nests ∈ gtb := gtm (in_lw_privs_7 (q := (yX11_nests, 129)) (List.mem_of_getElem? (i := 13) rfl)) rfl
theorem kv_X11_nests : KV yX11_nests := ⟨k1830, k109⟩
theorem k1779 : Cond.code yX11_next cX11_next 2 none ∈ gtb := gtm (in_tables_1_7 (List.mem_of_getElem? (i := 153) rfl)) rfl
theorem ka_X11_next : KA yX11_next cX11_next 2 none 0 := ⟨k1779, k197, by decide, by decide, by decide +kernel⟩
theorem k1778 : Cond.instanceMethod yX11_next ∈ gtb := gtm (in_tables_1_7 (List.mem_of_getElem? (i := 152) rfl)) rfl
theorem k99 : Cond.selects "BlameCourtModel" yX11_next yX11_next ∈ gtb := gtm (in_lw_privs_7 (q := (yX11_next, 129)) (List.mem_of_getElem? (i := 3) rfl)) rfl
theorem kv_X11_next : KV yX11_next := ⟨k1778, k99⟩
theorem k1823 : Cond.code yX11_opens cX11_opens 2 none ∈ gtb := gtm (in_tables_1_7 (List.mem_of_getElem? (i := 197) rfl)) rfl
theorem ka_X11_opens : KA yX11_opens cX11_opens 2 none 1 := ⟨k1823, k197, by decide, by decide, by decide +kernel⟩
theorem k1822 : Cond.instanceMethod yX11_opens ∈ gtb := gtm (in_tables_1_7 (List.mem_of_getElem? (i := 196) rfl)) rfl
theorem k107 : Cond.selects "BlameCourtModel" yX11_opens yX11_opens ∈ gtb := gtm (in_lw_privs_7 (q := (yX11_opens, 129)) (List.mem_of_getElem? (i := 11) rfl)) rfl
theorem kv_X11_opens : KV yX11_opens := ⟨k1822, k107⟩
theorem k2047 : Cond.code yX11_paramOf cX11_paramOf 3 (some .int) ∈ gtb := gtm (in_tables_1_8 (List.mem_of_getElem? (i := 181) rfl)) rfl
theorem ka_X11_paramOf : KA yX11_paramOf cX11_paramOf 3 (some .int) 2 := ⟨k2047, k197, by decide, by decide, by decide +kernel⟩
theorem k2046 : Cond.instanceMethod yX11_paramOf ∈ gtb := gtm (in_tables_1_8 (List.mem_of_getElem? (i := 180) rfl)) rfl
theorem k158 : Cond.selects "BlameCourtModel" yX11_paramOf yX11_paramOf ∈ gtb := gtm (in_lw_privs_10 (q := (yX11_paramOf, 129)) (List.mem_of_getElem? (i := 14) rfl)) rfl
theorem kv_X11_paramOf : KV yX11_paramOf := ⟨k2046, k158⟩
theorem k1851 : Cond.code yX11_plainKind cX11_plainKind 2 (some .int) ∈ gtb := gtm (in_tables_1_7 (List.mem_of_getElem? (i := 225) rfl)) rfl
theorem ka_X11_plainKind : KA yX11_plainKind cX11_plainKind 2 (some .int) 0 := ⟨k1851, k197, by decide, by decide, by decide +kernel⟩
theorem k1850 : Cond.instanceMethod yX11_plainKind ∈ gtb := gtm (in_tables_1_7 (List.mem_of_getElem? (i := 224) rfl)) rfl
theorem k114 : Cond.selects "BlameCourtModel" yX11_plainKind yX11_plainKind ∈ gtb := gtm (in_lw_privs_8 (q := (yX11_plainKind, 129)) (List.mem_of_getElem? (i := 2) rfl)) rfl
theorem kv_X11_plainKind : KV yX11_plainKind := ⟨k1850, k114⟩
theorem k1760 : Cond.code yX11_put cX11_put 2 none ∈ gtb := gtm (in_tables_1_7 (List.mem_of_getElem? (i := 134) rfl)) rfl
theorem ka_X11_put : KA yX11_put cX11_put 2 none 1 := ⟨k1760, k197, by decide, by decide, by decide +kernel⟩
theorem k1759 : Cond.instanceMethod yX11_put ∈ gtb := gtm (in_tables_1_7 (List.mem_of_getElem? (i := 133) rfl)) rfl
theorem k97 : Cond.selects "BlameCourtModel" yX11_put yX11_put ∈ gtb := gtm (in_lw_privs_7 (q := (yX11_put, 129)) (List.mem_of_getElem? (i := 1) rfl)) rfl
theorem kv_X11_put : KV yX11_put := ⟨k1759, k97⟩
theorem k2071 : Cond.code yX11_resultOf cX11_resultOf 2 (some .int) ∈ gtb := gtm (in_tables_1_8 (List.mem_of_getElem? (i := 205) rfl)) rfl
theorem ka_X11_resultOf : KA yX11_resultOf cX11_resultOf 2 (some .int) 1 := ⟨k2071, k197, by decide, by decide, by decide +kernel⟩
theorem k2070 : Cond.instanceMethod yX11_resultOf ∈ gtb := gtm (in_tables_1_8 (List.mem_of_getElem? (i := 204) rfl)) rfl
theorem k164 : Cond.selects "BlameCourtModel" yX11_resultOf yX11_resultOf ∈ gtb := gtm (in_lw_privs_11 (q := (yX11_resultOf, 129)) (List.mem_of_getElem? (i := 4) rfl)) rfl
theorem kv_X11_resultOf : KV yX11_resultOf := ⟨k2070, k164⟩
theorem k1855 : Cond.code yX11_rowOf cX11_rowOf 2 (some .int) ∈ gtb := gtm (in_tables_1_7 (List.mem_of_getElem? (i := 229) rfl)) rfl
theorem ka_X11_rowOf : KA yX11_rowOf cX11_rowOf 2 (some .int) 1 := ⟨k1855, k197, by decide, by decide, by decide +kernel⟩
theorem k1854 : Cond.instanceMethod yX11_rowOf ∈ gtb := gtm (in_tables_1_7 (List.mem_of_getElem? (i := 228) rfl)) rfl
theorem k115 : Cond.selects "BlameCourtModel" yX11_rowOf yX11_rowOf ∈ gtb := gtm (in_lw_privs_8 (q := (yX11_rowOf, 129)) (List.mem_of_getElem? (i := 3) rfl)) rfl
theorem kv_X11_rowOf : KV yX11_rowOf := ⟨k1854, k115⟩
theorem k1798 : Cond.code yX11_sign cX11_sign 2 none ∈ gtb := gtm (in_tables_1_7 (List.mem_of_getElem? (i := 172) rfl)) rfl
theorem ka_X11_sign : KA yX11_sign cX11_sign 2 none 1 := ⟨k1798, k197, by decide, by decide, by decide +kernel⟩
theorem k1797 : Cond.instanceMethod yX11_sign ∈ gtb := gtm (in_tables_1_7 (List.mem_of_getElem? (i := 171) rfl)) rfl
theorem k101 : Cond.selects "BlameCourtModel" yX11_sign yX11_sign ∈ gtb := gtm (in_lw_privs_7 (q := (yX11_sign, 129)) (List.mem_of_getElem? (i := 5) rfl)) rfl
theorem kv_X11_sign : KV yX11_sign := ⟨k1797, k101⟩
theorem k1811 : Cond.code yX11_stray cX11_stray 1 none ∈ gtb := gtm (in_tables_1_7 (List.mem_of_getElem? (i := 185) rfl)) rfl
theorem ka_X11_stray : KA yX11_stray cX11_stray 1 none 0 := ⟨k1811, k197, by decide, by decide, by decide +kernel⟩
theorem k1810 : Cond.instanceMethod yX11_stray ∈ gtb := gtm (in_tables_1_7 (List.mem_of_getElem? (i := 184) rfl)) rfl
theorem k104 : Cond.selects "BlameCourtModel" yX11_stray yX11_stray ∈ gtb := gtm (in_lw_privs_7 (q := (yX11_stray, 129)) (List.mem_of_getElem? (i := 8) rfl)) rfl
theorem kv_X11_stray : KV yX11_stray := ⟨k1810, k104⟩
theorem k1839 : Cond.code yX11_takes cX11_takes 2 none ∈ gtb := gtm (in_tables_1_7 (List.mem_of_getElem? (i := 213) rfl)) rfl
theorem ka_X11_takes : KA yX11_takes cX11_takes 2 none 1 := ⟨k1839, k197, by decide, by decide, by decide +kernel⟩
theorem k1838 : Cond.instanceMethod yX11_takes ∈ gtb := gtm (in_tables_1_7 (List.mem_of_getElem? (i := 212) rfl)) rfl
theorem k111 : Cond.selects "BlameCourtModel" yX11_takes yX11_takes ∈ gtb := gtm (in_lw_privs_7 (q := (yX11_takes, 129)) (List.mem_of_getElem? (i := 15) rfl)) rfl
theorem kv_X11_takes : KV yX11_takes := ⟨k1838, k111⟩
theorem k1790 : Cond.code yX11_wordOf cX11_wordOf 2 (some .int) ∈ gtb := gtm (in_tables_1_7 (List.mem_of_getElem? (i := 164) rfl)) rfl
theorem ka_X11_wordOf : KA yX11_wordOf cX11_wordOf 2 (some .int) 1 := ⟨k1790, k197, by decide, by decide, by decide +kernel⟩
abbrev R_in : Room := { frames := 6, cells := 0, slots := 0, locals := 90 }
noncomputable def f_in (p0 : Int32) (p1 : Int32) (p2 : Int32) (X : St) : Option (Int32 × St) :=
  if p0.toInt < p1.toInt then
    some (0, X)
  else
    if p2.toInt < p0.toInt then
      some (0, X)
    else
      some (1, X)
set_option maxHeartbeats 4000000 in
set_option maxRecDepth 100000 in
theorem c_in (Γ : Gx) (p0 : Int32) (p1 : Int32) (p2 : Int32) (X : St) : TMI YR Γ yX11_in cX11_in 3 "BlameCourtModel" (some .boolean) R_in [.int p0, .int p1, .int p2] X (f_in p0 p1 p2 X) := by
  refine TMI.of (by decide) (Nat.le_of_ble_eq_true rfl) rfl ?_
  show T YR Γ cX11_in 3 "BlameCourtModel" (some .boolean) R_in _ qI 0 [(0, .int p0), (1, .int p1), (2, .int p2)] [] X (f_in p0 p1 p2 X)
  unfold f_in
  refine T.iload_n dX11_in_0 rfl 0 rfl ?_
  refine T.iload_n dX11_in_1 rfl 1 rfl ?_
  refine T.icmp_lt (pc1 := 14) dX11_in_2 (by decide) rfl ?_ ?_
  · refine T.iconst (w := 0) dX11_in_14 (by decide) ?_
    exact T.ret_z rfl dX11_in_15 rfl
  · refine T.iload_n dX11_in_5 rfl 0 rfl ?_
    refine T.iload_n dX11_in_6 rfl 2 rfl ?_
    refine T.icmp_gt (pc1 := 14) dX11_in_7 (by decide) rfl ?_ ?_
    · refine T.iconst (w := 0) dX11_in_14 (by decide) ?_
      exact T.ret_z rfl dX11_in_15 rfl
    · refine T.iconst (w := 1) dX11_in_10 (by decide) ?_
      refine T.goto (pc1 := 15) dX11_in_11 (by decide) ?_
      exact T.ret_z rfl dX11_in_15 rfl
abbrev R_kindOf : Room := { frames := 6, cells := 0, slots := 0, locals := 90 }
noncomputable def f_kindOf_315 (r212 : Int32 → Int32 → Int32 → Int32 → Int32 → Int32 → St → Option (Int32 × St)) (a1 : Int32) (a2 : Int32) (a3 : Int32) (a4 : Int32) (a6 : Int32) (b0 : Int32) (X : St) : Option (Int32 × St) :=
  letV (a6 + Int32.ofInt (1)) fun x21 =>
  r212 a1 a2 a3 a4 b0 x21 X
set_option maxHeartbeats 4000000 in
set_option maxRecDepth 100000 in
theorem c_kindOf_315 (Γ : Gx) (As : List Value) (r212 : Int32 → Int32 → Int32 → Int32 → Int32 → Int32 → St → Option (Int32 × St)) (hr212 : ∀ (a1 : Int32) (a2 : Int32) (a3 : Int32) (a4 : Int32) (a5 : Int32) (a6 : Int32) (X : St), T YR Γ cX11_kindOf 7 "BlameCourtModel" (some .int) R_kindOf As qI 212 [(0, .ref (Γ.2.2.2.1 0)), (1, .int a1), (2, .int a2), (3, .int a3), (4, .int a4), (5, .int a5), (6, .int a6)] [] X (r212 a1 a2 a3 a4 a5 a6 X)) (a1 : Int32) (a2 : Int32) (a3 : Int32) (a4 : Int32) (a6 : Int32) (b0 : Int32) (X : St) : T YR Γ cX11_kindOf 7 "BlameCourtModel" (some .int) R_kindOf As qI 315 [(0, .ref (Γ.2.2.2.1 0)), (1, .int a1), (2, .int a2), (3, .int a3), (4, .int a4), (6, .int a6)] [.int b0] X (f_kindOf_315 r212 a1 a2 a3 a4 a6 b0 X) := by
  unfold f_kindOf_315
  refine T.istore (lv1 := [(5, .int b0), (0, .ref (Γ.2.2.2.1 0)), (1, .int a1), (2, .int a2), (3, .int a3), (4, .int a4), (6, .int a6)]) dX11_kindOf_315 (by decide) rfl ?_
  refine T.iinc dX11_kindOf_317 6 rfl (by decide) (lvf := fun x21 => [(6, .int x21), (5, .int b0), (0, .ref (Γ.2.2.2.1 0)), (1, .int a1), (2, .int a2), (3, .int a3), (4, .int a4)]) (fun _ => rfl) (fun x21 => ?_)
  refine T.goto (pc1 := 212) dX11_kindOf_320 (by decide) ?_
  refine T.sub [2, 3, 4, 5, 6, 1, 0] rfl ?_
  exact hr212 a1 a2 a3 a4 b0 x21 X
noncomputable def f_kindOf_284 (r212 : Int32 → Int32 → Int32 → Int32 → Int32 → Int32 → St → Option (Int32 × St)) (a1 : Int32) (a2 : Int32) (a3 : Int32) (a4 : Int32) (a5 : Int32) (a6 : Int32) (b0 : Int32) (b1 : Int32) (X : St) : Option (Int32 × St) :=
  chk (inR b1 6000) (letV (wI X 8 (ix b1) (vp_nar .boolean b0)) fun X20 =>
  if a1.toInt = 5 then
    letV ((31 : Int32) * a5) fun x22 =>
    letV (a2 + a6) fun x23 =>
    chk (inR x23 3100) (letV (X20.1 10 (ix x23)) fun x24 =>
    chk (inR x24 6000) (letV (X20.1 7 (ix x24)) fun x25 =>
    letV (x22 + x25) fun x26 =>
    f_kindOf_315 r212 a1 a2 a3 a4 a6 x26 X20))
  else
    f_kindOf_315 r212 a1 a2 a3 a4 a6 a5 X20)
set_option maxHeartbeats 4000000 in
set_option maxRecDepth 100000 in
theorem c_kindOf_284 (Γ : Gx) (As : List Value) (r212 : Int32 → Int32 → Int32 → Int32 → Int32 → Int32 → St → Option (Int32 × St)) (hr212 : ∀ (a1 : Int32) (a2 : Int32) (a3 : Int32) (a4 : Int32) (a5 : Int32) (a6 : Int32) (X : St), T YR Γ cX11_kindOf 7 "BlameCourtModel" (some .int) R_kindOf As qI 212 [(0, .ref (Γ.2.2.2.1 0)), (1, .int a1), (2, .int a2), (3, .int a3), (4, .int a4), (5, .int a5), (6, .int a6)] [] X (r212 a1 a2 a3 a4 a5 a6 X)) (a1 : Int32) (a2 : Int32) (a3 : Int32) (a4 : Int32) (a5 : Int32) (a6 : Int32) (b0 : Int32) (b1 : Int32) (X : St) : T YR Γ cX11_kindOf 7 "BlameCourtModel" (some .int) R_kindOf As qI 284 [(0, .ref (Γ.2.2.2.1 0)), (1, .int a1), (2, .int a2), (3, .int a3), (4, .int a4), (5, .int a5), (6, .int a6)] [.int b0, .int b1, .ref (Γ.2.2.2.1 8)] X (f_kindOf_284 r212 a1 a2 a3 a4 a5 a6 b0 b1 X) := by
  unfold f_kindOf_284
  refine asR8 dX11_kindOf_284 (fun X20 => ?_)
  refine T.iload_n dX11_kindOf_285 rfl 1 rfl ?_
  refine T.iconst (w := 5) dX11_kindOf_286 (by decide) ?_
  refine T.icmp_ne (pc1 := 313) dX11_kindOf_287 (by decide) rfl ?_ ?_
  · refine T.iload dX11_kindOf_313 5 rfl ?_
    refine T.sub [0, 1, 2, 3, 4, 6] rfl ?_
    exact c_kindOf_315 Γ _ r212 hr212 a1 a2 a3 a4 a6 a5 X20
  · refine T.bipush (w := 31) dX11_kindOf_290 (by decide) ?_
    refine T.iload dX11_kindOf_292 5 rfl ?_
    refine T.imul dX11_kindOf_294 (fun x22 => ?_)
    refine T.aload_n dX11_kindOf_295 rfl 0 rfl ?_
    refine cR54 k1387 dX11_kindOf_296 ?_
    refine T.aload_n dX11_kindOf_299 rfl 0 rfl ?_
    refine cR57 k1392 dX11_kindOf_300 ?_
    refine T.iload_n dX11_kindOf_303 rfl 2 rfl ?_
    refine T.iload dX11_kindOf_304 6 rfl ?_
    refine T.iadd dX11_kindOf_306 (fun x23 => ?_)
    refine alR10 dX11_kindOf_307 (fun x24 => ?_)
    refine alR7 dX11_kindOf_308 (fun x25 => ?_)
    refine T.iadd dX11_kindOf_309 (fun x26 => ?_)
    refine T.goto (pc1 := 315) dX11_kindOf_310 (by decide) ?_
    refine T.sub [0, 1, 2, 3, 4, 6] rfl ?_
    exact c_kindOf_315 Γ _ r212 hr212 a1 a2 a3 a4 a6 x26 X20
noncomputable def f_kindOf_279 (r212 : Int32 → Int32 → Int32 → Int32 → Int32 → Int32 → St → Option (Int32 × St)) (a1 : Int32) (a2 : Int32) (a3 : Int32) (a4 : Int32) (a5 : Int32) (a6 : Int32) (b0 : Int32) (X : St) : Option (Int32 × St) :=
  f_kindOf_284 r212 a1 a2 a3 a4 a5 a6 (1 : Int32) b0 X
set_option maxHeartbeats 4000000 in
set_option maxRecDepth 100000 in
theorem c_kindOf_279 (Γ : Gx) (As : List Value) (r212 : Int32 → Int32 → Int32 → Int32 → Int32 → Int32 → St → Option (Int32 × St)) (hr212 : ∀ (a1 : Int32) (a2 : Int32) (a3 : Int32) (a4 : Int32) (a5 : Int32) (a6 : Int32) (X : St), T YR Γ cX11_kindOf 7 "BlameCourtModel" (some .int) R_kindOf As qI 212 [(0, .ref (Γ.2.2.2.1 0)), (1, .int a1), (2, .int a2), (3, .int a3), (4, .int a4), (5, .int a5), (6, .int a6)] [] X (r212 a1 a2 a3 a4 a5 a6 X)) (a1 : Int32) (a2 : Int32) (a3 : Int32) (a4 : Int32) (a5 : Int32) (a6 : Int32) (b0 : Int32) (X : St) : T YR Γ cX11_kindOf 7 "BlameCourtModel" (some .int) R_kindOf As qI 279 [(0, .ref (Γ.2.2.2.1 0)), (1, .int a1), (2, .int a2), (3, .int a3), (4, .int a4), (5, .int a5), (6, .int a6)] [.int b0, .ref (Γ.2.2.2.1 8)] X (f_kindOf_279 r212 a1 a2 a3 a4 a5 a6 b0 X) := by
  unfold f_kindOf_279
  refine T.iconst (w := 1) dX11_kindOf_279 (by decide) ?_
  refine T.goto (pc1 := 284) dX11_kindOf_280 (by decide) ?_
  exact c_kindOf_284 Γ _ r212 hr212 a1 a2 a3 a4 a5 a6 (1 : Int32) b0 X
noncomputable def f_kindOf_212_s (r212 : Int32 → Int32 → Int32 → Int32 → Int32 → Int32 → St → Option (Int32 × St)) (a1 : Int32) (a2 : Int32) (a3 : Int32) (a4 : Int32) (a5 : Int32) (a6 : Int32) (X : St) : Option (Int32 × St) :=
  if a3.toInt ≤ a6.toInt then
    chk (inR a4 6000) (letV (wI X 7 (ix a4) a5) fun X11 =>
    some (a4, X11))
  else
    letV (X.1 0 15) fun x12 =>
    letV (a2 + a6) fun x13 =>
    chk (inR x13 3100) (letV (X.1 10 (ix x13)) fun x14 =>
    chk (inR x12 20000) (letV (wI X 9 (ix x12) x14) fun X15 =>
    letV (X15.1 0 15) fun x16 =>
    letV (x16 + (1 : Int32)) fun x17 =>
    letV (wI X15 0 15 x17) fun X18 =>
    chk (inR a4 6000) (letV (X18.1 8 (ix a4)) fun x19 =>
    if x19.toInt = 0 then
      letV (a2 + a6) fun x27 =>
      chk (inR x27 3100) (letV (X18.1 10 (ix x27)) fun x28 =>
      chk (inR x28 6000) (letV (X18.1 8 (ix x28)) fun x29 =>
      if x29.toInt = 0 then
        f_kindOf_284 r212 a1 a2 a3 a4 a5 a6 (0 : Int32) a4 X18
      else
        f_kindOf_279 r212 a1 a2 a3 a4 a5 a6 a4 X18))
    else
      f_kindOf_279 r212 a1 a2 a3 a4 a5 a6 a4 X18)))
noncomputable def f_kindOf_212 (n : Nat) : Int32 → Int32 → Int32 → Int32 → Int32 → Int32 → St → Option (Int32 × St) := lp (fun _ _ _ _ _ _ _ => none) (f_kindOf_212_s) n
set_option maxHeartbeats 4000000 in
set_option maxRecDepth 100000 in
theorem c_kindOf_212 (Γ : Gx) (As : List Value) (n : Nat) : ∀ (a1 : Int32) (a2 : Int32) (a3 : Int32) (a4 : Int32) (a5 : Int32) (a6 : Int32) (X : St), T YR Γ cX11_kindOf 7 "BlameCourtModel" (some .int) R_kindOf As qI 212 [(0, .ref (Γ.2.2.2.1 0)), (1, .int a1), (2, .int a2), (3, .int a3), (4, .int a4), (5, .int a5), (6, .int a6)] [] X (f_kindOf_212 n a1 a2 a3 a4 a5 a6 X) := by
  unfold f_kindOf_212
  refine lp_ind (P := fun (r212 : Int32 → Int32 → Int32 → Int32 → Int32 → Int32 → St → Option (Int32 × St)) => ∀ (a1 : Int32) (a2 : Int32) (a3 : Int32) (a4 : Int32) (a5 : Int32) (a6 : Int32) (X : St), T YR Γ cX11_kindOf 7 "BlameCourtModel" (some .int) R_kindOf As qI 212 [(0, .ref (Γ.2.2.2.1 0)), (1, .int a1), (2, .int a2), (3, .int a3), (4, .int a4), (5, .int a5), (6, .int a6)] [] X (r212 a1 a2 a3 a4 a5 a6 X)) (fun _ _ _ _ _ _ _ => T.no) ?_ n
  intro r212 hr212 a1 a2 a3 a4 a5 a6 X
  unfold f_kindOf_212_s
  refine T.iload dX11_kindOf_212 6 rfl ?_
  refine T.iload_n dX11_kindOf_214 rfl 3 rfl ?_
  refine T.icmp_ge (pc1 := 323) dX11_kindOf_215 (by decide) rfl ?_ ?_
  · refine T.aload_n dX11_kindOf_323 rfl 0 rfl ?_
    refine cR54 k1387 dX11_kindOf_324 ?_
    refine T.iload dX11_kindOf_327 4 rfl ?_
    refine T.iload dX11_kindOf_329 5 rfl ?_
    refine asR7 dX11_kindOf_331 (fun X11 => ?_)
    refine T.iload dX11_kindOf_332 4 rfl ?_
    exact T.ret_i rfl dX11_kindOf_334
  · refine T.aload_n dX11_kindOf_218 rfl 0 rfl ?_
    refine cR56 k1391 dX11_kindOf_219 ?_
    refine T.aload_n dX11_kindOf_222 rfl 0 rfl ?_
    refine gR15 k1389 dX11_kindOf_223 (fun x12 => ?_)
    refine T.aload_n dX11_kindOf_226 rfl 0 rfl ?_
    refine cR57 k1392 dX11_kindOf_227 ?_
    refine T.iload_n dX11_kindOf_230 rfl 2 rfl ?_
    refine T.iload dX11_kindOf_231 6 rfl ?_
    refine T.iadd dX11_kindOf_233 (fun x13 => ?_)
    refine alR10 dX11_kindOf_234 (fun x14 => ?_)
    refine asR9 dX11_kindOf_235 (fun X15 => ?_)
    refine T.aload_n dX11_kindOf_236 rfl 0 rfl ?_
    refine T.dupr dX11_kindOf_237 ?_
    refine gR15 k1389 dX11_kindOf_238 (fun x16 => ?_)
    refine T.iconst (w := 1) dX11_kindOf_241 (by decide) ?_
    refine T.iadd dX11_kindOf_242 (fun x17 => ?_)
    refine pR15 k1389 dX11_kindOf_243 (fun X18 => ?_)
    refine T.aload_n dX11_kindOf_246 rfl 0 rfl ?_
    refine cR55 k1388 dX11_kindOf_247 ?_
    refine T.iload dX11_kindOf_250 4 rfl ?_
    refine T.aload_n dX11_kindOf_252 rfl 0 rfl ?_
    refine cR55 k1388 dX11_kindOf_253 ?_
    refine T.iload dX11_kindOf_256 4 rfl ?_
    refine alR8 dX11_kindOf_258 (fun x19 => ?_)
    refine T.if_ne (pc1 := 279) dX11_kindOf_259 (by decide) ?_ ?_
    · exact c_kindOf_279 Γ _ r212 hr212 a1 a2 a3 a4 a5 a6 a4 X18
    · refine T.aload_n dX11_kindOf_262 rfl 0 rfl ?_
      refine cR55 k1388 dX11_kindOf_263 ?_
      refine T.aload_n dX11_kindOf_266 rfl 0 rfl ?_
      refine cR57 k1392 dX11_kindOf_267 ?_
      refine T.iload_n dX11_kindOf_270 rfl 2 rfl ?_
      refine T.iload dX11_kindOf_271 6 rfl ?_
      refine T.iadd dX11_kindOf_273 (fun x27 => ?_)
      refine alR10 dX11_kindOf_274 (fun x28 => ?_)
      refine alR8 dX11_kindOf_275 (fun x29 => ?_)
      refine T.if_eq (pc1 := 283) dX11_kindOf_276 (by decide) ?_ ?_
      · refine T.iconst (w := 0) dX11_kindOf_283 (by decide) ?_
        exact c_kindOf_284 Γ _ r212 hr212 a1 a2 a3 a4 a5 a6 (0 : Int32) a4 X18
      · exact c_kindOf_279 Γ _ r212 hr212 a1 a2 a3 a4 a5 a6 a4 X18
noncomputable def f_kindOf_207 (a1 : Int32) (a2 : Int32) (a3 : Int32) (a4 : Int32) (b0 : Int32) (X : St) : Option (Int32 × St) :=
  f_kindOf_212 BIG a1 a2 a3 a4 b0 (0 : Int32) X
set_option maxHeartbeats 4000000 in
set_option maxRecDepth 100000 in
theorem c_kindOf_207 (Γ : Gx) (As : List Value) (a1 : Int32) (a2 : Int32) (a3 : Int32) (a4 : Int32) (b0 : Int32) (X : St) : T YR Γ cX11_kindOf 7 "BlameCourtModel" (some .int) R_kindOf As qI 207 [(0, .ref (Γ.2.2.2.1 0)), (1, .int a1), (2, .int a2), (3, .int a3), (4, .int a4)] [.int b0] X (f_kindOf_207 a1 a2 a3 a4 b0 X) := by
  unfold f_kindOf_207
  refine T.istore (lv1 := [(5, .int b0), (0, .ref (Γ.2.2.2.1 0)), (1, .int a1), (2, .int a2), (3, .int a3), (4, .int a4)]) dX11_kindOf_207 (by decide) rfl ?_
  refine T.iconst (w := 0) dX11_kindOf_209 (by decide) ?_
  refine T.istore (lv1 := [(6, .int 0), (5, .int b0), (0, .ref (Γ.2.2.2.1 0)), (1, .int a1), (2, .int a2), (3, .int a3), (4, .int a4)]) dX11_kindOf_210 (by decide) rfl ?_
  refine T.sub [2, 3, 4, 5, 6, 1, 0] rfl ?_
  exact c_kindOf_212 Γ _ BIG a1 a2 a3 a4 b0 (0 : Int32) X
noncomputable def f_kindOf_168 (a1 : Int32) (a2 : Int32) (a3 : Int32) (a4 : Int32) (b0 : Int32) (b1 : Int32) (X : St) : Option (Int32 × St) :=
  chk (inR b1 6000) (letV (wI X 8 (ix b1) (vp_nar .boolean b0)) fun X10 =>
  if a1.toInt = 4 then
    chk (inR a2 3100) (letV (X10.1 10 (ix a2)) fun x32 =>
    chk (inR x32 6000) (letV (X10.1 7 (ix x32)) fun x33 =>
    letV ((5 : Int32) * x33) fun x34 =>
    letV (x34 + (4 : Int32)) fun x35 =>
    f_kindOf_207 a1 a2 a3 a4 x35 X10))
  else
    if a1.toInt = 5 then
      letV ((7 : Int32) + a3) fun x30 =>
      letV (x30 - (1 : Int32)) fun x31 =>
      f_kindOf_207 a1 a2 a3 a4 x31 X10
    else
      f_kindOf_207 a1 a2 a3 a4 a1 X10)
set_option maxHeartbeats 4000000 in
set_option maxRecDepth 100000 in
theorem c_kindOf_168 (Γ : Gx) (As : List Value) (a1 : Int32) (a2 : Int32) (a3 : Int32) (a4 : Int32) (b0 : Int32) (b1 : Int32) (X : St) : T YR Γ cX11_kindOf 7 "BlameCourtModel" (some .int) R_kindOf As qI 168 [(0, .ref (Γ.2.2.2.1 0)), (1, .int a1), (2, .int a2), (3, .int a3), (4, .int a4)] [.int b0, .int b1, .ref (Γ.2.2.2.1 8)] X (f_kindOf_168 a1 a2 a3 a4 b0 b1 X) := by
  unfold f_kindOf_168
  refine asR8 dX11_kindOf_168 (fun X10 => ?_)
  refine T.iload_n dX11_kindOf_169 rfl 1 rfl ?_
  refine T.iconst (w := 4) dX11_kindOf_170 (by decide) ?_
  refine T.icmp_ne (pc1 := 192) dX11_kindOf_171 (by decide) rfl ?_ ?_
  · refine T.iload_n dX11_kindOf_192 rfl 1 rfl ?_
    refine T.iconst (w := 5) dX11_kindOf_193 (by decide) ?_
    refine T.icmp_ne (pc1 := 206) dX11_kindOf_194 (by decide) rfl ?_ ?_
    · refine T.iload_n dX11_kindOf_206 rfl 1 rfl ?_
      exact c_kindOf_207 Γ _ a1 a2 a3 a4 a1 X10
    · refine T.bipush (w := 7) dX11_kindOf_197 (by decide) ?_
      refine T.iload_n dX11_kindOf_199 rfl 3 rfl ?_
      refine T.iadd dX11_kindOf_200 (fun x30 => ?_)
      refine T.iconst (w := 1) dX11_kindOf_201 (by decide) ?_
      refine T.isub dX11_kindOf_202 (fun x31 => ?_)
      refine T.goto (pc1 := 207) dX11_kindOf_203 (by decide) ?_
      exact c_kindOf_207 Γ _ a1 a2 a3 a4 x31 X10
  · refine T.iconst (w := 5) dX11_kindOf_174 (by decide) ?_
    refine T.aload_n dX11_kindOf_175 rfl 0 rfl ?_
    refine cR54 k1387 dX11_kindOf_176 ?_
    refine T.aload_n dX11_kindOf_179 rfl 0 rfl ?_
    refine cR57 k1392 dX11_kindOf_180 ?_
    refine T.iload_n dX11_kindOf_183 rfl 2 rfl ?_
    refine alR10 dX11_kindOf_184 (fun x32 => ?_)
    refine alR7 dX11_kindOf_185 (fun x33 => ?_)
    refine T.imul dX11_kindOf_186 (fun x34 => ?_)
    refine T.iconst (w := 4) dX11_kindOf_187 (by decide) ?_
    refine T.iadd dX11_kindOf_188 (fun x35 => ?_)
    refine T.goto (pc1 := 207) dX11_kindOf_189 (by decide) ?_
    exact c_kindOf_207 Γ _ a1 a2 a3 a4 x35 X10
noncomputable def f_kindOf_95 (r3 : Int32 → Int32 → Int32 → Int32 → St → Option (Int32 × St)) (a1 : Int32) (a2 : Int32) (a3 : Int32) (a4 : Int32) (a5 : Int32) (X : St) : Option (Int32 × St) :=
  if a5.toInt = 0 then
    letV (a4 + Int32.ofInt (1)) fun x37 =>
    r3 a1 a2 a3 x37 X
  else
    some (a4, X)
set_option maxHeartbeats 4000000 in
set_option maxRecDepth 100000 in
theorem c_kindOf_95 (Γ : Gx) (As : List Value) (r3 : Int32 → Int32 → Int32 → Int32 → St → Option (Int32 × St)) (hr3 : ∀ (a1 : Int32) (a2 : Int32) (a3 : Int32) (a4 : Int32) (X : St), T YR Γ cX11_kindOf 7 "BlameCourtModel" (some .int) R_kindOf As qI 3 [(0, .ref (Γ.2.2.2.1 0)), (1, .int a1), (2, .int a2), (3, .int a3), (4, .int a4)] [] X (r3 a1 a2 a3 a4 X)) (a1 : Int32) (a2 : Int32) (a3 : Int32) (a4 : Int32) (a5 : Int32) (X : St) : T YR Γ cX11_kindOf 7 "BlameCourtModel" (some .int) R_kindOf As qI 95 [(0, .ref (Γ.2.2.2.1 0)), (1, .int a1), (2, .int a2), (3, .int a3), (4, .int a4), (5, .int a5)] [] X (f_kindOf_95 r3 a1 a2 a3 a4 a5 X) := by
  unfold f_kindOf_95
  refine T.iload dX11_kindOf_95 5 rfl ?_
  refine T.if_eq (pc1 := 103) dX11_kindOf_97 (by decide) ?_ ?_
  · refine T.iinc dX11_kindOf_103 4 rfl (by decide) (lvf := fun x37 => [(4, .int x37), (0, .ref (Γ.2.2.2.1 0)), (1, .int a1), (2, .int a2), (3, .int a3), (5, .int a5)]) (fun _ => rfl) (fun x37 => ?_)
    refine T.goto (pc1 := 3) dX11_kindOf_106 (by decide) ?_
    refine T.sub [1, 2, 3, 4, 0] rfl ?_
    exact hr3 a1 a2 a3 x37 X
  · refine T.iload dX11_kindOf_100 4 rfl ?_
    exact T.ret_i rfl dX11_kindOf_102
noncomputable def f_kindOf_87 (r3 : Int32 → Int32 → Int32 → Int32 → St → Option (Int32 × St)) (r44 : Int32 → Int32 → Int32 → Int32 → Int32 → Int32 → St → Option (Int32 × St)) (a1 : Int32) (a2 : Int32) (a3 : Int32) (a4 : Int32) (a6 : Int32) (b0 : Int32) (X : St) : Option (Int32 × St) :=
  letV (a6 + Int32.ofInt (1)) fun x43 =>
  r44 a1 a2 a3 a4 b0 x43 X
set_option maxHeartbeats 4000000 in
set_option maxRecDepth 100000 in
theorem c_kindOf_87 (Γ : Gx) (As : List Value) (r3 : Int32 → Int32 → Int32 → Int32 → St → Option (Int32 × St)) (hr3 : ∀ (a1 : Int32) (a2 : Int32) (a3 : Int32) (a4 : Int32) (X : St), T YR Γ cX11_kindOf 7 "BlameCourtModel" (some .int) R_kindOf As qI 3 [(0, .ref (Γ.2.2.2.1 0)), (1, .int a1), (2, .int a2), (3, .int a3), (4, .int a4)] [] X (r3 a1 a2 a3 a4 X)) (r44 : Int32 → Int32 → Int32 → Int32 → Int32 → Int32 → St → Option (Int32 × St)) (hr44 : ∀ (a1 : Int32) (a2 : Int32) (a3 : Int32) (a4 : Int32) (a5 : Int32) (a6 : Int32) (X : St), T YR Γ cX11_kindOf 7 "BlameCourtModel" (some .int) R_kindOf As qI 44 [(0, .ref (Γ.2.2.2.1 0)), (1, .int a1), (2, .int a2), (3, .int a3), (4, .int a4), (5, .int a5), (6, .int a6)] [] X (r44 a1 a2 a3 a4 a5 a6 X)) (a1 : Int32) (a2 : Int32) (a3 : Int32) (a4 : Int32) (a6 : Int32) (b0 : Int32) (X : St) : T YR Γ cX11_kindOf 7 "BlameCourtModel" (some .int) R_kindOf As qI 87 [(0, .ref (Γ.2.2.2.1 0)), (1, .int a1), (2, .int a2), (3, .int a3), (4, .int a4), (6, .int a6)] [.int b0] X (f_kindOf_87 r3 r44 a1 a2 a3 a4 a6 b0 X) := by
  unfold f_kindOf_87
  refine T.istore (lv1 := [(5, .int b0), (0, .ref (Γ.2.2.2.1 0)), (1, .int a1), (2, .int a2), (3, .int a3), (4, .int a4), (6, .int a6)]) dX11_kindOf_87 (by decide) rfl ?_
  refine T.iinc dX11_kindOf_89 6 rfl (by decide) (lvf := fun x43 => [(6, .int x43), (5, .int b0), (0, .ref (Γ.2.2.2.1 0)), (1, .int a1), (2, .int a2), (3, .int a3), (4, .int a4)]) (fun _ => rfl) (fun x43 => ?_)
  refine T.goto (pc1 := 44) dX11_kindOf_92 (by decide) ?_
  refine T.sub [2, 3, 4, 5, 6, 1, 0] rfl ?_
  exact hr44 a1 a2 a3 a4 b0 x43 X
noncomputable def f_kindOf_44_s (r3 : Int32 → Int32 → Int32 → Int32 → St → Option (Int32 × St)) (r44 : Int32 → Int32 → Int32 → Int32 → Int32 → Int32 → St → Option (Int32 × St)) (a1 : Int32) (a2 : Int32) (a3 : Int32) (a4 : Int32) (a5 : Int32) (a6 : Int32) (X : St) : Option (Int32 × St) :=
  if a3.toInt ≤ a6.toInt then
    f_kindOf_95 r3 a1 a2 a3 a4 a5 X
  else
    if a5.toInt = 0 then
      f_kindOf_95 r3 a1 a2 a3 a4 a5 X
    else
      chk (inR a4 6000) (letV (X.1 6 (ix a4)) fun x38 =>
      letV (x38 + a6) fun x39 =>
      chk (inR x39 20000) (letV (X.1 9 (ix x39)) fun x40 =>
      letV (a2 + a6) fun x41 =>
      chk (inR x41 3100) (letV (X.1 10 (ix x41)) fun x42 =>
      if x40.toInt = x42.toInt then
        f_kindOf_87 r3 r44 a1 a2 a3 a4 a6 (1 : Int32) X
      else
        f_kindOf_87 r3 r44 a1 a2 a3 a4 a6 (0 : Int32) X)))
noncomputable def f_kindOf_44 (r3 : Int32 → Int32 → Int32 → Int32 → St → Option (Int32 × St)) (n : Nat) : Int32 → Int32 → Int32 → Int32 → Int32 → Int32 → St → Option (Int32 × St) := lp (fun _ _ _ _ _ _ _ => none) (f_kindOf_44_s r3) n
set_option maxHeartbeats 4000000 in
set_option maxRecDepth 100000 in
theorem c_kindOf_44 (Γ : Gx) (As : List Value) (r3 : Int32 → Int32 → Int32 → Int32 → St → Option (Int32 × St)) (hr3 : ∀ (a1 : Int32) (a2 : Int32) (a3 : Int32) (a4 : Int32) (X : St), T YR Γ cX11_kindOf 7 "BlameCourtModel" (some .int) R_kindOf As qI 3 [(0, .ref (Γ.2.2.2.1 0)), (1, .int a1), (2, .int a2), (3, .int a3), (4, .int a4)] [] X (r3 a1 a2 a3 a4 X)) (n : Nat) : ∀ (a1 : Int32) (a2 : Int32) (a3 : Int32) (a4 : Int32) (a5 : Int32) (a6 : Int32) (X : St), T YR Γ cX11_kindOf 7 "BlameCourtModel" (some .int) R_kindOf As qI 44 [(0, .ref (Γ.2.2.2.1 0)), (1, .int a1), (2, .int a2), (3, .int a3), (4, .int a4), (5, .int a5), (6, .int a6)] [] X (f_kindOf_44 r3 n a1 a2 a3 a4 a5 a6 X) := by
  unfold f_kindOf_44
  refine lp_ind (P := fun (r44 : Int32 → Int32 → Int32 → Int32 → Int32 → Int32 → St → Option (Int32 × St)) => ∀ (a1 : Int32) (a2 : Int32) (a3 : Int32) (a4 : Int32) (a5 : Int32) (a6 : Int32) (X : St), T YR Γ cX11_kindOf 7 "BlameCourtModel" (some .int) R_kindOf As qI 44 [(0, .ref (Γ.2.2.2.1 0)), (1, .int a1), (2, .int a2), (3, .int a3), (4, .int a4), (5, .int a5), (6, .int a6)] [] X (r44 a1 a2 a3 a4 a5 a6 X)) (fun _ _ _ _ _ _ _ => T.no) ?_ n
  intro r44 hr44 a1 a2 a3 a4 a5 a6 X
  unfold f_kindOf_44_s
  refine T.iload dX11_kindOf_44 6 rfl ?_
  refine T.iload_n dX11_kindOf_46 rfl 3 rfl ?_
  refine T.icmp_ge (pc1 := 95) dX11_kindOf_47 (by decide) rfl ?_ ?_
  · refine T.sub [0, 1, 2, 3, 4, 5] rfl ?_
    exact c_kindOf_95 Γ _ r3 hr3 a1 a2 a3 a4 a5 X
  · refine T.iload dX11_kindOf_50 5 rfl ?_
    refine T.if_eq (pc1 := 95) dX11_kindOf_52 (by decide) ?_ ?_
    · refine T.sub [0, 1, 2, 3, 4, 5] rfl ?_
      exact c_kindOf_95 Γ _ r3 hr3 a1 a2 a3 a4 a5 X
    · refine T.aload_n dX11_kindOf_55 rfl 0 rfl ?_
      refine cR56 k1391 dX11_kindOf_56 ?_
      refine T.aload_n dX11_kindOf_59 rfl 0 rfl ?_
      refine cR53 k1386 dX11_kindOf_60 ?_
      refine T.iload dX11_kindOf_63 4 rfl ?_
      refine alR6 dX11_kindOf_65 (fun x38 => ?_)
      refine T.iload dX11_kindOf_66 6 rfl ?_
      refine T.iadd dX11_kindOf_68 (fun x39 => ?_)
      refine alR9 dX11_kindOf_69 (fun x40 => ?_)
      refine T.aload_n dX11_kindOf_70 rfl 0 rfl ?_
      refine cR57 k1392 dX11_kindOf_71 ?_
      refine T.iload_n dX11_kindOf_74 rfl 2 rfl ?_
      refine T.iload dX11_kindOf_75 6 rfl ?_
      refine T.iadd dX11_kindOf_77 (fun x41 => ?_)
      refine alR10 dX11_kindOf_78 (fun x42 => ?_)
      refine T.icmp_ne (pc1 := 86) dX11_kindOf_79 (by decide) rfl ?_ ?_
      · refine T.iconst (w := 0) dX11_kindOf_86 (by decide) ?_
        refine T.sub [0, 1, 2, 3, 4, 6] rfl ?_
        exact c_kindOf_87 Γ _ r3 hr3 r44 hr44 a1 a2 a3 a4 a6 (0 : Int32) X
      · refine T.iconst (w := 1) dX11_kindOf_82 (by decide) ?_
        refine T.goto (pc1 := 87) dX11_kindOf_83 (by decide) ?_
        refine T.sub [0, 1, 2, 3, 4, 6] rfl ?_
        exact c_kindOf_87 Γ _ r3 hr3 r44 hr44 a1 a2 a3 a4 a6 (1 : Int32) X
noncomputable def f_kindOf_39 (r3 : Int32 → Int32 → Int32 → Int32 → St → Option (Int32 × St)) (a1 : Int32) (a2 : Int32) (a3 : Int32) (a4 : Int32) (b0 : Int32) (X : St) : Option (Int32 × St) :=
  f_kindOf_44 r3 BIG a1 a2 a3 a4 b0 (0 : Int32) X
set_option maxHeartbeats 4000000 in
set_option maxRecDepth 100000 in
theorem c_kindOf_39 (Γ : Gx) (As : List Value) (r3 : Int32 → Int32 → Int32 → Int32 → St → Option (Int32 × St)) (hr3 : ∀ (a1 : Int32) (a2 : Int32) (a3 : Int32) (a4 : Int32) (X : St), T YR Γ cX11_kindOf 7 "BlameCourtModel" (some .int) R_kindOf As qI 3 [(0, .ref (Γ.2.2.2.1 0)), (1, .int a1), (2, .int a2), (3, .int a3), (4, .int a4)] [] X (r3 a1 a2 a3 a4 X)) (a1 : Int32) (a2 : Int32) (a3 : Int32) (a4 : Int32) (b0 : Int32) (X : St) : T YR Γ cX11_kindOf 7 "BlameCourtModel" (some .int) R_kindOf As qI 39 [(0, .ref (Γ.2.2.2.1 0)), (1, .int a1), (2, .int a2), (3, .int a3), (4, .int a4)] [.int b0] X (f_kindOf_39 r3 a1 a2 a3 a4 b0 X) := by
  unfold f_kindOf_39
  refine T.istore (lv1 := [(5, .int b0), (0, .ref (Γ.2.2.2.1 0)), (1, .int a1), (2, .int a2), (3, .int a3), (4, .int a4)]) dX11_kindOf_39 (by decide) rfl ?_
  refine T.iconst (w := 0) dX11_kindOf_41 (by decide) ?_
  refine T.istore (lv1 := [(6, .int 0), (5, .int b0), (0, .ref (Γ.2.2.2.1 0)), (1, .int a1), (2, .int a2), (3, .int a3), (4, .int a4)]) dX11_kindOf_42 (by decide) rfl ?_
  refine T.sub [2, 3, 4, 5, 6, 1, 0] rfl ?_
  exact c_kindOf_44 Γ _ r3 hr3 BIG a1 a2 a3 a4 b0 (0 : Int32) X
noncomputable def f_kindOf_38 (r3 : Int32 → Int32 → Int32 → Int32 → St → Option (Int32 × St)) (a1 : Int32) (a2 : Int32) (a3 : Int32) (a4 : Int32) (X : St) : Option (Int32 × St) :=
  f_kindOf_39 r3 a1 a2 a3 a4 (0 : Int32) X
set_option maxHeartbeats 4000000 in
set_option maxRecDepth 100000 in
theorem c_kindOf_38 (Γ : Gx) (As : List Value) (r3 : Int32 → Int32 → Int32 → Int32 → St → Option (Int32 × St)) (hr3 : ∀ (a1 : Int32) (a2 : Int32) (a3 : Int32) (a4 : Int32) (X : St), T YR Γ cX11_kindOf 7 "BlameCourtModel" (some .int) R_kindOf As qI 3 [(0, .ref (Γ.2.2.2.1 0)), (1, .int a1), (2, .int a2), (3, .int a3), (4, .int a4)] [] X (r3 a1 a2 a3 a4 X)) (a1 : Int32) (a2 : Int32) (a3 : Int32) (a4 : Int32) (X : St) : T YR Γ cX11_kindOf 7 "BlameCourtModel" (some .int) R_kindOf As qI 38 [(0, .ref (Γ.2.2.2.1 0)), (1, .int a1), (2, .int a2), (3, .int a3), (4, .int a4)] [] X (f_kindOf_38 r3 a1 a2 a3 a4 X) := by
  unfold f_kindOf_38
  refine T.iconst (w := 0) dX11_kindOf_38 (by decide) ?_
  exact c_kindOf_39 Γ _ r3 hr3 a1 a2 a3 a4 (0 : Int32) X
noncomputable def f_kindOf_3_s (r3 : Int32 → Int32 → Int32 → Int32 → St → Option (Int32 × St)) (a1 : Int32) (a2 : Int32) (a3 : Int32) (a4 : Int32) (X : St) : Option (Int32 × St) :=
  letV (X.1 0 13) fun x1 =>
  if x1.toInt ≤ a4.toInt then
    letV (X.1 0 13) fun x2 =>
    letV (X.1 0 13) fun x3 =>
    letV (x3 + (1 : Int32)) fun x4 =>
    letV (wI X 0 13 x4) fun X5 =>
    chk (inR x2 6000) (letV (wI X5 4 (ix x2) a1) fun X6 =>
    chk (inR x2 6000) (letV (wI X6 5 (ix x2) a3) fun X7 =>
    letV (X7.1 0 15) fun x8 =>
    chk (inR x2 6000) (letV (wI X7 6 (ix x2) x8) fun X9 =>
    if a1.toInt = 3 then
      f_kindOf_168 a1 a2 a3 x2 (1 : Int32) x2 X9
    else
      f_kindOf_168 a1 a2 a3 x2 (0 : Int32) x2 X9)))
  else
    chk (inR a4 6000) (letV (X.1 4 (ix a4)) fun x36 =>
    if x36.toInt = a1.toInt then
      chk (inR a4 6000) (letV (X.1 5 (ix a4)) fun x44 =>
      if x44.toInt = a3.toInt then
        f_kindOf_39 r3 a1 a2 a3 a4 (1 : Int32) X
      else
        f_kindOf_38 r3 a1 a2 a3 a4 X)
    else
      f_kindOf_38 r3 a1 a2 a3 a4 X)
noncomputable def f_kindOf_3 (n : Nat) : Int32 → Int32 → Int32 → Int32 → St → Option (Int32 × St) := lp (fun _ _ _ _ _ => none) (f_kindOf_3_s) n
set_option maxHeartbeats 4000000 in
set_option maxRecDepth 100000 in
theorem c_kindOf_3 (Γ : Gx) (As : List Value) (n : Nat) : ∀ (a1 : Int32) (a2 : Int32) (a3 : Int32) (a4 : Int32) (X : St), T YR Γ cX11_kindOf 7 "BlameCourtModel" (some .int) R_kindOf As qI 3 [(0, .ref (Γ.2.2.2.1 0)), (1, .int a1), (2, .int a2), (3, .int a3), (4, .int a4)] [] X (f_kindOf_3 n a1 a2 a3 a4 X) := by
  unfold f_kindOf_3
  refine lp_ind (P := fun (r3 : Int32 → Int32 → Int32 → Int32 → St → Option (Int32 × St)) => ∀ (a1 : Int32) (a2 : Int32) (a3 : Int32) (a4 : Int32) (X : St), T YR Γ cX11_kindOf 7 "BlameCourtModel" (some .int) R_kindOf As qI 3 [(0, .ref (Γ.2.2.2.1 0)), (1, .int a1), (2, .int a2), (3, .int a3), (4, .int a4)] [] X (r3 a1 a2 a3 a4 X)) (fun _ _ _ _ _ => T.no) ?_ n
  intro r3 hr3 a1 a2 a3 a4 X
  unfold f_kindOf_3_s
  refine T.iload dX11_kindOf_3 4 rfl ?_
  refine T.aload_n dX11_kindOf_5 rfl 0 rfl ?_
  refine gR13 k1382 dX11_kindOf_6 (fun x1 => ?_)
  refine T.icmp_ge (pc1 := 109) dX11_kindOf_9 (by decide) rfl ?_ ?_
  · refine T.aload_n dX11_kindOf_109 rfl 0 rfl ?_
    refine gR13 k1382 dX11_kindOf_110 (fun x2 => ?_)
    refine T.istore (lv1 := [(4, .int x2), (0, .ref (Γ.2.2.2.1 0)), (1, .int a1), (2, .int a2), (3, .int a3)]) dX11_kindOf_113 (by decide) rfl ?_
    refine T.aload_n dX11_kindOf_115 rfl 1 rfl ?_
    refine T.dupr dX11_kindOf_116 ?_
    refine gR13 k1382 dX11_kindOf_117 (fun x3 => ?_)
    refine T.iconst (w := 1) dX11_kindOf_120 (by decide) ?_
    refine T.iadd dX11_kindOf_121 (fun x4 => ?_)
    refine pR13 k1382 dX11_kindOf_122 (fun X5 => ?_)
    refine T.aload_n dX11_kindOf_125 rfl 1 rfl ?_
    refine cR51 k1384 dX11_kindOf_126 ?_
    refine T.iload dX11_kindOf_129 0 rfl ?_
    refine T.iload_n dX11_kindOf_131 rfl 2 rfl ?_
    refine asR4 dX11_kindOf_132 (fun X6 => ?_)
    refine T.aload_n dX11_kindOf_133 rfl 1 rfl ?_
    refine cR52 k1385 dX11_kindOf_134 ?_
    refine T.iload dX11_kindOf_137 0 rfl ?_
    refine T.iload_n dX11_kindOf_139 rfl 4 rfl ?_
    refine asR5 dX11_kindOf_140 (fun X7 => ?_)
    refine T.aload_n dX11_kindOf_141 rfl 1 rfl ?_
    refine cR53 k1386 dX11_kindOf_142 ?_
    refine T.iload dX11_kindOf_145 0 rfl ?_
    refine T.aload_n dX11_kindOf_147 rfl 1 rfl ?_
    refine gR15 k1389 dX11_kindOf_148 (fun x8 => ?_)
    refine asR6 dX11_kindOf_151 (fun X9 => ?_)
    refine T.aload_n dX11_kindOf_152 rfl 1 rfl ?_
    refine cR55 k1388 dX11_kindOf_153 ?_
    refine T.iload dX11_kindOf_156 0 rfl ?_
    refine T.iload_n dX11_kindOf_158 rfl 2 rfl ?_
    refine T.iconst (w := 3) dX11_kindOf_159 (by decide) ?_
    refine T.icmp_ne (pc1 := 167) dX11_kindOf_160 (by decide) rfl ?_ ?_
    · refine T.iconst (w := 0) dX11_kindOf_167 (by decide) ?_
      refine T.sub [1, 2, 3, 4, 0] rfl ?_
      exact c_kindOf_168 Γ _ a1 a2 a3 x2 (0 : Int32) x2 X9
    · refine T.iconst (w := 1) dX11_kindOf_163 (by decide) ?_
      refine T.goto (pc1 := 168) dX11_kindOf_164 (by decide) ?_
      refine T.sub [1, 2, 3, 4, 0] rfl ?_
      exact c_kindOf_168 Γ _ a1 a2 a3 x2 (1 : Int32) x2 X9
  · refine T.aload_n dX11_kindOf_12 rfl 0 rfl ?_
    refine cR51 k1384 dX11_kindOf_13 ?_
    refine T.iload dX11_kindOf_16 4 rfl ?_
    refine alR4 dX11_kindOf_18 (fun x36 => ?_)
    refine T.iload_n dX11_kindOf_19 rfl 1 rfl ?_
    refine T.icmp_ne (pc1 := 38) dX11_kindOf_20 (by decide) rfl ?_ ?_
    · exact c_kindOf_38 Γ _ r3 hr3 a1 a2 a3 a4 X
    · refine T.aload_n dX11_kindOf_23 rfl 0 rfl ?_
      refine cR52 k1385 dX11_kindOf_24 ?_
      refine T.iload dX11_kindOf_27 4 rfl ?_
      refine alR5 dX11_kindOf_29 (fun x44 => ?_)
      refine T.iload_n dX11_kindOf_30 rfl 3 rfl ?_
      refine T.icmp_ne (pc1 := 38) dX11_kindOf_31 (by decide) rfl ?_ ?_
      · exact c_kindOf_38 Γ _ r3 hr3 a1 a2 a3 a4 X
      · refine T.iconst (w := 1) dX11_kindOf_34 (by decide) ?_
        refine T.goto (pc1 := 39) dX11_kindOf_35 (by decide) ?_
        exact c_kindOf_39 Γ _ r3 hr3 a1 a2 a3 a4 (1 : Int32) X
noncomputable def f_kindOf (p1 : Int32) (p2 : Int32) (p3 : Int32) (X : St) : Option (Int32 × St) :=
  f_kindOf_3 BIG p1 p2 p3 (0 : Int32) X
set_option maxHeartbeats 4000000 in
set_option maxRecDepth 100000 in
theorem c_kindOf (Γ : Gx) (p1 : Int32) (p2 : Int32) (p3 : Int32) (X : St) : TMI YR Γ yX11_kindOf cX11_kindOf 7 "BlameCourtModel" (some .int) R_kindOf [.ref (Γ.2.2.2.1 0), .int p1, .int p2, .int p3] X (f_kindOf p1 p2 p3 X) := by
  refine TMI.of (by decide) (Nat.le_of_ble_eq_true rfl) rfl ?_
  show T YR Γ cX11_kindOf 7 "BlameCourtModel" (some .int) R_kindOf _ qI 0 [(0, .ref (Γ.2.2.2.1 0)), (1, .int p1), (2, .int p2), (3, .int p3)] [] X (f_kindOf p1 p2 p3 X)
  unfold f_kindOf
  refine T.iconst (w := 0) dX11_kindOf_0 (by decide) ?_
  refine T.istore (lv1 := [(4, .int 0), (0, .ref (Γ.2.2.2.1 0)), (1, .int p1), (2, .int p2), (3, .int p3)]) dX11_kindOf_1 (by decide) rfl ?_
  refine T.sub [1, 2, 3, 4, 0] rfl ?_
  exact c_kindOf_3 Γ _ BIG p1 p2 p3 (0 : Int32) X
abbrev R_kinds : Room := { frames := 10, cells := 0, slots := 0, locals := 150 }
noncomputable def f_kinds (p1 : Int32) (X : St) : Option (Int32 × St) :=
  letV (wI X 0 13 p1) fun X1 =>
  letV (wI X1 0 15 ((0 : Int32))) fun X2 =>
  bnd (f_kindOf (1 : Int32) (0 : Int32) (0 : Int32) X2) fun x3 X4 =>
  bnd (f_kindOf (2 : Int32) (0 : Int32) (0 : Int32) X4) fun x5 X6 =>
  bnd (f_kindOf (3 : Int32) (0 : Int32) (0 : Int32) X6) fun x7 X8 =>
  some (0, X8)
set_option maxHeartbeats 4000000 in
set_option maxRecDepth 100000 in
theorem c_kinds (Γ : Gx) (p1 : Int32) (X : St) : TMV YR Γ yX11_kinds cX11_kinds 2 "BlameCourtModel" none R_kinds [.ref (Γ.2.2.2.1 0), .int p1] X (f_kinds p1 X) := by
  refine TMV.of (by decide) (Nat.le_of_ble_eq_true rfl) rfl ?_
  show T YR Γ cX11_kinds 2 "BlameCourtModel" none R_kinds _ qV 0 [(0, .ref (Γ.2.2.2.1 0)), (1, .int p1)] [] X (f_kinds p1 X)
  unfold f_kinds
  refine T.aload_n dX11_kinds_0 rfl 0 rfl ?_
  refine T.iload_n dX11_kinds_1 rfl 1 rfl ?_
  refine pR13 k1382 dX11_kinds_2 (fun X1 => ?_)
  refine T.aload_n dX11_kinds_5 rfl 0 rfl ?_
  refine T.iconst (w := 0) dX11_kinds_6 (by decide) ?_
  refine pR15 k1389 dX11_kinds_7 (fun X2 => ?_)
  refine T.aload_n dX11_kinds_10 rfl 0 rfl ?_
  refine T.iconst (w := 1) dX11_kinds_11 (by decide) ?_
  refine T.iconst (w := 0) dX11_kinds_12 (by decide) ?_
  refine T.iconst (w := 0) dX11_kinds_13 (by decide) ?_
  refine T.callV_i 0 (As1 := [.int 1, .int 0, .int 0]) (rest := []) (c_kindOf Γ (1 : Int32) (0 : Int32) (0 : Int32) X2) ka_X11_kindOf kv_X11_kindOf oR rfl k1361 rfl rfl rfl rfl ⟨Nat.le_of_ble_eq_true rfl, Nat.le_of_ble_eq_true rfl⟩ (Nat.le_of_ble_eq_true rfl) dX11_kinds_14 (fun x3 X4 => ?_)
  refine T.pop dX11_kinds_17 ?_
  refine T.aload_n dX11_kinds_18 rfl 0 rfl ?_
  refine T.iconst (w := 2) dX11_kinds_19 (by decide) ?_
  refine T.iconst (w := 0) dX11_kinds_20 (by decide) ?_
  refine T.iconst (w := 0) dX11_kinds_21 (by decide) ?_
  refine T.callV_i 0 (As1 := [.int 2, .int 0, .int 0]) (rest := []) (c_kindOf Γ (2 : Int32) (0 : Int32) (0 : Int32) X4) ka_X11_kindOf kv_X11_kindOf oR rfl k1361 rfl rfl rfl rfl ⟨Nat.le_of_ble_eq_true rfl, Nat.le_of_ble_eq_true rfl⟩ (Nat.le_of_ble_eq_true rfl) dX11_kinds_22 (fun x5 X6 => ?_)
  refine T.pop dX11_kinds_25 ?_
  refine T.aload_n dX11_kinds_26 rfl 0 rfl ?_
  refine T.iconst (w := 3) dX11_kinds_27 (by decide) ?_
  refine T.iconst (w := 0) dX11_kinds_28 (by decide) ?_
  refine T.iconst (w := 0) dX11_kinds_29 (by decide) ?_
  refine T.callV_i 0 (As1 := [.int 3, .int 0, .int 0]) (rest := []) (c_kindOf Γ (3 : Int32) (0 : Int32) (0 : Int32) X6) ka_X11_kindOf kv_X11_kindOf oR rfl k1361 rfl rfl rfl rfl ⟨Nat.le_of_ble_eq_true rfl, Nat.le_of_ble_eq_true rfl⟩ (Nat.le_of_ble_eq_true rfl) dX11_kinds_30 (fun x7 X8 => ?_)
  refine T.pop dX11_kinds_33 ?_
  exact T.ret_v rfl dX11_kinds_34
abbrev R_rowOf : Room := { frames := 10, cells := 0, slots := 0, locals := 150 }
noncomputable def f_rowOf (p1 : Int32) (X : St) : Option (Int32 × St) :=
  chk (inR (3000 : Int32) 3100) (letV (wI X 10 (ix (3000 : Int32)) p1) fun X1 =>
  bnd (f_kindOf (4 : Int32) (3000 : Int32) (1 : Int32) X1) fun x2 X3 =>
  some (x2, X3))
set_option maxHeartbeats 4000000 in
set_option maxRecDepth 100000 in
theorem c_rowOf (Γ : Gx) (p1 : Int32) (X : St) : TMI YR Γ yX11_rowOf cX11_rowOf 2 "BlameCourtModel" (some .int) R_rowOf [.ref (Γ.2.2.2.1 0), .int p1] X (f_rowOf p1 X) := by
  refine TMI.of (by decide) (Nat.le_of_ble_eq_true rfl) rfl ?_
  show T YR Γ cX11_rowOf 2 "BlameCourtModel" (some .int) R_rowOf _ qI 0 [(0, .ref (Γ.2.2.2.1 0)), (1, .int p1)] [] X (f_rowOf p1 X)
  unfold f_rowOf
  refine T.aload_n dX11_rowOf_0 rfl 0 rfl ?_
  refine cR57 k1392 dX11_rowOf_1 ?_
  refine T.sipush (w := 3000) dX11_rowOf_4 (by decide) ?_
  refine T.iload_n dX11_rowOf_7 rfl 1 rfl ?_
  refine asR10 dX11_rowOf_8 (fun X1 => ?_)
  refine T.aload_n dX11_rowOf_9 rfl 0 rfl ?_
  refine T.iconst (w := 4) dX11_rowOf_10 (by decide) ?_
  refine T.sipush (w := 3000) dX11_rowOf_11 (by decide) ?_
  refine T.iconst (w := 1) dX11_rowOf_14 (by decide) ?_
  refine T.callV_i 0 (As1 := [.int 4, .int 3000, .int 1]) (rest := []) (c_kindOf Γ (4 : Int32) (3000 : Int32) (1 : Int32) X1) ka_X11_kindOf kv_X11_kindOf oR rfl k1361 rfl rfl rfl rfl ⟨Nat.le_of_ble_eq_true rfl, Nat.le_of_ble_eq_true rfl⟩ (Nat.le_of_ble_eq_true rfl) dX11_rowOf_15 (fun x2 X3 => ?_)
  exact T.ret_i rfl dX11_rowOf_18
abbrev R_anyFunction : Room := { frames := 10, cells := 0, slots := 0, locals := 150 }
noncomputable def f_anyFunction_2_s (r2 : Int32 → Int32 → St → Option (Int32 × St)) (a1 : Int32) (a2 : Int32) (X : St) : Option (Int32 × St) :=
  if a1.toInt < a2.toInt then
    letV (a1 + (1 : Int32)) fun x1 =>
    bnd (f_kindOf (5 : Int32) (3000 : Int32) x1 X) fun x2 X3 =>
    some (x2, X3)
  else
    letV ((3000 : Int32) + a2) fun x4 =>
    chk (inR x4 3100) (letV (wI X 10 (ix x4) (2 : Int32)) fun X5 =>
    letV (a2 + Int32.ofInt (1)) fun x6 =>
    r2 a1 x6 X5)
noncomputable def f_anyFunction_2 (n : Nat) : Int32 → Int32 → St → Option (Int32 × St) := lp (fun _ _ _ => none) (f_anyFunction_2_s) n
set_option maxHeartbeats 4000000 in
set_option maxRecDepth 100000 in
theorem c_anyFunction_2 (Γ : Gx) (As : List Value) (n : Nat) : ∀ (a1 : Int32) (a2 : Int32) (X : St), T YR Γ cX11_anyFunction 3 "BlameCourtModel" (some .int) R_anyFunction As qI 2 [(0, .ref (Γ.2.2.2.1 0)), (1, .int a1), (2, .int a2)] [] X (f_anyFunction_2 n a1 a2 X) := by
  unfold f_anyFunction_2
  refine lp_ind (P := fun (r2 : Int32 → Int32 → St → Option (Int32 × St)) => ∀ (a1 : Int32) (a2 : Int32) (X : St), T YR Γ cX11_anyFunction 3 "BlameCourtModel" (some .int) R_anyFunction As qI 2 [(0, .ref (Γ.2.2.2.1 0)), (1, .int a1), (2, .int a2)] [] X (r2 a1 a2 X)) (fun _ _ _ => T.no) ?_ n
  intro r2 hr2 a1 a2 X
  unfold f_anyFunction_2_s
  refine T.iload_n dX11_anyFunction_2 rfl 2 rfl ?_
  refine T.iload_n dX11_anyFunction_3 rfl 1 rfl ?_
  refine T.icmp_gt (pc1 := 24) dX11_anyFunction_4 (by decide) rfl ?_ ?_
  · refine T.aload_n dX11_anyFunction_24 rfl 0 rfl ?_
    refine T.iconst (w := 5) dX11_anyFunction_25 (by decide) ?_
    refine T.sipush (w := 3000) dX11_anyFunction_26 (by decide) ?_
    refine T.iload_n dX11_anyFunction_29 rfl 1 rfl ?_
    refine T.iconst (w := 1) dX11_anyFunction_30 (by decide) ?_
    refine T.iadd dX11_anyFunction_31 (fun x1 => ?_)
    refine T.callV_i 0 (As1 := [.int 5, .int 3000, .int x1]) (rest := []) (c_kindOf Γ (5 : Int32) (3000 : Int32) x1 X) ka_X11_kindOf kv_X11_kindOf oR rfl k1361 rfl rfl rfl rfl ⟨Nat.le_of_ble_eq_true rfl, Nat.le_of_ble_eq_true rfl⟩ (Nat.le_of_ble_eq_true rfl) dX11_anyFunction_32 (fun x2 X3 => ?_)
    exact T.ret_i rfl dX11_anyFunction_35
  · refine T.aload_n dX11_anyFunction_7 rfl 0 rfl ?_
    refine cR57 k1392 dX11_anyFunction_8 ?_
    refine T.sipush (w := 3000) dX11_anyFunction_11 (by decide) ?_
    refine T.iload_n dX11_anyFunction_14 rfl 2 rfl ?_
    refine T.iadd dX11_anyFunction_15 (fun x4 => ?_)
    refine T.iconst (w := 2) dX11_anyFunction_16 (by decide) ?_
    refine asR10 dX11_anyFunction_17 (fun X5 => ?_)
    refine T.iinc dX11_anyFunction_18 2 rfl (by decide) (lvf := fun x6 => [(2, .int x6), (0, .ref (Γ.2.2.2.1 0)), (1, .int a1)]) (fun _ => rfl) (fun x6 => ?_)
    refine T.goto (pc1 := 2) dX11_anyFunction_21 (by decide) ?_
    refine T.sub [1, 2, 0] rfl ?_
    exact hr2 a1 x6 X5
noncomputable def f_anyFunction (p1 : Int32) (X : St) : Option (Int32 × St) :=
  f_anyFunction_2 BIG p1 (0 : Int32) X
set_option maxHeartbeats 4000000 in
set_option maxRecDepth 100000 in
theorem c_anyFunction (Γ : Gx) (p1 : Int32) (X : St) : TMI YR Γ yX11_anyFunction cX11_anyFunction 3 "BlameCourtModel" (some .int) R_anyFunction [.ref (Γ.2.2.2.1 0), .int p1] X (f_anyFunction p1 X) := by
  refine TMI.of (by decide) (Nat.le_of_ble_eq_true rfl) rfl ?_
  show T YR Γ cX11_anyFunction 3 "BlameCourtModel" (some .int) R_anyFunction _ qI 0 [(0, .ref (Γ.2.2.2.1 0)), (1, .int p1)] [] X (f_anyFunction p1 X)
  unfold f_anyFunction
  refine T.iconst (w := 0) dX11_anyFunction_0 (by decide) ?_
  refine T.istore_n (lv1 := [(2, .int 0), (0, .ref (Γ.2.2.2.1 0)), (1, .int p1)]) dX11_anyFunction_1 rfl (by decide) rfl ?_
  refine T.sub [1, 2, 0] rfl ?_
  exact c_anyFunction_2 Γ _ BIG p1 (0 : Int32) X
abbrev R_elementOf : Room := { frames := 6, cells := 0, slots := 0, locals := 90 }
noncomputable def f_elementOf (p1 : Int32) (X : St) : Option (Int32 × St) :=
  chk (inR p1 6000) (letV (X.1 6 (ix p1)) fun x1 =>
  chk (inR x1 20000) (letV (X.1 9 (ix x1)) fun x2 =>
  some (x2, X)))
set_option maxHeartbeats 4000000 in
set_option maxRecDepth 100000 in
theorem c_elementOf (Γ : Gx) (p1 : Int32) (X : St) : TMI YR Γ yX11_elementOf cX11_elementOf 2 "BlameCourtModel" (some .int) R_elementOf [.ref (Γ.2.2.2.1 0), .int p1] X (f_elementOf p1 X) := by
  refine TMI.of (by decide) (Nat.le_of_ble_eq_true rfl) rfl ?_
  show T YR Γ cX11_elementOf 2 "BlameCourtModel" (some .int) R_elementOf _ qI 0 [(0, .ref (Γ.2.2.2.1 0)), (1, .int p1)] [] X (f_elementOf p1 X)
  unfold f_elementOf
  refine T.aload_n dX11_elementOf_0 rfl 0 rfl ?_
  refine cR56 k1391 dX11_elementOf_1 ?_
  refine T.aload_n dX11_elementOf_4 rfl 0 rfl ?_
  refine cR53 k1386 dX11_elementOf_5 ?_
  refine T.iload_n dX11_elementOf_8 rfl 1 rfl ?_
  refine alR6 dX11_elementOf_9 (fun x1 => ?_)
  refine alR9 dX11_elementOf_10 (fun x2 => ?_)
  exact T.ret_i rfl dX11_elementOf_11
abbrev R_resultOf : Room := { frames := 6, cells := 0, slots := 0, locals := 90 }
noncomputable def f_resultOf (p1 : Int32) (X : St) : Option (Int32 × St) :=
  chk (inR p1 6000) (letV (X.1 6 (ix p1)) fun x1 =>
  chk (inR p1 6000) (letV (X.1 5 (ix p1)) fun x2 =>
  letV (x1 + x2) fun x3 =>
  letV (x3 - (1 : Int32)) fun x4 =>
  chk (inR x4 20000) (letV (X.1 9 (ix x4)) fun x5 =>
  some (x5, X))))
set_option maxHeartbeats 4000000 in
set_option maxRecDepth 100000 in
theorem c_resultOf (Γ : Gx) (p1 : Int32) (X : St) : TMI YR Γ yX11_resultOf cX11_resultOf 2 "BlameCourtModel" (some .int) R_resultOf [.ref (Γ.2.2.2.1 0), .int p1] X (f_resultOf p1 X) := by
  refine TMI.of (by decide) (Nat.le_of_ble_eq_true rfl) rfl ?_
  show T YR Γ cX11_resultOf 2 "BlameCourtModel" (some .int) R_resultOf _ qI 0 [(0, .ref (Γ.2.2.2.1 0)), (1, .int p1)] [] X (f_resultOf p1 X)
  unfold f_resultOf
  refine T.aload_n dX11_resultOf_0 rfl 0 rfl ?_
  refine cR56 k1391 dX11_resultOf_1 ?_
  refine T.aload_n dX11_resultOf_4 rfl 0 rfl ?_
  refine cR53 k1386 dX11_resultOf_5 ?_
  refine T.iload_n dX11_resultOf_8 rfl 1 rfl ?_
  refine alR6 dX11_resultOf_9 (fun x1 => ?_)
  refine T.aload_n dX11_resultOf_10 rfl 0 rfl ?_
  refine cR52 k1385 dX11_resultOf_11 ?_
  refine T.iload_n dX11_resultOf_14 rfl 1 rfl ?_
  refine alR5 dX11_resultOf_15 (fun x2 => ?_)
  refine T.iadd dX11_resultOf_16 (fun x3 => ?_)
  refine T.iconst (w := 1) dX11_resultOf_17 (by decide) ?_
  refine T.isub dX11_resultOf_18 (fun x4 => ?_)
  refine alR9 dX11_resultOf_19 (fun x5 => ?_)
  exact T.ret_i rfl dX11_resultOf_20
abbrev R_paramOf : Room := { frames := 6, cells := 0, slots := 0, locals := 90 }
noncomputable def f_paramOf (p1 : Int32) (p2 : Int32) (X : St) : Option (Int32 × St) :=
  chk (inR p1 6000) (letV (X.1 6 (ix p1)) fun x1 =>
  letV (x1 + p2) fun x2 =>
  chk (inR x2 20000) (letV (X.1 9 (ix x2)) fun x3 =>
  some (x3, X)))
set_option maxHeartbeats 4000000 in
set_option maxRecDepth 100000 in
theorem c_paramOf (Γ : Gx) (p1 : Int32) (p2 : Int32) (X : St) : TMI YR Γ yX11_paramOf cX11_paramOf 3 "BlameCourtModel" (some .int) R_paramOf [.ref (Γ.2.2.2.1 0), .int p1, .int p2] X (f_paramOf p1 p2 X) := by
  refine TMI.of (by decide) (Nat.le_of_ble_eq_true rfl) rfl ?_
  show T YR Γ cX11_paramOf 3 "BlameCourtModel" (some .int) R_paramOf _ qI 0 [(0, .ref (Γ.2.2.2.1 0)), (1, .int p1), (2, .int p2)] [] X (f_paramOf p1 p2 X)
  unfold f_paramOf
  refine T.aload_n dX11_paramOf_0 rfl 0 rfl ?_
  refine cR56 k1391 dX11_paramOf_1 ?_
  refine T.aload_n dX11_paramOf_4 rfl 0 rfl ?_
  refine cR53 k1386 dX11_paramOf_5 ?_
  refine T.iload_n dX11_paramOf_8 rfl 1 rfl ?_
  refine alR6 dX11_paramOf_9 (fun x1 => ?_)
  refine T.iload_n dX11_paramOf_10 rfl 2 rfl ?_
  refine T.iadd dX11_paramOf_11 (fun x2 => ?_)
  refine alR9 dX11_paramOf_12 (fun x3 => ?_)
  exact T.ret_i rfl dX11_paramOf_13
abbrev R_fits : Room := { frames := 6, cells := 0, slots := 0, locals := 90 }
noncomputable def f_fits_111_s (r16 : Int32 → St → Option (Int32 × St)) (r111 : Int32 → Int32 → Int32 → Int32 → St → Option (Int32 × St)) (a3 : Int32) (a4 : Int32) (a5 : Int32) (a6 : Int32) (X : St) : Option (Int32 × St) :=
  chk (inR a4 6000) (letV (X.1 5 (ix a4)) fun x11 =>
  if x11.toInt ≤ a6.toInt then
    r16 a3 X
  else
    chk (inR a4 6000) (letV (X.1 6 (ix a4)) fun x12 =>
    letV (x12 + a6) fun x13 =>
    chk (inR x13 20000) (letV (X.1 9 (ix x13)) fun x14 =>
    chk (inR a3 6000) (letV (wI X 31 (ix a3) x14) fun X15 =>
    chk (inR a5 6000) (letV (X15.1 6 (ix a5)) fun x16 =>
    letV (x16 + a6) fun x17 =>
    chk (inR x17 20000) (letV (X15.1 9 (ix x17)) fun x18 =>
    chk (inR a3 6000) (letV (wI X15 32 (ix a3) x18) fun X19 =>
    letV (a3 + Int32.ofInt (1)) fun x20 =>
    letV (a6 + Int32.ofInt (1)) fun x21 =>
    r111 x20 a4 a5 x21 X19)))))))
noncomputable def f_fits_111 (r16 : Int32 → St → Option (Int32 × St)) (n : Nat) : Int32 → Int32 → Int32 → Int32 → St → Option (Int32 × St) := lp (fun _ _ _ _ _ => none) (f_fits_111_s r16) n
set_option maxHeartbeats 4000000 in
set_option maxRecDepth 100000 in
theorem c_fits_111 (Γ : Gx) (As : List Value) (r16 : Int32 → St → Option (Int32 × St)) (hr16 : ∀ (a3 : Int32) (X : St), T YR Γ cX11_fits 7 "BlameCourtModel" (some .boolean) R_fits As qI 16 [(0, .ref (Γ.2.2.2.1 0)), (3, .int a3)] [] X (r16 a3 X)) (n : Nat) : ∀ (a3 : Int32) (a4 : Int32) (a5 : Int32) (a6 : Int32) (X : St), T YR Γ cX11_fits 7 "BlameCourtModel" (some .boolean) R_fits As qI 111 [(0, .ref (Γ.2.2.2.1 0)), (3, .int a3), (4, .int a4), (5, .int a5), (6, .int a6)] [] X (f_fits_111 r16 n a3 a4 a5 a6 X) := by
  unfold f_fits_111
  refine lp_ind (P := fun (r111 : Int32 → Int32 → Int32 → Int32 → St → Option (Int32 × St)) => ∀ (a3 : Int32) (a4 : Int32) (a5 : Int32) (a6 : Int32) (X : St), T YR Γ cX11_fits 7 "BlameCourtModel" (some .boolean) R_fits As qI 111 [(0, .ref (Γ.2.2.2.1 0)), (3, .int a3), (4, .int a4), (5, .int a5), (6, .int a6)] [] X (r111 a3 a4 a5 a6 X)) (fun _ _ _ _ _ => T.no) ?_ n
  intro r111 hr111 a3 a4 a5 a6 X
  unfold f_fits_111_s
  refine T.iload dX11_fits_111 4 rfl ?_
  refine T.aload_n dX11_fits_113 rfl 0 rfl ?_
  refine cR52 k1385 dX11_fits_114 ?_
  refine T.iload dX11_fits_117 2 rfl ?_
  refine alR5 dX11_fits_119 (fun x11 => ?_)
  refine T.icmp_ge (pc1 := 174) dX11_fits_120 (by decide) rfl ?_ ?_
  · refine T.goto (pc1 := 16) dX11_fits_174 (by decide) ?_
    refine T.sub [0, 1] rfl ?_
    exact hr16 a3 X
  · refine T.aload_n dX11_fits_123 rfl 0 rfl ?_
    refine cR78 k1417 dX11_fits_124 ?_
    refine T.iload_n dX11_fits_127 rfl 1 rfl ?_
    refine T.aload_n dX11_fits_128 rfl 0 rfl ?_
    refine cR56 k1391 dX11_fits_129 ?_
    refine T.aload_n dX11_fits_132 rfl 0 rfl ?_
    refine cR53 k1386 dX11_fits_133 ?_
    refine T.iload dX11_fits_136 2 rfl ?_
    refine alR6 dX11_fits_138 (fun x12 => ?_)
    refine T.iload dX11_fits_139 4 rfl ?_
    refine T.iadd dX11_fits_141 (fun x13 => ?_)
    refine alR9 dX11_fits_142 (fun x14 => ?_)
    refine asR31 dX11_fits_143 (fun X15 => ?_)
    refine T.aload_n dX11_fits_144 rfl 0 rfl ?_
    refine cR79 k1418 dX11_fits_145 ?_
    refine T.iload_n dX11_fits_148 rfl 1 rfl ?_
    refine T.aload_n dX11_fits_149 rfl 0 rfl ?_
    refine cR56 k1391 dX11_fits_150 ?_
    refine T.aload_n dX11_fits_153 rfl 0 rfl ?_
    refine cR53 k1386 dX11_fits_154 ?_
    refine T.iload dX11_fits_157 3 rfl ?_
    refine alR6 dX11_fits_159 (fun x16 => ?_)
    refine T.iload dX11_fits_160 4 rfl ?_
    refine T.iadd dX11_fits_162 (fun x17 => ?_)
    refine alR9 dX11_fits_163 (fun x18 => ?_)
    refine asR32 dX11_fits_164 (fun X19 => ?_)
    refine T.iinc dX11_fits_165 1 rfl (by decide) (lvf := fun x20 => [(3, .int x20), (0, .ref (Γ.2.2.2.1 0)), (4, .int a4), (5, .int a5), (6, .int a6)]) (fun _ => rfl) (fun x20 => ?_)
    refine T.iinc dX11_fits_168 4 rfl (by decide) (lvf := fun x21 => [(6, .int x21), (3, .int x20), (0, .ref (Γ.2.2.2.1 0)), (4, .int a4), (5, .int a5)]) (fun _ => rfl) (fun x21 => ?_)
    refine T.goto (pc1 := 111) dX11_fits_171 (by decide) ?_
    refine T.sub [2, 1, 3, 4, 0] rfl ?_
    exact hr111 x20 a4 a5 x21 X19
noncomputable def f_fits_16_s (r16 : Int32 → St → Option (Int32 × St)) (a3 : Int32) (X : St) : Option (Int32 × St) :=
  if a3.toInt ≤ 0 then
    some (1, X)
  else
    letV (a3 + Int32.ofInt (-1)) fun x3 =>
    chk (inR x3 6000) (letV (X.1 31 (ix x3)) fun x4 =>
    chk (inR x3 6000) (letV (X.1 32 (ix x3)) fun x5 =>
    if x4.toInt = x5.toInt then
      r16 x3 X
    else
      if x4.toInt = 2 then
        r16 x3 X
      else
        if x5.toInt = 2 then
          r16 x3 X
        else
          chk (inR x4 6000) (letV (X.1 4 (ix x4)) fun x6 =>
          chk (inR x5 6000) (letV (X.1 4 (ix x5)) fun x7 =>
          if x6.toInt = x7.toInt then
            chk (inR x4 6000) (letV (X.1 4 (ix x4)) fun x8 =>
            if x8.toInt < 4 then
              some (0, X)
            else
              chk (inR x4 6000) (letV (X.1 5 (ix x4)) fun x9 =>
              chk (inR x5 6000) (letV (X.1 5 (ix x5)) fun x10 =>
              if x9.toInt = x10.toInt then
                f_fits_111 r16 BIG x3 x4 x5 (0 : Int32) X
              else
                some (0, X))))
          else
            some (0, X)))))
noncomputable def f_fits_16 (n : Nat) : Int32 → St → Option (Int32 × St) := lp (fun _ _ => none) (f_fits_16_s) n
set_option maxHeartbeats 4000000 in
set_option maxRecDepth 100000 in
theorem c_fits_16 (Γ : Gx) (As : List Value) (n : Nat) : ∀ (a3 : Int32) (X : St), T YR Γ cX11_fits 7 "BlameCourtModel" (some .boolean) R_fits As qI 16 [(0, .ref (Γ.2.2.2.1 0)), (3, .int a3)] [] X (f_fits_16 n a3 X) := by
  unfold f_fits_16
  refine lp_ind (P := fun (r16 : Int32 → St → Option (Int32 × St)) => ∀ (a3 : Int32) (X : St), T YR Γ cX11_fits 7 "BlameCourtModel" (some .boolean) R_fits As qI 16 [(0, .ref (Γ.2.2.2.1 0)), (3, .int a3)] [] X (r16 a3 X)) (fun _ _ => T.no) ?_ n
  intro r16 hr16 a3 X
  unfold f_fits_16_s
  refine T.iload_n dX11_fits_16 rfl 1 rfl ?_
  refine T.if_le (pc1 := 177) dX11_fits_17 (by decide) ?_ ?_
  · refine T.iconst (w := 1) dX11_fits_177 (by decide) ?_
    exact T.ret_z rfl dX11_fits_178 rfl
  · refine T.iinc dX11_fits_20 1 rfl (by decide) (lvf := fun x3 => [(3, .int x3), (0, .ref (Γ.2.2.2.1 0))]) (fun _ => rfl) (fun x3 => ?_)
    refine T.aload_n dX11_fits_23 rfl 1 rfl ?_
    refine cR78 k1417 dX11_fits_24 ?_
    refine T.iload_n dX11_fits_27 rfl 0 rfl ?_
    refine alR31 dX11_fits_28 (fun x4 => ?_)
    refine T.istore (lv1 := [(4, .int x4), (3, .int x3), (0, .ref (Γ.2.2.2.1 0))]) dX11_fits_29 (by decide) rfl ?_
    refine T.aload_n dX11_fits_31 rfl 2 rfl ?_
    refine cR79 k1418 dX11_fits_32 ?_
    refine T.iload_n dX11_fits_35 rfl 1 rfl ?_
    refine alR32 dX11_fits_36 (fun x5 => ?_)
    refine T.istore (lv1 := [(5, .int x5), (4, .int x4), (3, .int x3), (0, .ref (Γ.2.2.2.1 0))]) dX11_fits_37 (by decide) rfl ?_
    refine T.iload dX11_fits_39 1 rfl ?_
    refine T.iload dX11_fits_41 0 rfl ?_
    refine T.icmp_eq (pc1 := 16) dX11_fits_43 (by decide) rfl ?_ ?_
    · refine T.sub [3, 2] rfl ?_
      exact hr16 x3 X
    · refine T.iload dX11_fits_46 1 rfl ?_
      refine T.iconst (w := 2) dX11_fits_48 (by decide) ?_
      refine T.icmp_eq (pc1 := 16) dX11_fits_49 (by decide) rfl ?_ ?_
      · refine T.sub [3, 2] rfl ?_
        exact hr16 x3 X
      · refine T.iload dX11_fits_52 0 rfl ?_
        refine T.iconst (w := 2) dX11_fits_54 (by decide) ?_
        refine T.icmp_ne (pc1 := 61) dX11_fits_55 (by decide) rfl ?_ ?_
        · refine T.aload_n dX11_fits_61 rfl 3 rfl ?_
          refine cR51 k1384 dX11_fits_62 ?_
          refine T.iload dX11_fits_65 1 rfl ?_
          refine alR4 dX11_fits_67 (fun x6 => ?_)
          refine T.aload_n dX11_fits_68 rfl 3 rfl ?_
          refine cR51 k1384 dX11_fits_69 ?_
          refine T.iload dX11_fits_72 0 rfl ?_
          refine alR4 dX11_fits_74 (fun x7 => ?_)
          refine T.icmp_ne (pc1 := 106) dX11_fits_75 (by decide) rfl ?_ ?_
          · refine T.iconst (w := 0) dX11_fits_106 (by decide) ?_
            exact T.ret_z rfl dX11_fits_107 rfl
          · refine T.aload_n dX11_fits_78 rfl 3 rfl ?_
            refine cR51 k1384 dX11_fits_79 ?_
            refine T.iload dX11_fits_82 1 rfl ?_
            refine alR4 dX11_fits_84 (fun x8 => ?_)
            refine T.iconst (w := 4) dX11_fits_85 (by decide) ?_
            refine T.icmp_lt (pc1 := 106) dX11_fits_86 (by decide) rfl ?_ ?_
            · refine T.iconst (w := 0) dX11_fits_106 (by decide) ?_
              exact T.ret_z rfl dX11_fits_107 rfl
            · refine T.aload_n dX11_fits_89 rfl 3 rfl ?_
              refine cR52 k1385 dX11_fits_90 ?_
              refine T.iload dX11_fits_93 1 rfl ?_
              refine alR5 dX11_fits_95 (fun x9 => ?_)
              refine T.aload_n dX11_fits_96 rfl 3 rfl ?_
              refine cR52 k1385 dX11_fits_97 ?_
              refine T.iload dX11_fits_100 0 rfl ?_
              refine alR5 dX11_fits_102 (fun x10 => ?_)
              refine T.icmp_eq (pc1 := 108) dX11_fits_103 (by decide) rfl ?_ ?_
              · refine T.iconst (w := 0) dX11_fits_108 (by decide) ?_
                refine T.istore (lv1 := [(6, .int 0), (5, .int x5), (4, .int x4), (3, .int x3), (0, .ref (Γ.2.2.2.1 0))]) dX11_fits_109 (by decide) rfl ?_
                refine T.sub [4, 3, 2, 1, 0] rfl ?_
                exact c_fits_111 Γ _ r16 hr16 BIG x3 x4 x5 (0 : Int32) X
              · refine T.iconst (w := 0) dX11_fits_106 (by decide) ?_
                exact T.ret_z rfl dX11_fits_107 rfl
        · refine T.goto (pc1 := 16) dX11_fits_58 (by decide) ?_
          refine T.sub [3, 2] rfl ?_
          exact hr16 x3 X
noncomputable def f_fits (p1 : Int32) (p2 : Int32) (X : St) : Option (Int32 × St) :=
  chk (inR (0 : Int32) 6000) (letV (wI X 31 (ix (0 : Int32)) p1) fun X1 =>
  chk (inR (0 : Int32) 6000) (letV (wI X1 32 (ix (0 : Int32)) p2) fun X2 =>
  f_fits_16 BIG (1 : Int32) X2))
set_option maxHeartbeats 4000000 in
set_option maxRecDepth 100000 in
theorem c_fits (Γ : Gx) (p1 : Int32) (p2 : Int32) (X : St) : TMI YR Γ yX11_fits cX11_fits 7 "BlameCourtModel" (some .boolean) R_fits [.ref (Γ.2.2.2.1 0), .int p1, .int p2] X (f_fits p1 p2 X) := by
  refine TMI.of (by decide) (Nat.le_of_ble_eq_true rfl) rfl ?_
  show T YR Γ cX11_fits 7 "BlameCourtModel" (some .boolean) R_fits _ qI 0 [(0, .ref (Γ.2.2.2.1 0)), (1, .int p1), (2, .int p2)] [] X (f_fits p1 p2 X)
  unfold f_fits
  refine T.iconst (w := 1) dX11_fits_0 (by decide) ?_
  refine T.istore_n (lv1 := [(3, .int 1), (0, .ref (Γ.2.2.2.1 0)), (1, .int p1), (2, .int p2)]) dX11_fits_1 rfl (by decide) rfl ?_
  refine T.aload_n dX11_fits_2 rfl 1 rfl ?_
  refine cR78 k1417 dX11_fits_3 ?_
  refine T.iconst (w := 0) dX11_fits_6 (by decide) ?_
  refine T.iload_n dX11_fits_7 rfl 2 rfl ?_
  refine asR31 dX11_fits_8 (fun X1 => ?_)
  refine T.aload_n dX11_fits_9 rfl 1 rfl ?_
  refine cR79 k1418 dX11_fits_10 ?_
  refine T.iconst (w := 0) dX11_fits_13 (by decide) ?_
  refine T.iload_n dX11_fits_14 rfl 3 rfl ?_
  refine asR32 dX11_fits_15 (fun X2 => ?_)
  refine T.sub [1, 0] rfl ?_
  exact c_fits_16 Γ _ BIG (1 : Int32) X2
abbrev R_put : Room := { frames := 6, cells := 0, slots := 0, locals := 90 }
noncomputable def f_put (p1 : Int32) (X : St) : Option (Int32 × St) :=
  letV (X.1 0 0) fun x1 =>
  letV (p1 >>> ((24 : Int32) &&& 31)) fun x2 =>
  letV (x2.toInt8.toInt32) fun x3 =>
  chk (inR x1 3000) (letV (wI X 1 (ix x1) (vp_nar .byte x3)) fun X4 =>
  letV (X4.1 0 0) fun x5 =>
  letV (x5 + (1 : Int32)) fun x6 =>
  letV (p1 >>> ((16 : Int32) &&& 31)) fun x7 =>
  letV (x7.toInt8.toInt32) fun x8 =>
  chk (inR x6 3000) (letV (wI X4 1 (ix x6) (vp_nar .byte x8)) fun X9 =>
  letV (X9.1 0 0) fun x10 =>
  letV (x10 + (2 : Int32)) fun x11 =>
  letV (p1 >>> ((8 : Int32) &&& 31)) fun x12 =>
  letV (x12.toInt8.toInt32) fun x13 =>
  chk (inR x11 3000) (letV (wI X9 1 (ix x11) (vp_nar .byte x13)) fun X14 =>
  letV (X14.1 0 0) fun x15 =>
  letV (x15 + (3 : Int32)) fun x16 =>
  letV (p1.toInt8.toInt32) fun x17 =>
  chk (inR x16 3000) (letV (wI X14 1 (ix x16) (vp_nar .byte x17)) fun X18 =>
  letV (X18.1 0 0) fun x19 =>
  letV (x19 + (4 : Int32)) fun x20 =>
  letV (wI X18 0 0 x20) fun X21 =>
  some (0, X21)))))
set_option maxHeartbeats 4000000 in
set_option maxRecDepth 100000 in
theorem c_put (Γ : Gx) (p1 : Int32) (X : St) : TMV YR Γ yX11_put cX11_put 2 "BlameCourtModel" none R_put [.ref (Γ.2.2.2.1 0), .int p1] X (f_put p1 X) := by
  refine TMV.of (by decide) (Nat.le_of_ble_eq_true rfl) rfl ?_
  show T YR Γ cX11_put 2 "BlameCourtModel" none R_put _ qV 0 [(0, .ref (Γ.2.2.2.1 0)), (1, .int p1)] [] X (f_put p1 X)
  unfold f_put
  refine T.aload_n dX11_put_0 rfl 0 rfl ?_
  refine cR48 k1365 dX11_put_1 ?_
  refine T.aload_n dX11_put_4 rfl 0 rfl ?_
  refine gR0 k1366 dX11_put_5 (fun x1 => ?_)
  refine T.iload_n dX11_put_8 rfl 1 rfl ?_
  refine T.bipush (w := 24) dX11_put_9 (by decide) ?_
  refine T.ishr dX11_put_11 (fun x2 => ?_)
  refine T.i2b dX11_put_12 (fun x3 => ?_)
  refine asR1 dX11_put_13 (fun X4 => ?_)
  refine T.aload_n dX11_put_14 rfl 0 rfl ?_
  refine cR48 k1365 dX11_put_15 ?_
  refine T.aload_n dX11_put_18 rfl 0 rfl ?_
  refine gR0 k1366 dX11_put_19 (fun x5 => ?_)
  refine T.iconst (w := 1) dX11_put_22 (by decide) ?_
  refine T.iadd dX11_put_23 (fun x6 => ?_)
  refine T.iload_n dX11_put_24 rfl 1 rfl ?_
  refine T.bipush (w := 16) dX11_put_25 (by decide) ?_
  refine T.ishr dX11_put_27 (fun x7 => ?_)
  refine T.i2b dX11_put_28 (fun x8 => ?_)
  refine asR1 dX11_put_29 (fun X9 => ?_)
  refine T.aload_n dX11_put_30 rfl 0 rfl ?_
  refine cR48 k1365 dX11_put_31 ?_
  refine T.aload_n dX11_put_34 rfl 0 rfl ?_
  refine gR0 k1366 dX11_put_35 (fun x10 => ?_)
  refine T.iconst (w := 2) dX11_put_38 (by decide) ?_
  refine T.iadd dX11_put_39 (fun x11 => ?_)
  refine T.iload_n dX11_put_40 rfl 1 rfl ?_
  refine T.bipush (w := 8) dX11_put_41 (by decide) ?_
  refine T.ishr dX11_put_43 (fun x12 => ?_)
  refine T.i2b dX11_put_44 (fun x13 => ?_)
  refine asR1 dX11_put_45 (fun X14 => ?_)
  refine T.aload_n dX11_put_46 rfl 0 rfl ?_
  refine cR48 k1365 dX11_put_47 ?_
  refine T.aload_n dX11_put_50 rfl 0 rfl ?_
  refine gR0 k1366 dX11_put_51 (fun x15 => ?_)
  refine T.iconst (w := 3) dX11_put_54 (by decide) ?_
  refine T.iadd dX11_put_55 (fun x16 => ?_)
  refine T.iload_n dX11_put_56 rfl 1 rfl ?_
  refine T.i2b dX11_put_57 (fun x17 => ?_)
  refine asR1 dX11_put_58 (fun X18 => ?_)
  refine T.aload_n dX11_put_59 rfl 0 rfl ?_
  refine T.dupr dX11_put_60 ?_
  refine gR0 k1366 dX11_put_61 (fun x19 => ?_)
  refine T.iconst (w := 4) dX11_put_64 (by decide) ?_
  refine T.iadd dX11_put_65 (fun x20 => ?_)
  refine pR0 k1366 dX11_put_66 (fun X21 => ?_)
  exact T.ret_v rfl dX11_put_69
abbrev R_feed : Room := { frames := 10, cells := 0, slots := 0, locals := 150 }
noncomputable def f_feed (p1 : Int32) (p2 : Int32) (p3 : Int32) (p4 : Int32) (p5 : Int32) (X : St) : Option (Int32 × St) :=
  letV (X.1 0 0) fun x1 =>
  letV (x1 + (20 : Int32)) fun x2 =>
  if x2.toInt ≤ 3000 then
    bnd (f_put p1 X) fun _ X3 =>
    bnd (f_put p2 X3) fun _ X4 =>
    bnd (f_put p3 X4) fun _ X5 =>
    bnd (f_put p4 X5) fun _ X6 =>
    bnd (f_put p5 X6) fun _ X7 =>
    letV (X7.1 0 0) fun x8 =>
    some (x8, X7)
  else
    some ((-1), X)
set_option maxHeartbeats 4000000 in
set_option maxRecDepth 100000 in
theorem c_feed (Γ : Gx) (p1 : Int32) (p2 : Int32) (p3 : Int32) (p4 : Int32) (p5 : Int32) (X : St) : TMI YR Γ yX11_feed cX11_feed 6 "BlameCourtModel" (some .int) R_feed [.ref (Γ.2.2.2.1 0), .int p1, .int p2, .int p3, .int p4, .int p5] X (f_feed p1 p2 p3 p4 p5 X) := by
  refine TMI.of (by decide) (Nat.le_of_ble_eq_true rfl) rfl ?_
  show T YR Γ cX11_feed 6 "BlameCourtModel" (some .int) R_feed _ qI 0 [(0, .ref (Γ.2.2.2.1 0)), (1, .int p1), (2, .int p2), (3, .int p3), (4, .int p4), (5, .int p5)] [] X (f_feed p1 p2 p3 p4 p5 X)
  unfold f_feed
  refine T.aload_n dX11_feed_0 rfl 0 rfl ?_
  refine gR0 k1366 dX11_feed_1 (fun x1 => ?_)
  refine T.bipush (w := 20) dX11_feed_4 (by decide) ?_
  refine T.iadd dX11_feed_6 (fun x2 => ?_)
  refine T.sipush (w := 3000) dX11_feed_7 (by decide) ?_
  refine T.icmp_le (pc1 := 15) dX11_feed_10 (by decide) rfl ?_ ?_
  · refine T.aload_n dX11_feed_15 rfl 0 rfl ?_
    refine T.iload_n dX11_feed_16 rfl 1 rfl ?_
    refine T.callV_v 0 (As1 := [.int p1]) (rest := []) (c_put Γ p1 X) ka_X11_put kv_X11_put oR rfl k1757 rfl rfl rfl rfl ⟨Nat.le_of_ble_eq_true rfl, Nat.le_of_ble_eq_true rfl⟩ (Nat.le_of_ble_eq_true rfl) dX11_feed_17 (fun _ X3 => ?_)
    refine T.aload_n dX11_feed_20 rfl 0 rfl ?_
    refine T.iload_n dX11_feed_21 rfl 2 rfl ?_
    refine T.callV_v 0 (As1 := [.int p2]) (rest := []) (c_put Γ p2 X3) ka_X11_put kv_X11_put oR rfl k1757 rfl rfl rfl rfl ⟨Nat.le_of_ble_eq_true rfl, Nat.le_of_ble_eq_true rfl⟩ (Nat.le_of_ble_eq_true rfl) dX11_feed_22 (fun _ X4 => ?_)
    refine T.aload_n dX11_feed_25 rfl 0 rfl ?_
    refine T.iload_n dX11_feed_26 rfl 3 rfl ?_
    refine T.callV_v 0 (As1 := [.int p3]) (rest := []) (c_put Γ p3 X4) ka_X11_put kv_X11_put oR rfl k1757 rfl rfl rfl rfl ⟨Nat.le_of_ble_eq_true rfl, Nat.le_of_ble_eq_true rfl⟩ (Nat.le_of_ble_eq_true rfl) dX11_feed_27 (fun _ X5 => ?_)
    refine T.aload_n dX11_feed_30 rfl 0 rfl ?_
    refine T.iload dX11_feed_31 4 rfl ?_
    refine T.callV_v 0 (As1 := [.int p4]) (rest := []) (c_put Γ p4 X5) ka_X11_put kv_X11_put oR rfl k1757 rfl rfl rfl rfl ⟨Nat.le_of_ble_eq_true rfl, Nat.le_of_ble_eq_true rfl⟩ (Nat.le_of_ble_eq_true rfl) dX11_feed_33 (fun _ X6 => ?_)
    refine T.aload_n dX11_feed_36 rfl 0 rfl ?_
    refine T.iload dX11_feed_37 5 rfl ?_
    refine T.callV_v 0 (As1 := [.int p5]) (rest := []) (c_put Γ p5 X6) ka_X11_put kv_X11_put oR rfl k1757 rfl rfl rfl rfl ⟨Nat.le_of_ble_eq_true rfl, Nat.le_of_ble_eq_true rfl⟩ (Nat.le_of_ble_eq_true rfl) dX11_feed_39 (fun _ X7 => ?_)
    refine T.aload_n dX11_feed_42 rfl 0 rfl ?_
    refine gR0 k1366 dX11_feed_43 (fun x8 => ?_)
    exact T.ret_i rfl dX11_feed_46
  · refine T.iconst (w := (-1)) dX11_feed_13 (by decide) ?_
    exact T.ret_i rfl dX11_feed_14
abbrev R_end : Room := { frames := 10, cells := 0, slots := 0, locals := 150 }
noncomputable def f_end (p1 : Int32) (X : St) : Option (Int32 × St) :=
  letV (X.1 0 0) fun x1 =>
  bnd (f_in p1 (0 : Int32) x1 X) fun x2 X3 =>
  if x2.toInt = 0 then
    some ((-1), X3)
  else
    letV (wI X3 0 0 p1) fun X4 =>
    some (p1, X4)
set_option maxHeartbeats 4000000 in
set_option maxRecDepth 100000 in
theorem c_end (Γ : Gx) (p1 : Int32) (X : St) : TMI YR Γ yX11_end cX11_end 2 "BlameCourtModel" (some .int) R_end [.ref (Γ.2.2.2.1 0), .int p1] X (f_end p1 X) := by
  refine TMI.of (by decide) (Nat.le_of_ble_eq_true rfl) rfl ?_
  show T YR Γ cX11_end 2 "BlameCourtModel" (some .int) R_end _ qI 0 [(0, .ref (Γ.2.2.2.1 0)), (1, .int p1)] [] X (f_end p1 X)
  unfold f_end
  refine T.iload_n dX11_end_0 rfl 1 rfl ?_
  refine T.iconst (w := 0) dX11_end_1 (by decide) ?_
  refine T.aload_n dX11_end_2 rfl 0 rfl ?_
  refine gR0 k1366 dX11_end_3 (fun x1 => ?_)
  refine T.callS_i (As1 := [.int p1, .int 0, .int x1]) (rest := []) (c_in Γ p1 (0 : Int32) x1 X) ka_X11_in k1766 k1765 rfl rfl rfl rfl ⟨Nat.le_of_ble_eq_true rfl, Nat.le_of_ble_eq_true rfl⟩ (Nat.le_of_ble_eq_true rfl) dX11_end_6 (fun x2 X3 => ?_)
  refine T.if_ne (pc1 := 14) dX11_end_9 (by decide) ?_ ?_
  · refine T.aload_n dX11_end_14 rfl 0 rfl ?_
    refine T.iload_n dX11_end_15 rfl 1 rfl ?_
    refine pR0 k1366 dX11_end_16 (fun X4 => ?_)
    refine T.iload_n dX11_end_19 rfl 1 rfl ?_
    exact T.ret_i rfl dX11_end_20
  · refine T.iconst (w := (-1)) dX11_end_12 (by decide) ?_
    exact T.ret_i rfl dX11_end_13
abbrev R_isWell : Room := { frames := 6, cells := 0, slots := 0, locals := 90 }
noncomputable def f_isWell (X : St) : Option (Int32 × St) :=
  letV (X.1 0 9) fun x1 =>
  if x1.toInt = 0 then
    some (1, X)
  else
    some (0, X)
set_option maxHeartbeats 4000000 in
set_option maxRecDepth 100000 in
theorem c_isWell (Γ : Gx) (X : St) : TMI YR Γ yX11_isWell cX11_isWell 1 "BlameCourtModel" (some .boolean) R_isWell [.ref (Γ.2.2.2.1 0)] X (f_isWell X) := by
  refine TMI.of (by decide) (Nat.le_of_ble_eq_true rfl) rfl ?_
  show T YR Γ cX11_isWell 1 "BlameCourtModel" (some .boolean) R_isWell _ qI 0 [(0, .ref (Γ.2.2.2.1 0))] [] X (f_isWell X)
  unfold f_isWell
  refine T.aload_n dX11_isWell_0 rfl 0 rfl ?_
  refine gR9 k1378 dX11_isWell_1 (fun x1 => ?_)
  refine T.if_ne (pc1 := 11) dX11_isWell_4 (by decide) ?_ ?_
  · refine T.iconst (w := 0) dX11_isWell_11 (by decide) ?_
    exact T.ret_z rfl dX11_isWell_12 rfl
  · refine T.iconst (w := 1) dX11_isWell_7 (by decide) ?_
    refine T.goto (pc1 := 12) dX11_isWell_8 (by decide) ?_
    exact T.ret_z rfl dX11_isWell_12 rfl
abbrev R_fails : Room := { frames := 6, cells := 0, slots := 0, locals := 90 }
noncomputable def f_fails (p1 : Int32) (p2 : Int32) (X : St) : Option (Int32 × St) :=
  letV (X.1 0 9) fun x1 =>
  if x1.toInt = 0 then
    letV (wI X 0 9 p1) fun X2 =>
    letV (wI X2 0 10 p2) fun X3 =>
    some (0, X3)
  else
    some (0, X)
set_option maxHeartbeats 4000000 in
set_option maxRecDepth 100000 in
theorem c_fails (Γ : Gx) (p1 : Int32) (p2 : Int32) (X : St) : TMV YR Γ yX11_fails cX11_fails 3 "BlameCourtModel" none R_fails [.ref (Γ.2.2.2.1 0), .int p1, .int p2] X (f_fails p1 p2 X) := by
  refine TMV.of (by decide) (Nat.le_of_ble_eq_true rfl) rfl ?_
  show T YR Γ cX11_fails 3 "BlameCourtModel" none R_fails _ qV 0 [(0, .ref (Γ.2.2.2.1 0)), (1, .int p1), (2, .int p2)] [] X (f_fails p1 p2 X)
  unfold f_fails
  refine T.aload_n dX11_fails_0 rfl 0 rfl ?_
  refine gR9 k1378 dX11_fails_1 (fun x1 => ?_)
  refine T.if_ne (pc1 := 17) dX11_fails_4 (by decide) ?_ ?_
  · exact T.ret_v rfl dX11_fails_17
  · refine T.aload_n dX11_fails_7 rfl 0 rfl ?_
    refine T.iload_n dX11_fails_8 rfl 1 rfl ?_
    refine pR9 k1378 dX11_fails_9 (fun X2 => ?_)
    refine T.aload_n dX11_fails_12 rfl 0 rfl ?_
    refine T.iload_n dX11_fails_13 rfl 2 rfl ?_
    refine pR10 k1379 dX11_fails_14 (fun X3 => ?_)
    exact T.ret_v rfl dX11_fails_17
abbrev R_stray : Room := { frames := 10, cells := 0, slots := 0, locals := 150 }
noncomputable def f_stray (X : St) : Option (Int32 × St) :=
  letV (X.1 0 6) fun x1 =>
  bnd (f_fails (1 : Int32) x1 X) fun _ X2 =>
  some (0, X2)
set_option maxHeartbeats 4000000 in
set_option maxRecDepth 100000 in
theorem c_stray (Γ : Gx) (X : St) : TMV YR Γ yX11_stray cX11_stray 1 "BlameCourtModel" none R_stray [.ref (Γ.2.2.2.1 0)] X (f_stray X) := by
  refine TMV.of (by decide) (Nat.le_of_ble_eq_true rfl) rfl ?_
  show T YR Γ cX11_stray 1 "BlameCourtModel" none R_stray _ qV 0 [(0, .ref (Γ.2.2.2.1 0))] [] X (f_stray X)
  unfold f_stray
  refine T.aload_n dX11_stray_0 rfl 0 rfl ?_
  refine T.iconst (w := 1) dX11_stray_1 (by decide) ?_
  refine T.aload_n dX11_stray_2 rfl 0 rfl ?_
  refine gR6 k1374 dX11_stray_3 (fun x1 => ?_)
  refine T.callV_v 0 (As1 := [.int 1, .int x1]) (rest := []) (c_fails Γ (1 : Int32) x1 X) ka_X11_fails kv_X11_fails oR rfl k1812 rfl rfl rfl rfl ⟨Nat.le_of_ble_eq_true rfl, Nat.le_of_ble_eq_true rfl⟩ (Nat.le_of_ble_eq_true rfl) dX11_stray_6 (fun _ X2 => ?_)
  exact T.ret_v rfl dX11_stray_9
abbrev R_letterOf : Room := { frames := 10, cells := 0, slots := 0, locals := 150 }
noncomputable def f_letterOf (p0 : Int32) (X : St) : Option (Int32 × St) :=
  bnd (f_in p0 (97 : Int32) (122 : Int32) X) fun x1 X2 =>
  if x1.toInt = 0 then
    bnd (f_in p0 (65 : Int32) (90 : Int32) X2) fun x3 X4 =>
    if x3.toInt = 0 then
      some (0, X4)
    else
      letV (p0 - (38 : Int32)) fun x5 =>
      some (x5, X4)
  else
    letV (p0 - (96 : Int32)) fun x6 =>
    some (x6, X2)
set_option maxHeartbeats 4000000 in
set_option maxRecDepth 100000 in
theorem c_letterOf (Γ : Gx) (p0 : Int32) (X : St) : TMI YR Γ yX11_letterOf cX11_letterOf 1 "BlameCourtModel" (some .int) R_letterOf [.int p0] X (f_letterOf p0 X) := by
  refine TMI.of (by decide) (Nat.le_of_ble_eq_true rfl) rfl ?_
  show T YR Γ cX11_letterOf 1 "BlameCourtModel" (some .int) R_letterOf _ qI 0 [(0, .int p0)] [] X (f_letterOf p0 X)
  unfold f_letterOf
  refine T.iload_n dX11_letterOf_0 rfl 0 rfl ?_
  refine T.bipush (w := 97) dX11_letterOf_1 (by decide) ?_
  refine T.bipush (w := 122) dX11_letterOf_3 (by decide) ?_
  refine T.callS_i (As1 := [.int p0, .int 97, .int 122]) (rest := []) (c_in Γ p0 (97 : Int32) (122 : Int32) X) ka_X11_in k1766 k1765 rfl rfl rfl rfl ⟨Nat.le_of_ble_eq_true rfl, Nat.le_of_ble_eq_true rfl⟩ (Nat.le_of_ble_eq_true rfl) dX11_letterOf_5 (fun x1 X2 => ?_)
  refine T.if_eq (pc1 := 18) dX11_letterOf_8 (by decide) ?_ ?_
  · refine T.iload_n dX11_letterOf_18 rfl 0 rfl ?_
    refine T.bipush (w := 65) dX11_letterOf_19 (by decide) ?_
    refine T.bipush (w := 90) dX11_letterOf_21 (by decide) ?_
    refine T.callS_i (As1 := [.int p0, .int 65, .int 90]) (rest := []) (c_in Γ p0 (65 : Int32) (90 : Int32) X2) ka_X11_in k1766 k1765 rfl rfl rfl rfl ⟨Nat.le_of_ble_eq_true rfl, Nat.le_of_ble_eq_true rfl⟩ (Nat.le_of_ble_eq_true rfl) dX11_letterOf_23 (fun x3 X4 => ?_)
    refine T.if_eq (pc1 := 36) dX11_letterOf_26 (by decide) ?_ ?_
    · refine T.iconst (w := 0) dX11_letterOf_36 (by decide) ?_
      exact T.ret_i rfl dX11_letterOf_37
    · refine T.iload_n dX11_letterOf_29 rfl 0 rfl ?_
      refine T.bipush (w := 38) dX11_letterOf_30 (by decide) ?_
      refine T.isub dX11_letterOf_32 (fun x5 => ?_)
      refine T.goto (pc1 := 37) dX11_letterOf_33 (by decide) ?_
      exact T.ret_i rfl dX11_letterOf_37
  · refine T.iload_n dX11_letterOf_11 rfl 0 rfl ?_
    refine T.bipush (w := 96) dX11_letterOf_12 (by decide) ?_
    refine T.isub dX11_letterOf_14 (fun x6 => ?_)
    refine T.goto (pc1 := 37) dX11_letterOf_15 (by decide) ?_
    exact T.ret_i rfl dX11_letterOf_37
abbrev R_wordOf : Room := { frames := 6, cells := 0, slots := 0, locals := 90 }
noncomputable def f_wordOf (q0 : Int64) (X : St) : Option (Int32 × St) :=
  letV (lg_cmp q0 (2000000000 : Int64)) fun x1 =>
  if x1.toInt ≤ 0 then
    letV (q0.toInt32) fun x2 =>
    if x2.toInt = 398 then
      some (14, X)
    else if x2.toInt = 582 then
      some (3, X)
    else if x2.toInt = 590 then
      some (2, X)
    else if x2.toInt = 5017 then
      some (13, X)
    else if x2.toInt = 37780 then
      some (11, X)
    else if x2.toInt = 49492 then
      some (1, X)
    else if x2.toInt = 57687 then
      some (8, X)
    else if x2.toInt = 1361093 then
      some (5, X)
    else if x2.toInt = 1622087 then
      some (12, X)
    else if x2.toInt = 4199572 then
      some (0, X)
    else if x2.toInt = 5019269 then
      some (9, X)
    else if x2.toInt = 5275982 then
      some (4, X)
    else if x2.toInt = 5317957 then
      some (6, X)
    else if x2.toInt = 100975813 then
      some (7, X)
    else if x2.toInt = 273191828 then
      some (10, X)
    else some ((-1), X)
  else
    some ((-1), X)
set_option maxHeartbeats 4000000 in
set_option maxRecDepth 100000 in
theorem c_wordOf (Γ : Gx) (q0 : Int64) (X : St) : TMI YR Γ yX11_wordOf cX11_wordOf 2 "BlameCourtModel" (some .int) R_wordOf [.long q0] X (f_wordOf q0 X) := by
  refine TMI.of (by decide) (Nat.le_of_ble_eq_true rfl) rfl ?_
  show T YR Γ cX11_wordOf 2 "BlameCourtModel" (some .int) R_wordOf _ qI 0 [(0, .long q0)] [] X (f_wordOf q0 X)
  unfold f_wordOf
  refine T.lload_n dX11_wordOf_0 rfl 0 rfl ?_
  refine T.ldc2 (w := 2000000000) dX11_wordOf_1 k1791 ?_
  refine T.lcmp dX11_wordOf_4 (fun x1 => ?_)
  refine T.if_le (pc1 := 10) dX11_wordOf_5 (by decide) ?_ ?_
  · refine T.lload_n dX11_wordOf_10 rfl 0 rfl ?_
    refine T.l2i dX11_wordOf_11 (fun x2 => ?_)
    refine T.ite (fun s3 => ?_) (fun s3 => ?_)
    · refine T.lookup (pc1 := 180) dX11_wordOf_12 (by decide) (off := 168) (by rw [s3]; rfl) (by decide) ?_
      refine T.bipush (w := 14) dX11_wordOf_180 (by decide) ?_
      exact T.ret_i rfl dX11_wordOf_182
    refine T.ite (fun s4 => ?_) (fun s4 => ?_)
    · refine T.lookup (pc1 := 150) dX11_wordOf_12 (by decide) (off := 138) (by rw [s4]; rfl) (by decide) ?_
      refine T.iconst (w := 3) dX11_wordOf_150 (by decide) ?_
      exact T.ret_i rfl dX11_wordOf_151
    refine T.ite (fun s5 => ?_) (fun s5 => ?_)
    · refine T.lookup (pc1 := 148) dX11_wordOf_12 (by decide) (off := 136) (by rw [s5]; rfl) (by decide) ?_
      refine T.iconst (w := 2) dX11_wordOf_148 (by decide) ?_
      exact T.ret_i rfl dX11_wordOf_149
    refine T.ite (fun s6 => ?_) (fun s6 => ?_)
    · refine T.lookup (pc1 := 177) dX11_wordOf_12 (by decide) (off := 165) (by rw [s6]; rfl) (by decide) ?_
      refine T.bipush (w := 13) dX11_wordOf_177 (by decide) ?_
      exact T.ret_i rfl dX11_wordOf_179
    refine T.ite (fun s7 => ?_) (fun s7 => ?_)
    · refine T.lookup (pc1 := 171) dX11_wordOf_12 (by decide) (off := 159) (by rw [s7]; rfl) (by decide) ?_
      refine T.bipush (w := 11) dX11_wordOf_171 (by decide) ?_
      exact T.ret_i rfl dX11_wordOf_173
    refine T.ite (fun s8 => ?_) (fun s8 => ?_)
    · refine T.lookup (pc1 := 146) dX11_wordOf_12 (by decide) (off := 134) (by rw [s8]; rfl) (by decide) ?_
      refine T.iconst (w := 1) dX11_wordOf_146 (by decide) ?_
      exact T.ret_i rfl dX11_wordOf_147
    refine T.ite (fun s9 => ?_) (fun s9 => ?_)
    · refine T.lookup (pc1 := 162) dX11_wordOf_12 (by decide) (off := 150) (by rw [s9]; rfl) (by decide) ?_
      refine T.bipush (w := 8) dX11_wordOf_162 (by decide) ?_
      exact T.ret_i rfl dX11_wordOf_164
    refine T.ite (fun s10 => ?_) (fun s10 => ?_)
    · refine T.lookup (pc1 := 154) dX11_wordOf_12 (by decide) (off := 142) (by rw [s10]; rfl) (by decide) ?_
      refine T.iconst (w := 5) dX11_wordOf_154 (by decide) ?_
      exact T.ret_i rfl dX11_wordOf_155
    refine T.ite (fun s11 => ?_) (fun s11 => ?_)
    · refine T.lookup (pc1 := 174) dX11_wordOf_12 (by decide) (off := 162) (by rw [s11]; rfl) (by decide) ?_
      refine T.bipush (w := 12) dX11_wordOf_174 (by decide) ?_
      exact T.ret_i rfl dX11_wordOf_176
    refine T.ite (fun s12 => ?_) (fun s12 => ?_)
    · refine T.lookup (pc1 := 144) dX11_wordOf_12 (by decide) (off := 132) (by rw [s12]; rfl) (by decide) ?_
      refine T.iconst (w := 0) dX11_wordOf_144 (by decide) ?_
      exact T.ret_i rfl dX11_wordOf_145
    refine T.ite (fun s13 => ?_) (fun s13 => ?_)
    · refine T.lookup (pc1 := 165) dX11_wordOf_12 (by decide) (off := 153) (by rw [s13]; rfl) (by decide) ?_
      refine T.bipush (w := 9) dX11_wordOf_165 (by decide) ?_
      exact T.ret_i rfl dX11_wordOf_167
    refine T.ite (fun s14 => ?_) (fun s14 => ?_)
    · refine T.lookup (pc1 := 152) dX11_wordOf_12 (by decide) (off := 140) (by rw [s14]; rfl) (by decide) ?_
      refine T.iconst (w := 4) dX11_wordOf_152 (by decide) ?_
      exact T.ret_i rfl dX11_wordOf_153
    refine T.ite (fun s15 => ?_) (fun s15 => ?_)
    · refine T.lookup (pc1 := 156) dX11_wordOf_12 (by decide) (off := 144) (by rw [s15]; rfl) (by decide) ?_
      refine T.bipush (w := 6) dX11_wordOf_156 (by decide) ?_
      exact T.ret_i rfl dX11_wordOf_158
    refine T.ite (fun s16 => ?_) (fun s16 => ?_)
    · refine T.lookup (pc1 := 159) dX11_wordOf_12 (by decide) (off := 147) (by rw [s16]; rfl) (by decide) ?_
      refine T.bipush (w := 7) dX11_wordOf_159 (by decide) ?_
      exact T.ret_i rfl dX11_wordOf_161
    refine T.ite (fun s17 => ?_) (fun s17 => ?_)
    · refine T.lookup (pc1 := 168) dX11_wordOf_12 (by decide) (off := 156) (by rw [s17]; rfl) (by decide) ?_
      refine T.bipush (w := 10) dX11_wordOf_168 (by decide) ?_
      exact T.ret_i rfl dX11_wordOf_170
    refine T.lookup (pc1 := 183) dX11_wordOf_12 (by decide) (off := 171) ((osw2 s3).trans ((osw2 s4).trans ((osw2 s5).trans ((osw2 s6).trans ((osw2 s7).trans ((osw2 s8).trans ((osw2 s9).trans ((osw2 s10).trans ((osw2 s11).trans ((osw2 s12).trans ((osw2 s13).trans ((osw2 s14).trans ((osw2 s15).trans ((osw2 s16).trans ((osw2 s17).trans rfl))))))))))))))) (by decide) ?_
    refine T.iconst (w := (-1)) dX11_wordOf_183 (by decide) ?_
    exact T.ret_i rfl dX11_wordOf_184
  · refine T.iconst (w := (-1)) dX11_wordOf_8 (by decide) ?_
    exact T.ret_i rfl dX11_wordOf_9
abbrev R_name : Room := { frames := 14, cells := 0, slots := 0, locals := 210 }
noncomputable def f_name_156 (m0 : Int64) (X : St) : Option (Int32 × St) :=
  letV (wL X 0 47 m0) fun X11 =>
  some (0, X11)
set_option maxHeartbeats 4000000 in
set_option maxRecDepth 100000 in
theorem c_name_156 (Γ : Gx) (As : List Value) (m0 : Int64) (X : St) : T YR Γ cX11_name 2 "BlameCourtModel" none R_name As qV 156 [] [.long m0, .ref (Γ.2.2.2.1 0)] X (f_name_156 m0 X) := by
  unfold f_name_156
  refine pR47 k1376 dX11_name_156 (fun X11 => ?_)
  exact T.ret_v rfl dX11_name_159
noncomputable def f_name_139 (a1 : Int32) (b0 : Int32) (X : St) : Option (Int32 × St) :=
  letV (wI X 0 7 b0) fun X9 =>
  if a1.toInt < 0 then
    letV (X9.2.1 0 47) fun y10 =>
    f_name_156 y10 X9
  else
    letV (a1.toInt64) fun y12 =>
    f_name_156 y12 X9
set_option maxHeartbeats 4000000 in
set_option maxRecDepth 100000 in
theorem c_name_139 (Γ : Gx) (As : List Value) (a1 : Int32) (b0 : Int32) (X : St) : T YR Γ cX11_name 2 "BlameCourtModel" none R_name As qV 139 [(0, .ref (Γ.2.2.2.1 0)), (1, .int a1)] [.int b0, .ref (Γ.2.2.2.1 0)] X (f_name_139 a1 b0 X) := by
  unfold f_name_139
  refine pR7 k1375 dX11_name_139 (fun X9 => ?_)
  refine T.aload_n dX11_name_142 rfl 0 rfl ?_
  refine T.iload_n dX11_name_143 rfl 1 rfl ?_
  refine T.if_lt (pc1 := 152) dX11_name_144 (by decide) ?_ ?_
  · refine T.aload_n dX11_name_152 rfl 0 rfl ?_
    refine gR47 k1376 dX11_name_153 (fun y10 => ?_)
    refine T.sub [] rfl ?_
    exact c_name_156 Γ _ y10 X9
  · refine T.iload_n dX11_name_147 rfl 1 rfl ?_
    refine T.i2l dX11_name_148 (fun y12 => ?_)
    refine T.goto (pc1 := 156) dX11_name_149 (by decide) ?_
    refine T.sub [] rfl ?_
    exact c_name_156 Γ _ y12 X9
noncomputable def f_name_115 (b0 : Int32) (X : St) : Option (Int32 × St) :=
  if b0.toInt < 0 then
    letV (X.1 0 8) fun x8 =>
    if x8.toInt ≤ 8 then
      f_name_139 b0 (1 : Int32) X
    else
      f_name_139 b0 (5 : Int32) X
  else
    f_name_139 b0 (2 : Int32) X
set_option maxHeartbeats 4000000 in
set_option maxRecDepth 100000 in
theorem c_name_115 (Γ : Gx) (As : List Value) (b0 : Int32) (X : St) : T YR Γ cX11_name 2 "BlameCourtModel" none R_name As qV 115 [(0, .ref (Γ.2.2.2.1 0))] [.int b0] X (f_name_115 b0 X) := by
  unfold f_name_115
  refine T.istore_n (lv1 := [(1, .int b0), (0, .ref (Γ.2.2.2.1 0))]) dX11_name_115 rfl (by decide) rfl ?_
  refine T.aload_n dX11_name_116 rfl 1 rfl ?_
  refine T.iload_n dX11_name_117 rfl 0 rfl ?_
  refine T.if_lt (pc1 := 125) dX11_name_118 (by decide) ?_ ?_
  · refine T.aload_n dX11_name_125 rfl 1 rfl ?_
    refine gR8 k1377 dX11_name_126 (fun x8 => ?_)
    refine T.bipush (w := 8) dX11_name_129 (by decide) ?_
    refine T.icmp_le (pc1 := 138) dX11_name_131 (by decide) rfl ?_ ?_
    · refine T.iconst (w := 1) dX11_name_138 (by decide) ?_
      refine T.sub [1, 0] rfl ?_
      exact c_name_139 Γ _ b0 (1 : Int32) X
    · refine T.iconst (w := 5) dX11_name_134 (by decide) ?_
      refine T.goto (pc1 := 139) dX11_name_135 (by decide) ?_
      refine T.sub [1, 0] rfl ?_
      exact c_name_139 Γ _ b0 (5 : Int32) X
  · refine T.iconst (w := 2) dX11_name_121 (by decide) ?_
    refine T.goto (pc1 := 139) dX11_name_122 (by decide) ?_
    refine T.sub [1, 0] rfl ?_
    exact c_name_139 Γ _ b0 (2 : Int32) X
noncomputable def f_name_96 (X : St) : Option (Int32 × St) :=
  letV (X.1 0 8) fun x4 =>
  if x4.toInt ≤ 5 then
    letV (X.2.1 0 47) fun y5 =>
    bnd (f_wordOf y5 X) fun x6 X7 =>
    f_name_115 x6 X7
  else
    f_name_115 (-1 : Int32) X
set_option maxHeartbeats 4000000 in
set_option maxRecDepth 100000 in
theorem c_name_96 (Γ : Gx) (As : List Value) (X : St) : T YR Γ cX11_name 2 "BlameCourtModel" none R_name As qV 96 [(0, .ref (Γ.2.2.2.1 0))] [] X (f_name_96 X) := by
  unfold f_name_96
  refine T.aload_n dX11_name_96 rfl 0 rfl ?_
  refine gR8 k1377 dX11_name_97 (fun x4 => ?_)
  refine T.iconst (w := 5) dX11_name_100 (by decide) ?_
  refine T.icmp_le (pc1 := 108) dX11_name_101 (by decide) rfl ?_ ?_
  · refine T.aload_n dX11_name_108 rfl 0 rfl ?_
    refine gR47 k1376 dX11_name_109 (fun y5 => ?_)
    refine T.callS_i (As1 := [.long y5]) (rest := []) (c_wordOf Γ y5 X) ka_X11_wordOf k1789 k1788 rfl rfl rfl rfl ⟨Nat.le_of_ble_eq_true rfl, Nat.le_of_ble_eq_true rfl⟩ (Nat.le_of_ble_eq_true rfl) dX11_name_112 (fun x6 X7 => ?_)
    exact c_name_115 Γ _ x6 X7
  · refine T.iconst (w := (-1)) dX11_name_104 (by decide) ?_
    refine T.goto (pc1 := 115) dX11_name_105 (by decide) ?_
    exact c_name_115 Γ _ (-1 : Int32) X
noncomputable def f_name_70 (r5 : St → Option (Int32 × St)) (m0 : Int64) (X : St) : Option (Int32 × St) :=
  letV (wL X 0 47 m0) fun X19 =>
  letV (X19.1 0 8) fun x20 =>
  letV (x20 + (1 : Int32)) fun x21 =>
  letV (wI X19 0 8 x21) fun X22 =>
  letV (X22.1 0 5) fun x23 =>
  letV (x23 + (1 : Int32)) fun x24 =>
  letV (wI X22 0 5 x24) fun X25 =>
  r5 X25
set_option maxHeartbeats 4000000 in
set_option maxRecDepth 100000 in
theorem c_name_70 (Γ : Gx) (As : List Value) (r5 : St → Option (Int32 × St)) (hr5 : ∀ (X : St), T YR Γ cX11_name 2 "BlameCourtModel" none R_name As qV 5 [(0, .ref (Γ.2.2.2.1 0))] [] X (r5 X)) (m0 : Int64) (X : St) : T YR Γ cX11_name 2 "BlameCourtModel" none R_name As qV 70 [(0, .ref (Γ.2.2.2.1 0))] [.long m0, .ref (Γ.2.2.2.1 0)] X (f_name_70 r5 m0 X) := by
  unfold f_name_70
  refine pR47 k1376 dX11_name_70 (fun X19 => ?_)
  refine T.aload_n dX11_name_73 rfl 0 rfl ?_
  refine T.dupr dX11_name_74 ?_
  refine gR8 k1377 dX11_name_75 (fun x20 => ?_)
  refine T.iconst (w := 1) dX11_name_78 (by decide) ?_
  refine T.iadd dX11_name_79 (fun x21 => ?_)
  refine pR8 k1377 dX11_name_80 (fun X22 => ?_)
  refine T.aload_n dX11_name_83 rfl 0 rfl ?_
  refine T.dupr dX11_name_84 ?_
  refine gR5 k1373 dX11_name_85 (fun x23 => ?_)
  refine T.iconst (w := 1) dX11_name_88 (by decide) ?_
  refine T.iadd dX11_name_89 (fun x24 => ?_)
  refine pR5 k1373 dX11_name_90 (fun X25 => ?_)
  refine T.goto (pc1 := 5) dX11_name_93 (by decide) ?_
  exact hr5 X25
noncomputable def f_name_5_s (r5 : St → Option (Int32 × St)) (X : St) : Option (Int32 × St) :=
  letV (X.1 0 5) fun x2 =>
  letV (X.1 0 1) fun x3 =>
  if x3.toInt ≤ x2.toInt then
    f_name_96 X
  else
    letV (X.1 0 5) fun x13 =>
    chk (inR x13 3000) (letV (X.1 2 (ix x13)) fun x14 =>
    bnd (f_letterOf x14 X) fun x15 X16 =>
    if x15.toInt ≤ 0 then
      f_name_96 X16
    else
      letV (X16.1 0 8) fun x17 =>
      if 8 ≤ x17.toInt then
        letV (X16.2.1 0 47) fun y18 =>
        f_name_70 r5 y18 X16
      else
        letV (X16.2.1 0 47) fun y26 =>
        letV ((64 : Int64) * y26) fun y27 =>
        letV (X16.1 0 5) fun x28 =>
        chk (inR x28 3000) (letV (X16.1 2 (ix x28)) fun x29 =>
        bnd (f_letterOf x29 X16) fun x30 X31 =>
        letV (x30.toInt64) fun y32 =>
        letV (y27 + y32) fun y33 =>
        f_name_70 r5 y33 X31))
noncomputable def f_name_5 (n : Nat) : St → Option (Int32 × St) := lp (fun _ => none) (f_name_5_s) n
set_option maxHeartbeats 4000000 in
set_option maxRecDepth 100000 in
theorem c_name_5 (Γ : Gx) (As : List Value) (n : Nat) : ∀ (X : St), T YR Γ cX11_name 2 "BlameCourtModel" none R_name As qV 5 [(0, .ref (Γ.2.2.2.1 0))] [] X (f_name_5 n X) := by
  unfold f_name_5
  refine lp_ind (P := fun (r5 : St → Option (Int32 × St)) => ∀ (X : St), T YR Γ cX11_name 2 "BlameCourtModel" none R_name As qV 5 [(0, .ref (Γ.2.2.2.1 0))] [] X (r5 X)) (fun _ => T.no) ?_ n
  intro r5 hr5 X
  unfold f_name_5_s
  refine T.aload_n dX11_name_5 rfl 0 rfl ?_
  refine gR5 k1373 dX11_name_6 (fun x2 => ?_)
  refine T.aload_n dX11_name_9 rfl 0 rfl ?_
  refine gR1 k1368 dX11_name_10 (fun x3 => ?_)
  refine T.icmp_ge (pc1 := 96) dX11_name_13 (by decide) rfl ?_ ?_
  · exact c_name_96 Γ _ X
  · refine T.aload_n dX11_name_16 rfl 0 rfl ?_
    refine cR49 k1367 dX11_name_17 ?_
    refine T.aload_n dX11_name_20 rfl 0 rfl ?_
    refine gR5 k1373 dX11_name_21 (fun x13 => ?_)
    refine alR2 dX11_name_24 (fun x14 => ?_)
    refine T.callS_i (As1 := [.int x14]) (rest := []) (c_letterOf Γ x14 X) ka_X11_letterOf k1781 k1780 rfl rfl rfl rfl ⟨Nat.le_of_ble_eq_true rfl, Nat.le_of_ble_eq_true rfl⟩ (Nat.le_of_ble_eq_true rfl) dX11_name_25 (fun x15 X16 => ?_)
    refine T.if_le (pc1 := 96) dX11_name_28 (by decide) ?_ ?_
    · exact c_name_96 Γ _ X16
    · refine T.aload_n dX11_name_31 rfl 0 rfl ?_
      refine T.aload_n dX11_name_32 rfl 0 rfl ?_
      refine gR8 k1377 dX11_name_33 (fun x17 => ?_)
      refine T.bipush (w := 8) dX11_name_36 (by decide) ?_
      refine T.icmp_ge (pc1 := 66) dX11_name_38 (by decide) rfl ?_ ?_
      · refine T.aload_n dX11_name_66 rfl 0 rfl ?_
        refine gR47 k1376 dX11_name_67 (fun y18 => ?_)
        exact c_name_70 Γ _ r5 hr5 y18 X16
      · refine T.ldc2 (w := 64) dX11_name_41 k1787 ?_
        refine T.aload_n dX11_name_44 rfl 0 rfl ?_
        refine gR47 k1376 dX11_name_45 (fun y26 => ?_)
        refine T.lmul dX11_name_48 (fun y27 => ?_)
        refine T.aload_n dX11_name_49 rfl 0 rfl ?_
        refine cR49 k1367 dX11_name_50 ?_
        refine T.aload_n dX11_name_53 rfl 0 rfl ?_
        refine gR5 k1373 dX11_name_54 (fun x28 => ?_)
        refine alR2 dX11_name_57 (fun x29 => ?_)
        refine T.callS_i (As1 := [.int x29]) (rest := [.long y27, .ref (Γ.2.2.2.1 0)]) (c_letterOf Γ x29 X16) ka_X11_letterOf k1781 k1780 rfl rfl rfl rfl ⟨Nat.le_of_ble_eq_true rfl, Nat.le_of_ble_eq_true rfl⟩ (Nat.le_of_ble_eq_true rfl) dX11_name_58 (fun x30 X31 => ?_)
        refine T.i2l dX11_name_61 (fun y32 => ?_)
        refine T.ladd dX11_name_62 (fun y33 => ?_)
        refine T.goto (pc1 := 70) dX11_name_63 (by decide) ?_
        exact c_name_70 Γ _ r5 hr5 y33 X31
noncomputable def f_name (X : St) : Option (Int32 × St) :=
  letV (wI X 0 8 ((0 : Int32))) fun X1 =>
  f_name_5 BIG X1
set_option maxHeartbeats 4000000 in
set_option maxRecDepth 100000 in
theorem c_name (Γ : Gx) (X : St) : TMV YR Γ yX11_name cX11_name 2 "BlameCourtModel" none R_name [.ref (Γ.2.2.2.1 0)] X (f_name X) := by
  refine TMV.of (by decide) (Nat.le_of_ble_eq_true rfl) rfl ?_
  show T YR Γ cX11_name 2 "BlameCourtModel" none R_name _ qV 0 [(0, .ref (Γ.2.2.2.1 0))] [] X (f_name X)
  unfold f_name
  refine T.aload_n dX11_name_0 rfl 0 rfl ?_
  refine T.iconst (w := 0) dX11_name_1 (by decide) ?_
  refine pR8 k1377 dX11_name_2 (fun X1 => ?_)
  exact c_name_5 Γ _ BIG X1
abbrev R_sign : Room := { frames := 6, cells := 0, slots := 0, locals := 90 }
noncomputable def f_sign_70 (a1 : Int32) (X : St) : Option (Int32 × St) :=
  if a1.toInt = 33 then
    some (0, X)
  else if a1.toInt = 37 then
    some (0, X)
  else if a1.toInt = 40 then
    some (0, X)
  else if a1.toInt = 41 then
    some (0, X)
  else if a1.toInt = 42 then
    some (0, X)
  else if a1.toInt = 43 then
    some (0, X)
  else if a1.toInt = 44 then
    some (0, X)
  else if a1.toInt = 45 then
    some (0, X)
  else if a1.toInt = 47 then
    some (0, X)
  else if a1.toInt = 58 then
    some (0, X)
  else if a1.toInt = 59 then
    some (0, X)
  else if a1.toInt = 60 then
    some (0, X)
  else if a1.toInt = 61 then
    some (0, X)
  else if a1.toInt = 91 then
    some (0, X)
  else if a1.toInt = 93 then
    some (0, X)
  else if a1.toInt = 123 then
    some (0, X)
  else if a1.toInt = 125 then
    some (0, X)
  else letV (wI X 0 7 ((5 : Int32))) fun X24 =>
  some (0, X24)
set_option maxHeartbeats 4000000 in
set_option maxRecDepth 100000 in
theorem c_sign_70 (Γ : Gx) (As : List Value) (a1 : Int32) (X : St) : T YR Γ cX11_sign 2 "BlameCourtModel" none R_sign As qV 70 [(0, .ref (Γ.2.2.2.1 0)), (1, .int a1)] [] X (f_sign_70 a1 X) := by
  unfold f_sign_70
  refine T.iload_n dX11_sign_70 rfl 1 rfl ?_
  refine T.ite (fun s7 => ?_) (fun s7 => ?_)
  · refine T.lookup (pc1 := 216) dX11_sign_71 (by decide) (off := 145) (by rw [s7]; rfl) (by decide) ?_
    refine T.goto (pc1 := 224) dX11_sign_216 (by decide) ?_
    exact T.ret_v rfl dX11_sign_224
  refine T.ite (fun s8 => ?_) (fun s8 => ?_)
  · refine T.lookup (pc1 := 216) dX11_sign_71 (by decide) (off := 145) (by rw [s8]; rfl) (by decide) ?_
    refine T.goto (pc1 := 224) dX11_sign_216 (by decide) ?_
    exact T.ret_v rfl dX11_sign_224
  refine T.ite (fun s9 => ?_) (fun s9 => ?_)
  · refine T.lookup (pc1 := 216) dX11_sign_71 (by decide) (off := 145) (by rw [s9]; rfl) (by decide) ?_
    refine T.goto (pc1 := 224) dX11_sign_216 (by decide) ?_
    exact T.ret_v rfl dX11_sign_224
  refine T.ite (fun s10 => ?_) (fun s10 => ?_)
  · refine T.lookup (pc1 := 216) dX11_sign_71 (by decide) (off := 145) (by rw [s10]; rfl) (by decide) ?_
    refine T.goto (pc1 := 224) dX11_sign_216 (by decide) ?_
    exact T.ret_v rfl dX11_sign_224
  refine T.ite (fun s11 => ?_) (fun s11 => ?_)
  · refine T.lookup (pc1 := 216) dX11_sign_71 (by decide) (off := 145) (by rw [s11]; rfl) (by decide) ?_
    refine T.goto (pc1 := 224) dX11_sign_216 (by decide) ?_
    exact T.ret_v rfl dX11_sign_224
  refine T.ite (fun s12 => ?_) (fun s12 => ?_)
  · refine T.lookup (pc1 := 216) dX11_sign_71 (by decide) (off := 145) (by rw [s12]; rfl) (by decide) ?_
    refine T.goto (pc1 := 224) dX11_sign_216 (by decide) ?_
    exact T.ret_v rfl dX11_sign_224
  refine T.ite (fun s13 => ?_) (fun s13 => ?_)
  · refine T.lookup (pc1 := 216) dX11_sign_71 (by decide) (off := 145) (by rw [s13]; rfl) (by decide) ?_
    refine T.goto (pc1 := 224) dX11_sign_216 (by decide) ?_
    exact T.ret_v rfl dX11_sign_224
  refine T.ite (fun s14 => ?_) (fun s14 => ?_)
  · refine T.lookup (pc1 := 216) dX11_sign_71 (by decide) (off := 145) (by rw [s14]; rfl) (by decide) ?_
    refine T.goto (pc1 := 224) dX11_sign_216 (by decide) ?_
    exact T.ret_v rfl dX11_sign_224
  refine T.ite (fun s15 => ?_) (fun s15 => ?_)
  · refine T.lookup (pc1 := 216) dX11_sign_71 (by decide) (off := 145) (by rw [s15]; rfl) (by decide) ?_
    refine T.goto (pc1 := 224) dX11_sign_216 (by decide) ?_
    exact T.ret_v rfl dX11_sign_224
  refine T.ite (fun s16 => ?_) (fun s16 => ?_)
  · refine T.lookup (pc1 := 216) dX11_sign_71 (by decide) (off := 145) (by rw [s16]; rfl) (by decide) ?_
    refine T.goto (pc1 := 224) dX11_sign_216 (by decide) ?_
    exact T.ret_v rfl dX11_sign_224
  refine T.ite (fun s17 => ?_) (fun s17 => ?_)
  · refine T.lookup (pc1 := 216) dX11_sign_71 (by decide) (off := 145) (by rw [s17]; rfl) (by decide) ?_
    refine T.goto (pc1 := 224) dX11_sign_216 (by decide) ?_
    exact T.ret_v rfl dX11_sign_224
  refine T.ite (fun s18 => ?_) (fun s18 => ?_)
  · refine T.lookup (pc1 := 216) dX11_sign_71 (by decide) (off := 145) (by rw [s18]; rfl) (by decide) ?_
    refine T.goto (pc1 := 224) dX11_sign_216 (by decide) ?_
    exact T.ret_v rfl dX11_sign_224
  refine T.ite (fun s19 => ?_) (fun s19 => ?_)
  · refine T.lookup (pc1 := 216) dX11_sign_71 (by decide) (off := 145) (by rw [s19]; rfl) (by decide) ?_
    refine T.goto (pc1 := 224) dX11_sign_216 (by decide) ?_
    exact T.ret_v rfl dX11_sign_224
  refine T.ite (fun s20 => ?_) (fun s20 => ?_)
  · refine T.lookup (pc1 := 216) dX11_sign_71 (by decide) (off := 145) (by rw [s20]; rfl) (by decide) ?_
    refine T.goto (pc1 := 224) dX11_sign_216 (by decide) ?_
    exact T.ret_v rfl dX11_sign_224
  refine T.ite (fun s21 => ?_) (fun s21 => ?_)
  · refine T.lookup (pc1 := 216) dX11_sign_71 (by decide) (off := 145) (by rw [s21]; rfl) (by decide) ?_
    refine T.goto (pc1 := 224) dX11_sign_216 (by decide) ?_
    exact T.ret_v rfl dX11_sign_224
  refine T.ite (fun s22 => ?_) (fun s22 => ?_)
  · refine T.lookup (pc1 := 216) dX11_sign_71 (by decide) (off := 145) (by rw [s22]; rfl) (by decide) ?_
    refine T.goto (pc1 := 224) dX11_sign_216 (by decide) ?_
    exact T.ret_v rfl dX11_sign_224
  refine T.ite (fun s23 => ?_) (fun s23 => ?_)
  · refine T.lookup (pc1 := 216) dX11_sign_71 (by decide) (off := 145) (by rw [s23]; rfl) (by decide) ?_
    refine T.goto (pc1 := 224) dX11_sign_216 (by decide) ?_
    exact T.ret_v rfl dX11_sign_224
  refine T.lookup (pc1 := 219) dX11_sign_71 (by decide) (off := 148) ((osw2 s7).trans ((osw2 s8).trans ((osw2 s9).trans ((osw2 s10).trans ((osw2 s11).trans ((osw2 s12).trans ((osw2 s13).trans ((osw2 s14).trans ((osw2 s15).trans ((osw2 s16).trans ((osw2 s17).trans ((osw2 s18).trans ((osw2 s19).trans ((osw2 s20).trans ((osw2 s21).trans ((osw2 s22).trans ((osw2 s23).trans rfl))))))))))))))))) (by decide) ?_
  refine T.aload_n dX11_sign_219 rfl 0 rfl ?_
  refine T.iconst (w := 5) dX11_sign_220 (by decide) ?_
  refine pR7 k1375 dX11_sign_221 (fun X24 => ?_)
  exact T.ret_v rfl dX11_sign_224
noncomputable def f_sign (p1 : Int32) (X : St) : Option (Int32 × St) :=
  letV (wI X 0 7 ((4 : Int32))) fun X1 =>
  letV (p1.toInt64) fun y2 =>
  letV (wL X1 0 47 y2) fun X3 =>
  letV (X3.1 0 5) fun x4 =>
  letV (x4 + (1 : Int32)) fun x5 =>
  letV (wI X3 0 5 x5) fun X6 =>
  if p1.toInt = 58 then
    letV (X6.1 0 5) fun x25 =>
    letV (X6.1 0 1) fun x26 =>
    if x26.toInt ≤ x25.toInt then
      f_sign_70 p1 X6
    else
      letV (X6.1 0 5) fun x27 =>
      chk (inR x27 3000) (letV (X6.1 2 (ix x27)) fun x28 =>
      if x28.toInt = 61 then
        letV (wL X6 0 47 ((1000 : Int64))) fun X29 =>
        letV (X29.1 0 5) fun x30 =>
        letV (x30 + (1 : Int32)) fun x31 =>
        letV (wI X29 0 5 x31) fun X32 =>
        some (0, X32)
      else
        f_sign_70 p1 X6)
  else
    f_sign_70 p1 X6
set_option maxHeartbeats 4000000 in
set_option maxRecDepth 100000 in
theorem c_sign (Γ : Gx) (p1 : Int32) (X : St) : TMV YR Γ yX11_sign cX11_sign 2 "BlameCourtModel" none R_sign [.ref (Γ.2.2.2.1 0), .int p1] X (f_sign p1 X) := by
  refine TMV.of (by decide) (Nat.le_of_ble_eq_true rfl) rfl ?_
  show T YR Γ cX11_sign 2 "BlameCourtModel" none R_sign _ qV 0 [(0, .ref (Γ.2.2.2.1 0)), (1, .int p1)] [] X (f_sign p1 X)
  unfold f_sign
  refine T.aload_n dX11_sign_0 rfl 0 rfl ?_
  refine T.iconst (w := 4) dX11_sign_1 (by decide) ?_
  refine pR7 k1375 dX11_sign_2 (fun X1 => ?_)
  refine T.aload_n dX11_sign_5 rfl 0 rfl ?_
  refine T.iload_n dX11_sign_6 rfl 1 rfl ?_
  refine T.i2l dX11_sign_7 (fun y2 => ?_)
  refine pR47 k1376 dX11_sign_8 (fun X3 => ?_)
  refine T.aload_n dX11_sign_11 rfl 0 rfl ?_
  refine T.dupr dX11_sign_12 ?_
  refine gR5 k1373 dX11_sign_13 (fun x4 => ?_)
  refine T.iconst (w := 1) dX11_sign_16 (by decide) ?_
  refine T.iadd dX11_sign_17 (fun x5 => ?_)
  refine pR5 k1373 dX11_sign_18 (fun X6 => ?_)
  refine T.iload_n dX11_sign_21 rfl 1 rfl ?_
  refine T.bipush (w := 58) dX11_sign_22 (by decide) ?_
  refine T.icmp_ne (pc1 := 70) dX11_sign_24 (by decide) rfl ?_ ?_
  · exact c_sign_70 Γ _ p1 X6
  · refine T.aload_n dX11_sign_27 rfl 0 rfl ?_
    refine gR5 k1373 dX11_sign_28 (fun x25 => ?_)
    refine T.aload_n dX11_sign_31 rfl 0 rfl ?_
    refine gR1 k1368 dX11_sign_32 (fun x26 => ?_)
    refine T.icmp_ge (pc1 := 70) dX11_sign_35 (by decide) rfl ?_ ?_
    · exact c_sign_70 Γ _ p1 X6
    · refine T.aload_n dX11_sign_38 rfl 0 rfl ?_
      refine cR49 k1367 dX11_sign_39 ?_
      refine T.aload_n dX11_sign_42 rfl 0 rfl ?_
      refine gR5 k1373 dX11_sign_43 (fun x27 => ?_)
      refine alR2 dX11_sign_46 (fun x28 => ?_)
      refine T.bipush (w := 61) dX11_sign_47 (by decide) ?_
      refine T.icmp_ne (pc1 := 70) dX11_sign_49 (by decide) rfl ?_ ?_
      · exact c_sign_70 Γ _ p1 X6
      · refine T.aload_n dX11_sign_52 rfl 0 rfl ?_
        refine T.ldc2 (w := 1000) dX11_sign_53 k1799 ?_
        refine pR47 k1376 dX11_sign_56 (fun X29 => ?_)
        refine T.aload_n dX11_sign_59 rfl 0 rfl ?_
        refine T.dupr dX11_sign_60 ?_
        refine gR5 k1373 dX11_sign_61 (fun x30 => ?_)
        refine T.iconst (w := 1) dX11_sign_64 (by decide) ?_
        refine T.iadd dX11_sign_65 (fun x31 => ?_)
        refine pR5 k1373 dX11_sign_66 (fun X32 => ?_)
        exact T.ret_v rfl dX11_sign_69
abbrev R_next : Room := { frames := 18, cells := 0, slots := 0, locals := 270 }
noncomputable def f_next_194 (r122 : St → Option (Int32 × St)) (m0 : Int64) (X : St) : Option (Int32 × St) :=
  letV (wL X 0 47 m0) fun X31 =>
  letV (X31.1 0 5) fun x32 =>
  letV (x32 + (1 : Int32)) fun x33 =>
  letV (wI X31 0 5 x33) fun X34 =>
  r122 X34
set_option maxHeartbeats 4000000 in
set_option maxRecDepth 100000 in
theorem c_next_194 (Γ : Gx) (As : List Value) (r122 : St → Option (Int32 × St)) (hr122 : ∀ (X : St), T YR Γ cX11_next 2 "BlameCourtModel" none R_next As qV 122 [(0, .ref (Γ.2.2.2.1 0))] [] X (r122 X)) (m0 : Int64) (X : St) : T YR Γ cX11_next 2 "BlameCourtModel" none R_next As qV 194 [(0, .ref (Γ.2.2.2.1 0))] [.long m0, .ref (Γ.2.2.2.1 0)] X (f_next_194 r122 m0 X) := by
  unfold f_next_194
  refine pR47 k1376 dX11_next_194 (fun X31 => ?_)
  refine T.aload_n dX11_next_197 rfl 0 rfl ?_
  refine T.dupr dX11_next_198 ?_
  refine gR5 k1373 dX11_next_199 (fun x32 => ?_)
  refine T.iconst (w := 1) dX11_next_202 (by decide) ?_
  refine T.iadd dX11_next_203 (fun x33 => ?_)
  refine pR5 k1373 dX11_next_204 (fun X34 => ?_)
  refine T.goto (pc1 := 122) dX11_next_207 (by decide) ?_
  exact hr122 X34
noncomputable def f_next_122_s (r122 : St → Option (Int32 × St)) (X : St) : Option (Int32 × St) :=
  letV (X.1 0 5) fun x16 =>
  letV (X.1 0 1) fun x17 =>
  if x17.toInt ≤ x16.toInt then
    some (0, X)
  else
    letV (X.1 0 5) fun x18 =>
    chk (inR x18 3000) (letV (X.1 2 (ix x18)) fun x19 =>
    bnd (f_in x19 (48 : Int32) (57 : Int32) X) fun x20 X21 =>
    if x20.toInt = 0 then
      some (0, X21)
    else
      letV (X21.2.1 0 47) fun y22 =>
      letV (lg_cmp y22 (2147483647 : Int64)) fun x23 =>
      if x23.toInt ≤ 0 then
        letV (X21.2.1 0 47) fun y24 =>
        letV ((10 : Int64) * y24) fun y25 =>
        letV (X21.1 0 5) fun x26 =>
        chk (inR x26 3000) (letV (X21.1 2 (ix x26)) fun x27 =>
        letV (x27.toInt64) fun y28 =>
        letV (y25 + y28) fun y29 =>
        letV (y29 - (48 : Int64)) fun y30 =>
        f_next_194 r122 y30 X21)
      else
        letV (X21.2.1 0 47) fun y35 =>
        f_next_194 r122 y35 X21)
noncomputable def f_next_122 (n : Nat) : St → Option (Int32 × St) := lp (fun _ => none) (f_next_122_s) n
set_option maxHeartbeats 4000000 in
set_option maxRecDepth 100000 in
theorem c_next_122 (Γ : Gx) (As : List Value) (n : Nat) : ∀ (X : St), T YR Γ cX11_next 2 "BlameCourtModel" none R_next As qV 122 [(0, .ref (Γ.2.2.2.1 0))] [] X (f_next_122 n X) := by
  unfold f_next_122
  refine lp_ind (P := fun (r122 : St → Option (Int32 × St)) => ∀ (X : St), T YR Γ cX11_next 2 "BlameCourtModel" none R_next As qV 122 [(0, .ref (Γ.2.2.2.1 0))] [] X (r122 X)) (fun _ => T.no) ?_ n
  intro r122 hr122 X
  unfold f_next_122_s
  refine T.aload_n dX11_next_122 rfl 0 rfl ?_
  refine gR5 k1373 dX11_next_123 (fun x16 => ?_)
  refine T.aload_n dX11_next_126 rfl 0 rfl ?_
  refine gR1 k1368 dX11_next_127 (fun x17 => ?_)
  refine T.icmp_ge (pc1 := 215) dX11_next_130 (by decide) rfl ?_ ?_
  · exact T.ret_v rfl dX11_next_215
  · refine T.aload_n dX11_next_133 rfl 0 rfl ?_
    refine cR49 k1367 dX11_next_134 ?_
    refine T.aload_n dX11_next_137 rfl 0 rfl ?_
    refine gR5 k1373 dX11_next_138 (fun x18 => ?_)
    refine alR2 dX11_next_141 (fun x19 => ?_)
    refine T.bipush (w := 48) dX11_next_142 (by decide) ?_
    refine T.bipush (w := 57) dX11_next_144 (by decide) ?_
    refine T.callS_i (As1 := [.int x19, .int 48, .int 57]) (rest := []) (c_in Γ x19 (48 : Int32) (57 : Int32) X) ka_X11_in k1766 k1765 rfl rfl rfl rfl ⟨Nat.le_of_ble_eq_true rfl, Nat.le_of_ble_eq_true rfl⟩ (Nat.le_of_ble_eq_true rfl) dX11_next_146 (fun x20 X21 => ?_)
    refine T.if_eq (pc1 := 215) dX11_next_149 (by decide) ?_ ?_
    · exact T.ret_v rfl dX11_next_215
    · refine T.aload_n dX11_next_152 rfl 0 rfl ?_
      refine T.aload_n dX11_next_153 rfl 0 rfl ?_
      refine gR47 k1376 dX11_next_154 (fun y22 => ?_)
      refine T.ldc2 (w := 2147483647) dX11_next_157 k1792 ?_
      refine T.lcmp dX11_next_160 (fun x23 => ?_)
      refine T.if_le (pc1 := 171) dX11_next_161 (by decide) ?_ ?_
      · refine T.ldc2 (w := 10) dX11_next_171 k1793 ?_
        refine T.aload_n dX11_next_174 rfl 0 rfl ?_
        refine gR47 k1376 dX11_next_175 (fun y24 => ?_)
        refine T.lmul dX11_next_178 (fun y25 => ?_)
        refine T.aload_n dX11_next_179 rfl 0 rfl ?_
        refine cR49 k1367 dX11_next_180 ?_
        refine T.aload_n dX11_next_183 rfl 0 rfl ?_
        refine gR5 k1373 dX11_next_184 (fun x26 => ?_)
        refine alR2 dX11_next_187 (fun x27 => ?_)
        refine T.i2l dX11_next_188 (fun y28 => ?_)
        refine T.ladd dX11_next_189 (fun y29 => ?_)
        refine T.ldc2 (w := 48) dX11_next_190 k1794 ?_
        refine T.lsub dX11_next_193 (fun y30 => ?_)
        exact c_next_194 Γ _ r122 hr122 y30 X21
      · refine T.aload_n dX11_next_164 rfl 0 rfl ?_
        refine gR47 k1376 dX11_next_165 (fun y35 => ?_)
        refine T.goto (pc1 := 194) dX11_next_168 (by decide) ?_
        exact c_next_194 Γ _ r122 hr122 y35 X21
noncomputable def f_next_52 (X : St) : Option (Int32 × St) :=
  letV (X.1 0 5) fun x3 =>
  letV (wI X 0 6 x3) fun X4 =>
  letV (wL X4 0 47 ((0 : Int64))) fun X5 =>
  letV (X5.1 0 5) fun x6 =>
  letV (X5.1 0 1) fun x7 =>
  if x6.toInt = x7.toInt then
    letV (wI X5 0 7 ((0 : Int32))) fun X37 =>
    some (0, X37)
  else
    letV (X5.1 0 5) fun x8 =>
    chk (inR x8 3000) (letV (X5.1 2 (ix x8)) fun x9 =>
    bnd (f_letterOf x9 X5) fun x10 X11 =>
    if x10.toInt ≤ 0 then
      bnd (f_in x9 (48 : Int32) (57 : Int32) X11) fun x12 X13 =>
      if x12.toInt = 0 then
        bnd (f_sign x9 X13) fun _ X14 =>
        some (0, X14)
      else
        letV (wI X13 0 7 ((3 : Int32))) fun X15 =>
        f_next_122 BIG X15
    else
      bnd (f_name X11) fun _ X36 =>
      some (0, X36))
set_option maxHeartbeats 4000000 in
set_option maxRecDepth 100000 in
theorem c_next_52 (Γ : Gx) (As : List Value) (X : St) : T YR Γ cX11_next 2 "BlameCourtModel" none R_next As qV 52 [(0, .ref (Γ.2.2.2.1 0))] [] X (f_next_52 X) := by
  unfold f_next_52
  refine T.aload_n dX11_next_52 rfl 0 rfl ?_
  refine T.aload_n dX11_next_53 rfl 0 rfl ?_
  refine gR5 k1373 dX11_next_54 (fun x3 => ?_)
  refine pR6 k1374 dX11_next_57 (fun X4 => ?_)
  refine T.aload_n dX11_next_60 rfl 0 rfl ?_
  refine T.lconst (w := 0) dX11_next_61 (by decide) ?_
  refine pR47 k1376 dX11_next_62 (fun X5 => ?_)
  refine T.aload_n dX11_next_65 rfl 0 rfl ?_
  refine gR5 k1373 dX11_next_66 (fun x6 => ?_)
  refine T.aload_n dX11_next_69 rfl 0 rfl ?_
  refine gR1 k1368 dX11_next_70 (fun x7 => ?_)
  refine T.icmp_ne (pc1 := 82) dX11_next_73 (by decide) rfl ?_ ?_
  · refine T.aload_n dX11_next_82 rfl 0 rfl ?_
    refine cR49 k1367 dX11_next_83 ?_
    refine T.aload_n dX11_next_86 rfl 0 rfl ?_
    refine gR5 k1373 dX11_next_87 (fun x8 => ?_)
    refine alR2 dX11_next_90 (fun x9 => ?_)
    refine T.istore_n (lv1 := [(1, .int x9), (0, .ref (Γ.2.2.2.1 0))]) dX11_next_91 rfl (by decide) rfl ?_
    refine T.iload_n dX11_next_92 rfl 0 rfl ?_
    refine T.callS_i (As1 := [.int x9]) (rest := []) (c_letterOf Γ x9 X5) ka_X11_letterOf k1781 k1780 rfl rfl rfl rfl ⟨Nat.le_of_ble_eq_true rfl, Nat.le_of_ble_eq_true rfl⟩ (Nat.le_of_ble_eq_true rfl) dX11_next_93 (fun x10 X11 => ?_)
    refine T.if_le (pc1 := 106) dX11_next_96 (by decide) ?_ ?_
    · refine T.iload_n dX11_next_106 rfl 0 rfl ?_
      refine T.bipush (w := 48) dX11_next_107 (by decide) ?_
      refine T.bipush (w := 57) dX11_next_109 (by decide) ?_
      refine T.callS_i (As1 := [.int x9, .int 48, .int 57]) (rest := []) (c_in Γ x9 (48 : Int32) (57 : Int32) X11) ka_X11_in k1766 k1765 rfl rfl rfl rfl ⟨Nat.le_of_ble_eq_true rfl, Nat.le_of_ble_eq_true rfl⟩ (Nat.le_of_ble_eq_true rfl) dX11_next_111 (fun x12 X13 => ?_)
      refine T.if_eq (pc1 := 210) dX11_next_114 (by decide) ?_ ?_
      · refine T.aload_n dX11_next_210 rfl 1 rfl ?_
        refine T.iload_n dX11_next_211 rfl 0 rfl ?_
        refine T.callV_v 0 (As1 := [.int x9]) (rest := []) (c_sign Γ x9 X13) ka_X11_sign kv_X11_sign oR rfl k1795 rfl rfl rfl rfl ⟨Nat.le_of_ble_eq_true rfl, Nat.le_of_ble_eq_true rfl⟩ (Nat.le_of_ble_eq_true rfl) dX11_next_212 (fun _ X14 => ?_)
        exact T.ret_v rfl dX11_next_215
      · refine T.aload_n dX11_next_117 rfl 1 rfl ?_
        refine T.iconst (w := 3) dX11_next_118 (by decide) ?_
        refine pR7 k1375 dX11_next_119 (fun X15 => ?_)
        refine T.sub [1] rfl ?_
        exact c_next_122 Γ _ BIG X15
    · refine T.aload_n dX11_next_99 rfl 1 rfl ?_
      refine T.callV_v 0 (As1 := []) (rest := []) (c_name Γ X11) ka_X11_name kv_X11_name oR rfl k1783 rfl rfl rfl rfl ⟨Nat.le_of_ble_eq_true rfl, Nat.le_of_ble_eq_true rfl⟩ (Nat.le_of_ble_eq_true rfl) dX11_next_100 (fun _ X36 => ?_)
      refine T.goto (pc1 := 215) dX11_next_103 (by decide) ?_
      exact T.ret_v rfl dX11_next_215
  · refine T.aload_n dX11_next_76 rfl 0 rfl ?_
    refine T.iconst (w := 0) dX11_next_77 (by decide) ?_
    refine pR7 k1375 dX11_next_78 (fun X37 => ?_)
    exact T.ret_v rfl dX11_next_81
noncomputable def f_next_39 (r0 : St → Option (Int32 × St)) (X : St) : Option (Int32 × St) :=
  letV (X.1 0 5) fun x40 =>
  letV (x40 + (1 : Int32)) fun x41 =>
  letV (wI X 0 5 x41) fun X42 =>
  r0 X42
set_option maxHeartbeats 4000000 in
set_option maxRecDepth 100000 in
theorem c_next_39 (Γ : Gx) (As : List Value) (r0 : St → Option (Int32 × St)) (hr0 : ∀ (X : St), T YR Γ cX11_next 2 "BlameCourtModel" none R_next As qV 0 [(0, .ref (Γ.2.2.2.1 0))] [] X (r0 X)) (X : St) : T YR Γ cX11_next 2 "BlameCourtModel" none R_next As qV 39 [(0, .ref (Γ.2.2.2.1 0))] [] X (f_next_39 r0 X) := by
  unfold f_next_39
  refine T.aload_n dX11_next_39 rfl 0 rfl ?_
  refine T.dupr dX11_next_40 ?_
  refine gR5 k1373 dX11_next_41 (fun x40 => ?_)
  refine T.iconst (w := 1) dX11_next_44 (by decide) ?_
  refine T.iadd dX11_next_45 (fun x41 => ?_)
  refine pR5 k1373 dX11_next_46 (fun X42 => ?_)
  refine T.goto (pc1 := 0) dX11_next_49 (by decide) ?_
  exact hr0 X42
noncomputable def f_next_0_s (r0 : St → Option (Int32 × St)) (X : St) : Option (Int32 × St) :=
  letV (X.1 0 5) fun x1 =>
  letV (X.1 0 1) fun x2 =>
  if x2.toInt ≤ x1.toInt then
    f_next_52 X
  else
    letV (X.1 0 5) fun x38 =>
    chk (inR x38 3000) (letV (X.1 2 (ix x38)) fun x39 =>
    if x39.toInt = 32 then
      f_next_39 r0 X
    else
      letV (X.1 0 5) fun x43 =>
      chk (inR x43 3000) (letV (X.1 2 (ix x43)) fun x44 =>
      if x44.toInt = 10 then
        f_next_39 r0 X
      else
        f_next_52 X))
noncomputable def f_next_0 (n : Nat) : St → Option (Int32 × St) := lp (fun _ => none) (f_next_0_s) n
set_option maxHeartbeats 4000000 in
set_option maxRecDepth 100000 in
theorem c_next_0 (Γ : Gx) (As : List Value) (n : Nat) : ∀ (X : St), T YR Γ cX11_next 2 "BlameCourtModel" none R_next As qV 0 [(0, .ref (Γ.2.2.2.1 0))] [] X (f_next_0 n X) := by
  unfold f_next_0
  refine lp_ind (P := fun (r0 : St → Option (Int32 × St)) => ∀ (X : St), T YR Γ cX11_next 2 "BlameCourtModel" none R_next As qV 0 [(0, .ref (Γ.2.2.2.1 0))] [] X (r0 X)) (fun _ => T.no) ?_ n
  intro r0 hr0 X
  unfold f_next_0_s
  refine T.aload_n dX11_next_0 rfl 0 rfl ?_
  refine gR5 k1373 dX11_next_1 (fun x1 => ?_)
  refine T.aload_n dX11_next_4 rfl 0 rfl ?_
  refine gR1 k1368 dX11_next_5 (fun x2 => ?_)
  refine T.icmp_ge (pc1 := 52) dX11_next_8 (by decide) rfl ?_ ?_
  · exact c_next_52 Γ _ X
  · refine T.aload_n dX11_next_11 rfl 0 rfl ?_
    refine cR49 k1367 dX11_next_12 ?_
    refine T.aload_n dX11_next_15 rfl 0 rfl ?_
    refine gR5 k1373 dX11_next_16 (fun x38 => ?_)
    refine alR2 dX11_next_19 (fun x39 => ?_)
    refine T.bipush (w := 32) dX11_next_20 (by decide) ?_
    refine T.icmp_eq (pc1 := 39) dX11_next_22 (by decide) rfl ?_ ?_
    · exact c_next_39 Γ _ r0 hr0 X
    · refine T.aload_n dX11_next_25 rfl 0 rfl ?_
      refine cR49 k1367 dX11_next_26 ?_
      refine T.aload_n dX11_next_29 rfl 0 rfl ?_
      refine gR5 k1373 dX11_next_30 (fun x43 => ?_)
      refine alR2 dX11_next_33 (fun x44 => ?_)
      refine T.bipush (w := 10) dX11_next_34 (by decide) ?_
      refine T.icmp_ne (pc1 := 52) dX11_next_36 (by decide) rfl ?_ ?_
      · exact c_next_52 Γ _ X
      · exact c_next_39 Γ _ r0 hr0 X
noncomputable def f_next (X : St) : Option (Int32 × St) :=
  f_next_0 BIG X
set_option maxHeartbeats 4000000 in
set_option maxRecDepth 100000 in
theorem c_next (Γ : Gx) (X : St) : TMV YR Γ yX11_next cX11_next 2 "BlameCourtModel" none R_next [.ref (Γ.2.2.2.1 0)] X (f_next X) := by
  refine TMV.of (by decide) (Nat.le_of_ble_eq_true rfl) rfl ?_
  show T YR Γ cX11_next 2 "BlameCourtModel" none R_next _ qV 0 [(0, .ref (Γ.2.2.2.1 0))] [] X (f_next X)
  unfold f_next
  exact c_next_0 Γ _ BIG X
abbrev R_isSign : Room := { frames := 10, cells := 0, slots := 0, locals := 150 }
noncomputable def f_isSign (p1 : Int32) (X : St) : Option (Int32 × St) :=
  bnd (f_isWell X) fun x1 X2 =>
  if x1.toInt = 0 then
    some (0, X2)
  else
    letV (X2.1 0 7) fun x3 =>
    if x3.toInt = 4 then
      letV (X2.2.1 0 47) fun y4 =>
      letV (p1.toInt64) fun y5 =>
      letV (lg_cmp y4 y5) fun x6 =>
      if x6.toInt = 0 then
        some (1, X2)
      else
        some (0, X2)
    else
      some (0, X2)
set_option maxHeartbeats 4000000 in
set_option maxRecDepth 100000 in
theorem c_isSign (Γ : Gx) (p1 : Int32) (X : St) : TMI YR Γ yX11_isSign cX11_isSign 2 "BlameCourtModel" (some .boolean) R_isSign [.ref (Γ.2.2.2.1 0), .int p1] X (f_isSign p1 X) := by
  refine TMI.of (by decide) (Nat.le_of_ble_eq_true rfl) rfl ?_
  show T YR Γ cX11_isSign 2 "BlameCourtModel" (some .boolean) R_isSign _ qI 0 [(0, .ref (Γ.2.2.2.1 0)), (1, .int p1)] [] X (f_isSign p1 X)
  unfold f_isSign
  refine T.aload_n dX11_isSign_0 rfl 0 rfl ?_
  refine T.callV_i 0 (As1 := []) (rest := []) (c_isWell Γ X) ka_X11_isWell kv_X11_isWell oR rfl k1800 rfl rfl rfl rfl ⟨Nat.le_of_ble_eq_true rfl, Nat.le_of_ble_eq_true rfl⟩ (Nat.le_of_ble_eq_true rfl) dX11_isSign_1 (fun x1 X2 => ?_)
  refine T.if_eq (pc1 := 29) dX11_isSign_4 (by decide) ?_ ?_
  · refine T.iconst (w := 0) dX11_isSign_29 (by decide) ?_
    exact T.ret_z rfl dX11_isSign_30 rfl
  · refine T.aload_n dX11_isSign_7 rfl 0 rfl ?_
    refine gR7 k1375 dX11_isSign_8 (fun x3 => ?_)
    refine T.iconst (w := 4) dX11_isSign_11 (by decide) ?_
    refine T.icmp_ne (pc1 := 29) dX11_isSign_12 (by decide) rfl ?_ ?_
    · refine T.iconst (w := 0) dX11_isSign_29 (by decide) ?_
      exact T.ret_z rfl dX11_isSign_30 rfl
    · refine T.aload_n dX11_isSign_15 rfl 0 rfl ?_
      refine gR47 k1376 dX11_isSign_16 (fun y4 => ?_)
      refine T.iload_n dX11_isSign_19 rfl 1 rfl ?_
      refine T.i2l dX11_isSign_20 (fun y5 => ?_)
      refine T.lcmp dX11_isSign_21 (fun x6 => ?_)
      refine T.if_ne (pc1 := 29) dX11_isSign_22 (by decide) ?_ ?_
      · refine T.iconst (w := 0) dX11_isSign_29 (by decide) ?_
        exact T.ret_z rfl dX11_isSign_30 rfl
      · refine T.iconst (w := 1) dX11_isSign_25 (by decide) ?_
        refine T.goto (pc1 := 30) dX11_isSign_26 (by decide) ?_
        exact T.ret_z rfl dX11_isSign_30 rfl
abbrev R_isWord : Room := { frames := 10, cells := 0, slots := 0, locals := 150 }
noncomputable def f_isWord (p1 : Int32) (X : St) : Option (Int32 × St) :=
  bnd (f_isWell X) fun x1 X2 =>
  if x1.toInt = 0 then
    some (0, X2)
  else
    letV (X2.1 0 7) fun x3 =>
    if x3.toInt = 2 then
      letV (X2.2.1 0 47) fun y4 =>
      letV (p1.toInt64) fun y5 =>
      letV (lg_cmp y4 y5) fun x6 =>
      if x6.toInt = 0 then
        some (1, X2)
      else
        some (0, X2)
    else
      some (0, X2)
set_option maxHeartbeats 4000000 in
set_option maxRecDepth 100000 in
theorem c_isWord (Γ : Gx) (p1 : Int32) (X : St) : TMI YR Γ yX11_isWord cX11_isWord 2 "BlameCourtModel" (some .boolean) R_isWord [.ref (Γ.2.2.2.1 0), .int p1] X (f_isWord p1 X) := by
  refine TMI.of (by decide) (Nat.le_of_ble_eq_true rfl) rfl ?_
  show T YR Γ cX11_isWord 2 "BlameCourtModel" (some .boolean) R_isWord _ qI 0 [(0, .ref (Γ.2.2.2.1 0)), (1, .int p1)] [] X (f_isWord p1 X)
  unfold f_isWord
  refine T.aload_n dX11_isWord_0 rfl 0 rfl ?_
  refine T.callV_i 0 (As1 := []) (rest := []) (c_isWell Γ X) ka_X11_isWell kv_X11_isWell oR rfl k1800 rfl rfl rfl rfl ⟨Nat.le_of_ble_eq_true rfl, Nat.le_of_ble_eq_true rfl⟩ (Nat.le_of_ble_eq_true rfl) dX11_isWord_1 (fun x1 X2 => ?_)
  refine T.if_eq (pc1 := 29) dX11_isWord_4 (by decide) ?_ ?_
  · refine T.iconst (w := 0) dX11_isWord_29 (by decide) ?_
    exact T.ret_z rfl dX11_isWord_30 rfl
  · refine T.aload_n dX11_isWord_7 rfl 0 rfl ?_
    refine gR7 k1375 dX11_isWord_8 (fun x3 => ?_)
    refine T.iconst (w := 2) dX11_isWord_11 (by decide) ?_
    refine T.icmp_ne (pc1 := 29) dX11_isWord_12 (by decide) rfl ?_ ?_
    · refine T.iconst (w := 0) dX11_isWord_29 (by decide) ?_
      exact T.ret_z rfl dX11_isWord_30 rfl
    · refine T.aload_n dX11_isWord_15 rfl 0 rfl ?_
      refine gR47 k1376 dX11_isWord_16 (fun y4 => ?_)
      refine T.iload_n dX11_isWord_19 rfl 1 rfl ?_
      refine T.i2l dX11_isWord_20 (fun y5 => ?_)
      refine T.lcmp dX11_isWord_21 (fun x6 => ?_)
      refine T.if_ne (pc1 := 29) dX11_isWord_22 (by decide) ?_ ?_
      · refine T.iconst (w := 0) dX11_isWord_29 (by decide) ?_
        exact T.ret_z rfl dX11_isWord_30 rfl
      · refine T.iconst (w := 1) dX11_isWord_25 (by decide) ?_
        refine T.goto (pc1 := 30) dX11_isWord_26 (by decide) ?_
        exact T.ret_z rfl dX11_isWord_30 rfl
abbrev R_takes : Room := { frames := 22, cells := 0, slots := 0, locals := 330 }
noncomputable def f_takes (p1 : Int32) (X : St) : Option (Int32 × St) :=
  bnd (f_isSign p1 X) fun x1 X2 =>
  if x1.toInt = 0 then
    bnd (f_stray X2) fun _ X3 =>
    some (0, X3)
  else
    bnd (f_next X2) fun _ X4 =>
    some (0, X4)
set_option maxHeartbeats 4000000 in
set_option maxRecDepth 100000 in
theorem c_takes (Γ : Gx) (p1 : Int32) (X : St) : TMV YR Γ yX11_takes cX11_takes 2 "BlameCourtModel" none R_takes [.ref (Γ.2.2.2.1 0), .int p1] X (f_takes p1 X) := by
  refine TMV.of (by decide) (Nat.le_of_ble_eq_true rfl) rfl ?_
  show T YR Γ cX11_takes 2 "BlameCourtModel" none R_takes _ qV 0 [(0, .ref (Γ.2.2.2.1 0)), (1, .int p1)] [] X (f_takes p1 X)
  unfold f_takes
  refine T.aload_n dX11_takes_0 rfl 0 rfl ?_
  refine T.iload_n dX11_takes_1 rfl 1 rfl ?_
  refine T.callV_i 0 (As1 := [.int p1]) (rest := []) (c_isSign Γ p1 X) ka_X11_isSign kv_X11_isSign oR rfl k1824 rfl rfl rfl rfl ⟨Nat.le_of_ble_eq_true rfl, Nat.le_of_ble_eq_true rfl⟩ (Nat.le_of_ble_eq_true rfl) dX11_takes_2 (fun x1 X2 => ?_)
  refine T.if_eq (pc1 := 15) dX11_takes_5 (by decide) ?_ ?_
  · refine T.aload_n dX11_takes_15 rfl 0 rfl ?_
    refine T.callV_v 0 (As1 := []) (rest := []) (c_stray Γ X2) ka_X11_stray kv_X11_stray oR rfl k1808 rfl rfl rfl rfl ⟨Nat.le_of_ble_eq_true rfl, Nat.le_of_ble_eq_true rfl⟩ (Nat.le_of_ble_eq_true rfl) dX11_takes_16 (fun _ X3 => ?_)
    exact T.ret_v rfl dX11_takes_19
  · refine T.aload_n dX11_takes_8 rfl 0 rfl ?_
    refine T.callV_v 0 (As1 := []) (rest := []) (c_next Γ X2) ka_X11_next kv_X11_next oR rfl k1776 rfl rfl rfl rfl ⟨Nat.le_of_ble_eq_true rfl, Nat.le_of_ble_eq_true rfl⟩ (Nat.le_of_ble_eq_true rfl) dX11_takes_9 (fun _ X4 => ?_)
    refine T.goto (pc1 := 19) dX11_takes_12 (by decide) ?_
    exact T.ret_v rfl dX11_takes_19
abbrev R_nests : Room := { frames := 10, cells := 0, slots := 0, locals := 150 }
noncomputable def f_nests_18 (X : St) : Option (Int32 × St) :=
  letV (X.1 0 21) fun x2 =>
  letV (x2 + (1 : Int32)) fun x3 =>
  letV (wI X 0 21 x3) fun X4 =>
  some (0, X4)
set_option maxHeartbeats 4000000 in
set_option maxRecDepth 100000 in
theorem c_nests_18 (Γ : Gx) (As : List Value) (X : St) : T YR Γ cX11_nests 1 "BlameCourtModel" none R_nests As qV 18 [(0, .ref (Γ.2.2.2.1 0))] [] X (f_nests_18 X) := by
  unfold f_nests_18
  refine T.aload_n dX11_nests_18 rfl 0 rfl ?_
  refine T.dupr dX11_nests_19 ?_
  refine gR21 k1419 dX11_nests_20 (fun x2 => ?_)
  refine T.iconst (w := 1) dX11_nests_23 (by decide) ?_
  refine T.iadd dX11_nests_24 (fun x3 => ?_)
  refine pR21 k1419 dX11_nests_25 (fun X4 => ?_)
  exact T.ret_v rfl dX11_nests_28
noncomputable def f_nests (X : St) : Option (Int32 × St) :=
  letV (X.1 0 21) fun x1 =>
  if x1.toInt = 40 then
    letV (X.1 0 6) fun x5 =>
    bnd (f_fails (3 : Int32) x5 X) fun _ X6 =>
    f_nests_18 X6
  else
    f_nests_18 X
set_option maxHeartbeats 4000000 in
set_option maxRecDepth 100000 in
theorem c_nests (Γ : Gx) (X : St) : TMV YR Γ yX11_nests cX11_nests 1 "BlameCourtModel" none R_nests [.ref (Γ.2.2.2.1 0)] X (f_nests X) := by
  refine TMV.of (by decide) (Nat.le_of_ble_eq_true rfl) rfl ?_
  show T YR Γ cX11_nests 1 "BlameCourtModel" none R_nests _ qV 0 [(0, .ref (Γ.2.2.2.1 0))] [] X (f_nests X)
  unfold f_nests
  refine T.aload_n dX11_nests_0 rfl 0 rfl ?_
  refine gR21 k1419 dX11_nests_1 (fun x1 => ?_)
  refine T.bipush (w := 40) dX11_nests_4 (by decide) ?_
  refine T.icmp_ne (pc1 := 18) dX11_nests_6 (by decide) rfl ?_ ?_
  · exact c_nests_18 Γ _ X
  · refine T.aload_n dX11_nests_9 rfl 0 rfl ?_
    refine T.iconst (w := 3) dX11_nests_10 (by decide) ?_
    refine T.aload_n dX11_nests_11 rfl 0 rfl ?_
    refine gR6 k1374 dX11_nests_12 (fun x5 => ?_)
    refine T.callV_v 0 (As1 := [.int 3, .int x5]) (rest := []) (c_fails Γ (3 : Int32) x5 X) ka_X11_fails kv_X11_fails oR rfl k1812 rfl rfl rfl rfl ⟨Nat.le_of_ble_eq_true rfl, Nat.le_of_ble_eq_true rfl⟩ (Nat.le_of_ble_eq_true rfl) dX11_nests_15 (fun _ X6 => ?_)
    exact c_nests_18 Γ _ X6
abbrev R_opens : Room := { frames := 22, cells := 0, slots := 0, locals := 330 }
noncomputable def f_opens (p1 : Int32) (X : St) : Option (Int32 × St) :=
  bnd (f_isSign p1 X) fun x1 X2 =>
  if x1.toInt = 0 then
    bnd (f_stray X2) fun _ X7 =>
    some (0, X7)
  else
    bnd (f_nests X2) fun _ X3 =>
    bnd (f_isWell X3) fun x4 X5 =>
    if x4.toInt = 0 then
      some (0, X5)
    else
      bnd (f_next X5) fun _ X6 =>
      some (0, X6)
set_option maxHeartbeats 4000000 in
set_option maxRecDepth 100000 in
theorem c_opens (Γ : Gx) (p1 : Int32) (X : St) : TMV YR Γ yX11_opens cX11_opens 2 "BlameCourtModel" none R_opens [.ref (Γ.2.2.2.1 0), .int p1] X (f_opens p1 X) := by
  refine TMV.of (by decide) (Nat.le_of_ble_eq_true rfl) rfl ?_
  show T YR Γ cX11_opens 2 "BlameCourtModel" none R_opens _ qV 0 [(0, .ref (Γ.2.2.2.1 0)), (1, .int p1)] [] X (f_opens p1 X)
  unfold f_opens
  refine T.aload_n dX11_opens_0 rfl 0 rfl ?_
  refine T.iload_n dX11_opens_1 rfl 1 rfl ?_
  refine T.callV_i 0 (As1 := [.int p1]) (rest := []) (c_isSign Γ p1 X) ka_X11_isSign kv_X11_isSign oR rfl k1824 rfl rfl rfl rfl ⟨Nat.le_of_ble_eq_true rfl, Nat.le_of_ble_eq_true rfl⟩ (Nat.le_of_ble_eq_true rfl) dX11_opens_2 (fun x1 X2 => ?_)
  refine T.if_ne (pc1 := 13) dX11_opens_5 (by decide) ?_ ?_
  · refine T.aload_n dX11_opens_13 rfl 0 rfl ?_
    refine T.callV_v 0 (As1 := []) (rest := []) (c_nests Γ X2) ka_X11_nests kv_X11_nests oR rfl k1828 rfl rfl rfl rfl ⟨Nat.le_of_ble_eq_true rfl, Nat.le_of_ble_eq_true rfl⟩ (Nat.le_of_ble_eq_true rfl) dX11_opens_14 (fun _ X3 => ?_)
    refine T.aload_n dX11_opens_17 rfl 0 rfl ?_
    refine T.callV_i 0 (As1 := []) (rest := []) (c_isWell Γ X3) ka_X11_isWell kv_X11_isWell oR rfl k1800 rfl rfl rfl rfl ⟨Nat.le_of_ble_eq_true rfl, Nat.le_of_ble_eq_true rfl⟩ (Nat.le_of_ble_eq_true rfl) dX11_opens_18 (fun x4 X5 => ?_)
    refine T.if_eq (pc1 := 28) dX11_opens_21 (by decide) ?_ ?_
    · exact T.ret_v rfl dX11_opens_28
    · refine T.aload_n dX11_opens_24 rfl 0 rfl ?_
      refine T.callV_v 0 (As1 := []) (rest := []) (c_next Γ X5) ka_X11_next kv_X11_next oR rfl k1776 rfl rfl rfl rfl ⟨Nat.le_of_ble_eq_true rfl, Nat.le_of_ble_eq_true rfl⟩ (Nat.le_of_ble_eq_true rfl) dX11_opens_25 (fun _ X6 => ?_)
      exact T.ret_v rfl dX11_opens_28
  · refine T.aload_n dX11_opens_8 rfl 0 rfl ?_
    refine T.callV_v 0 (As1 := []) (rest := []) (c_stray Γ X2) ka_X11_stray kv_X11_stray oR rfl k1808 rfl rfl rfl rfl ⟨Nat.le_of_ble_eq_true rfl, Nat.le_of_ble_eq_true rfl⟩ (Nat.le_of_ble_eq_true rfl) dX11_opens_9 (fun _ X7 => ?_)
    exact T.ret_v rfl dX11_opens_12
abbrev R_closes : Room := { frames := 26, cells := 0, slots := 0, locals := 390 }
noncomputable def f_closes (p1 : Int32) (X : St) : Option (Int32 × St) :=
  bnd (f_takes p1 X) fun _ X1 =>
  letV (X1.1 0 21) fun x2 =>
  letV (x2 - (1 : Int32)) fun x3 =>
  letV (wI X1 0 21 x3) fun X4 =>
  some (0, X4)
set_option maxHeartbeats 4000000 in
set_option maxRecDepth 100000 in
theorem c_closes (Γ : Gx) (p1 : Int32) (X : St) : TMV YR Γ yX11_closes cX11_closes 2 "BlameCourtModel" none R_closes [.ref (Γ.2.2.2.1 0), .int p1] X (f_closes p1 X) := by
  refine TMV.of (by decide) (Nat.le_of_ble_eq_true rfl) rfl ?_
  show T YR Γ cX11_closes 2 "BlameCourtModel" none R_closes _ qV 0 [(0, .ref (Γ.2.2.2.1 0)), (1, .int p1)] [] X (f_closes p1 X)
  unfold f_closes
  refine T.aload_n dX11_closes_0 rfl 0 rfl ?_
  refine T.iload_n dX11_closes_1 rfl 1 rfl ?_
  refine T.callV_v 0 (As1 := [.int p1]) (rest := []) (c_takes Γ p1 X) ka_X11_takes kv_X11_takes oR rfl k1836 rfl rfl rfl rfl ⟨Nat.le_of_ble_eq_true rfl, Nat.le_of_ble_eq_true rfl⟩ (Nat.le_of_ble_eq_true rfl) dX11_closes_2 (fun _ X1 => ?_)
  refine T.aload_n dX11_closes_5 rfl 0 rfl ?_
  refine T.dupr dX11_closes_6 ?_
  refine gR21 k1419 dX11_closes_7 (fun x2 => ?_)
  refine T.iconst (w := 1) dX11_closes_10 (by decide) ?_
  refine T.isub dX11_closes_11 (fun x3 => ?_)
  refine pR21 k1419 dX11_closes_12 (fun X4 => ?_)
  exact T.ret_v rfl dX11_closes_15
abbrev R_plainKind : Room := { frames := 22, cells := 0, slots := 0, locals := 330 }
noncomputable def f_plainKind_40 (b0 : Int32) (X : St) : Option (Int32 × St) :=
  if 0 ≤ b0.toInt then
    bnd (f_next X) fun _ X7 =>
    some (b0, X7)
  else
    bnd (f_stray X) fun _ X8 =>
    some (b0, X8)
set_option maxHeartbeats 4000000 in
set_option maxRecDepth 100000 in
theorem c_plainKind_40 (Γ : Gx) (As : List Value) (b0 : Int32) (X : St) : T YR Γ cX11_plainKind 2 "BlameCourtModel" (some .int) R_plainKind As qI 40 [(0, .ref (Γ.2.2.2.1 0))] [.int b0] X (f_plainKind_40 b0 X) := by
  unfold f_plainKind_40
  refine T.istore_n (lv1 := [(1, .int b0), (0, .ref (Γ.2.2.2.1 0))]) dX11_plainKind_40 rfl (by decide) rfl ?_
  refine T.iload_n dX11_plainKind_41 rfl 0 rfl ?_
  refine T.if_ge (pc1 := 52) dX11_plainKind_42 (by decide) ?_ ?_
  · refine T.aload_n dX11_plainKind_52 rfl 1 rfl ?_
    refine T.callV_v 0 (As1 := []) (rest := []) (c_next Γ X) ka_X11_next kv_X11_next oR rfl k1776 rfl rfl rfl rfl ⟨Nat.le_of_ble_eq_true rfl, Nat.le_of_ble_eq_true rfl⟩ (Nat.le_of_ble_eq_true rfl) dX11_plainKind_53 (fun _ X7 => ?_)
    refine T.iload_n dX11_plainKind_56 rfl 0 rfl ?_
    exact T.ret_i rfl dX11_plainKind_57
  · refine T.aload_n dX11_plainKind_45 rfl 1 rfl ?_
    refine T.callV_v 0 (As1 := []) (rest := []) (c_stray Γ X) ka_X11_stray kv_X11_stray oR rfl k1808 rfl rfl rfl rfl ⟨Nat.le_of_ble_eq_true rfl, Nat.le_of_ble_eq_true rfl⟩ (Nat.le_of_ble_eq_true rfl) dX11_plainKind_46 (fun _ X8 => ?_)
    refine T.goto (pc1 := 56) dX11_plainKind_49 (by decide) ?_
    refine T.iload_n dX11_plainKind_56 rfl 0 rfl ?_
    exact T.ret_i rfl dX11_plainKind_57
noncomputable def f_plainKind (X : St) : Option (Int32 × St) :=
  bnd (f_isWord (11 : Int32) X) fun x1 X2 =>
  if x1.toInt = 0 then
    bnd (f_isWord (12 : Int32) X2) fun x3 X4 =>
    if x3.toInt = 0 then
      bnd (f_isWord (13 : Int32) X4) fun x5 X6 =>
      if x5.toInt = 0 then
        f_plainKind_40 (-1 : Int32) X6
      else
        f_plainKind_40 (2 : Int32) X6
    else
      f_plainKind_40 (1 : Int32) X4
  else
    f_plainKind_40 (0 : Int32) X2
set_option maxHeartbeats 4000000 in
set_option maxRecDepth 100000 in
theorem c_plainKind (Γ : Gx) (X : St) : TMI YR Γ yX11_plainKind cX11_plainKind 2 "BlameCourtModel" (some .int) R_plainKind [.ref (Γ.2.2.2.1 0)] X (f_plainKind X) := by
  refine TMI.of (by decide) (Nat.le_of_ble_eq_true rfl) rfl ?_
  show T YR Γ cX11_plainKind 2 "BlameCourtModel" (some .int) R_plainKind _ qI 0 [(0, .ref (Γ.2.2.2.1 0))] [] X (f_plainKind X)
  unfold f_plainKind
  refine T.aload_n dX11_plainKind_0 rfl 0 rfl ?_
  refine T.bipush (w := 11) dX11_plainKind_1 (by decide) ?_
  refine T.callV_i 0 (As1 := [.int 11]) (rest := []) (c_isWord Γ (11 : Int32) X) ka_X11_isWord kv_X11_isWord oR rfl k1804 rfl rfl rfl rfl ⟨Nat.le_of_ble_eq_true rfl, Nat.le_of_ble_eq_true rfl⟩ (Nat.le_of_ble_eq_true rfl) dX11_plainKind_3 (fun x1 X2 => ?_)
  refine T.if_eq (pc1 := 13) dX11_plainKind_6 (by decide) ?_ ?_
  · refine T.aload_n dX11_plainKind_13 rfl 0 rfl ?_
    refine T.bipush (w := 12) dX11_plainKind_14 (by decide) ?_
    refine T.callV_i 0 (As1 := [.int 12]) (rest := []) (c_isWord Γ (12 : Int32) X2) ka_X11_isWord kv_X11_isWord oR rfl k1804 rfl rfl rfl rfl ⟨Nat.le_of_ble_eq_true rfl, Nat.le_of_ble_eq_true rfl⟩ (Nat.le_of_ble_eq_true rfl) dX11_plainKind_16 (fun x3 X4 => ?_)
    refine T.if_eq (pc1 := 26) dX11_plainKind_19 (by decide) ?_ ?_
    · refine T.aload_n dX11_plainKind_26 rfl 0 rfl ?_
      refine T.bipush (w := 13) dX11_plainKind_27 (by decide) ?_
      refine T.callV_i 0 (As1 := [.int 13]) (rest := []) (c_isWord Γ (13 : Int32) X4) ka_X11_isWord kv_X11_isWord oR rfl k1804 rfl rfl rfl rfl ⟨Nat.le_of_ble_eq_true rfl, Nat.le_of_ble_eq_true rfl⟩ (Nat.le_of_ble_eq_true rfl) dX11_plainKind_29 (fun x5 X6 => ?_)
      refine T.if_eq (pc1 := 39) dX11_plainKind_32 (by decide) ?_ ?_
      · refine T.iconst (w := (-1)) dX11_plainKind_39 (by decide) ?_
        exact c_plainKind_40 Γ _ (-1 : Int32) X6
      · refine T.iconst (w := 2) dX11_plainKind_35 (by decide) ?_
        refine T.goto (pc1 := 40) dX11_plainKind_36 (by decide) ?_
        exact c_plainKind_40 Γ _ (2 : Int32) X6
    · refine T.iconst (w := 1) dX11_plainKind_22 (by decide) ?_
      refine T.goto (pc1 := 40) dX11_plainKind_23 (by decide) ?_
      exact c_plainKind_40 Γ _ (1 : Int32) X4
  · refine T.iconst (w := 0) dX11_plainKind_9 (by decide) ?_
    refine T.goto (pc1 := 40) dX11_plainKind_10 (by decide) ?_
    exact c_plainKind_40 Γ _ (0 : Int32) X2
