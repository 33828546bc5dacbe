theorem dX11_about_0 : decode cX11_about 0 = .ok (.iload_n 1, 1) := by decide +kernel
theorem dX11_about_1 : decode cX11_about 1 = .ok (.tableswitch 70 0 3 #[31, 36, 41, 54], 31) := by decide +kernel
theorem dX11_about_32 : decode cX11_about 32 = .ok (.aload_n 0, 1) := by decide +kernel
theorem dX11_about_33 : decode cX11_about 33 = .ok (.getfield 276, 3) := by decide +kernel
theorem dX11_about_36 : decode cX11_about 36 = .ok (.ireturn, 1) := by decide +kernel
theorem dX11_about_37 : decode cX11_about 37 = .ok (.aload_n 0, 1) := by decide +kernel
theorem dX11_about_38 : decode cX11_about 38 = .ok (.getfield 497, 3) := by decide +kernel
theorem dX11_about_41 : decode cX11_about 41 = .ok (.ireturn, 1) := by decide +kernel
theorem dX11_about_42 : decode cX11_about 42 = .ok (.aload_n 0, 1) := by decide +kernel
theorem dX11_about_43 : decode cX11_about 43 = .ok (.getfield 509, 3) := by decide +kernel
theorem dX11_about_46 : decode cX11_about 46 = .ok (.ifCond .eq 7, 3) := by decide +kernel
theorem dX11_about_53 : decode cX11_about 53 = .ok (.iconst 0, 1) := by decide +kernel
theorem dX11_about_54 : decode cX11_about 54 = .ok (.ireturn, 1) := by decide +kernel
theorem dX11_about_55 : decode cX11_about 55 = .ok (.aload_n 0, 1) := by decide +kernel
theorem dX11_about_56 : decode cX11_about 56 = .ok (.getfield 509, 3) := by decide +kernel
theorem dX11_about_59 : decode cX11_about 59 = .ok (.ifCond .eq 10, 3) := by decide +kernel
theorem dX11_about_69 : decode cX11_about 69 = .ok (.iconst (-1), 1) := by decide +kernel
theorem dX11_about_70 : decode cX11_about 70 = .ok (.ireturn, 1) := by decide +kernel
theorem dX11_about_71 : decode cX11_about 71 = .ok (.iconst (-1), 1) := by decide +kernel
theorem dX11_about_72 : decode cX11_about 72 = .ok (.ireturn, 1) := by decide +kernel
theorem dX11_asked_0 : decode cX11_asked 0 = .ok (.aload_n 0, 1) := by decide +kernel
theorem dX11_asked_1 : decode cX11_asked 1 = .ok (.getfield 539, 3) := by decide +kernel
theorem dX11_asked_4 : decode cX11_asked 4 = .ok (.ifCond .eq 45, 3) := by decide +kernel
theorem dX11_asked_49 : decode cX11_asked 49 = .ok (.iconst (-1), 1) := by decide +kernel
theorem dX11_asked_50 : decode cX11_asked 50 = .ok (.ireturn, 1) := by decide +kernel
theorem dX11_end_0 : decode cX11_end 0 = .ok (.iload_n 1, 1) := by decide +kernel
theorem dX11_end_1 : decode cX11_end 1 = .ok (.iconst 0, 1) := by decide +kernel
theorem dX11_end_2 : decode cX11_end 2 = .ok (.aload_n 0, 1) := by decide +kernel
theorem dX11_end_3 : decode cX11_end 3 = .ok (.getfield 276, 3) := by decide +kernel
theorem dX11_end_6 : decode cX11_end 6 = .ok (.invokestatic 282, 3) := by decide +kernel
theorem dX11_end_9 : decode cX11_end 9 = .ok (.ifCond .ne 5, 3) := by decide +kernel
theorem dX11_end_12 : decode cX11_end 12 = .ok (.iconst (-1), 1) := by decide +kernel
theorem dX11_end_13 : decode cX11_end 13 = .ok (.ireturn, 1) := by decide +kernel
theorem dX11_end_14 : decode cX11_end 14 = .ok (.aload_n 0, 1) := by decide +kernel
theorem dX11_end_15 : decode cX11_end 15 = .ok (.iload_n 1, 1) := by decide +kernel
theorem dX11_end_16 : decode cX11_end 16 = .ok (.putfield 276, 3) := by decide +kernel
theorem dX11_end_19 : decode cX11_end 19 = .ok (.iload_n 1, 1) := by decide +kernel
theorem dX11_end_20 : decode cX11_end 20 = .ok (.ireturn, 1) := by decide +kernel
theorem dX11_fails_0 : decode cX11_fails 0 = .ok (.aload_n 0, 1) := by decide +kernel
theorem dX11_fails_1 : decode cX11_fails 1 = .ok (.getfield 286, 3) := by decide +kernel
theorem dX11_fails_4 : decode cX11_fails 4 = .ok (.ifCond .ne 13, 3) := by decide +kernel
theorem dX11_fails_7 : decode cX11_fails 7 = .ok (.aload_n 0, 1) := by decide +kernel
theorem dX11_fails_8 : decode cX11_fails 8 = .ok (.iload_n 1, 1) := by decide +kernel
theorem dX11_fails_9 : decode cX11_fails 9 = .ok (.putfield 286, 3) := by decide +kernel
theorem dX11_fails_12 : decode cX11_fails 12 = .ok (.aload_n 0, 1) := by decide +kernel
theorem dX11_fails_13 : decode cX11_fails 13 = .ok (.iload_n 2, 1) := by decide +kernel
theorem dX11_fails_14 : decode cX11_fails 14 = .ok (.putfield 289, 3) := by decide +kernel
theorem dX11_fails_17 : decode cX11_fails 17 = .ok (.return_, 1) := by decide +kernel
theorem dX11_fault_0 : decode cX11_fault 0 = .ok (.iload_n 1, 1) := by decide +kernel
theorem dX11_fault_1 : decode cX11_fault 1 = .ok (.ifCond .ne 10, 3) := by decide +kernel
theorem dX11_fault_4 : decode cX11_fault 4 = .ok (.aload_n 0, 1) := by decide +kernel
theorem dX11_fault_5 : decode cX11_fault 5 = .ok (.getfield 19, 3) := by decide +kernel
theorem dX11_fault_8 : decode cX11_fault 8 = .ok (.goto 16, 3) := by decide +kernel
theorem dX11_fault_11 : decode cX11_fault 11 = .ok (.iload_n 1, 1) := by decide +kernel
theorem dX11_fault_12 : decode cX11_fault 12 = .ok (.iconst 1, 1) := by decide +kernel
theorem dX11_fault_13 : decode cX11_fault 13 = .ok (.if_icmp .ne 10, 3) := by decide +kernel
theorem dX11_fault_16 : decode cX11_fault 16 = .ok (.aload_n 0, 1) := by decide +kernel
theorem dX11_fault_17 : decode cX11_fault 17 = .ok (.getfield 23, 3) := by decide +kernel
theorem dX11_fault_20 : decode cX11_fault 20 = .ok (.goto 4, 3) := by decide +kernel
theorem dX11_fault_23 : decode cX11_fault 23 = .ok (.iconst (-1), 1) := by decide +kernel
theorem dX11_fault_24 : decode cX11_fault 24 = .ok (.ireturn, 1) := by decide +kernel
theorem dX11_feed_0 : decode cX11_feed 0 = .ok (.aload_n 0, 1) := by decide +kernel
theorem dX11_feed_1 : decode cX11_feed 1 = .ok (.getfield 276, 3) := by decide +kernel
theorem dX11_feed_4 : decode cX11_feed 4 = .ok (.bipush 20, 2) := by decide +kernel
theorem dX11_feed_6 : decode cX11_feed 6 = .ok (.iadd, 1) := by decide +kernel
theorem dX11_feed_7 : decode cX11_feed 7 = .ok (.sipush 3000, 3) := by decide +kernel
theorem dX11_feed_10 : decode cX11_feed 10 = .ok (.if_icmp .le 5, 3) := by decide +kernel
theorem dX11_feed_15 : decode cX11_feed 15 = .ok (.aload_n 0, 1) := by decide +kernel
theorem dX11_feed_16 : decode cX11_feed 16 = .ok (.iload_n 1, 1) := by decide +kernel
theorem dX11_feed_17 : decode cX11_feed 17 = .ok (.invokevirtual 279, 3) := by decide +kernel
theorem dX11_feed_20 : decode cX11_feed 20 = .ok (.aload_n 0, 1) := by decide +kernel
theorem dX11_feed_21 : decode cX11_feed 21 = .ok (.iload_n 2, 1) := by decide +kernel
theorem dX11_feed_22 : decode cX11_feed 22 = .ok (.invokevirtual 279, 3) := by decide +kernel
theorem dX11_feed_25 : decode cX11_feed 25 = .ok (.aload_n 0, 1) := by decide +kernel
theorem dX11_feed_26 : decode cX11_feed 26 = .ok (.iload_n 3, 1) := by decide +kernel
theorem dX11_feed_27 : decode cX11_feed 27 = .ok (.invokevirtual 279, 3) := by decide +kernel
theorem dX11_feed_30 : decode cX11_feed 30 = .ok (.aload_n 0, 1) := by decide +kernel
theorem dX11_feed_31 : decode cX11_feed 31 = .ok (.iload 4, 2) := by decide +kernel
theorem dX11_feed_33 : decode cX11_feed 33 = .ok (.invokevirtual 279, 3) := by decide +kernel
theorem dX11_feed_36 : decode cX11_feed 36 = .ok (.aload_n 0, 1) := by decide +kernel
theorem dX11_feed_37 : decode cX11_feed 37 = .ok (.iload 5, 2) := by decide +kernel
theorem dX11_feed_39 : decode cX11_feed 39 = .ok (.invokevirtual 279, 3) := by decide +kernel
theorem dX11_feed_42 : decode cX11_feed 42 = .ok (.aload_n 0, 1) := by decide +kernel
theorem dX11_feed_43 : decode cX11_feed 43 = .ok (.getfield 276, 3) := by decide +kernel
theorem dX11_feed_46 : decode cX11_feed 46 = .ok (.ireturn, 1) := by decide +kernel
theorem dX11_guard_0 : decode cX11_guard 0 = .ok (.aload_n 0, 1) := by decide +kernel
theorem dX11_guard_1 : decode cX11_guard 1 = .ok (.getfield 509, 3) := by decide +kernel
theorem dX11_guard_4 : decode cX11_guard 4 = .ok (.ifCond .eq 17, 3) := by decide +kernel
theorem dX11_guard_21 : decode cX11_guard 21 = .ok (.iconst (-1), 1) := by decide +kernel
theorem dX11_guard_22 : decode cX11_guard 22 = .ok (.ireturn, 1) := by decide +kernel
theorem dX11_in_0 : decode cX11_in 0 = .ok (.iload_n 0, 1) := by decide +kernel
theorem dX11_in_1 : decode cX11_in 1 = .ok (.iload_n 1, 1) := by decide +kernel
theorem dX11_in_2 : decode cX11_in 2 = .ok (.if_icmp .lt 12, 3) := by decide +kernel
theorem dX11_in_5 : decode cX11_in 5 = .ok (.iload_n 0, 1) := by decide +kernel
theorem dX11_in_6 : decode cX11_in 6 = .ok (.iload_n 2, 1) := by decide +kernel
theorem dX11_in_7 : decode cX11_in 7 = .ok (.if_icmp .gt 7, 3) := by decide +kernel
theorem dX11_in_10 : decode cX11_in 10 = .ok (.iconst 1, 1) := by decide +kernel
theorem dX11_in_11 : decode cX11_in 11 = .ok (.goto 4, 3) := by decide +kernel
theorem dX11_in_14 : decode cX11_in 14 = .ok (.iconst 0, 1) := by decide +kernel
theorem dX11_in_15 : decode cX11_in 15 = .ok (.ireturn, 1) := by decide +kernel
theorem dX11_isWell_0 : decode cX11_isWell 0 = .ok (.aload_n 0, 1) := by decide +kernel
theorem dX11_isWell_1 : decode cX11_isWell 1 = .ok (.getfield 286, 3) := by decide +kernel
theorem dX11_isWell_4 : decode cX11_isWell 4 = .ok (.ifCond .ne 7, 3) := by decide +kernel
theorem dX11_isWell_7 : decode cX11_isWell 7 = .ok (.iconst 1, 1) := by decide +kernel
theorem dX11_isWell_8 : decode cX11_isWell 8 = .ok (.goto 4, 3) := by decide +kernel
theorem dX11_isWell_12 : decode cX11_isWell 12 = .ok (.ireturn, 1) := by decide +kernel
theorem dX11_judge_0 : decode cX11_judge 0 = .ok (.aload_n 0, 1) := by decide +kernel
theorem dX11_judge_1 : decode cX11_judge 1 = .ok (.getfield 533, 3) := by decide +kernel
theorem dX11_judge_4 : decode cX11_judge 4 = .ok (.ifCond .ne 5, 3) := by decide +kernel
theorem dX11_judge_7 : decode cX11_judge 7 = .ok (.iconst (-1), 1) := by decide +kernel
theorem dX11_judge_8 : decode cX11_judge 8 = .ok (.ireturn, 1) := by decide +kernel
theorem dX11_kindOf_0 : decode cX11_kindOf 0 = .ok (.iconst 0, 1) := by decide +kernel
theorem dX11_kindOf_1 : decode cX11_kindOf 1 = .ok (.istore 4, 2) := by decide +kernel
theorem dX11_kindOf_3 : decode cX11_kindOf 3 = .ok (.iload 4, 2) := by decide +kernel
theorem dX11_kindOf_5 : decode cX11_kindOf 5 = .ok (.aload_n 0, 1) := by decide +kernel
theorem dX11_kindOf_6 : decode cX11_kindOf 6 = .ok (.getfield 267, 3) := by decide +kernel
theorem dX11_kindOf_9 : decode cX11_kindOf 9 = .ok (.if_icmp .ge 100, 3) := by decide +kernel
theorem dX11_kindOf_12 : decode cX11_kindOf 12 = .ok (.aload_n 0, 1) := by decide +kernel
theorem dX11_kindOf_13 : decode cX11_kindOf 13 = .ok (.getfield 26, 3) := by decide +kernel
theorem dX11_kindOf_16 : decode cX11_kindOf 16 = .ok (.iload 4, 2) := by decide +kernel
theorem dX11_kindOf_18 : decode cX11_kindOf 18 = .ok (.iaload, 1) := by decide +kernel
theorem dX11_kindOf_19 : decode cX11_kindOf 19 = .ok (.iload_n 1, 1) := by decide +kernel
theorem dX11_kindOf_20 : decode cX11_kindOf 20 = .ok (.if_icmp .ne 18, 3) := by decide +kernel
theorem dX11_kindOf_23 : decode cX11_kindOf 23 = .ok (.aload_n 0, 1) := by decide +kernel
theorem dX11_kindOf_24 : decode cX11_kindOf 24 = .ok (.getfield 30, 3) := by decide +kernel
theorem dX11_kindOf_27 : decode cX11_kindOf 27 = .ok (.iload 4, 2) := by decide +kernel
theorem dX11_kindOf_29 : decode cX11_kindOf 29 = .ok (.iaload, 1) := by decide +kernel
theorem dX11_kindOf_30 : decode cX11_kindOf 30 = .ok (.iload_n 3, 1) := by decide +kernel
theorem dX11_kindOf_31 : decode cX11_kindOf 31 = .ok (.if_icmp .ne 7, 3) := by decide +kernel
theorem dX11_kindOf_34 : decode cX11_kindOf 34 = .ok (.iconst 1, 1) := by decide +kernel
theorem dX11_kindOf_35 : decode cX11_kindOf 35 = .ok (.goto 4, 3) := by decide +kernel
theorem dX11_kindOf_38 : decode cX11_kindOf 38 = .ok (.iconst 0, 1) := by decide +kernel
theorem dX11_kindOf_39 : decode cX11_kindOf 39 = .ok (.istore 5, 2) := by decide +kernel
theorem dX11_kindOf_41 : decode cX11_kindOf 41 = .ok (.iconst 0, 1) := by decide +kernel
theorem dX11_kindOf_42 : decode cX11_kindOf 42 = .ok (.istore 6, 2) := by decide +kernel
theorem dX11_kindOf_44 : decode cX11_kindOf 44 = .ok (.iload 6, 2) := by decide +kernel
theorem dX11_kindOf_46 : decode cX11_kindOf 46 = .ok (.iload_n 3, 1) := by decide +kernel
theorem dX11_kindOf_47 : decode cX11_kindOf 47 = .ok (.if_icmp .ge 48, 3) := by decide +kernel
theorem dX11_kindOf_95 : decode cX11_kindOf 95 = .ok (.iload 5, 2) := by decide +kernel
theorem dX11_kindOf_97 : decode cX11_kindOf 97 = .ok (.ifCond .eq 6, 3) := by decide +kernel
theorem dX11_kindOf_100 : decode cX11_kindOf 100 = .ok (.iload 4, 2) := by decide +kernel
theorem dX11_kindOf_102 : decode cX11_kindOf 102 = .ok (.ireturn, 1) := by decide +kernel
theorem dX11_kindOf_103 : decode cX11_kindOf 103 = .ok (.iinc 4 1, 3) := by decide +kernel
theorem dX11_kindOf_106 : decode cX11_kindOf 106 = .ok (.goto (-103), 3) := by decide +kernel
theorem dX11_kindOf_109 : decode cX11_kindOf 109 = .ok (.aload_n 0, 1) := by decide +kernel
theorem dX11_kindOf_110 : decode cX11_kindOf 110 = .ok (.getfield 267, 3) := by decide +kernel
theorem dX11_kindOf_113 : decode cX11_kindOf 113 = .ok (.istore 4, 2) := by decide +kernel
theorem dX11_kindOf_115 : decode cX11_kindOf 115 = .ok (.aload_n 0, 1) := by decide +kernel
theorem dX11_kindOf_116 : decode cX11_kindOf 116 = .ok (.dup, 1) := by decide +kernel
theorem dX11_kindOf_117 : decode cX11_kindOf 117 = .ok (.getfield 267, 3) := by decide +kernel
theorem dX11_kindOf_120 : decode cX11_kindOf 120 = .ok (.iconst 1, 1) := by decide +kernel
theorem dX11_kindOf_121 : decode cX11_kindOf 121 = .ok (.iadd, 1) := by decide +kernel
theorem dX11_kindOf_122 : decode cX11_kindOf 122 = .ok (.putfield 267, 3) := by decide +kernel
theorem dX11_kindOf_125 : decode cX11_kindOf 125 = .ok (.aload_n 0, 1) := by decide +kernel
theorem dX11_kindOf_126 : decode cX11_kindOf 126 = .ok (.getfield 26, 3) := by decide +kernel
theorem dX11_kindOf_129 : decode cX11_kindOf 129 = .ok (.iload 4, 2) := by decide +kernel
theorem dX11_kindOf_131 : decode cX11_kindOf 131 = .ok (.iload_n 1, 1) := by decide +kernel
theorem dX11_kindOf_132 : decode cX11_kindOf 132 = .ok (.iastore, 1) := by decide +kernel
theorem dX11_kindOf_133 : decode cX11_kindOf 133 = .ok (.aload_n 0, 1) := by decide +kernel
theorem dX11_kindOf_134 : decode cX11_kindOf 134 = .ok (.getfield 30, 3) := by decide +kernel
theorem dX11_kindOf_137 : decode cX11_kindOf 137 = .ok (.iload 4, 2) := by decide +kernel
theorem dX11_kindOf_139 : decode cX11_kindOf 139 = .ok (.iload_n 3, 1) := by decide +kernel
theorem dX11_kindOf_140 : decode cX11_kindOf 140 = .ok (.iastore, 1) := by decide +kernel
theorem dX11_kindOf_141 : decode cX11_kindOf 141 = .ok (.aload_n 0, 1) := by decide +kernel
theorem dX11_kindOf_142 : decode cX11_kindOf 142 = .ok (.getfield 33, 3) := by decide +kernel
theorem dX11_kindOf_145 : decode cX11_kindOf 145 = .ok (.iload 4, 2) := by decide +kernel
theorem dX11_kindOf_147 : decode cX11_kindOf 147 = .ok (.aload_n 0, 1) := by decide +kernel
theorem dX11_kindOf_148 : decode cX11_kindOf 148 = .ok (.getfield 269, 3) := by decide +kernel
theorem dX11_kindOf_151 : decode cX11_kindOf 151 = .ok (.iastore, 1) := by decide +kernel
theorem dX11_kindOf_152 : decode cX11_kindOf 152 = .ok (.aload_n 0, 1) := by decide +kernel
theorem dX11_kindOf_153 : decode cX11_kindOf 153 = .ok (.getfield 39, 3) := by decide +kernel
theorem dX11_kindOf_156 : decode cX11_kindOf 156 = .ok (.iload 4, 2) := by decide +kernel
theorem dX11_kindOf_158 : decode cX11_kindOf 158 = .ok (.iload_n 1, 1) := by decide +kernel
theorem dX11_kindOf_159 : decode cX11_kindOf 159 = .ok (.iconst 3, 1) := by decide +kernel
theorem dX11_kindOf_160 : decode cX11_kindOf 160 = .ok (.if_icmp .ne 7, 3) := by decide +kernel
theorem dX11_kindOf_163 : decode cX11_kindOf 163 = .ok (.iconst 1, 1) := by decide +kernel
theorem dX11_kindOf_164 : decode cX11_kindOf 164 = .ok (.goto 4, 3) := by decide +kernel
theorem dX11_kindOf_167 : decode cX11_kindOf 167 = .ok (.iconst 0, 1) := by decide +kernel
theorem dX11_kindOf_168 : decode cX11_kindOf 168 = .ok (.bastore, 1) := by decide +kernel
theorem dX11_kindOf_169 : decode cX11_kindOf 169 = .ok (.iload_n 1, 1) := by decide +kernel
theorem dX11_kindOf_170 : decode cX11_kindOf 170 = .ok (.iconst 4, 1) := by decide +kernel
theorem dX11_kindOf_171 : decode cX11_kindOf 171 = .ok (.if_icmp .ne 21, 3) := by decide +kernel
theorem dX11_kindOf_192 : decode cX11_kindOf 192 = .ok (.iload_n 1, 1) := by decide +kernel
theorem dX11_kindOf_193 : decode cX11_kindOf 193 = .ok (.iconst 5, 1) := by decide +kernel
theorem dX11_kindOf_194 : decode cX11_kindOf 194 = .ok (.if_icmp .ne 12, 3) := by decide +kernel
theorem dX11_kindOf_206 : decode cX11_kindOf 206 = .ok (.iload_n 1, 1) := by decide +kernel
theorem dX11_kindOf_207 : decode cX11_kindOf 207 = .ok (.istore 5, 2) := by decide +kernel
theorem dX11_kindOf_209 : decode cX11_kindOf 209 = .ok (.iconst 0, 1) := by decide +kernel
theorem dX11_kindOf_210 : decode cX11_kindOf 210 = .ok (.istore 6, 2) := by decide +kernel
theorem dX11_kindOf_212 : decode cX11_kindOf 212 = .ok (.iload 6, 2) := by decide +kernel
theorem dX11_kindOf_214 : decode cX11_kindOf 214 = .ok (.iload_n 3, 1) := by decide +kernel
theorem dX11_kindOf_215 : decode cX11_kindOf 215 = .ok (.if_icmp .ge 108, 3) := by decide +kernel
theorem dX11_kindOf_323 : decode cX11_kindOf 323 = .ok (.aload_n 0, 1) := by decide +kernel
theorem dX11_kindOf_324 : decode cX11_kindOf 324 = .ok (.getfield 36, 3) := by decide +kernel
theorem dX11_kindOf_327 : decode cX11_kindOf 327 = .ok (.iload 4, 2) := by decide +kernel
theorem dX11_kindOf_329 : decode cX11_kindOf 329 = .ok (.iload 5, 2) := by decide +kernel
theorem dX11_kindOf_331 : decode cX11_kindOf 331 = .ok (.iastore, 1) := by decide +kernel
theorem dX11_kindOf_332 : decode cX11_kindOf 332 = .ok (.iload 4, 2) := by decide +kernel
theorem dX11_kindOf_334 : decode cX11_kindOf 334 = .ok (.ireturn, 1) := by decide +kernel
theorem dX11_kinds_0 : decode cX11_kinds 0 = .ok (.aload_n 0, 1) := by decide +kernel
theorem dX11_kinds_1 : decode cX11_kinds 1 = .ok (.iload_n 1, 1) := by decide +kernel
theorem dX11_kinds_2 : decode cX11_kinds 2 = .ok (.putfield 267, 3) := by decide +kernel
theorem dX11_kinds_5 : decode cX11_kinds 5 = .ok (.aload_n 0, 1) := by decide +kernel
theorem dX11_kinds_6 : decode cX11_kinds 6 = .ok (.iconst 0, 1) := by decide +kernel
theorem dX11_kinds_7 : decode cX11_kinds 7 = .ok (.putfield 269, 3) := by decide +kernel
theorem dX11_kinds_10 : decode cX11_kinds 10 = .ok (.aload_n 0, 1) := by decide +kernel
theorem dX11_kinds_11 : decode cX11_kinds 11 = .ok (.iconst 1, 1) := by decide +kernel
theorem dX11_kinds_12 : decode cX11_kinds 12 = .ok (.iconst 0, 1) := by decide +kernel
theorem dX11_kinds_13 : decode cX11_kinds 13 = .ok (.iconst 0, 1) := by decide +kernel
theorem dX11_kinds_14 : decode cX11_kinds 14 = .ok (.invokevirtual 272, 3) := by decide +kernel
theorem dX11_kinds_17 : decode cX11_kinds 17 = .ok (.pop, 1) := by decide +kernel
theorem dX11_kinds_18 : decode cX11_kinds 18 = .ok (.aload_n 0, 1) := by decide +kernel
theorem dX11_kinds_19 : decode cX11_kinds 19 = .ok (.iconst 2, 1) := by decide +kernel
theorem dX11_kinds_20 : decode cX11_kinds 20 = .ok (.iconst 0, 1) := by decide +kernel
theorem dX11_kinds_21 : decode cX11_kinds 21 = .ok (.iconst 0, 1) := by decide +kernel
theorem dX11_kinds_22 : decode cX11_kinds 22 = .ok (.invokevirtual 272, 3) := by decide +kernel
theorem dX11_kinds_25 : decode cX11_kinds 25 = .ok (.pop, 1) := by decide +kernel
theorem dX11_kinds_26 : decode cX11_kinds 26 = .ok (.aload_n 0, 1) := by decide +kernel
theorem dX11_kinds_27 : decode cX11_kinds 27 = .ok (.iconst 3, 1) := by decide +kernel
theorem dX11_kinds_28 : decode cX11_kinds 28 = .ok (.iconst 0, 1) := by decide +kernel
theorem dX11_kinds_29 : decode cX11_kinds 29 = .ok (.iconst 0, 1) := by decide +kernel
theorem dX11_kinds_30 : decode cX11_kinds 30 = .ok (.invokevirtual 272, 3) := by decide +kernel
theorem dX11_kinds_33 : decode cX11_kinds 33 = .ok (.pop, 1) := by decide +kernel
theorem dX11_kinds_34 : decode cX11_kinds 34 = .ok (.return_, 1) := by decide +kernel
theorem dX11_knows_0 : decode cX11_knows 0 = .ok (.aload_n 0, 1) := by decide +kernel
theorem dX11_knows_1 : decode cX11_knows 1 = .ok (.getfield 302, 3) := by decide +kernel
theorem dX11_knows_4 : decode cX11_knows 4 = .ok (.iconst 1, 1) := by decide +kernel
theorem dX11_knows_5 : decode cX11_knows 5 = .ok (.iadd, 1) := by decide +kernel
theorem dX11_knows_6 : decode cX11_knows 6 = .ok (.istore_n 1, 1) := by decide +kernel
theorem dX11_knows_7 : decode cX11_knows 7 = .ok (.iconst 0, 1) := by decide +kernel
theorem dX11_knows_8 : decode cX11_knows 8 = .ok (.istore_n 2, 1) := by decide +kernel
theorem dX11_knows_9 : decode cX11_knows 9 = .ok (.iconst 0, 1) := by decide +kernel
theorem dX11_knows_10 : decode cX11_knows 10 = .ok (.istore_n 3, 1) := by decide +kernel
theorem dX11_knows_11 : decode cX11_knows 11 = .ok (.iload_n 3, 1) := by decide +kernel
theorem dX11_knows_12 : decode cX11_knows 12 = .ok (.aload_n 0, 1) := by decide +kernel
theorem dX11_knows_13 : decode cX11_knows 13 = .ok (.getfield 497, 3) := by decide +kernel
theorem dX11_knows_16 : decode cX11_knows 16 = .ok (.if_icmp .ge 42, 3) := by decide +kernel
theorem dX11_knows_58 : decode cX11_knows 58 = .ok (.iconst 0, 1) := by decide +kernel
theorem dX11_knows_59 : decode cX11_knows 59 = .ok (.istore_n 3, 1) := by decide +kernel
theorem dX11_knows_60 : decode cX11_knows 60 = .ok (.iload_n 3, 1) := by decide +kernel
theorem dX11_knows_61 : decode cX11_knows 61 = .ok (.aload_n 0, 1) := by decide +kernel
theorem dX11_knows_62 : decode cX11_knows 62 = .ok (.getfield 386, 3) := by decide +kernel
theorem dX11_knows_65 : decode cX11_knows 65 = .ok (.if_icmp .ge 67, 3) := by decide +kernel
theorem dX11_knows_132 : decode cX11_knows 132 = .ok (.iload_n 2, 1) := by decide +kernel
theorem dX11_knows_133 : decode cX11_knows 133 = .ok (.ifCond .le 9, 3) := by decide +kernel
theorem dX11_knows_142 : decode cX11_knows 142 = .ok (.return_, 1) := by decide +kernel
theorem dX11_next_0 : decode cX11_next 0 = .ok (.aload_n 0, 1) := by decide +kernel
theorem dX11_next_1 : decode cX11_next 1 = .ok (.getfield 299, 3) := by decide +kernel
theorem dX11_next_4 : decode cX11_next 4 = .ok (.aload_n 0, 1) := by decide +kernel
theorem dX11_next_5 : decode cX11_next 5 = .ok (.getfield 302, 3) := by decide +kernel
theorem dX11_next_8 : decode cX11_next 8 = .ok (.if_icmp .ge 44, 3) := by decide +kernel
theorem dX11_next_52 : decode cX11_next 52 = .ok (.aload_n 0, 1) := by decide +kernel
theorem dX11_next_53 : decode cX11_next 53 = .ok (.aload_n 0, 1) := by decide +kernel
theorem dX11_next_54 : decode cX11_next 54 = .ok (.getfield 299, 3) := by decide +kernel
theorem dX11_next_57 : decode cX11_next 57 = .ok (.putfield 292, 3) := by decide +kernel
theorem dX11_next_60 : decode cX11_next 60 = .ok (.aload_n 0, 1) := by decide +kernel
theorem dX11_next_61 : decode cX11_next 61 = .ok (.lconst 0, 1) := by decide +kernel
theorem dX11_next_62 : decode cX11_next 62 = .ok (.putfield 305, 3) := by decide +kernel
theorem dX11_next_65 : decode cX11_next 65 = .ok (.aload_n 0, 1) := by decide +kernel
theorem dX11_next_66 : decode cX11_next 66 = .ok (.getfield 299, 3) := by decide +kernel
theorem dX11_next_69 : decode cX11_next 69 = .ok (.aload_n 0, 1) := by decide +kernel
theorem dX11_next_70 : decode cX11_next 70 = .ok (.getfield 302, 3) := by decide +kernel
theorem dX11_next_73 : decode cX11_next 73 = .ok (.if_icmp .ne 9, 3) := by decide +kernel
theorem dX11_next_76 : decode cX11_next 76 = .ok (.aload_n 0, 1) := by decide +kernel
theorem dX11_next_77 : decode cX11_next 77 = .ok (.iconst 0, 1) := by decide +kernel
theorem dX11_next_78 : decode cX11_next 78 = .ok (.putfield 309, 3) := by decide +kernel
theorem dX11_next_81 : decode cX11_next 81 = .ok (.return_, 1) := by decide +kernel
theorem dX11_out_0 : decode cX11_out 0 = .ok (.aload_n 0, 1) := by decide +kernel
theorem dX11_out_1 : decode cX11_out 1 = .ok (.getfield 539, 3) := by decide +kernel
theorem dX11_out_4 : decode cX11_out 4 = .ok (.ifCond .eq 26, 3) := by decide +kernel
theorem dX11_out_30 : decode cX11_out 30 = .ok (.iconst 0, 1) := by decide +kernel
theorem dX11_out_31 : decode cX11_out 31 = .ok (.ireturn, 1) := by decide +kernel
theorem dX11_partOf_0 : decode cX11_partOf 0 = .ok (.iconst (-1), 1) := by decide +kernel
theorem dX11_partOf_1 : decode cX11_partOf 1 = .ok (.istore_n 3, 1) := by decide +kernel
theorem dX11_partOf_2 : decode cX11_partOf 2 = .ok (.aload_n 0, 1) := by decide +kernel
theorem dX11_partOf_3 : decode cX11_partOf 3 = .ok (.getfield 497, 3) := by decide +kernel
theorem dX11_partOf_6 : decode cX11_partOf 6 = .ok (.iconst 1, 1) := by decide +kernel
theorem dX11_partOf_7 : decode cX11_partOf 7 = .ok (.isub, 1) := by decide +kernel
theorem dX11_partOf_8 : decode cX11_partOf 8 = .ok (.istore 4, 2) := by decide +kernel
theorem dX11_partOf_10 : decode cX11_partOf 10 = .ok (.iload 4, 2) := by decide +kernel
theorem dX11_partOf_12 : decode cX11_partOf 12 = .ok (.ifCond .lt 28, 3) := by decide +kernel
theorem dX11_partOf_40 : decode cX11_partOf 40 = .ok (.iload_n 3, 1) := by decide +kernel
theorem dX11_partOf_41 : decode cX11_partOf 41 = .ok (.ireturn, 1) := by decide +kernel
theorem dX11_part__0 : decode cX11_part_ 0 = .ok (.aload_n 0, 1) := by decide +kernel
theorem dX11_part__1 : decode cX11_part_ 1 = .ok (.getfield 533, 3) := by decide +kernel
theorem dX11_part__4 : decode cX11_part_ 4 = .ok (.ifCond .eq 17, 3) := by decide +kernel
theorem dX11_part__21 : decode cX11_part_ 21 = .ok (.iconst (-1), 1) := by decide +kernel
theorem dX11_part__22 : decode cX11_part_ 22 = .ok (.ireturn, 1) := by decide +kernel
theorem dX11_put_0 : decode cX11_put 0 = .ok (.aload_n 0, 1) := by decide +kernel
theorem dX11_put_1 : decode cX11_put 1 = .ok (.getfield 7, 3) := by decide +kernel
theorem dX11_put_4 : decode cX11_put 4 = .ok (.aload_n 0, 1) := by decide +kernel
theorem dX11_put_5 : decode cX11_put 5 = .ok (.getfield 276, 3) := by decide +kernel
theorem dX11_put_8 : decode cX11_put 8 = .ok (.iload_n 1, 1) := by decide +kernel
theorem dX11_put_9 : decode cX11_put 9 = .ok (.bipush 24, 2) := by decide +kernel
theorem dX11_put_11 : decode cX11_put 11 = .ok (.ishr, 1) := by decide +kernel
theorem dX11_put_12 : decode cX11_put 12 = .ok (.i2b, 1) := by decide +kernel
theorem dX11_put_13 : decode cX11_put 13 = .ok (.bastore, 1) := by decide +kernel
theorem dX11_put_14 : decode cX11_put 14 = .ok (.aload_n 0, 1) := by decide +kernel
theorem dX11_put_15 : decode cX11_put 15 = .ok (.getfield 7, 3) := by decide +kernel
theorem dX11_put_18 : decode cX11_put 18 = .ok (.aload_n 0, 1) := by decide +kernel
theorem dX11_put_19 : decode cX11_put 19 = .ok (.getfield 276, 3) := by decide +kernel
theorem dX11_put_22 : decode cX11_put 22 = .ok (.iconst 1, 1) := by decide +kernel
theorem dX11_put_23 : decode cX11_put 23 = .ok (.iadd, 1) := by decide +kernel
theorem dX11_put_24 : decode cX11_put 24 = .ok (.iload_n 1, 1) := by decide +kernel
theorem dX11_put_25 : decode cX11_put 25 = .ok (.bipush 16, 2) := by decide +kernel
theorem dX11_put_27 : decode cX11_put 27 = .ok (.ishr, 1) := by decide +kernel
theorem dX11_put_28 : decode cX11_put 28 = .ok (.i2b, 1) := by decide +kernel
theorem dX11_put_29 : decode cX11_put 29 = .ok (.bastore, 1) := by decide +kernel
theorem dX11_put_30 : decode cX11_put 30 = .ok (.aload_n 0, 1) := by decide +kernel
theorem dX11_put_31 : decode cX11_put 31 = .ok (.getfield 7, 3) := by decide +kernel
theorem dX11_put_34 : decode cX11_put 34 = .ok (.aload_n 0, 1) := by decide +kernel
theorem dX11_put_35 : decode cX11_put 35 = .ok (.getfield 276, 3) := by decide +kernel
theorem dX11_put_38 : decode cX11_put 38 = .ok (.iconst 2, 1) := by decide +kernel
theorem dX11_put_39 : decode cX11_put 39 = .ok (.iadd, 1) := by decide +kernel
theorem dX11_put_40 : decode cX11_put 40 = .ok (.iload_n 1, 1) := by decide +kernel
theorem dX11_put_41 : decode cX11_put 41 = .ok (.bipush 8, 2) := by decide +kernel
theorem dX11_put_43 : decode cX11_put 43 = .ok (.ishr, 1) := by decide +kernel
theorem dX11_put_44 : decode cX11_put 44 = .ok (.i2b, 1) := by decide +kernel
theorem dX11_put_45 : decode cX11_put 45 = .ok (.bastore, 1) := by decide +kernel
theorem dX11_put_46 : decode cX11_put 46 = .ok (.aload_n 0, 1) := by decide +kernel
theorem dX11_put_47 : decode cX11_put 47 = .ok (.getfield 7, 3) := by decide +kernel
theorem dX11_put_50 : decode cX11_put 50 = .ok (.aload_n 0, 1) := by decide +kernel
theorem dX11_put_51 : decode cX11_put 51 = .ok (.getfield 276, 3) := by decide +kernel
theorem dX11_put_54 : decode cX11_put 54 = .ok (.iconst 3, 1) := by decide +kernel
theorem dX11_put_55 : decode cX11_put 55 = .ok (.iadd, 1) := by decide +kernel
theorem dX11_put_56 : decode cX11_put 56 = .ok (.iload_n 1, 1) := by decide +kernel
theorem dX11_put_57 : decode cX11_put 57 = .ok (.i2b, 1) := by decide +kernel
theorem dX11_put_58 : decode cX11_put 58 = .ok (.bastore, 1) := by decide +kernel
theorem dX11_put_59 : decode cX11_put 59 = .ok (.aload_n 0, 1) := by decide +kernel
theorem dX11_put_60 : decode cX11_put 60 = .ok (.dup, 1) := by decide +kernel
theorem dX11_put_61 : decode cX11_put 61 = .ok (.getfield 276, 3) := by decide +kernel
theorem dX11_put_64 : decode cX11_put 64 = .ok (.iconst 4, 1) := by decide +kernel
theorem dX11_put_65 : decode cX11_put 65 = .ok (.iadd, 1) := by decide +kernel
theorem dX11_put_66 : decode cX11_put 66 = .ok (.putfield 276, 3) := by decide +kernel
theorem dX11_put_69 : decode cX11_put 69 = .ok (.return_, 1) := by decide +kernel
theorem dX11_read_0 : decode cX11_read 0 = .ok (.aload_n 0, 1) := by decide +kernel
theorem dX11_read_1 : decode cX11_read 1 = .ok (.aload_n 0, 1) := by decide +kernel
theorem dX11_read_2 : decode cX11_read 2 = .ok (.getfield 276, 3) := by decide +kernel
theorem dX11_read_5 : decode cX11_read 5 = .ok (.putfield 302, 3) := by decide +kernel
theorem dX11_read_8 : decode cX11_read 8 = .ok (.iconst 0, 1) := by decide +kernel
theorem dX11_read_9 : decode cX11_read 9 = .ok (.istore_n 1, 1) := by decide +kernel
theorem dX11_read_10 : decode cX11_read 10 = .ok (.iload_n 1, 1) := by decide +kernel
theorem dX11_read_11 : decode cX11_read 11 = .ok (.aload_n 0, 1) := by decide +kernel
theorem dX11_read_12 : decode cX11_read 12 = .ok (.getfield 276, 3) := by decide +kernel
theorem dX11_read_15 : decode cX11_read 15 = .ok (.if_icmp .ge 21, 3) := by decide +kernel
theorem dX11_read_36 : decode cX11_read 36 = .ok (.aload_n 0, 1) := by decide +kernel
theorem dX11_read_37 : decode cX11_read 37 = .ok (.iconst 0, 1) := by decide +kernel
theorem dX11_read_38 : decode cX11_read 38 = .ok (.putfield 276, 3) := by decide +kernel
theorem dX11_read_41 : decode cX11_read 41 = .ok (.aload_n 0, 1) := by decide +kernel
theorem dX11_read_42 : decode cX11_read 42 = .ok (.getfield 509, 3) := by decide +kernel
theorem dX11_read_45 : decode cX11_read 45 = .ok (.istore_n 1, 1) := by decide +kernel
theorem dX11_read_46 : decode cX11_read 46 = .ok (.aload_n 0, 1) := by decide +kernel
theorem dX11_read_47 : decode cX11_read 47 = .ok (.invokevirtual 530, 3) := by decide +kernel
theorem dX11_read_50 : decode cX11_read 50 = .ok (.aload_n 0, 1) := by decide +kernel
theorem dX11_read_51 : decode cX11_read 51 = .ok (.aload_n 0, 1) := by decide +kernel
theorem dX11_read_52 : decode cX11_read 52 = .ok (.getfield 286, 3) := by decide +kernel
theorem dX11_read_55 : decode cX11_read 55 = .ok (.putfield 19, 3) := by decide +kernel
theorem dX11_read_58 : decode cX11_read 58 = .ok (.aload_n 0, 1) := by decide +kernel
theorem dX11_read_59 : decode cX11_read 59 = .ok (.aload_n 0, 1) := by decide +kernel
theorem dX11_read_60 : decode cX11_read 60 = .ok (.getfield 289, 3) := by decide +kernel
theorem dX11_read_63 : decode cX11_read 63 = .ok (.putfield 23, 3) := by decide +kernel
theorem dX11_read_66 : decode cX11_read 66 = .ok (.aload_n 0, 1) := by decide +kernel
theorem dX11_read_67 : decode cX11_read 67 = .ok (.getfield 286, 3) := by decide +kernel
theorem dX11_read_70 : decode cX11_read 70 = .ok (.ifCond .ne 77, 3) := by decide +kernel
theorem dX11_read_147 : decode cX11_read 147 = .ok (.aload_n 0, 1) := by decide +kernel
theorem dX11_read_148 : decode cX11_read 148 = .ok (.iconst 0, 1) := by decide +kernel
theorem dX11_read_149 : decode cX11_read 149 = .ok (.putfield 497, 3) := by decide +kernel
theorem dX11_read_152 : decode cX11_read 152 = .ok (.aload_n 0, 1) := by decide +kernel
theorem dX11_read_153 : decode cX11_read 153 = .ok (.getfield 533, 3) := by decide +kernel
theorem dX11_read_156 : decode cX11_read 156 = .ok (.ifCond .eq 51, 3) := by decide +kernel
theorem dX11_read_207 : decode cX11_read 207 = .ok (.iconst (-1), 1) := by decide +kernel
theorem dX11_read_208 : decode cX11_read 208 = .ok (.ireturn, 1) := by decide +kernel
theorem dX11_reads_0 : decode cX11_reads 0 = .ok (.aload_n 0, 1) := by decide +kernel
theorem dX11_reads_1 : decode cX11_reads 1 = .ok (.iconst 0, 1) := by decide +kernel
theorem dX11_reads_2 : decode cX11_reads 2 = .ok (.putfield 299, 3) := by decide +kernel
theorem dX11_reads_5 : decode cX11_reads 5 = .ok (.aload_n 0, 1) := by decide +kernel
theorem dX11_reads_6 : decode cX11_reads 6 = .ok (.iconst 0, 1) := by decide +kernel
theorem dX11_reads_7 : decode cX11_reads 7 = .ok (.putfield 286, 3) := by decide +kernel
theorem dX11_reads_10 : decode cX11_reads 10 = .ok (.aload_n 0, 1) := by decide +kernel
theorem dX11_reads_11 : decode cX11_reads 11 = .ok (.iconst (-1), 1) := by decide +kernel
theorem dX11_reads_12 : decode cX11_reads 12 = .ok (.putfield 289, 3) := by decide +kernel
theorem dX11_reads_15 : decode cX11_reads 15 = .ok (.aload_n 0, 1) := by decide +kernel
theorem dX11_reads_16 : decode cX11_reads 16 = .ok (.iconst 0, 1) := by decide +kernel
theorem dX11_reads_17 : decode cX11_reads 17 = .ok (.putfield 497, 3) := by decide +kernel
theorem dX11_reads_20 : decode cX11_reads 20 = .ok (.aload_n 0, 1) := by decide +kernel
theorem dX11_reads_21 : decode cX11_reads 21 = .ok (.iconst 0, 1) := by decide +kernel
theorem dX11_reads_22 : decode cX11_reads 22 = .ok (.putfield 386, 3) := by decide +kernel
theorem dX11_reads_25 : decode cX11_reads 25 = .ok (.aload_n 0, 1) := by decide +kernel
theorem dX11_reads_26 : decode cX11_reads 26 = .ok (.iconst 0, 1) := by decide +kernel
theorem dX11_reads_27 : decode cX11_reads 27 = .ok (.putfield 509, 3) := by decide +kernel
theorem dX11_reads_30 : decode cX11_reads 30 = .ok (.aload_n 0, 1) := by decide +kernel
theorem dX11_reads_31 : decode cX11_reads 31 = .ok (.iconst 0, 1) := by decide +kernel
theorem dX11_reads_32 : decode cX11_reads 32 = .ok (.invokevirtual 263, 3) := by decide +kernel
theorem dX11_reads_35 : decode cX11_reads 35 = .ok (.aload_n 0, 1) := by decide +kernel
theorem dX11_reads_36 : decode cX11_reads 36 = .ok (.invokevirtual 349, 3) := by decide +kernel
theorem dX11_reads_39 : decode cX11_reads 39 = .ok (.aload_n 0, 1) := by decide +kernel
theorem dX11_reads_40 : decode cX11_reads 40 = .ok (.invokevirtual 341, 3) := by decide +kernel
theorem dX11_reads_43 : decode cX11_reads 43 = .ok (.ifCond .eq 66, 3) := by decide +kernel
theorem dX11_reads_46 : decode cX11_reads 46 = .ok (.aload_n 0, 1) := by decide +kernel
theorem dX11_reads_47 : decode cX11_reads 47 = .ok (.getfield 309, 3) := by decide +kernel
theorem dX11_reads_50 : decode cX11_reads 50 = .ok (.ifCond .eq 59, 3) := by decide +kernel
theorem dX11_reads_109 : decode cX11_reads 109 = .ok (.aload_n 0, 1) := by decide +kernel
theorem dX11_reads_110 : decode cX11_reads 110 = .ok (.invokevirtual 341, 3) := by decide +kernel
theorem dX11_reads_113 : decode cX11_reads 113 = .ok (.ifCond .eq 7, 3) := by decide +kernel
theorem dX11_reads_116 : decode cX11_reads 116 = .ok (.aload_n 0, 1) := by decide +kernel
theorem dX11_reads_117 : decode cX11_reads 117 = .ok (.invokevirtual 516, 3) := by decide +kernel
theorem dX11_reads_120 : decode cX11_reads 120 = .ok (.aload_n 0, 1) := by decide +kernel
theorem dX11_reads_121 : decode cX11_reads 121 = .ok (.aload_n 0, 1) := by decide +kernel
theorem dX11_reads_122 : decode cX11_reads 122 = .ok (.ldc2_w 519, 3) := by decide +kernel
theorem dX11_reads_125 : decode cX11_reads 125 = .ok (.invokevirtual 506, 3) := by decide +kernel
theorem dX11_reads_128 : decode cX11_reads 128 = .ok (.putfield 521, 3) := by decide +kernel
theorem dX11_reads_131 : decode cX11_reads 131 = .ok (.aload_n 0, 1) := by decide +kernel
theorem dX11_reads_132 : decode cX11_reads 132 = .ok (.invokevirtual 341, 3) := by decide +kernel
theorem dX11_reads_135 : decode cX11_reads 135 = .ok (.ifCond .eq 32, 3) := by decide +kernel
theorem dX11_reads_138 : decode cX11_reads 138 = .ok (.aload_n 0, 1) := by decide +kernel
theorem dX11_reads_139 : decode cX11_reads 139 = .ok (.getfield 521, 3) := by decide +kernel
theorem dX11_reads_142 : decode cX11_reads 142 = .ok (.ifCond .lt 15, 3) := by decide +kernel
theorem dX11_reads_157 : decode cX11_reads 157 = .ok (.aload_n 0, 1) := by decide +kernel
theorem dX11_reads_158 : decode cX11_reads 158 = .ok (.bipush 7, 2) := by decide +kernel
theorem dX11_reads_160 : decode cX11_reads 160 = .ok (.aload_n 0, 1) := by decide +kernel
theorem dX11_reads_161 : decode cX11_reads 161 = .ok (.getfield 302, 3) := by decide +kernel
theorem dX11_reads_164 : decode cX11_reads 164 = .ok (.invokevirtual 295, 3) := by decide +kernel
theorem dX11_reads_167 : decode cX11_reads 167 = .ok (.aload_n 0, 1) := by decide +kernel
theorem dX11_reads_168 : decode cX11_reads 168 = .ok (.aload_n 0, 1) := by decide +kernel
theorem dX11_reads_169 : decode cX11_reads 169 = .ok (.getfield 267, 3) := by decide +kernel
theorem dX11_reads_172 : decode cX11_reads 172 = .ok (.putfield 524, 3) := by decide +kernel
theorem dX11_reads_175 : decode cX11_reads 175 = .ok (.aload_n 0, 1) := by decide +kernel
theorem dX11_reads_176 : decode cX11_reads 176 = .ok (.aload_n 0, 1) := by decide +kernel
theorem dX11_reads_177 : decode cX11_reads 177 = .ok (.getfield 269, 3) := by decide +kernel
theorem dX11_reads_180 : decode cX11_reads 180 = .ok (.putfield 527, 3) := by decide +kernel
theorem dX11_reads_183 : decode cX11_reads 183 = .ok (.return_, 1) := by decide +kernel
theorem dX11_run_0 : decode cX11_run 0 = .ok (.aload_n 0, 1) := by decide +kernel
theorem dX11_run_1 : decode cX11_run 1 = .ok (.getfield 509, 3) := by decide +kernel
theorem dX11_run_4 : decode cX11_run 4 = .ok (.ifCond .eq 14, 3) := by decide +kernel
theorem dX11_run_18 : decode cX11_run 18 = .ok (.iconst (-1), 1) := by decide +kernel
theorem dX11_run_19 : decode cX11_run 19 = .ok (.ireturn, 1) := by decide +kernel
theorem dX11_runUntold_0 : decode cX11_runUntold 0 = .ok (.aload_n 0, 1) := by decide +kernel
theorem dX11_runUntold_1 : decode cX11_runUntold 1 = .ok (.getfield 533, 3) := by decide +kernel
theorem dX11_runUntold_4 : decode cX11_runUntold 4 = .ok (.ifCond .eq 14, 3) := by decide +kernel
theorem dX11_runUntold_18 : decode cX11_runUntold 18 = .ok (.iconst (-1), 1) := by decide +kernel
theorem dX11_runUntold_19 : decode cX11_runUntold 19 = .ok (.ireturn, 1) := by decide +kernel
theorem dX11_tell_0 : decode cX11_tell 0 = .ok (.aload_n 0, 1) := by decide +kernel
theorem dX11_tell_1 : decode cX11_tell 1 = .ok (.getfield 533, 3) := by decide +kernel
theorem dX11_tell_4 : decode cX11_tell 4 = .ok (.ifCond .eq 17, 3) := by decide +kernel
theorem dX11_tell_21 : decode cX11_tell 21 = .ok (.iconst 0, 1) := by decide +kernel
theorem dX11_tell_22 : decode cX11_tell 22 = .ok (.ireturn, 1) := by decide +kernel
theorem dX11_told_0 : decode cX11_told 0 = .ok (.aload_n 0, 1) := by decide +kernel
theorem dX11_told_1 : decode cX11_told 1 = .ok (.getfield 539, 3) := by decide +kernel
theorem dX11_told_4 : decode cX11_told 4 = .ok (.ifCond .ne 5, 3) := by decide +kernel
theorem dX11_told_7 : decode cX11_told 7 = .ok (.iconst (-1), 1) := by decide +kernel
theorem dX11_told_8 : decode cX11_told 8 = .ok (.ireturn, 1) := by decide +kernel
theorem k1357 : Cond.methodLink "BlameCourtModel" 263 yX11_kinds ∈ gtb := gtm (in_tables_1_5 (List.mem_of_getElem? (i := 211) rfl)) rfl
theorem k1361 : Cond.methodLink "BlameCourtModel" 272 yX11_kindOf ∈ gtb := gtm (in_tables_1_5 (List.mem_of_getElem? (i := 215) rfl)) rfl
theorem k1365 : Cond.fieldLink "BlameCourtModel" 7 "BlameCourtModel" "tape" "[B" ∈ gtb := gtm (in_tables_1_5 (List.mem_of_getElem? (i := 219) rfl)) rfl
theorem k1366 : Cond.fieldLink "BlameCourtModel" 276 "BlameCourtModel" "taped" "I" ∈ gtb := gtm (in_tables_1_5 (List.mem_of_getElem? (i := 220) rfl)) rfl
theorem k1368 : Cond.fieldLink "BlameCourtModel" 302 "BlameCourtModel" "length" "I" ∈ gtb := gtm (in_tables_1_5 (List.mem_of_getElem? (i := 222) rfl)) rfl
theorem k1371 : Cond.fieldLink "BlameCourtModel" 533 "BlameCourtModel" "hasProgram" "Z" ∈ gtb := gtm (in_tables_1_5 (List.mem_of_getElem? (i := 225) rfl)) rfl
theorem k1372 : Cond.fieldLink "BlameCourtModel" 509 "BlameCourtModel" "isJudged" "Z" ∈ gtb := gtm (in_tables_1_5 (List.mem_of_getElem? (i := 226) rfl)) rfl
theorem k1373 : Cond.fieldLink "BlameCourtModel" 299 "BlameCourtModel" "at" "I" ∈ gtb := gtm (in_tables_1_5 (List.mem_of_getElem? (i := 227) rfl)) rfl
theorem k1374 : Cond.fieldLink "BlameCourtModel" 292 "BlameCourtModel" "token" "I" ∈ gtb := gtm (in_tables_1_5 (List.mem_of_getElem? (i := 228) rfl)) rfl
theorem k1375 : Cond.fieldLink "BlameCourtModel" 309 "BlameCourtModel" "sort" "I" ∈ gtb := gtm (in_tables_1_5 (List.mem_of_getElem? (i := 229) rfl)) rfl
theorem k1376 : Cond.fieldLink "BlameCourtModel" 305 "BlameCourtModel" "told" "J" ∈ gtb := gtm (in_tables_1_5 (List.mem_of_getElem? (i := 230) rfl)) rfl
theorem k1378 : Cond.fieldLink "BlameCourtModel" 286 "BlameCourtModel" "wrong" "I" ∈ gtb := gtm (in_tables_1_5 (List.mem_of_getElem? (i := 232) rfl)) rfl
theorem k1379 : Cond.fieldLink "BlameCourtModel" 289 "BlameCourtModel" "wrongAt" "I" ∈ gtb := gtm (in_tables_1_5 (List.mem_of_getElem? (i := 233) rfl)) rfl
theorem k1380 : Cond.fieldLink "BlameCourtModel" 19 "BlameCourtModel" "fault" "I" ∈ gtb := gtm (in_tables_1_5 (List.mem_of_getElem? (i := 234) rfl)) rfl
theorem k1381 : Cond.fieldLink "BlameCourtModel" 23 "BlameCourtModel" "faultAt" "I" ∈ gtb := gtm (in_tables_1_5 (List.mem_of_getElem? (i := 235) rfl)) rfl
theorem k1382 : Cond.fieldLink "BlameCourtModel" 267 "BlameCourtModel" "kinds" "I" ∈ gtb := gtm (in_tables_1_5 (List.mem_of_getElem? (i := 236) rfl)) rfl
theorem k1383 : Cond.fieldLink "BlameCourtModel" 524 "BlameCourtModel" "textKinds" "I" ∈ gtb := gtm (in_tables_1_5 (List.mem_of_getElem? (i := 237) rfl)) rfl
theorem k1384 : Cond.fieldLink "BlameCourtModel" 26 "BlameCourtModel" "kSort" "[I" ∈ gtb := gtm (in_tables_1_5 (List.mem_of_getElem? (i := 238) rfl)) rfl
theorem k1385 : Cond.fieldLink "BlameCourtModel" 30 "BlameCourtModel" "kMany" "[I" ∈ gtb := gtm (in_tables_1_5 (List.mem_of_getElem? (i := 239) rfl)) rfl
theorem k1386 : Cond.fieldLink "BlameCourtModel" 33 "BlameCourtModel" "kFirst" "[I" ∈ gtb := gtm (in_tables_1_6 (List.mem_of_getElem? (i := 0) rfl)) rfl
theorem k1387 : Cond.fieldLink "BlameCourtModel" 36 "BlameCourtModel" "kCode" "[I" ∈ gtb := gtm (in_tables_1_6 (List.mem_of_getElem? (i := 1) rfl)) rfl
theorem k1388 : Cond.fieldLink "BlameCourtModel" 39 "BlameCourtModel" "kAny" "[Z" ∈ gtb := gtm (in_tables_1_6 (List.mem_of_getElem? (i := 2) rfl)) rfl
theorem k1389 : Cond.fieldLink "BlameCourtModel" 269 "BlameCourtModel" "listed" "I" ∈ gtb := gtm (in_tables_1_6 (List.mem_of_getElem? (i := 3) rfl)) rfl
theorem k1390 : Cond.fieldLink "BlameCourtModel" 527 "BlameCourtModel" "textListed" "I" ∈ gtb := gtm (in_tables_1_6 (List.mem_of_getElem? (i := 4) rfl)) rfl
theorem k1394 : Cond.fieldLink "BlameCourtModel" 497 "BlameCourtModel" "parts" "I" ∈ gtb := gtm (in_tables_1_6 (List.mem_of_getElem? (i := 8) rfl)) rfl
theorem k1404 : Cond.fieldLink "BlameCourtModel" 386 "BlameCourtModel" "nodes" "I" ∈ gtb := gtm (in_tables_1_6 (List.mem_of_getElem? (i := 18) rfl)) rfl
theorem k1430 : Cond.fieldLink "BlameCourtModel" 521 "BlameCourtModel" "main" "I" ∈ gtb := gtm (in_tables_1_6 (List.mem_of_getElem? (i := 44) rfl)) rfl
theorem k1485 : Cond.fieldLink "BlameCourtModel" 539 "BlameCourtModel" "hasRun" "Z" ∈ gtb := gtm (in_tables_1_6 (List.mem_of_getElem? (i := 99) rfl)) rfl
theorem k1757 : Cond.methodLink "BlameCourtModel" 279 yX11_put ∈ gtb := gtm (in_tables_1_7 (List.mem_of_getElem? (i := 131) rfl)) rfl
theorem k1765 : Cond.methodLink "BlameCourtModel" 282 yX11_in ∈ gtb := gtm (in_tables_1_7 (List.mem_of_getElem? (i := 139) rfl)) rfl
theorem k1766 : Cond.static yX11_in ∈ gtb := gtm (in_tables_1_7 (List.mem_of_getElem? (i := 140) rfl)) rfl
theorem k1772 : Cond.methodLink "BlameCourtModel" 530 yX11_reads ∈ gtb := gtm (in_tables_1_7 (List.mem_of_getElem? (i := 146) rfl)) rfl
theorem k1776 : Cond.methodLink "BlameCourtModel" 349 yX11_next ∈ gtb := gtm (in_tables_1_7 (List.mem_of_getElem? (i := 150) rfl)) rfl
theorem k1800 : Cond.methodLink "BlameCourtModel" 341 yX11_isWell ∈ gtb := gtm (in_tables_1_7 (List.mem_of_getElem? (i := 174) rfl)) rfl
theorem k1812 : Cond.methodLink "BlameCourtModel" 295 yX11_fails ∈ gtb := gtm (in_tables_1_7 (List.mem_of_getElem? (i := 186) rfl)) rfl
theorem k1959 : Cond.methodLink "BlameCourtModel" 516 yX11_knows ∈ gtb := gtm (in_tables_1_8 (List.mem_of_getElem? (i := 93) rfl)) rfl
theorem k1963 : Cond.methodLink "BlameCourtModel" 506 yX11_partOf ∈ gtb := gtm (in_tables_1_8 (List.mem_of_getElem? (i := 97) rfl)) rfl
theorem k1967 : Cond.constantLong "BlameCourtModel" 519 3412558 ∈ gtb := gtm (in_tables_1_8 (List.mem_of_getElem? (i := 101) rfl)) rfl
theorem k2199 : Cond.code yX11_about cX11_about 2 (some .int) ∈ gtb := gtm (in_tables_1_9 (List.mem_of_getElem? (i := 93) rfl)) rfl
theorem k197 : Cond.initialized "BlameCourtModel" ∈ gtb := gtm (in_tables_1_1 (List.mem_of_getElem? (i := 11) rfl)) rfl
theorem ka_X11_about : KA yX11_about cX11_about 2 (some .int) 1 := ⟨k2199, k197, by decide, by decide, by decide +kernel⟩
theorem k2197 : Cond.instanceMethod yX11_about ∈ gtb := gtm (in_tables_1_9 (List.mem_of_getElem? (i := 91) rfl)) rfl
theorem k2198 : Cond.selects "BlameCourtModel" yX11_about yX11_about ∈ gtb := gtm (in_tables_1_9 (List.mem_of_getElem? (i := 92) rfl)) rfl
theorem kv_X11_about : KV yX11_about := ⟨k2197, k2198⟩
theorem k2195 : Cond.code yX11_asked cX11_asked 3 (some .int) ∈ gtb := gtm (in_tables_1_9 (List.mem_of_getElem? (i := 89) rfl)) rfl
theorem ka_X11_asked : KA yX11_asked cX11_asked 3 (some .int) 2 := ⟨k2195, k197, by decide, by decide, by decide +kernel⟩
theorem k2193 : Cond.instanceMethod yX11_asked ∈ gtb := gtm (in_tables_1_9 (List.mem_of_getElem? (i := 87) rfl)) rfl
theorem k2194 : Cond.selects "BlameCourtModel" yX11_asked yX11_asked ∈ gtb := gtm (in_tables_1_9 (List.mem_of_getElem? (i := 88) rfl)) rfl
theorem kv_X11_asked : KV yX11_asked := ⟨k2193, k2194⟩
theorem k1764 : Cond.code yX11_end cX11_end 2 (some .int) ∈ gtb := gtm (in_tables_1_7 (List.mem_of_getElem? (i := 138) rfl)) rfl
theorem ka_X11_end : KA yX11_end cX11_end 2 (some .int) 1 := ⟨k1764, k197, by decide, by decide, by decide +kernel⟩
theorem k1762 : Cond.instanceMethod yX11_end ∈ gtb := gtm (in_tables_1_7 (List.mem_of_getElem? (i := 136) rfl)) rfl
theorem k1763 : Cond.selects "BlameCourtModel" yX11_end yX11_end ∈ gtb := gtm (in_tables_1_7 (List.mem_of_getElem? (i := 137) rfl)) rfl
theorem kv_X11_end : KV yX11_end := ⟨k1762, k1763⟩
theorem k1815 : Cond.code yX11_fails cX11_fails 3 none ∈ gtb := gtm (in_tables_1_7 (List.mem_of_getElem? (i := 189) rfl)) rfl
theorem ka_X11_fails : KA yX11_fails cX11_fails 3 none 2 := ⟨k1815, k197, by decide, by decide, by decide +kernel⟩
theorem k1814 : Cond.instanceMethod yX11_fails ∈ gtb := gtm (in_tables_1_7 (List.mem_of_getElem? (i := 188) rfl)) rfl
theorem k105 : Cond.selects "BlameCourtModel" yX11_fails yX11_fails ∈ gtb := gtm (in_lw_privs_7 (q := (yX11_fails, 129)) (List.mem_of_getElem? (i := 9) rfl)) rfl
theorem kv_X11_fails : KV yX11_fails := ⟨k1814, k105⟩
theorem k2075 : Cond.code yX11_fault cX11_fault 2 (some .int) ∈ gtb := gtm (in_tables_1_8 (List.mem_of_getElem? (i := 209) rfl)) rfl
theorem ka_X11_fault : KA yX11_fault cX11_fault 2 (some .int) 1 := ⟨k2075, k197, by decide, by decide, by decide +kernel⟩
theorem k2073 : Cond.instanceMethod yX11_fault ∈ gtb := gtm (in_tables_1_8 (List.mem_of_getElem? (i := 207) rfl)) rfl
theorem k2074 : Cond.selects "BlameCourtModel" yX11_fault yX11_fault ∈ gtb := gtm (in_tables_1_8 (List.mem_of_getElem? (i := 208) rfl)) rfl
theorem kv_X11_fault : KV yX11_fault := ⟨k2073, k2074⟩
theorem k1756 : Cond.code yX11_feed cX11_feed 6 (some .int) ∈ gtb := gtm (in_tables_1_7 (List.mem_of_getElem? (i := 130) rfl)) rfl
theorem ka_X11_feed : KA yX11_feed cX11_feed 6 (some .int) 5 := ⟨k1756, k197, by decide, by decide, by decide +kernel⟩
theorem k1754 : Cond.instanceMethod yX11_feed ∈ gtb := gtm (in_tables_1_7 (List.mem_of_getElem? (i := 128) rfl)) rfl
theorem k1755 : Cond.selects "BlameCourtModel" yX11_feed yX11_feed ∈ gtb := gtm (in_tables_1_7 (List.mem_of_getElem? (i := 129) rfl)) rfl
theorem kv_X11_feed : KV yX11_feed := ⟨k1754, k1755⟩
theorem k2087 : Cond.code yX11_guard cX11_guard 3 (some .int) ∈ gtb := gtm (in_tables_1_8 (List.mem_of_getElem? (i := 221) rfl)) rfl
theorem ka_X11_guard : KA yX11_guard cX11_guard 3 (some .int) 2 := ⟨k2087, k197, by decide, by decide, by decide +kernel⟩
theorem k2085 : Cond.instanceMethod yX11_guard ∈ gtb := gtm (in_tables_1_8 (List.mem_of_getElem? (i := 219) rfl)) rfl
theorem k2086 : Cond.selects "BlameCourtModel" yX11_guard yX11_guard ∈ gtb := gtm (in_tables_1_8 (List.mem_of_getElem? (i := 220) rfl)) rfl
theorem kv_X11_guard : KV yX11_guard := ⟨k2085, k2086⟩
theorem k1767 : Cond.code yX11_in cX11_in 3 (some .boolean) ∈ gtb := gtm (in_tables_1_7 (List.mem_of_getElem? (i := 141) rfl)) rfl
theorem ka_X11_in : KA yX11_in cX11_in 3 (some .boolean) 3 := ⟨k1767, k197, by decide, by decide, by decide +kernel⟩
theorem k1803 : Cond.code yX11_isWell cX11_isWell 1 (some .boolean) ∈ gtb := gtm (in_tables_1_7 (List.mem_of_getElem? (i := 177) rfl)) rfl
theorem ka_X11_isWell : KA yX11_isWell cX11_isWell 1 (some .boolean) 0 := ⟨k1803, k197, by decide, by decide, by decide +kernel⟩
theorem k1802 : Cond.instanceMethod yX11_isWell ∈ gtb := gtm (in_tables_1_7 (List.mem_of_getElem? (i := 176) rfl)) rfl
theorem k102 : Cond.selects "BlameCourtModel" yX11_isWell yX11_isWell ∈ gtb := gtm (in_lw_privs_7 (q := (yX11_isWell, 129)) (List.mem_of_getElem? (i := 6) rfl)) rfl
theorem kv_X11_isWell : KV yX11_isWell := ⟨k1802, k102⟩
theorem k2083 : Cond.code yX11_judge cX11_judge 1 (some .int) ∈ gtb := gtm (in_tables_1_8 (List.mem_of_getElem? (i := 217) rfl)) rfl
theorem ka_X11_judge : KA yX11_judge cX11_judge 1 (some .int) 0 := ⟨k2083, k197, by decide, by decide, by decide +kernel⟩
theorem k2081 : Cond.instanceMethod yX11_judge ∈ gtb := gtm (in_tables_1_8 (List.mem_of_getElem? (i := 215) rfl)) rfl
theorem k2082 : Cond.selects "BlameCourtModel" yX11_judge yX11_judge ∈ gtb := gtm (in_tables_1_8 (List.mem_of_getElem? (i := 216) rfl)) rfl
theorem kv_X11_judge : KV yX11_judge := ⟨k2081, k2082⟩
theorem k1364 : Cond.code yX11_kindOf cX11_kindOf 7 (some .int) ∈ gtb := gtm (in_tables_1_5 (List.mem_of_getElem? (i := 218) rfl)) rfl
theorem ka_X11_kindOf : KA yX11_kindOf cX11_kindOf 7 (some .int) 3 := ⟨k1364, k197, by decide, by decide, by decide +kernel⟩
theorem k1363 : Cond.instanceMethod yX11_kindOf ∈ gtb := gtm (in_tables_1_5 (List.mem_of_getElem? (i := 217) rfl)) rfl
theorem k96 : Cond.selects "BlameCourtModel" yX11_kindOf yX11_kindOf ∈ gtb := gtm (in_lw_privs_7 (q := (yX11_kindOf, 129)) (List.mem_of_getElem? (i := 0) rfl)) rfl
theorem kv_X11_kindOf : KV yX11_kindOf := ⟨k1363, k96⟩
theorem k1360 : Cond.code yX11_kinds cX11_kinds 2 none ∈ gtb := gtm (in_tables_1_5 (List.mem_of_getElem? (i := 214) rfl)) rfl
theorem ka_X11_kinds : KA yX11_kinds cX11_kinds 2 none 1 := ⟨k1360, k197, by decide, by decide, by decide +kernel⟩
theorem k1359 : Cond.instanceMethod yX11_kinds ∈ gtb := gtm (in_tables_1_5 (List.mem_of_getElem? (i := 213) rfl)) rfl
theorem k95 : Cond.selects "BlameCourtModel" yX11_kinds yX11_kinds ∈ gtb := gtm (in_lw_privs_6 (q := (yX11_kinds, 129)) (List.mem_of_getElem? (i := 15) rfl)) rfl
theorem kv_X11_kinds : KV yX11_kinds := ⟨k1359, k95⟩
theorem k1962 : Cond.code yX11_knows cX11_knows 4 none ∈ gtb := gtm (in_tables_1_8 (List.mem_of_getElem? (i := 96) rfl)) rfl
theorem ka_X11_knows : KA yX11_knows cX11_knows 4 none 0 := ⟨k1962, k197, by decide, by decide, by decide +kernel⟩
theorem k1961 : Cond.instanceMethod yX11_knows ∈ gtb := gtm (in_tables_1_8 (List.mem_of_getElem? (i := 95) rfl)) rfl
theorem k137 : Cond.selects "BlameCourtModel" yX11_knows yX11_knows ∈ gtb := gtm (in_lw_privs_9 (q := (yX11_knows, 129)) (List.mem_of_getElem? (i := 9) rfl)) rfl
theorem kv_X11_knows : KV yX11_knows := ⟨k1961, k137⟩
theorem k1779 : Cond.code yX11_next cX11_next 2 none ∈ gtb := gtm (in_tables_1_7 (List.mem_of_getElem? (i := 153) rfl)) rfl
theorem ka_X11_next : KA yX11_next cX11_next 2 none 0 := ⟨k1779, k197, by decide, by decide, by decide +kernel⟩
theorem k1778 : Cond.instanceMethod yX11_next ∈ gtb := gtm (in_tables_1_7 (List.mem_of_getElem? (i := 152) rfl)) rfl
theorem k99 : Cond.selects "BlameCourtModel" yX11_next yX11_next ∈ gtb := gtm (in_lw_privs_7 (q := (yX11_next, 129)) (List.mem_of_getElem? (i := 3) rfl)) rfl
theorem kv_X11_next : KV yX11_next := ⟨k1778, k99⟩
theorem k2191 : Cond.code yX11_out cX11_out 2 (some .int) ∈ gtb := gtm (in_tables_1_9 (List.mem_of_getElem? (i := 85) rfl)) rfl
theorem ka_X11_out : KA yX11_out cX11_out 2 (some .int) 1 := ⟨k2191, k197, by decide, by decide, by decide +kernel⟩
theorem k2189 : Cond.instanceMethod yX11_out ∈ gtb := gtm (in_tables_1_9 (List.mem_of_getElem? (i := 83) rfl)) rfl
theorem k2190 : Cond.selects "BlameCourtModel" yX11_out yX11_out ∈ gtb := gtm (in_tables_1_9 (List.mem_of_getElem? (i := 84) rfl)) rfl
theorem kv_X11_out : KV yX11_out := ⟨k2189, k2190⟩
theorem k2091 : Cond.code yX11_part_ cX11_part_ 3 (some .int) ∈ gtb := gtm (in_tables_1_8 (List.mem_of_getElem? (i := 225) rfl)) rfl
theorem ka_X11_part_ : KA yX11_part_ cX11_part_ 3 (some .int) 2 := ⟨k2091, k197, by decide, by decide, by decide +kernel⟩
theorem k2089 : Cond.instanceMethod yX11_part_ ∈ gtb := gtm (in_tables_1_8 (List.mem_of_getElem? (i := 223) rfl)) rfl
theorem k2090 : Cond.selects "BlameCourtModel" yX11_part_ yX11_part_ ∈ gtb := gtm (in_tables_1_8 (List.mem_of_getElem? (i := 224) rfl)) rfl
theorem kv_X11_part_ : KV yX11_part_ := ⟨k2089, k2090⟩
theorem k1966 : Cond.code yX11_partOf cX11_partOf 5 (some .int) ∈ gtb := gtm (in_tables_1_8 (List.mem_of_getElem? (i := 100) rfl)) rfl
theorem ka_X11_partOf : KA yX11_partOf cX11_partOf 5 (some .int) 1 := ⟨k1966, k197, by decide, by decide, by decide +kernel⟩
theorem k1965 : Cond.instanceMethod yX11_partOf ∈ gtb := gtm (in_tables_1_8 (List.mem_of_getElem? (i := 99) rfl)) rfl
theorem k138 : Cond.selects "BlameCourtModel" yX11_partOf yX11_partOf ∈ gtb := gtm (in_lw_privs_9 (q := (yX11_partOf, 129)) (List.mem_of_getElem? (i := 10) rfl)) rfl
theorem kv_X11_partOf : KV yX11_partOf := ⟨k1965, k138⟩
theorem k1760 : Cond.code yX11_put cX11_put 2 none ∈ gtb := gtm (in_tables_1_7 (List.mem_of_getElem? (i := 134) rfl)) rfl
theorem ka_X11_put : KA yX11_put cX11_put 2 none 1 := ⟨k1760, k197, by decide, by decide, by decide +kernel⟩
theorem k1759 : Cond.instanceMethod yX11_put ∈ gtb := gtm (in_tables_1_7 (List.mem_of_getElem? (i := 133) rfl)) rfl
theorem k97 : Cond.selects "BlameCourtModel" yX11_put yX11_put ∈ gtb := gtm (in_lw_privs_7 (q := (yX11_put, 129)) (List.mem_of_getElem? (i := 1) rfl)) rfl
theorem kv_X11_put : KV yX11_put := ⟨k1759, k97⟩
theorem k1771 : Cond.code yX11_read cX11_read 3 (some .int) ∈ gtb := gtm (in_tables_1_7 (List.mem_of_getElem? (i := 145) rfl)) rfl
theorem ka_X11_read : KA yX11_read cX11_read 3 (some .int) 0 := ⟨k1771, k197, by decide, by decide, by decide +kernel⟩
theorem k1769 : Cond.instanceMethod yX11_read ∈ gtb := gtm (in_tables_1_7 (List.mem_of_getElem? (i := 143) rfl)) rfl
theorem k1770 : Cond.selects "BlameCourtModel" yX11_read yX11_read ∈ gtb := gtm (in_tables_1_7 (List.mem_of_getElem? (i := 144) rfl)) rfl
theorem kv_X11_read : KV yX11_read := ⟨k1769, k1770⟩
theorem k1775 : Cond.code yX11_reads cX11_reads 1 none ∈ gtb := gtm (in_tables_1_7 (List.mem_of_getElem? (i := 149) rfl)) rfl
theorem ka_X11_reads : KA yX11_reads cX11_reads 1 none 0 := ⟨k1775, k197, by decide, by decide, by decide +kernel⟩
theorem k1774 : Cond.instanceMethod yX11_reads ∈ gtb := gtm (in_tables_1_7 (List.mem_of_getElem? (i := 148) rfl)) rfl
theorem k98 : Cond.selects "BlameCourtModel" yX11_reads yX11_reads ∈ gtb := gtm (in_lw_privs_7 (q := (yX11_reads, 129)) (List.mem_of_getElem? (i := 2) rfl)) rfl
theorem kv_X11_reads : KV yX11_reads := ⟨k1774, k98⟩
theorem k2095 : Cond.code yX11_run cX11_run 2 (some .int) ∈ gtb := gtm (in_tables_1_8 (List.mem_of_getElem? (i := 229) rfl)) rfl
theorem ka_X11_run : KA yX11_run cX11_run 2 (some .int) 1 := ⟨k2095, k197, by decide, by decide, by decide +kernel⟩
theorem k2093 : Cond.instanceMethod yX11_run ∈ gtb := gtm (in_tables_1_8 (List.mem_of_getElem? (i := 227) rfl)) rfl
theorem k2094 : Cond.selects "BlameCourtModel" yX11_run yX11_run ∈ gtb := gtm (in_tables_1_8 (List.mem_of_getElem? (i := 228) rfl)) rfl
theorem kv_X11_run : KV yX11_run := ⟨k2093, k2094⟩
theorem k2183 : Cond.code yX11_runUntold cX11_runUntold 2 (some .int) ∈ gtb := gtm (in_tables_1_9 (List.mem_of_getElem? (i := 77) rfl)) rfl
theorem ka_X11_runUntold : KA yX11_runUntold cX11_runUntold 2 (some .int) 1 := ⟨k2183, k197, by decide, by decide, by decide +kernel⟩
theorem k2181 : Cond.instanceMethod yX11_runUntold ∈ gtb := gtm (in_tables_1_9 (List.mem_of_getElem? (i := 75) rfl)) rfl
theorem k2182 : Cond.selects "BlameCourtModel" yX11_runUntold yX11_runUntold ∈ gtb := gtm (in_tables_1_9 (List.mem_of_getElem? (i := 76) rfl)) rfl
theorem kv_X11_runUntold : KV yX11_runUntold := ⟨k2181, k2182⟩
theorem k2079 : Cond.code yX11_tell cX11_tell 3 (some .boolean) ∈ gtb := gtm (in_tables_1_8 (List.mem_of_getElem? (i := 213) rfl)) rfl
theorem ka_X11_tell : KA yX11_tell cX11_tell 3 (some .boolean) 2 := ⟨k2079, k197, by decide, by decide, by decide +kernel⟩
theorem k2077 : Cond.instanceMethod yX11_tell ∈ gtb := gtm (in_tables_1_8 (List.mem_of_getElem? (i := 211) rfl)) rfl
theorem k2078 : Cond.selects "BlameCourtModel" yX11_tell yX11_tell ∈ gtb := gtm (in_tables_1_8 (List.mem_of_getElem? (i := 212) rfl)) rfl
theorem kv_X11_tell : KV yX11_tell := ⟨k2077, k2078⟩
theorem k2187 : Cond.code yX11_told cX11_told 5 (some .int) ∈ gtb := gtm (in_tables_1_9 (List.mem_of_getElem? (i := 81) rfl)) rfl
theorem ka_X11_told : KA yX11_told cX11_told 5 (some .int) 1 := ⟨k2187, k197, by decide, by decide, by decide +kernel⟩
theorem k2185 : Cond.instanceMethod yX11_told ∈ gtb := gtm (in_tables_1_9 (List.mem_of_getElem? (i := 79) rfl)) rfl
theorem k2186 : Cond.selects "BlameCourtModel" yX11_told yX11_told ∈ gtb := gtm (in_tables_1_9 (List.mem_of_getElem? (i := 80) rfl)) rfl
theorem kv_X11_told : KV yX11_told := ⟨k2185, k2186⟩
set_option maxHeartbeats 4000000 in
set_option maxRecDepth 100000 in
theorem m_in (l : Launch) (dC : Nat → ClassId) (dI : Nat → Nat → Nat) (x lo hi : Int32) (sz : Nat) : Met l yX11_in (wsOf yX11_in cX11_in 3 (some .boolean)) ({ frames := 6, cells := 0, slots := 0, locals := 90 } : Room) (va_Pc [.int x, .int lo, .int hi] (PB dC dI sz [] [])) (va_Qi (S := Unit) (fun r _ => r = if lo ≤ x ∧ x ≤ hi then 1 else 0) (fun x t => PW dC dI (va_A [] sz) ([]) ([]) t) (va_A [] sz)) 0 0 (va_A [] sz) := by
  refine mbody (y := yX11_in) (av := [.int x, .int lo, .int hi]) (b := cX11_in) (n := 3) (ret := (some .boolean)) (Qc := fun A => (va_Qi (S := Unit) (fun r _ => r = if lo ≤ x ∧ x ≤ hi then 1 else 0) (fun x t => PW dC dI A ([]) ([]) t) A)) (by decide) (Nat.le_of_ble_eq_true rfl) ?_
  intro p e s m below meth c ls A H hf hr hin hlk hw hl
  have hl : lv_has ls 3 [(0, .int x), (1, .int lo), (2, .int hi)] := hl
  refine lv_iload_n hf.1 hf.2.1 dX11_in_0 rfl (lv_at hl 0 rfl) ?_
  refine lv_iload_n hf.1 hf.2.1 dX11_in_1 rfl (lv_at hl 1 rfl) ?_
  refine lv_icmp_lt (tgt := 14) hf.1 hf.2.1 dX11_in_2 (by decide) (fun c_1 => ?_) (fun c_1 => ?_)
  · refine lv_iconst (v := 0) hf.1 hf.2.1 dX11_in_14 (by decide) ?_
    exact mret_z (v := 0) hf hr hlk (by decide) hw () (by rw [if_neg]; rintro ⟨h1, h2⟩; exact absurd c_1 (Int32.not_lt.mpr h1)) [] [] rfl rfl rfl (Nat.le_of_ble_eq_true rfl) (Nat.le_of_ble_eq_true rfl) dX11_in_15
  · refine lv_iload_n hf.1 hf.2.1 dX11_in_5 rfl (lv_at hl 0 rfl) ?_
    refine lv_iload_n hf.1 hf.2.1 dX11_in_6 rfl (lv_at hl 2 rfl) ?_
    refine lv_icmp_gt (tgt := 14) hf.1 hf.2.1 dX11_in_7 (by decide) (fun c_2 => ?_) (fun c_2 => ?_)
    · refine lv_iconst (v := 0) hf.1 hf.2.1 dX11_in_14 (by decide) ?_
      exact mret_z (v := 0) hf hr hlk (by decide) hw () (by rw [if_neg]; rintro ⟨h1, h2⟩; exact absurd c_2 (Int32.not_lt.mpr h2)) [] [] rfl rfl rfl (Nat.le_of_ble_eq_true rfl) (Nat.le_of_ble_eq_true rfl) dX11_in_15
    · refine lv_iconst (v := 1) hf.1 hf.2.1 dX11_in_10 (by decide) ?_
      refine lv_goto (tgt := 15) hf.1 hf.2.1 dX11_in_11 (by decide) ?_
      exact mret_z (v := 1) hf hr hlk (by decide) hw () (by rw [if_pos ⟨Int32.not_lt.mp c_1, Int32.not_lt.mp c_2⟩]) [] [] rfl rfl rfl (Nat.le_of_ble_eq_true rfl) (Nat.le_of_ble_eq_true rfl) dX11_in_15

set_option maxHeartbeats 4000000 in
set_option maxRecDepth 100000 in
theorem m_fault (l : Launch) (dC : Nat → ClassId) (dI : Nat → Nat → Nat) (h0 : Nat) (tl : List Value) (u0 u1 u2 u3 u4 u5 u6 u7 u8 u9 u12 u13 u14 u15 u16 u17 u18 u19 u20 u21 u22 u23 u24 u25 : Value) (w : Int32) (sz : Nat) (htl : tl.length = 103) : Met l yX11_fault (wsOf yX11_fault cX11_fault 2 (some .int)) ({ frames := 6, cells := 0, slots := 0, locals := 90 } : Room) (va_Pc [.ref h0, .int w] (PB dC dI sz [(h0, .inr (9, u0 :: u1 :: u2 :: u3 :: u4 :: u5 :: u6 :: u7 :: u8 :: u9 :: .int (-1) :: .int (-1) :: u12 :: u13 :: u14 :: u15 :: u16 :: u17 :: u18 :: u19 :: u20 :: u21 :: u22 :: u23 :: u24 :: u25 :: tl))] [])) (va_Qi (S := Unit) (fun r _ => r = -1) (fun x t => PW dC dI (va_A [(h0, .inr (9, u0 :: u1 :: u2 :: u3 :: u4 :: u5 :: u6 :: u7 :: u8 :: u9 :: .int (-1) :: .int (-1) :: u12 :: u13 :: u14 :: u15 :: u16 :: u17 :: u18 :: u19 :: u20 :: u21 :: u22 :: u23 :: u24 :: u25 :: tl))] sz) ([]) ([]) t) (va_A [(h0, .inr (9, u0 :: u1 :: u2 :: u3 :: u4 :: u5 :: u6 :: u7 :: u8 :: u9 :: .int (-1) :: .int (-1) :: u12 :: u13 :: u14 :: u15 :: u16 :: u17 :: u18 :: u19 :: u20 :: u21 :: u22 :: u23 :: u24 :: u25 :: tl))] sz)) 0 0 (va_A [(h0, .inr (9, u0 :: u1 :: u2 :: u3 :: u4 :: u5 :: u6 :: u7 :: u8 :: u9 :: .int (-1) :: .int (-1) :: u12 :: u13 :: u14 :: u15 :: u16 :: u17 :: u18 :: u19 :: u20 :: u21 :: u22 :: u23 :: u24 :: u25 :: tl))] sz) := by
  refine mbody (y := yX11_fault) (av := [.ref h0, .int w]) (b := cX11_fault) (n := 2) (ret := (some .int)) (Qc := fun A => (va_Qi (S := Unit) (fun r _ => r = -1) (fun x t => PW dC dI A ([]) ([]) t) A)) (by decide) (Nat.le_of_ble_eq_true rfl) ?_
  intro p e s m below meth c ls A H hf hr hin hlk hw hl
  have hl : lv_has ls 2 [(0, .ref h0), (1, .int w)] := hl
  refine lv_iload_n hf.1 hf.2.1 dX11_fault_0 rfl (lv_at hl 1 rfl) ?_
  refine lv_if_ne (tgt := 11) hf.1 hf.2.1 dX11_fault_1 (by decide) (fun c_1 => ?_) (fun c_1 => ?_)
  · refine lv_iload_n hf.1 hf.2.1 dX11_fault_11 rfl (lv_at hl 1 rfl) ?_
    refine lv_iconst (v := 1) hf.1 hf.2.1 dX11_fault_12 (by decide) ?_
    refine lv_icmp_ne (tgt := 23) hf.1 hf.2.1 dX11_fault_13 (by decide) (fun c_2 => ?_) (fun c_2 => ?_)
    · refine lv_iconst (v := (-1)) hf.1 hf.2.1 dX11_fault_23 (by decide) ?_
      exact mret_i (v := (-1)) hf hr hlk hw () rfl [] [] rfl rfl rfl (Nat.le_of_ble_eq_true rfl) (Nat.le_of_ble_eq_true rfl) dX11_fault_24
    · refine lv_aload_n hf.1 hf.2.1 dX11_fault_16 rfl (lv_at hl 0 rfl) ?_
      refine mget hf hw iX11 0 rfl rfl 11 (by decide) k1381 rfl dX11_fault_17 ?_
      refine lv_goto (tgt := 24) hf.1 hf.2.1 dX11_fault_20 (by decide) ?_
      exact mret_i (v := (-1)) hf hr hlk hw () rfl [] [] rfl rfl rfl (Nat.le_of_ble_eq_true rfl) (Nat.le_of_ble_eq_true rfl) dX11_fault_24
  · refine lv_aload_n hf.1 hf.2.1 dX11_fault_4 rfl (lv_at hl 0 rfl) ?_
    refine mget hf hw iX11 0 rfl rfl 10 (by decide) k1380 rfl dX11_fault_5 ?_
    refine lv_goto (tgt := 24) hf.1 hf.2.1 dX11_fault_8 (by decide) ?_
    exact mret_i (v := (-1)) hf hr hlk hw () rfl [] [] rfl rfl rfl (Nat.le_of_ble_eq_true rfl) (Nat.le_of_ble_eq_true rfl) dX11_fault_24

set_option maxHeartbeats 4000000 in
set_option maxRecDepth 100000 in
theorem m_tell (l : Launch) (dC : Nat → ClassId) (dI : Nat → Nat → Nat) (h0 : Nat) (tl : List Value) (u0 u1 u3 u4 u5 u6 u7 u8 u9 u10 u11 u12 u13 u14 u15 u16 u17 u18 u19 u20 u21 u22 u23 u24 u25 : Value) (w v : Int32) (sz : Nat) (htl : tl.length = 103) : Met l yX11_tell (wsOf yX11_tell cX11_tell 3 (some .boolean)) ({ frames := 6, cells := 0, slots := 0, locals := 90 } : Room) (va_Pc [.ref h0, .int w, .int v] (PB dC dI sz [(h0, .inr (9, u0 :: u1 :: .int 0 :: u3 :: u4 :: u5 :: u6 :: u7 :: u8 :: u9 :: u10 :: u11 :: u12 :: u13 :: u14 :: u15 :: u16 :: u17 :: u18 :: u19 :: u20 :: u21 :: u22 :: u23 :: u24 :: u25 :: tl))] [])) (va_Qi (S := Unit) (fun r _ => r = 0) (fun x t => PW dC dI (va_A [(h0, .inr (9, u0 :: u1 :: .int 0 :: u3 :: u4 :: u5 :: u6 :: u7 :: u8 :: u9 :: u10 :: u11 :: u12 :: u13 :: u14 :: u15 :: u16 :: u17 :: u18 :: u19 :: u20 :: u21 :: u22 :: u23 :: u24 :: u25 :: tl))] sz) ([]) ([]) t) (va_A [(h0, .inr (9, u0 :: u1 :: .int 0 :: u3 :: u4 :: u5 :: u6 :: u7 :: u8 :: u9 :: u10 :: u11 :: u12 :: u13 :: u14 :: u15 :: u16 :: u17 :: u18 :: u19 :: u20 :: u21 :: u22 :: u23 :: u24 :: u25 :: tl))] sz)) 0 0 (va_A [(h0, .inr (9, u0 :: u1 :: .int 0 :: u3 :: u4 :: u5 :: u6 :: u7 :: u8 :: u9 :: u10 :: u11 :: u12 :: u13 :: u14 :: u15 :: u16 :: u17 :: u18 :: u19 :: u20 :: u21 :: u22 :: u23 :: u24 :: u25 :: tl))] sz) := by
  refine mbody (y := yX11_tell) (av := [.ref h0, .int w, .int v]) (b := cX11_tell) (n := 3) (ret := (some .boolean)) (Qc := fun A => (va_Qi (S := Unit) (fun r _ => r = 0) (fun x t => PW dC dI A ([]) ([]) t) A)) (by decide) (Nat.le_of_ble_eq_true rfl) ?_
  intro p e s m below meth c ls A H hf hr hin hlk hw hl
  have hl : lv_has ls 3 [(0, .ref h0), (1, .int w), (2, .int v)] := hl
  refine lv_aload_n hf.1 hf.2.1 dX11_tell_0 rfl (lv_at hl 0 rfl) ?_
  refine mget hf hw iX11 0 rfl rfl 2 (by decide) k1371 rfl dX11_tell_1 ?_
  refine lv_if_eq (tgt := 21) hf.1 hf.2.1 dX11_tell_4 (by decide) (fun c_1 => ?_) (fun c_1 => absurd (by decide) c_1)
  refine lv_iconst (v := 0) hf.1 hf.2.1 dX11_tell_21 (by decide) ?_
  exact mret_z (v := 0) hf hr hlk (by decide) hw () rfl [] [] rfl rfl rfl (Nat.le_of_ble_eq_true rfl) (Nat.le_of_ble_eq_true rfl) dX11_tell_22

set_option maxHeartbeats 4000000 in
set_option maxRecDepth 100000 in
theorem m_judge (l : Launch) (dC : Nat → ClassId) (dI : Nat → Nat → Nat) (h0 : Nat) (tl : List Value) (u0 u1 u3 u4 u5 u6 u7 u8 u9 u10 u11 u12 u13 u14 u15 u16 u17 u18 u19 u20 u21 u22 u23 u24 u25 : Value) (sz : Nat) (htl : tl.length = 103) : Met l yX11_judge (wsOf yX11_judge cX11_judge 1 (some .int)) ({ frames := 6, cells := 0, slots := 0, locals := 90 } : Room) (va_Pc [.ref h0] (PB dC dI sz [(h0, .inr (9, u0 :: u1 :: .int 0 :: u3 :: u4 :: u5 :: u6 :: u7 :: u8 :: u9 :: u10 :: u11 :: u12 :: u13 :: u14 :: u15 :: u16 :: u17 :: u18 :: u19 :: u20 :: u21 :: u22 :: u23 :: u24 :: u25 :: tl))] [])) (va_Qi (S := Unit) (fun r _ => r = -1) (fun x t => PW dC dI (va_A [(h0, .inr (9, u0 :: u1 :: .int 0 :: u3 :: u4 :: u5 :: u6 :: u7 :: u8 :: u9 :: u10 :: u11 :: u12 :: u13 :: u14 :: u15 :: u16 :: u17 :: u18 :: u19 :: u20 :: u21 :: u22 :: u23 :: u24 :: u25 :: tl))] sz) ([]) ([]) t) (va_A [(h0, .inr (9, u0 :: u1 :: .int 0 :: u3 :: u4 :: u5 :: u6 :: u7 :: u8 :: u9 :: u10 :: u11 :: u12 :: u13 :: u14 :: u15 :: u16 :: u17 :: u18 :: u19 :: u20 :: u21 :: u22 :: u23 :: u24 :: u25 :: tl))] sz)) 0 0 (va_A [(h0, .inr (9, u0 :: u1 :: .int 0 :: u3 :: u4 :: u5 :: u6 :: u7 :: u8 :: u9 :: u10 :: u11 :: u12 :: u13 :: u14 :: u15 :: u16 :: u17 :: u18 :: u19 :: u20 :: u21 :: u22 :: u23 :: u24 :: u25 :: tl))] sz) := by
  refine mbody (y := yX11_judge) (av := [.ref h0]) (b := cX11_judge) (n := 1) (ret := (some .int)) (Qc := fun A => (va_Qi (S := Unit) (fun r _ => r = -1) (fun x t => PW dC dI A ([]) ([]) t) A)) (by decide) (Nat.le_of_ble_eq_true rfl) ?_
  intro p e s m below meth c ls A H hf hr hin hlk hw hl
  have hl : lv_has ls 1 [(0, .ref h0)] := hl
  refine lv_aload_n hf.1 hf.2.1 dX11_judge_0 rfl (lv_at hl 0 rfl) ?_
  refine mget hf hw iX11 0 rfl rfl 2 (by decide) k1371 rfl dX11_judge_1 ?_
  refine lv_if_ne (tgt := 9) hf.1 hf.2.1 dX11_judge_4 (by decide) (fun c_1 => absurd (by decide) c_1) (fun c_1 => ?_)
  refine lv_iconst (v := (-1)) hf.1 hf.2.1 dX11_judge_7 (by decide) ?_
  exact mret_i (v := (-1)) hf hr hlk hw () rfl [] [] rfl rfl rfl (Nat.le_of_ble_eq_true rfl) (Nat.le_of_ble_eq_true rfl) dX11_judge_8

set_option maxHeartbeats 4000000 in
set_option maxRecDepth 100000 in
theorem m_guard (l : Launch) (dC : Nat → ClassId) (dI : Nat → Nat → Nat) (h0 : Nat) (tl : List Value) (u0 u1 u2 u4 u5 u6 u7 u8 u9 u10 u11 u12 u13 u14 u15 u16 u17 u18 u19 u20 u21 u22 u23 u24 u25 : Value) (w v : Int32) (sz : Nat) (htl : tl.length = 103) : Met l yX11_guard (wsOf yX11_guard cX11_guard 3 (some .int)) ({ frames := 6, cells := 0, slots := 0, locals := 90 } : Room) (va_Pc [.ref h0, .int w, .int v] (PB dC dI sz [(h0, .inr (9, u0 :: u1 :: u2 :: .int 0 :: u4 :: u5 :: u6 :: u7 :: u8 :: u9 :: u10 :: u11 :: u12 :: u13 :: u14 :: u15 :: u16 :: u17 :: u18 :: u19 :: u20 :: u21 :: u22 :: u23 :: u24 :: u25 :: tl))] [])) (va_Qi (S := Unit) (fun r _ => r = -1) (fun x t => PW dC dI (va_A [(h0, .inr (9, u0 :: u1 :: u2 :: .int 0 :: u4 :: u5 :: u6 :: u7 :: u8 :: u9 :: u10 :: u11 :: u12 :: u13 :: u14 :: u15 :: u16 :: u17 :: u18 :: u19 :: u20 :: u21 :: u22 :: u23 :: u24 :: u25 :: tl))] sz) ([]) ([]) t) (va_A [(h0, .inr (9, u0 :: u1 :: u2 :: .int 0 :: u4 :: u5 :: u6 :: u7 :: u8 :: u9 :: u10 :: u11 :: u12 :: u13 :: u14 :: u15 :: u16 :: u17 :: u18 :: u19 :: u20 :: u21 :: u22 :: u23 :: u24 :: u25 :: tl))] sz)) 0 0 (va_A [(h0, .inr (9, u0 :: u1 :: u2 :: .int 0 :: u4 :: u5 :: u6 :: u7 :: u8 :: u9 :: u10 :: u11 :: u12 :: u13 :: u14 :: u15 :: u16 :: u17 :: u18 :: u19 :: u20 :: u21 :: u22 :: u23 :: u24 :: u25 :: tl))] sz) := by
  refine mbody (y := yX11_guard) (av := [.ref h0, .int w, .int v]) (b := cX11_guard) (n := 3) (ret := (some .int)) (Qc := fun A => (va_Qi (S := Unit) (fun r _ => r = -1) (fun x t => PW dC dI A ([]) ([]) t) A)) (by decide) (Nat.le_of_ble_eq_true rfl) ?_
  intro p e s m below meth c ls A H hf hr hin hlk hw hl
  have hl : lv_has ls 3 [(0, .ref h0), (1, .int w), (2, .int v)] := hl
  refine lv_aload_n hf.1 hf.2.1 dX11_guard_0 rfl (lv_at hl 0 rfl) ?_
  refine mget hf hw iX11 0 rfl rfl 3 (by decide) k1372 rfl dX11_guard_1 ?_
  refine lv_if_eq (tgt := 21) hf.1 hf.2.1 dX11_guard_4 (by decide) (fun c_1 => ?_) (fun c_1 => absurd (by decide) c_1)
  refine lv_iconst (v := (-1)) hf.1 hf.2.1 dX11_guard_21 (by decide) ?_
  exact mret_i (v := (-1)) hf hr hlk hw () rfl [] [] rfl rfl rfl (Nat.le_of_ble_eq_true rfl) (Nat.le_of_ble_eq_true rfl) dX11_guard_22

set_option maxHeartbeats 4000000 in
set_option maxRecDepth 100000 in
theorem m_part (l : Launch) (dC : Nat → ClassId) (dI : Nat → Nat → Nat) (h0 : Nat) (tl : List Value) (u0 u1 u3 u4 u5 u6 u7 u8 u9 u10 u11 u12 u13 u14 u15 u16 u17 u18 u19 u20 u21 u22 u23 u24 u25 : Value) (w v : Int32) (sz : Nat) (htl : tl.length = 103) : Met l yX11_part_ (wsOf yX11_part_ cX11_part_ 3 (some .int)) ({ frames := 6, cells := 0, slots := 0, locals := 90 } : Room) (va_Pc [.ref h0, .int w, .int v] (PB dC dI sz [(h0, .inr (9, u0 :: u1 :: .int 0 :: u3 :: u4 :: u5 :: u6 :: u7 :: u8 :: u9 :: u10 :: u11 :: u12 :: u13 :: u14 :: u15 :: u16 :: u17 :: u18 :: u19 :: u20 :: u21 :: u22 :: u23 :: u24 :: u25 :: tl))] [])) (va_Qi (S := Unit) (fun r _ => r = -1) (fun x t => PW dC dI (va_A [(h0, .inr (9, u0 :: u1 :: .int 0 :: u3 :: u4 :: u5 :: u6 :: u7 :: u8 :: u9 :: u10 :: u11 :: u12 :: u13 :: u14 :: u15 :: u16 :: u17 :: u18 :: u19 :: u20 :: u21 :: u22 :: u23 :: u24 :: u25 :: tl))] sz) ([]) ([]) t) (va_A [(h0, .inr (9, u0 :: u1 :: .int 0 :: u3 :: u4 :: u5 :: u6 :: u7 :: u8 :: u9 :: u10 :: u11 :: u12 :: u13 :: u14 :: u15 :: u16 :: u17 :: u18 :: u19 :: u20 :: u21 :: u22 :: u23 :: u24 :: u25 :: tl))] sz)) 0 0 (va_A [(h0, .inr (9, u0 :: u1 :: .int 0 :: u3 :: u4 :: u5 :: u6 :: u7 :: u8 :: u9 :: u10 :: u11 :: u12 :: u13 :: u14 :: u15 :: u16 :: u17 :: u18 :: u19 :: u20 :: u21 :: u22 :: u23 :: u24 :: u25 :: tl))] sz) := by
  refine mbody (y := yX11_part_) (av := [.ref h0, .int w, .int v]) (b := cX11_part_) (n := 3) (ret := (some .int)) (Qc := fun A => (va_Qi (S := Unit) (fun r _ => r = -1) (fun x t => PW dC dI A ([]) ([]) t) A)) (by decide) (Nat.le_of_ble_eq_true rfl) ?_
  intro p e s m below meth c ls A H hf hr hin hlk hw hl
  have hl : lv_has ls 3 [(0, .ref h0), (1, .int w), (2, .int v)] := hl
  refine lv_aload_n hf.1 hf.2.1 dX11_part__0 rfl (lv_at hl 0 rfl) ?_
  refine mget hf hw iX11 0 rfl rfl 2 (by decide) k1371 rfl dX11_part__1 ?_
  refine lv_if_eq (tgt := 21) hf.1 hf.2.1 dX11_part__4 (by decide) (fun c_1 => ?_) (fun c_1 => absurd (by decide) c_1)
  refine lv_iconst (v := (-1)) hf.1 hf.2.1 dX11_part__21 (by decide) ?_
  exact mret_i (v := (-1)) hf hr hlk hw () rfl [] [] rfl rfl rfl (Nat.le_of_ble_eq_true rfl) (Nat.le_of_ble_eq_true rfl) dX11_part__22

set_option maxHeartbeats 4000000 in
set_option maxRecDepth 100000 in
theorem m_run (l : Launch) (dC : Nat → ClassId) (dI : Nat → Nat → Nat) (h0 : Nat) (tl : List Value) (u0 u1 u2 u4 u5 u6 u7 u8 u9 u10 u11 u12 u13 u14 u15 u16 u17 u18 u19 u20 u21 u22 u23 u24 u25 : Value) (w : Int32) (sz : Nat) (htl : tl.length = 103) : Met l yX11_run (wsOf yX11_run cX11_run 2 (some .int)) ({ frames := 6, cells := 0, slots := 0, locals := 90 } : Room) (va_Pc [.ref h0, .int w] (PB dC dI sz [(h0, .inr (9, u0 :: u1 :: u2 :: .int 0 :: u4 :: u5 :: u6 :: u7 :: u8 :: u9 :: u10 :: u11 :: u12 :: u13 :: u14 :: u15 :: u16 :: u17 :: u18 :: u19 :: u20 :: u21 :: u22 :: u23 :: u24 :: u25 :: tl))] [])) (va_Qi (S := Unit) (fun r _ => r = -1) (fun x t => PW dC dI (va_A [(h0, .inr (9, u0 :: u1 :: u2 :: .int 0 :: u4 :: u5 :: u6 :: u7 :: u8 :: u9 :: u10 :: u11 :: u12 :: u13 :: u14 :: u15 :: u16 :: u17 :: u18 :: u19 :: u20 :: u21 :: u22 :: u23 :: u24 :: u25 :: tl))] sz) ([]) ([]) t) (va_A [(h0, .inr (9, u0 :: u1 :: u2 :: .int 0 :: u4 :: u5 :: u6 :: u7 :: u8 :: u9 :: u10 :: u11 :: u12 :: u13 :: u14 :: u15 :: u16 :: u17 :: u18 :: u19 :: u20 :: u21 :: u22 :: u23 :: u24 :: u25 :: tl))] sz)) 0 0 (va_A [(h0, .inr (9, u0 :: u1 :: u2 :: .int 0 :: u4 :: u5 :: u6 :: u7 :: u8 :: u9 :: u10 :: u11 :: u12 :: u13 :: u14 :: u15 :: u16 :: u17 :: u18 :: u19 :: u20 :: u21 :: u22 :: u23 :: u24 :: u25 :: tl))] sz) := by
  refine mbody (y := yX11_run) (av := [.ref h0, .int w]) (b := cX11_run) (n := 2) (ret := (some .int)) (Qc := fun A => (va_Qi (S := Unit) (fun r _ => r = -1) (fun x t => PW dC dI A ([]) ([]) t) A)) (by decide) (Nat.le_of_ble_eq_true rfl) ?_
  intro p e s m below meth c ls A H hf hr hin hlk hw hl
  have hl : lv_has ls 2 [(0, .ref h0), (1, .int w)] := hl
  refine lv_aload_n hf.1 hf.2.1 dX11_run_0 rfl (lv_at hl 0 rfl) ?_
  refine mget hf hw iX11 0 rfl rfl 3 (by decide) k1372 rfl dX11_run_1 ?_
  refine lv_if_eq (tgt := 18) hf.1 hf.2.1 dX11_run_4 (by decide) (fun c_1 => ?_) (fun c_1 => absurd (by decide) c_1)
  refine lv_iconst (v := (-1)) hf.1 hf.2.1 dX11_run_18 (by decide) ?_
  exact mret_i (v := (-1)) hf hr hlk hw () rfl [] [] rfl rfl rfl (Nat.le_of_ble_eq_true rfl) (Nat.le_of_ble_eq_true rfl) dX11_run_19

set_option maxHeartbeats 4000000 in
set_option maxRecDepth 100000 in
theorem m_runUntold (l : Launch) (dC : Nat → ClassId) (dI : Nat → Nat → Nat) (h0 : Nat) (tl : List Value) (u0 u1 u3 u4 u5 u6 u7 u8 u9 u10 u11 u12 u13 u14 u15 u16 u17 u18 u19 u20 u21 u22 u23 u24 u25 : Value) (w : Int32) (sz : Nat) (htl : tl.length = 103) : Met l yX11_runUntold (wsOf yX11_runUntold cX11_runUntold 2 (some .int)) ({ frames := 6, cells := 0, slots := 0, locals := 90 } : Room) (va_Pc [.ref h0, .int w] (PB dC dI sz [(h0, .inr (9, u0 :: u1 :: .int 0 :: u3 :: u4 :: u5 :: u6 :: u7 :: u8 :: u9 :: u10 :: u11 :: u12 :: u13 :: u14 :: u15 :: u16 :: u17 :: u18 :: u19 :: u20 :: u21 :: u22 :: u23 :: u24 :: u25 :: tl))] [])) (va_Qi (S := Unit) (fun r _ => r = -1) (fun x t => PW dC dI (va_A [(h0, .inr (9, u0 :: u1 :: .int 0 :: u3 :: u4 :: u5 :: u6 :: u7 :: u8 :: u9 :: u10 :: u11 :: u12 :: u13 :: u14 :: u15 :: u16 :: u17 :: u18 :: u19 :: u20 :: u21 :: u22 :: u23 :: u24 :: u25 :: tl))] sz) ([]) ([]) t) (va_A [(h0, .inr (9, u0 :: u1 :: .int 0 :: u3 :: u4 :: u5 :: u6 :: u7 :: u8 :: u9 :: u10 :: u11 :: u12 :: u13 :: u14 :: u15 :: u16 :: u17 :: u18 :: u19 :: u20 :: u21 :: u22 :: u23 :: u24 :: u25 :: tl))] sz)) 0 0 (va_A [(h0, .inr (9, u0 :: u1 :: .int 0 :: u3 :: u4 :: u5 :: u6 :: u7 :: u8 :: u9 :: u10 :: u11 :: u12 :: u13 :: u14 :: u15 :: u16 :: u17 :: u18 :: u19 :: u20 :: u21 :: u22 :: u23 :: u24 :: u25 :: tl))] sz) := by
  refine mbody (y := yX11_runUntold) (av := [.ref h0, .int w]) (b := cX11_runUntold) (n := 2) (ret := (some .int)) (Qc := fun A => (va_Qi (S := Unit) (fun r _ => r = -1) (fun x t => PW dC dI A ([]) ([]) t) A)) (by decide) (Nat.le_of_ble_eq_true rfl) ?_
  intro p e s m below meth c ls A H hf hr hin hlk hw hl
  have hl : lv_has ls 2 [(0, .ref h0), (1, .int w)] := hl
  refine lv_aload_n hf.1 hf.2.1 dX11_runUntold_0 rfl (lv_at hl 0 rfl) ?_
  refine mget hf hw iX11 0 rfl rfl 2 (by decide) k1371 rfl dX11_runUntold_1 ?_
  refine lv_if_eq (tgt := 18) hf.1 hf.2.1 dX11_runUntold_4 (by decide) (fun c_1 => ?_) (fun c_1 => absurd (by decide) c_1)
  refine lv_iconst (v := (-1)) hf.1 hf.2.1 dX11_runUntold_18 (by decide) ?_
  exact mret_i (v := (-1)) hf hr hlk hw () rfl [] [] rfl rfl rfl (Nat.le_of_ble_eq_true rfl) (Nat.le_of_ble_eq_true rfl) dX11_runUntold_19

set_option maxHeartbeats 4000000 in
set_option maxRecDepth 100000 in
theorem m_told (l : Launch) (dC : Nat → ClassId) (dI : Nat → Nat → Nat) (h0 : Nat) (tl : List Value) (u0 u1 u2 u3 u4 u5 u6 u7 u8 u9 u10 u11 u12 u13 u14 u15 u16 u17 u18 u20 u21 u22 u23 u24 u25 : Value) (w : Int32) (sz : Nat) (htl : tl.length = 103) : Met l yX11_told (wsOf yX11_told cX11_told 5 (some .int)) ({ frames := 6, cells := 0, slots := 0, locals := 90 } : Room) (va_Pc [.ref h0, .int w] (PB dC dI sz [(h0, .inr (9, u0 :: u1 :: u2 :: u3 :: u4 :: u5 :: u6 :: u7 :: u8 :: u9 :: u10 :: u11 :: u12 :: u13 :: u14 :: u15 :: u16 :: u17 :: u18 :: .int 0 :: u20 :: u21 :: u22 :: u23 :: u24 :: u25 :: tl))] [])) (va_Qi (S := Unit) (fun r _ => r = -1) (fun x t => PW dC dI (va_A [(h0, .inr (9, u0 :: u1 :: u2 :: u3 :: u4 :: u5 :: u6 :: u7 :: u8 :: u9 :: u10 :: u11 :: u12 :: u13 :: u14 :: u15 :: u16 :: u17 :: u18 :: .int 0 :: u20 :: u21 :: u22 :: u23 :: u24 :: u25 :: tl))] sz) ([]) ([]) t) (va_A [(h0, .inr (9, u0 :: u1 :: u2 :: u3 :: u4 :: u5 :: u6 :: u7 :: u8 :: u9 :: u10 :: u11 :: u12 :: u13 :: u14 :: u15 :: u16 :: u17 :: u18 :: .int 0 :: u20 :: u21 :: u22 :: u23 :: u24 :: u25 :: tl))] sz)) 0 0 (va_A [(h0, .inr (9, u0 :: u1 :: u2 :: u3 :: u4 :: u5 :: u6 :: u7 :: u8 :: u9 :: u10 :: u11 :: u12 :: u13 :: u14 :: u15 :: u16 :: u17 :: u18 :: .int 0 :: u20 :: u21 :: u22 :: u23 :: u24 :: u25 :: tl))] sz) := by
  refine mbody (y := yX11_told) (av := [.ref h0, .int w]) (b := cX11_told) (n := 5) (ret := (some .int)) (Qc := fun A => (va_Qi (S := Unit) (fun r _ => r = -1) (fun x t => PW dC dI A ([]) ([]) t) A)) (by decide) (Nat.le_of_ble_eq_true rfl) ?_
  intro p e s m below meth c ls A H hf hr hin hlk hw hl
  have hl : lv_has ls 5 [(0, .ref h0), (1, .int w)] := hl
  refine lv_aload_n hf.1 hf.2.1 dX11_told_0 rfl (lv_at hl 0 rfl) ?_
  refine mget hf hw iX11 0 rfl rfl 19 (by decide) k1485 rfl dX11_told_1 ?_
  refine lv_if_ne (tgt := 9) hf.1 hf.2.1 dX11_told_4 (by decide) (fun c_1 => absurd (by decide) c_1) (fun c_1 => ?_)
  refine lv_iconst (v := (-1)) hf.1 hf.2.1 dX11_told_7 (by decide) ?_
  exact mret_i (v := (-1)) hf hr hlk hw () rfl [] [] rfl rfl rfl (Nat.le_of_ble_eq_true rfl) (Nat.le_of_ble_eq_true rfl) dX11_told_8

set_option maxHeartbeats 4000000 in
set_option maxRecDepth 100000 in
theorem m_out (l : Launch) (dC : Nat → ClassId) (dI : Nat → Nat → Nat) (h0 : Nat) (tl : List Value) (u0 u1 u2 u3 u4 u5 u6 u7 u8 u9 u10 u11 u12 u13 u14 u15 u16 u17 u18 u20 u21 u22 u23 u24 u25 : Value) (w : Int32) (sz : Nat) (htl : tl.length = 103) : Met l yX11_out (wsOf yX11_out cX11_out 2 (some .int)) ({ frames := 6, cells := 0, slots := 0, locals := 90 } : Room) (va_Pc [.ref h0, .int w] (PB dC dI sz [(h0, .inr (9, u0 :: u1 :: u2 :: u3 :: u4 :: u5 :: u6 :: u7 :: u8 :: u9 :: u10 :: u11 :: u12 :: u13 :: u14 :: u15 :: u16 :: u17 :: u18 :: .int 0 :: u20 :: u21 :: u22 :: u23 :: u24 :: u25 :: tl))] [])) (va_Qi (S := Unit) (fun r _ => r = 0) (fun x t => PW dC dI (va_A [(h0, .inr (9, u0 :: u1 :: u2 :: u3 :: u4 :: u5 :: u6 :: u7 :: u8 :: u9 :: u10 :: u11 :: u12 :: u13 :: u14 :: u15 :: u16 :: u17 :: u18 :: .int 0 :: u20 :: u21 :: u22 :: u23 :: u24 :: u25 :: tl))] sz) ([]) ([]) t) (va_A [(h0, .inr (9, u0 :: u1 :: u2 :: u3 :: u4 :: u5 :: u6 :: u7 :: u8 :: u9 :: u10 :: u11 :: u12 :: u13 :: u14 :: u15 :: u16 :: u17 :: u18 :: .int 0 :: u20 :: u21 :: u22 :: u23 :: u24 :: u25 :: tl))] sz)) 0 0 (va_A [(h0, .inr (9, u0 :: u1 :: u2 :: u3 :: u4 :: u5 :: u6 :: u7 :: u8 :: u9 :: u10 :: u11 :: u12 :: u13 :: u14 :: u15 :: u16 :: u17 :: u18 :: .int 0 :: u20 :: u21 :: u22 :: u23 :: u24 :: u25 :: tl))] sz) := by
  refine mbody (y := yX11_out) (av := [.ref h0, .int w]) (b := cX11_out) (n := 2) (ret := (some .int)) (Qc := fun A => (va_Qi (S := Unit) (fun r _ => r = 0) (fun x t => PW dC dI A ([]) ([]) t) A)) (by decide) (Nat.le_of_ble_eq_true rfl) ?_
  intro p e s m below meth c ls A H hf hr hin hlk hw hl
  have hl : lv_has ls 2 [(0, .ref h0), (1, .int w)] := hl
  refine lv_aload_n hf.1 hf.2.1 dX11_out_0 rfl (lv_at hl 0 rfl) ?_
  refine mget hf hw iX11 0 rfl rfl 19 (by decide) k1485 rfl dX11_out_1 ?_
  refine lv_if_eq (tgt := 30) hf.1 hf.2.1 dX11_out_4 (by decide) (fun c_1 => ?_) (fun c_1 => absurd (by decide) c_1)
  refine lv_iconst (v := 0) hf.1 hf.2.1 dX11_out_30 (by decide) ?_
  exact mret_i (v := 0) hf hr hlk hw () rfl [] [] rfl rfl rfl (Nat.le_of_ble_eq_true rfl) (Nat.le_of_ble_eq_true rfl) dX11_out_31

set_option maxHeartbeats 4000000 in
set_option maxRecDepth 100000 in
theorem m_asked (l : Launch) (dC : Nat → ClassId) (dI : Nat → Nat → Nat) (h0 : Nat) (tl : List Value) (u0 u1 u2 u3 u4 u5 u6 u7 u8 u9 u10 u11 u12 u13 u14 u15 u16 u17 u18 u20 u21 u22 u23 u24 u25 : Value) (w v : Int32) (sz : Nat) (htl : tl.length = 103) : Met l yX11_asked (wsOf yX11_asked cX11_asked 3 (some .int)) ({ frames := 6, cells := 0, slots := 0, locals := 90 } : Room) (va_Pc [.ref h0, .int w, .int v] (PB dC dI sz [(h0, .inr (9, u0 :: u1 :: u2 :: u3 :: u4 :: u5 :: u6 :: u7 :: u8 :: u9 :: u10 :: u11 :: u12 :: u13 :: u14 :: u15 :: u16 :: u17 :: u18 :: .int 0 :: u20 :: u21 :: u22 :: u23 :: u24 :: u25 :: tl))] [])) (va_Qi (S := Unit) (fun r _ => r = -1) (fun x t => PW dC dI (va_A [(h0, .inr (9, u0 :: u1 :: u2 :: u3 :: u4 :: u5 :: u6 :: u7 :: u8 :: u9 :: u10 :: u11 :: u12 :: u13 :: u14 :: u15 :: u16 :: u17 :: u18 :: .int 0 :: u20 :: u21 :: u22 :: u23 :: u24 :: u25 :: tl))] sz) ([]) ([]) t) (va_A [(h0, .inr (9, u0 :: u1 :: u2 :: u3 :: u4 :: u5 :: u6 :: u7 :: u8 :: u9 :: u10 :: u11 :: u12 :: u13 :: u14 :: u15 :: u16 :: u17 :: u18 :: .int 0 :: u20 :: u21 :: u22 :: u23 :: u24 :: u25 :: tl))] sz)) 0 0 (va_A [(h0, .inr (9, u0 :: u1 :: u2 :: u3 :: u4 :: u5 :: u6 :: u7 :: u8 :: u9 :: u10 :: u11 :: u12 :: u13 :: u14 :: u15 :: u16 :: u17 :: u18 :: .int 0 :: u20 :: u21 :: u22 :: u23 :: u24 :: u25 :: tl))] sz) := by
  refine mbody (y := yX11_asked) (av := [.ref h0, .int w, .int v]) (b := cX11_asked) (n := 3) (ret := (some .int)) (Qc := fun A => (va_Qi (S := Unit) (fun r _ => r = -1) (fun x t => PW dC dI A ([]) ([]) t) A)) (by decide) (Nat.le_of_ble_eq_true rfl) ?_
  intro p e s m below meth c ls A H hf hr hin hlk hw hl
  have hl : lv_has ls 3 [(0, .ref h0), (1, .int w), (2, .int v)] := hl
  refine lv_aload_n hf.1 hf.2.1 dX11_asked_0 rfl (lv_at hl 0 rfl) ?_
  refine mget hf hw iX11 0 rfl rfl 19 (by decide) k1485 rfl dX11_asked_1 ?_
  refine lv_if_eq (tgt := 49) hf.1 hf.2.1 dX11_asked_4 (by decide) (fun c_1 => ?_) (fun c_1 => absurd (by decide) c_1)
  refine lv_iconst (v := (-1)) hf.1 hf.2.1 dX11_asked_49 (by decide) ?_
  exact mret_i (v := (-1)) hf hr hlk hw () rfl [] [] rfl rfl rfl (Nat.le_of_ble_eq_true rfl) (Nat.le_of_ble_eq_true rfl) dX11_asked_50

set_option maxHeartbeats 4000000 in
set_option maxRecDepth 100000 in
theorem m_about (l : Launch) (dC : Nat → ClassId) (dI : Nat → Nat → Nat) (h0 : Nat) (tl : List Value) (u1 u2 u4 u5 u6 u7 u8 u9 u10 u11 u12 u13 u14 u15 u17 u18 u19 u20 u21 u22 u23 u24 u25 : Value) (w : Int32) (sz : Nat) (htl : tl.length = 103) : Met l yX11_about (wsOf yX11_about cX11_about 2 (some .int)) ({ frames := 6, cells := 0, slots := 0, locals := 90 } : Room) (va_Pc [.ref h0, .int w] (PB dC dI sz [(h0, .inr (9, .int 0 :: u1 :: u2 :: .int 0 :: u4 :: u5 :: u6 :: u7 :: u8 :: u9 :: u10 :: u11 :: u12 :: u13 :: u14 :: u15 :: .int 0 :: u17 :: u18 :: u19 :: u20 :: u21 :: u22 :: u23 :: u24 :: u25 :: tl))] [])) (va_Qi (S := Unit) (fun r _ => r = aboutV w) (fun x t => PW dC dI (va_A [(h0, .inr (9, .int 0 :: u1 :: u2 :: .int 0 :: u4 :: u5 :: u6 :: u7 :: u8 :: u9 :: u10 :: u11 :: u12 :: u13 :: u14 :: u15 :: .int 0 :: u17 :: u18 :: u19 :: u20 :: u21 :: u22 :: u23 :: u24 :: u25 :: tl))] sz) ([]) ([]) t) (va_A [(h0, .inr (9, .int 0 :: u1 :: u2 :: .int 0 :: u4 :: u5 :: u6 :: u7 :: u8 :: u9 :: u10 :: u11 :: u12 :: u13 :: u14 :: u15 :: .int 0 :: u17 :: u18 :: u19 :: u20 :: u21 :: u22 :: u23 :: u24 :: u25 :: tl))] sz)) 0 0 (va_A [(h0, .inr (9, .int 0 :: u1 :: u2 :: .int 0 :: u4 :: u5 :: u6 :: u7 :: u8 :: u9 :: u10 :: u11 :: u12 :: u13 :: u14 :: u15 :: .int 0 :: u17 :: u18 :: u19 :: u20 :: u21 :: u22 :: u23 :: u24 :: u25 :: tl))] sz) := by
  refine mbody (y := yX11_about) (av := [.ref h0, .int w]) (b := cX11_about) (n := 2) (ret := (some .int)) (Qc := fun A => (va_Qi (S := Unit) (fun r _ => r = aboutV w) (fun x t => PW dC dI A ([]) ([]) t) A)) (by decide) (Nat.le_of_ble_eq_true rfl) ?_
  intro p e s m below meth c ls A H hf hr hin hlk hw hl
  have hl : lv_has ls 2 [(0, .ref h0), (1, .int w)] := hl
  refine lv_iload_n hf.1 hf.2.1 dX11_about_0 rfl (lv_at hl 1 rfl) ?_
  rcases swc 4 (by decide) w with ⟨ks, hks, eks⟩ | hsw
  · have hcs : ks = 0 ∨ ks = 1 ∨ ks = 2 ∨ ks = 3 := by omega
    rcases hcs with rfl | rfl | rfl | rfl
    · subst eks
      refine lv_tableIn (tgt := 32) hf.1 hf.2.1 dX11_about_1 (by decide) (by decide) rfl (by decide) ?_
      refine lv_aload_n hf.1 hf.2.1 dX11_about_32 rfl (lv_at hl 0 rfl) ?_
      refine mget hf hw iX11 0 rfl rfl 0 (by decide) k1366 rfl dX11_about_33 ?_
      exact mret_i (v := 0) hf hr hlk hw () (by decide) [] [] rfl rfl rfl (Nat.le_of_ble_eq_true rfl) (Nat.le_of_ble_eq_true rfl) dX11_about_36
    · subst eks
      refine lv_tableIn (tgt := 37) hf.1 hf.2.1 dX11_about_1 (by decide) (by decide) rfl (by decide) ?_
      refine lv_aload_n hf.1 hf.2.1 dX11_about_37 rfl (lv_at hl 0 rfl) ?_
      refine mget hf hw iX11 0 rfl rfl 16 (by decide) k1394 rfl dX11_about_38 ?_
      exact mret_i (v := 0) hf hr hlk hw () (by decide) [] [] rfl rfl rfl (Nat.le_of_ble_eq_true rfl) (Nat.le_of_ble_eq_true rfl) dX11_about_41
    · subst eks
      refine lv_tableIn (tgt := 42) hf.1 hf.2.1 dX11_about_1 (by decide) (by decide) rfl (by decide) ?_
      refine lv_aload_n hf.1 hf.2.1 dX11_about_42 rfl (lv_at hl 0 rfl) ?_
      refine mget hf hw iX11 0 rfl rfl 3 (by decide) k1372 rfl dX11_about_43 ?_
      refine lv_if_eq (tgt := 53) hf.1 hf.2.1 dX11_about_46 (by decide) (fun c_1 => ?_) (fun c_1 => absurd (by decide) c_1)
      refine lv_iconst (v := 0) hf.1 hf.2.1 dX11_about_53 (by decide) ?_
      exact mret_i (v := 0) hf hr hlk hw () (by decide) [] [] rfl rfl rfl (Nat.le_of_ble_eq_true rfl) (Nat.le_of_ble_eq_true rfl) dX11_about_54
    · subst eks
      refine lv_tableIn (tgt := 55) hf.1 hf.2.1 dX11_about_1 (by decide) (by decide) rfl (by decide) ?_
      refine lv_aload_n hf.1 hf.2.1 dX11_about_55 rfl (lv_at hl 0 rfl) ?_
      refine mget hf hw iX11 0 rfl rfl 3 (by decide) k1372 rfl dX11_about_56 ?_
      refine lv_if_eq (tgt := 69) hf.1 hf.2.1 dX11_about_59 (by decide) (fun c_2 => ?_) (fun c_2 => absurd (by decide) c_2)
      refine lv_iconst (v := (-1)) hf.1 hf.2.1 dX11_about_69 (by decide) ?_
      exact mret_i (v := (-1)) hf hr hlk hw () (by decide) [] [] rfl rfl rfl (Nat.le_of_ble_eq_true rfl) (Nat.le_of_ble_eq_true rfl) dX11_about_70
  · refine lv_tableOut (tgt := 71) hf.1 hf.2.1 dX11_about_1 hsw (by decide) ?_
    refine lv_iconst (v := (-1)) hf.1 hf.2.1 dX11_about_71 (by decide) ?_
    exact mret_i (v := (-1)) hf hr hlk hw () (aboutV_out hsw) [] [] rfl rfl rfl (Nat.le_of_ble_eq_true rfl) (Nat.le_of_ble_eq_true rfl) dX11_about_72

set_option maxHeartbeats 4000000 in
set_option maxRecDepth 100000 in
theorem m_end (l : Launch) (dC : Nat → ClassId) (dI : Nat → Nat → Nat) (h0 : Nat) (tl : List Value) (u1 u2 u3 u4 u5 u6 u7 u8 u9 u10 u11 u12 u13 u14 u15 u16 u17 u18 u19 u20 u21 u22 u23 u24 u25 : Value) (w : Int32) (sz : Nat) (htl : tl.length = 103) : Met l yX11_end (wsOf yX11_end cX11_end 2 (some .int)) ({ frames := 10, cells := 0, slots := 0, locals := 150 } : Room) (va_Pc [.ref h0, .int w] (PB dC dI sz [(h0, .inr (9, .int 0 :: u1 :: u2 :: u3 :: u4 :: u5 :: u6 :: u7 :: u8 :: u9 :: u10 :: u11 :: u12 :: u13 :: u14 :: u15 :: u16 :: u17 :: u18 :: u19 :: u20 :: u21 :: u22 :: u23 :: u24 :: u25 :: tl))] [])) (va_Qi (S := Unit) (fun r _ => r = endV w) (fun x t => PW dC dI (va_A [(h0, .inr (9, .int 0 :: u1 :: u2 :: u3 :: u4 :: u5 :: u6 :: u7 :: u8 :: u9 :: u10 :: u11 :: u12 :: u13 :: u14 :: u15 :: u16 :: u17 :: u18 :: u19 :: u20 :: u21 :: u22 :: u23 :: u24 :: u25 :: tl))] sz) ([]) ([]) t) (va_A [(h0, .inr (9, .int 0 :: u1 :: u2 :: u3 :: u4 :: u5 :: u6 :: u7 :: u8 :: u9 :: u10 :: u11 :: u12 :: u13 :: u14 :: u15 :: u16 :: u17 :: u18 :: u19 :: u20 :: u21 :: u22 :: u23 :: u24 :: u25 :: tl))] sz)) 0 0 (va_A [(h0, .inr (9, .int 0 :: u1 :: u2 :: u3 :: u4 :: u5 :: u6 :: u7 :: u8 :: u9 :: u10 :: u11 :: u12 :: u13 :: u14 :: u15 :: u16 :: u17 :: u18 :: u19 :: u20 :: u21 :: u22 :: u23 :: u24 :: u25 :: tl))] sz) := by
  refine mbody (y := yX11_end) (av := [.ref h0, .int w]) (b := cX11_end) (n := 2) (ret := (some .int)) (Qc := fun A => (va_Qi (S := Unit) (fun r _ => r = endV w) (fun x t => PW dC dI A ([]) ([]) t) A)) (by decide) (Nat.le_of_ble_eq_true rfl) ?_
  intro p e s m below meth c ls A H hf hr hin hlk hw hl
  have hl : lv_has ls 2 [(0, .ref h0), (1, .int w)] := hl
  refine lv_iload_n hf.1 hf.2.1 dX11_end_0 rfl (lv_at hl 1 rfl) ?_
  refine lv_iconst (v := 0) hf.1 hf.2.1 dX11_end_1 (by decide) ?_
  refine lv_aload_n hf.1 hf.2.1 dX11_end_2 rfl (lv_at hl 0 rfl) ?_
  refine mget hf hw iX11 0 rfl rfl 0 (by decide) k1366 rfl dX11_end_3 ?_
  refine mS_i (As := [.int w, .int 0, .int 0]) (rest := []) (wr := [(h0, .inr (9, .int 0 :: u1 :: u2 :: u3 :: u4 :: u5 :: u6 :: u7 :: u8 :: u9 :: u10 :: u11 :: u12 :: u13 :: u14 :: u15 :: u16 :: u17 :: u18 :: u19 :: u20 :: u21 :: u22 :: u23 :: u24 :: u25 :: tl))]) (tr := []) hf hw (m_in l dC dI w 0 0 H.size) ka_X11_in k1766 k1765 [] [] [0] [] rfl rfl rfl rfl rfl (by decide) rfl rfl rfl hl.1 rfl rfl ⟨Nat.le_of_ble_eq_true rfl, Nat.le_of_ble_eq_true rfl⟩ (Nat.le_of_ble_eq_true rfl) (ce := 0) (sl := 0) rfl rfl ⟨Nat.le_of_ble_eq_true rfl, Nat.le_of_ble_eq_true rfl⟩ dX11_end_6 (fun r_1 u_2 hu_2 H locs hw => ?_)
  have hw : Wd dC dI A [(h0, .inr (9, .int 0 :: u1 :: u2 :: u3 :: u4 :: u5 :: u6 :: u7 :: u8 :: u9 :: u10 :: u11 :: u12 :: u13 :: u14 :: u15 :: u16 :: u17 :: u18 :: u19 :: u20 :: u21 :: u22 :: u23 :: u24 :: u25 :: tl))] [] s H locs := hw
  by_cases hq : (0 : Int32) ≤ w ∧ w ≤ 0
  · rw [if_pos hq] at hu_2
    subst hu_2
    refine lv_if_ne (tgt := 14) hf.1 hf.2.1 dX11_end_9 (by decide) (fun c_3 => ?_) (fun c_3 => absurd c_3 (by decide))
    refine lv_aload_n hf.1 hf.2.1 dX11_end_14 rfl (lv_at hl 0 rfl) ?_
    refine lv_iload_n hf.1 hf.2.1 dX11_end_15 rfl (lv_at hl 1 rfl) ?_
    refine mput hf hw iX11 tyX11 tyX11_ok nmX11 0 rfl rfl 0 (by decide) k1366 rfl rfl rfl (lt_app (K := [.int w, u1, u2, u3, u4, u5, u6, u7, u8, u9, u10, u11, u12, u13, u14, u15, u16, u17, u18, u19, u20, u21, u22, u23, u24, u25]) htl (Nat.le_of_ble_eq_true rfl)) (ws' := [(h0, .inr (9, .int w :: u1 :: u2 :: u3 :: u4 :: u5 :: u6 :: u7 :: u8 :: u9 :: u10 :: u11 :: u12 :: u13 :: u14 :: u15 :: u16 :: u17 :: u18 :: u19 :: u20 :: u21 :: u22 :: u23 :: u24 :: u25 :: tl))]) rfl dX11_end_16 (fun H locs hw => ?_)
    refine lv_iload_n hf.1 hf.2.1 dX11_end_19 rfl (lv_at hl 1 rfl) ?_
    exact mret_i (v := w) hf hr hlk hw () (endV_zero (Int32.not_lt.mpr hq.1) hq.2) [] [] rfl rfl rfl (Nat.le_of_ble_eq_true rfl) (Nat.le_of_ble_eq_true rfl) dX11_end_20
  · rw [if_neg hq] at hu_2
    subst hu_2
    refine lv_if_ne (tgt := 14) hf.1 hf.2.1 dX11_end_9 (by decide) (fun c_4 => absurd (by decide) c_4) (fun c_4 => ?_)
    refine lv_iconst (v := (-1)) hf.1 hf.2.1 dX11_end_12 (by decide) ?_
    exact mret_i (v := (-1)) hf hr hlk hw () (by unfold endV; rw [if_neg]; rintro rfl; exact hq ⟨by decide, by decide⟩) [] [] rfl rfl rfl (Nat.le_of_ble_eq_true rfl) (Nat.le_of_ble_eq_true rfl) dX11_end_13

set_option maxHeartbeats 4000000 in
set_option maxRecDepth 100000 in
theorem m_put (l : Launch) (dC : Nat → ClassId) (dI : Nat → Nat → Nat) (h0 : Nat) (tl : List Value) (u1 u2 u3 u4 u5 u6 u7 u8 u9 u10 u11 u12 u13 u14 u15 u16 u17 u18 u19 u21 u22 u23 u24 u25 : Value) (at_ : Nat) (cT : ClassId) (ft : Nat → Int32) (tt : Nat) (v : Int32) (sz : Nat) (htl : tl.length = 103) (ht : tt + 4 ≤ 3000) : Met l yX11_put (wsOf yX11_put cX11_put 2 none) ({ frames := 6, cells := 0, slots := 0, locals := 90 } : Room) (va_Pc [.ref h0, .int v] (PB dC dI sz [(h0, .inr (9, .int (nI tt) :: u1 :: u2 :: u3 :: u4 :: u5 :: u6 :: u7 :: u8 :: u9 :: u10 :: u11 :: u12 :: u13 :: u14 :: u15 :: u16 :: u17 :: u18 :: u19 :: .ref at_ :: u21 :: u22 :: u23 :: u24 :: u25 :: tl)), (at_, .inl (cT, 3000, .inl ft))] [(cT, .byte)])) (va_Qv (S := (Nat → Int32)) (fun _ => True) (fun x t => PW dC dI (va_A [(h0, .inr (9, .int (nI tt) :: u1 :: u2 :: u3 :: u4 :: u5 :: u6 :: u7 :: u8 :: u9 :: u10 :: u11 :: u12 :: u13 :: u14 :: u15 :: u16 :: u17 :: u18 :: u19 :: .ref at_ :: u21 :: u22 :: u23 :: u24 :: u25 :: tl)), (at_, .inl (cT, 3000, .inl ft))] sz) ([(h0, .inr (9, .int (nI (tt + 4)) :: u1 :: u2 :: u3 :: u4 :: u5 :: u6 :: u7 :: u8 :: u9 :: u10 :: u11 :: u12 :: u13 :: u14 :: u15 :: u16 :: u17 :: u18 :: u19 :: .ref at_ :: u21 :: u22 :: u23 :: u24 :: u25 :: tl)), (at_, .inl (cT, 3000, .inl x))]) ([(cT, .byte)]) t) (va_A [(h0, .inr (9, .int (nI tt) :: u1 :: u2 :: u3 :: u4 :: u5 :: u6 :: u7 :: u8 :: u9 :: u10 :: u11 :: u12 :: u13 :: u14 :: u15 :: u16 :: u17 :: u18 :: u19 :: .ref at_ :: u21 :: u22 :: u23 :: u24 :: u25 :: tl)), (at_, .inl (cT, 3000, .inl ft))] sz)) 0 0 (va_A [(h0, .inr (9, .int (nI tt) :: u1 :: u2 :: u3 :: u4 :: u5 :: u6 :: u7 :: u8 :: u9 :: u10 :: u11 :: u12 :: u13 :: u14 :: u15 :: u16 :: u17 :: u18 :: u19 :: .ref at_ :: u21 :: u22 :: u23 :: u24 :: u25 :: tl)), (at_, .inl (cT, 3000, .inl ft))] sz) := by
  refine mbody (y := yX11_put) (av := [.ref h0, .int v]) (b := cX11_put) (n := 2) (ret := none) (Qc := fun A => (va_Qv (S := (Nat → Int32)) (fun _ => True) (fun x t => PW dC dI A ([(h0, .inr (9, .int (nI (tt + 4)) :: u1 :: u2 :: u3 :: u4 :: u5 :: u6 :: u7 :: u8 :: u9 :: u10 :: u11 :: u12 :: u13 :: u14 :: u15 :: u16 :: u17 :: u18 :: u19 :: .ref at_ :: u21 :: u22 :: u23 :: u24 :: u25 :: tl)), (at_, .inl (cT, 3000, .inl x))]) ([(cT, .byte)]) t) A)) (by decide) (Nat.le_of_ble_eq_true rfl) ?_
  intro p e s m below meth c ls A H hf hr hin hlk hw hl
  have hl : lv_has ls 2 [(0, .ref h0), (1, .int v)] := hl
  refine lv_aload_n hf.1 hf.2.1 dX11_put_0 rfl (lv_at hl 0 rfl) ?_
  refine mget hf hw iX11 0 rfl rfl 20 (by decide) k1365 rfl dX11_put_1 ?_
  refine lv_aload_n hf.1 hf.2.1 dX11_put_4 rfl (lv_at hl 0 rfl) ?_
  refine mget hf hw iX11 0 rfl rfl 0 (by decide) k1366 rfl dX11_put_5 ?_
  refine lv_iload_n hf.1 hf.2.1 dX11_put_8 rfl (lv_at hl 1 rfl) ?_
  refine lv_bipush (v := 24) hf.1 hf.2.1 dX11_put_9 (by decide) ?_
  refine lv_ishr hf.1 hf.2.1 dX11_put_11 ?_
  refine lv_topi (fun x_1 ex_1 => ?_)
  refine lv_i2b hf.1 hf.2.1 dX11_put_12 rfl ?_
  refine lv_topi (fun x_2 ex_2 => ?_)
  refine mbast hf hw 1 0 rfl rfl (vp_in_nI (by omega) (by decide)) dX11_put_13 (fun f_3 ef_3 H locs hw => ?_)
  have hw : Wd dC dI A [(h0, .inr (9, .int (nI tt) :: u1 :: u2 :: u3 :: u4 :: u5 :: u6 :: u7 :: u8 :: u9 :: u10 :: u11 :: u12 :: u13 :: u14 :: u15 :: u16 :: u17 :: u18 :: u19 :: .ref at_ :: u21 :: u22 :: u23 :: u24 :: u25 :: tl)), (at_, .inl (cT, 3000, .inl f_3))] [(cT, .byte)] s H locs := hw
  refine lv_aload_n hf.1 hf.2.1 dX11_put_14 rfl (lv_at hl 0 rfl) ?_
  refine mget hf hw iX11 0 rfl rfl 20 (by decide) k1365 rfl dX11_put_15 ?_
  refine lv_aload_n hf.1 hf.2.1 dX11_put_18 rfl (lv_at hl 0 rfl) ?_
  refine mget hf hw iX11 0 rfl rfl 0 (by decide) k1366 rfl dX11_put_19 ?_
  refine lv_iconst (v := 1) hf.1 hf.2.1 dX11_put_22 (by decide) ?_
  refine lv_iadd hf.1 hf.2.1 dX11_put_23 ?_
  refine lv_topi (fun x_4 ex_4 => ?_)
  obtain rfl : x_4 = nI (tt + 1) := by rw [ex_4]; exact nI_add tt 1
  refine lv_iload_n hf.1 hf.2.1 dX11_put_24 rfl (lv_at hl 1 rfl) ?_
  refine lv_bipush (v := 16) hf.1 hf.2.1 dX11_put_25 (by decide) ?_
  refine lv_ishr hf.1 hf.2.1 dX11_put_27 ?_
  refine lv_topi (fun x_5 ex_5 => ?_)
  refine lv_i2b hf.1 hf.2.1 dX11_put_28 rfl ?_
  refine lv_topi (fun x_6 ex_6 => ?_)
  refine mbast hf hw 1 0 rfl rfl (vp_in_nI (by omega) (by decide)) dX11_put_29 (fun f_7 ef_7 H locs hw => ?_)
  have hw : Wd dC dI A [(h0, .inr (9, .int (nI tt) :: u1 :: u2 :: u3 :: u4 :: u5 :: u6 :: u7 :: u8 :: u9 :: u10 :: u11 :: u12 :: u13 :: u14 :: u15 :: u16 :: u17 :: u18 :: u19 :: .ref at_ :: u21 :: u22 :: u23 :: u24 :: u25 :: tl)), (at_, .inl (cT, 3000, .inl f_7))] [(cT, .byte)] s H locs := hw
  refine lv_aload_n hf.1 hf.2.1 dX11_put_30 rfl (lv_at hl 0 rfl) ?_
  refine mget hf hw iX11 0 rfl rfl 20 (by decide) k1365 rfl dX11_put_31 ?_
  refine lv_aload_n hf.1 hf.2.1 dX11_put_34 rfl (lv_at hl 0 rfl) ?_
  refine mget hf hw iX11 0 rfl rfl 0 (by decide) k1366 rfl dX11_put_35 ?_
  refine lv_iconst (v := 2) hf.1 hf.2.1 dX11_put_38 (by decide) ?_
  refine lv_iadd hf.1 hf.2.1 dX11_put_39 ?_
  refine lv_topi (fun x_8 ex_8 => ?_)
  obtain rfl : x_8 = nI (tt + 2) := by rw [ex_8]; exact nI_add tt 2
  refine lv_iload_n hf.1 hf.2.1 dX11_put_40 rfl (lv_at hl 1 rfl) ?_
  refine lv_bipush (v := 8) hf.1 hf.2.1 dX11_put_41 (by decide) ?_
  refine lv_ishr hf.1 hf.2.1 dX11_put_43 ?_
  refine lv_topi (fun x_9 ex_9 => ?_)
  refine lv_i2b hf.1 hf.2.1 dX11_put_44 rfl ?_
  refine lv_topi (fun x_10 ex_10 => ?_)
  refine mbast hf hw 1 0 rfl rfl (vp_in_nI (by omega) (by decide)) dX11_put_45 (fun f_11 ef_11 H locs hw => ?_)
  have hw : Wd dC dI A [(h0, .inr (9, .int (nI tt) :: u1 :: u2 :: u3 :: u4 :: u5 :: u6 :: u7 :: u8 :: u9 :: u10 :: u11 :: u12 :: u13 :: u14 :: u15 :: u16 :: u17 :: u18 :: u19 :: .ref at_ :: u21 :: u22 :: u23 :: u24 :: u25 :: tl)), (at_, .inl (cT, 3000, .inl f_11))] [(cT, .byte)] s H locs := hw
  refine lv_aload_n hf.1 hf.2.1 dX11_put_46 rfl (lv_at hl 0 rfl) ?_
  refine mget hf hw iX11 0 rfl rfl 20 (by decide) k1365 rfl dX11_put_47 ?_
  refine lv_aload_n hf.1 hf.2.1 dX11_put_50 rfl (lv_at hl 0 rfl) ?_
  refine mget hf hw iX11 0 rfl rfl 0 (by decide) k1366 rfl dX11_put_51 ?_
  refine lv_iconst (v := 3) hf.1 hf.2.1 dX11_put_54 (by decide) ?_
  refine lv_iadd hf.1 hf.2.1 dX11_put_55 ?_
  refine lv_topi (fun x_12 ex_12 => ?_)
  obtain rfl : x_12 = nI (tt + 3) := by rw [ex_12]; exact nI_add tt 3
  refine lv_iload_n hf.1 hf.2.1 dX11_put_56 rfl (lv_at hl 1 rfl) ?_
  refine lv_i2b hf.1 hf.2.1 dX11_put_57 rfl ?_
  refine lv_topi (fun x_13 ex_13 => ?_)
  refine mbast hf hw 1 0 rfl rfl (vp_in_nI (by omega) (by decide)) dX11_put_58 (fun f_14 ef_14 H locs hw => ?_)
  have hw : Wd dC dI A [(h0, .inr (9, .int (nI tt) :: u1 :: u2 :: u3 :: u4 :: u5 :: u6 :: u7 :: u8 :: u9 :: u10 :: u11 :: u12 :: u13 :: u14 :: u15 :: u16 :: u17 :: u18 :: u19 :: .ref at_ :: u21 :: u22 :: u23 :: u24 :: u25 :: tl)), (at_, .inl (cT, 3000, .inl f_14))] [(cT, .byte)] s H locs := hw
  refine lv_aload_n hf.1 hf.2.1 dX11_put_59 rfl (lv_at hl 0 rfl) ?_
  refine lv_dup hf.1 hf.2.1 dX11_put_60 rfl ?_
  refine mget hf hw iX11 0 rfl rfl 0 (by decide) k1366 rfl dX11_put_61 ?_
  refine lv_iconst (v := 4) hf.1 hf.2.1 dX11_put_64 (by decide) ?_
  refine lv_iadd hf.1 hf.2.1 dX11_put_65 ?_
  refine lv_topi (fun x_15 ex_15 => ?_)
  obtain rfl : x_15 = nI (tt + 4) := by rw [ex_15]; exact nI_add tt 4
  refine mput hf hw iX11 tyX11 tyX11_ok nmX11 0 rfl rfl 0 (by decide) k1366 rfl rfl rfl (lt_app (K := [.int (nI (tt + 4)), u1, u2, u3, u4, u5, u6, u7, u8, u9, u10, u11, u12, u13, u14, u15, u16, u17, u18, u19, .ref at_, u21, u22, u23, u24, u25]) htl (Nat.le_of_ble_eq_true rfl)) (ws' := [(h0, .inr (9, .int (nI (tt + 4)) :: u1 :: u2 :: u3 :: u4 :: u5 :: u6 :: u7 :: u8 :: u9 :: u10 :: u11 :: u12 :: u13 :: u14 :: u15 :: u16 :: u17 :: u18 :: u19 :: .ref at_ :: u21 :: u22 :: u23 :: u24 :: u25 :: tl)), (at_, .inl (cT, 3000, .inl f_14))]) rfl dX11_put_66 (fun H locs hw => ?_)
  exact mret_v hf hr hlk hw f_14 trivial [0, 1] [0] rfl rfl rfl (Nat.le_of_ble_eq_true rfl) (Nat.le_of_ble_eq_true rfl) dX11_put_69

set_option maxHeartbeats 4000000 in
set_option maxRecDepth 100000 in
theorem m_feed (l : Launch) (dC : Nat → ClassId) (dI : Nat → Nat → Nat) (h0 : Nat) (tl : List Value) (u1 u2 u3 u4 u5 u6 u7 u8 u9 u10 u11 u12 u13 u14 u15 u16 u17 u18 u19 u21 u22 u23 u24 u25 : Value) (at_ : Nat) (cT : ClassId) (ft : Nat → Int32) (v1 v2 v3 v4 v5 : Int32) (sz : Nat) (htl : tl.length = 103) : Met l yX11_feed (wsOf yX11_feed cX11_feed 6 (some .int)) ({ frames := 10, cells := 0, slots := 0, locals := 150 } : Room) (va_Pc [.ref h0, .int v1, .int v2, .int v3, .int v4, .int v5] (PB dC dI sz [(h0, .inr (9, .int 0 :: u1 :: u2 :: u3 :: u4 :: u5 :: u6 :: u7 :: u8 :: u9 :: u10 :: u11 :: u12 :: u13 :: u14 :: u15 :: u16 :: u17 :: u18 :: u19 :: .ref at_ :: u21 :: u22 :: u23 :: u24 :: u25 :: tl)), (at_, .inl (cT, 3000, .inl ft))] [(cT, .byte)])) (va_Qi (S := Unit) (fun r _ => r = 20) (fun x t => PW dC dI (va_A [(h0, .inr (9, .int 0 :: u1 :: u2 :: u3 :: u4 :: u5 :: u6 :: u7 :: u8 :: u9 :: u10 :: u11 :: u12 :: u13 :: u14 :: u15 :: u16 :: u17 :: u18 :: u19 :: .ref at_ :: u21 :: u22 :: u23 :: u24 :: u25 :: tl)), (at_, .inl (cT, 3000, .inl ft))] sz) ([]) ([]) t) (va_A [(h0, .inr (9, .int 0 :: u1 :: u2 :: u3 :: u4 :: u5 :: u6 :: u7 :: u8 :: u9 :: u10 :: u11 :: u12 :: u13 :: u14 :: u15 :: u16 :: u17 :: u18 :: u19 :: .ref at_ :: u21 :: u22 :: u23 :: u24 :: u25 :: tl)), (at_, .inl (cT, 3000, .inl ft))] sz)) 0 0 (va_A [(h0, .inr (9, .int 0 :: u1 :: u2 :: u3 :: u4 :: u5 :: u6 :: u7 :: u8 :: u9 :: u10 :: u11 :: u12 :: u13 :: u14 :: u15 :: u16 :: u17 :: u18 :: u19 :: .ref at_ :: u21 :: u22 :: u23 :: u24 :: u25 :: tl)), (at_, .inl (cT, 3000, .inl ft))] sz) := by
  refine mbody (y := yX11_feed) (av := [.ref h0, .int v1, .int v2, .int v3, .int v4, .int v5]) (b := cX11_feed) (n := 6) (ret := (some .int)) (Qc := fun A => (va_Qi (S := Unit) (fun r _ => r = 20) (fun x t => PW dC dI A ([]) ([]) t) A)) (by decide) (Nat.le_of_ble_eq_true rfl) ?_
  intro p e s m below meth c ls A H hf hr hin hlk hw hl
  have hl : lv_has ls 6 [(0, .ref h0), (1, .int v1), (2, .int v2), (3, .int v3), (4, .int v4), (5, .int v5)] := hl
  refine lv_aload_n hf.1 hf.2.1 dX11_feed_0 rfl (lv_at hl 0 rfl) ?_
  refine mget hf hw iX11 0 rfl rfl 0 (by decide) k1366 rfl dX11_feed_1 ?_
  refine lv_bipush (v := 20) hf.1 hf.2.1 dX11_feed_4 (by decide) ?_
  refine lv_iadd hf.1 hf.2.1 dX11_feed_6 ?_
  refine lv_topi (fun x_1 ex_1 => ?_)
  obtain rfl : x_1 = 20 := by rw [ex_1]; decide
  refine lv_sipush (v := 3000) hf.1 hf.2.1 dX11_feed_7 (by decide) ?_
  refine lv_icmp_le (tgt := 15) hf.1 hf.2.1 dX11_feed_10 (by decide) (fun c_2 => ?_) (fun c_2 => absurd (by decide) c_2)
  refine lv_aload_n hf.1 hf.2.1 dX11_feed_15 rfl (lv_at hl 0 rfl) ?_
  refine lv_iload_n hf.1 hf.2.1 dX11_feed_16 rfl (lv_at hl 1 rfl) ?_
  refine mV_v (As := [.int v1]) (rest := []) (wr := []) (tr := []) hf hw (m_put l dC dI h0 tl u1 u2 u3 u4 u5 u6 u7 u8 u9 u10 u11 u12 u13 u14 u15 u16 u17 u18 u19 u21 u22 u23 u24 u25 at_ cT ft 0 v1 H.size htl (by decide)) ka_X11_put kv_X11_put 0 rfl rfl k1757 [0, 1] [0] [] [] rfl rfl rfl rfl rfl (by decide) rfl rfl rfl hl.1 rfl rfl ⟨Nat.le_of_ble_eq_true rfl, Nat.le_of_ble_eq_true rfl⟩ (Nat.le_of_ble_eq_true rfl) (ce := 0) (sl := 0) rfl rfl ⟨Nat.le_of_ble_eq_true rfl, Nat.le_of_ble_eq_true rfl⟩ dX11_feed_17 (fun f_3 hu_5 H locs hw => ?_)
  have hw : Wd dC dI A [(h0, .inr (9, .int (nI (0 + 4)) :: u1 :: u2 :: u3 :: u4 :: u5 :: u6 :: u7 :: u8 :: u9 :: u10 :: u11 :: u12 :: u13 :: u14 :: u15 :: u16 :: u17 :: u18 :: u19 :: .ref at_ :: u21 :: u22 :: u23 :: u24 :: u25 :: tl)), (at_, .inl (cT, 3000, .inl f_3))] [(cT, .byte)] s H locs := hw
  refine lv_aload_n hf.1 hf.2.1 dX11_feed_20 rfl (lv_at hl 0 rfl) ?_
  refine lv_iload_n hf.1 hf.2.1 dX11_feed_21 rfl (lv_at hl 2 rfl) ?_
  refine mV_v (As := [.int v2]) (rest := []) (wr := []) (tr := []) hf hw (m_put l dC dI h0 tl u1 u2 u3 u4 u5 u6 u7 u8 u9 u10 u11 u12 u13 u14 u15 u16 u17 u18 u19 u21 u22 u23 u24 u25 at_ cT f_3 (0 + 4) v2 H.size htl (by decide)) ka_X11_put kv_X11_put 0 rfl rfl k1757 [0, 1] [0] [] [] rfl rfl rfl rfl rfl (by decide) rfl rfl rfl hl.1 rfl rfl ⟨Nat.le_of_ble_eq_true rfl, Nat.le_of_ble_eq_true rfl⟩ (Nat.le_of_ble_eq_true rfl) (ce := 0) (sl := 0) rfl rfl ⟨Nat.le_of_ble_eq_true rfl, Nat.le_of_ble_eq_true rfl⟩ dX11_feed_22 (fun f_6 hu_8 H locs hw => ?_)
  have hw : Wd dC dI A [(h0, .inr (9, .int (nI ((0 + 4) + 4)) :: u1 :: u2 :: u3 :: u4 :: u5 :: u6 :: u7 :: u8 :: u9 :: u10 :: u11 :: u12 :: u13 :: u14 :: u15 :: u16 :: u17 :: u18 :: u19 :: .ref at_ :: u21 :: u22 :: u23 :: u24 :: u25 :: tl)), (at_, .inl (cT, 3000, .inl f_6))] [(cT, .byte)] s H locs := hw
  refine lv_aload_n hf.1 hf.2.1 dX11_feed_25 rfl (lv_at hl 0 rfl) ?_
  refine lv_iload_n hf.1 hf.2.1 dX11_feed_26 rfl (lv_at hl 3 rfl) ?_
  refine mV_v (As := [.int v3]) (rest := []) (wr := []) (tr := []) hf hw (m_put l dC dI h0 tl u1 u2 u3 u4 u5 u6 u7 u8 u9 u10 u11 u12 u13 u14 u15 u16 u17 u18 u19 u21 u22 u23 u24 u25 at_ cT f_6 (0 + 4 + 4) v3 H.size htl (by decide)) ka_X11_put kv_X11_put 0 rfl rfl k1757 [0, 1] [0] [] [] rfl rfl rfl rfl rfl (by decide) rfl rfl rfl hl.1 rfl rfl ⟨Nat.le_of_ble_eq_true rfl, Nat.le_of_ble_eq_true rfl⟩ (Nat.le_of_ble_eq_true rfl) (ce := 0) (sl := 0) rfl rfl ⟨Nat.le_of_ble_eq_true rfl, Nat.le_of_ble_eq_true rfl⟩ dX11_feed_27 (fun f_9 hu_11 H locs hw => ?_)
  have hw : Wd dC dI A [(h0, .inr (9, .int (nI ((0 + 4 + 4) + 4)) :: u1 :: u2 :: u3 :: u4 :: u5 :: u6 :: u7 :: u8 :: u9 :: u10 :: u11 :: u12 :: u13 :: u14 :: u15 :: u16 :: u17 :: u18 :: u19 :: .ref at_ :: u21 :: u22 :: u23 :: u24 :: u25 :: tl)), (at_, .inl (cT, 3000, .inl f_9))] [(cT, .byte)] s H locs := hw
  refine lv_aload_n hf.1 hf.2.1 dX11_feed_30 rfl (lv_at hl 0 rfl) ?_
  refine lv_iload hf.1 hf.2.1 dX11_feed_31 (lv_at hl 4 rfl) ?_
  refine mV_v (As := [.int v4]) (rest := []) (wr := []) (tr := []) hf hw (m_put l dC dI h0 tl u1 u2 u3 u4 u5 u6 u7 u8 u9 u10 u11 u12 u13 u14 u15 u16 u17 u18 u19 u21 u22 u23 u24 u25 at_ cT f_9 (0 + 4 + 4 + 4) v4 H.size htl (by decide)) ka_X11_put kv_X11_put 0 rfl rfl k1757 [0, 1] [0] [] [] rfl rfl rfl rfl rfl (by decide) rfl rfl rfl hl.1 rfl rfl ⟨Nat.le_of_ble_eq_true rfl, Nat.le_of_ble_eq_true rfl⟩ (Nat.le_of_ble_eq_true rfl) (ce := 0) (sl := 0) rfl rfl ⟨Nat.le_of_ble_eq_true rfl, Nat.le_of_ble_eq_true rfl⟩ dX11_feed_33 (fun f_12 hu_14 H locs hw => ?_)
  have hw : Wd dC dI A [(h0, .inr (9, .int (nI ((0 + 4 + 4 + 4) + 4)) :: u1 :: u2 :: u3 :: u4 :: u5 :: u6 :: u7 :: u8 :: u9 :: u10 :: u11 :: u12 :: u13 :: u14 :: u15 :: u16 :: u17 :: u18 :: u19 :: .ref at_ :: u21 :: u22 :: u23 :: u24 :: u25 :: tl)), (at_, .inl (cT, 3000, .inl f_12))] [(cT, .byte)] s H locs := hw
  refine lv_aload_n hf.1 hf.2.1 dX11_feed_36 rfl (lv_at hl 0 rfl) ?_
  refine lv_iload hf.1 hf.2.1 dX11_feed_37 (lv_at hl 5 rfl) ?_
  refine mV_v (As := [.int v5]) (rest := []) (wr := []) (tr := []) hf hw (m_put l dC dI h0 tl u1 u2 u3 u4 u5 u6 u7 u8 u9 u10 u11 u12 u13 u14 u15 u16 u17 u18 u19 u21 u22 u23 u24 u25 at_ cT f_12 (0 + 4 + 4 + 4 + 4) v5 H.size htl (by decide)) ka_X11_put kv_X11_put 0 rfl rfl k1757 [0, 1] [0] [] [] rfl rfl rfl rfl rfl (by decide) rfl rfl rfl hl.1 rfl rfl ⟨Nat.le_of_ble_eq_true rfl, Nat.le_of_ble_eq_true rfl⟩ (Nat.le_of_ble_eq_true rfl) (ce := 0) (sl := 0) rfl rfl ⟨Nat.le_of_ble_eq_true rfl, Nat.le_of_ble_eq_true rfl⟩ dX11_feed_39 (fun f_15 hu_17 H locs hw => ?_)
  have hw : Wd dC dI A [(h0, .inr (9, .int (nI ((0 + 4 + 4 + 4 + 4) + 4)) :: u1 :: u2 :: u3 :: u4 :: u5 :: u6 :: u7 :: u8 :: u9 :: u10 :: u11 :: u12 :: u13 :: u14 :: u15 :: u16 :: u17 :: u18 :: u19 :: .ref at_ :: u21 :: u22 :: u23 :: u24 :: u25 :: tl)), (at_, .inl (cT, 3000, .inl f_15))] [(cT, .byte)] s H locs := hw
  refine lv_aload_n hf.1 hf.2.1 dX11_feed_42 rfl (lv_at hl 0 rfl) ?_
  refine mget hf hw iX11 0 rfl rfl 0 (by decide) k1366 rfl dX11_feed_43 ?_
  exact mret_i (v := (nI ((0 + 4 + 4 + 4 + 4) + 4))) hf hr hlk hw () (by decide) [] [] rfl rfl rfl (Nat.le_of_ble_eq_true rfl) (Nat.le_of_ble_eq_true rfl) dX11_feed_46

set_option maxHeartbeats 4000000 in
set_option maxRecDepth 100000 in
theorem m_kindOf (l : Launch) (dC : Nat → ClassId) (dI : Nat → Nat → Nat) (h0 : Nat) (tl : List Value) (u0 u1 u2 u3 u4 u5 u6 u7 u8 u9 u10 u11 u13 u15 u16 u17 u18 u19 u20 : Value) (a1 a2 a3 a4 a5 : Nat) (d1 d2 d3 d4 d5 : ClassId) (p1 p2 p3 p4 p5 : Nat → Int32) (s0 li : Int32) (k : Nat) (sz : Nat) (htl : tl.length = 103) (hk : k < 6000) (hs4 : ¬ s0 = 4) (hs5 : ¬ s0 = 5) : Met l yX11_kindOf (wsOf yX11_kindOf cX11_kindOf 7 (some .int)) ({ frames := 6, cells := 0, slots := 0, locals := 90 } : Room) (va_Pc [.ref h0, .int s0, .int 0, .int 0] (PB dC dI sz [(h0, .inr (9, u0 :: u1 :: u2 :: u3 :: u4 :: u5 :: u6 :: u7 :: u8 :: u9 :: u10 :: u11 :: .int (nI k) :: u13 :: .int li :: u15 :: u16 :: u17 :: u18 :: u19 :: u20 :: .ref a1 :: .ref a2 :: .ref a3 :: .ref a4 :: .ref a5 :: tl)), (a1, .inl (d1, 6000, .inl p1)), (a2, .inl (d2, 6000, .inl p2)), (a3, .inl (d3, 6000, .inl p3)), (a4, .inl (d4, 6000, .inl p4)), (a5, .inl (d5, 6000, .inl p5))] [(d1, .int), (d2, .int), (d3, .int), (d4, .int), (d5, .boolean)])) (va_Qi (S := Nat × (Nat → Int32) × (Nat → Int32) × (Nat → Int32) × (Nat → Int32) × (Nat → Int32)) (fun _ x => x.1 ≤ k + 1) (fun x t => PW dC dI (va_A [(h0, .inr (9, u0 :: u1 :: u2 :: u3 :: u4 :: u5 :: u6 :: u7 :: u8 :: u9 :: u10 :: u11 :: .int (nI k) :: u13 :: .int li :: u15 :: u16 :: u17 :: u18 :: u19 :: u20 :: .ref a1 :: .ref a2 :: .ref a3 :: .ref a4 :: .ref a5 :: tl)), (a1, .inl (d1, 6000, .inl p1)), (a2, .inl (d2, 6000, .inl p2)), (a3, .inl (d3, 6000, .inl p3)), (a4, .inl (d4, 6000, .inl p4)), (a5, .inl (d5, 6000, .inl p5))] sz) ([(h0, .inr (9, u0 :: u1 :: u2 :: u3 :: u4 :: u5 :: u6 :: u7 :: u8 :: u9 :: u10 :: u11 :: .int (nI x.1) :: u13 :: .int li :: u15 :: u16 :: u17 :: u18 :: u19 :: u20 :: .ref a1 :: .ref a2 :: .ref a3 :: .ref a4 :: .ref a5 :: tl)), (a1, .inl (d1, 6000, .inl x.2.1)), (a2, .inl (d2, 6000, .inl x.2.2.1)), (a3, .inl (d3, 6000, .inl x.2.2.2.1)), (a4, .inl (d4, 6000, .inl x.2.2.2.2.1)), (a5, .inl (d5, 6000, .inl x.2.2.2.2.2))]) ([(d1, .int), (d2, .int), (d3, .int), (d4, .int), (d5, .boolean)]) t) (va_A [(h0, .inr (9, u0 :: u1 :: u2 :: u3 :: u4 :: u5 :: u6 :: u7 :: u8 :: u9 :: u10 :: u11 :: .int (nI k) :: u13 :: .int li :: u15 :: u16 :: u17 :: u18 :: u19 :: u20 :: .ref a1 :: .ref a2 :: .ref a3 :: .ref a4 :: .ref a5 :: tl)), (a1, .inl (d1, 6000, .inl p1)), (a2, .inl (d2, 6000, .inl p2)), (a3, .inl (d3, 6000, .inl p3)), (a4, .inl (d4, 6000, .inl p4)), (a5, .inl (d5, 6000, .inl p5))] sz)) 0 0 (va_A [(h0, .inr (9, u0 :: u1 :: u2 :: u3 :: u4 :: u5 :: u6 :: u7 :: u8 :: u9 :: u10 :: u11 :: .int (nI k) :: u13 :: .int li :: u15 :: u16 :: u17 :: u18 :: u19 :: u20 :: .ref a1 :: .ref a2 :: .ref a3 :: .ref a4 :: .ref a5 :: tl)), (a1, .inl (d1, 6000, .inl p1)), (a2, .inl (d2, 6000, .inl p2)), (a3, .inl (d3, 6000, .inl p3)), (a4, .inl (d4, 6000, .inl p4)), (a5, .inl (d5, 6000, .inl p5))] sz) := by
  refine mbody (y := yX11_kindOf) (av := [.ref h0, .int s0, .int 0, .int 0]) (b := cX11_kindOf) (n := 7) (ret := (some .int)) (Qc := fun A => (va_Qi (S := Nat × (Nat → Int32) × (Nat → Int32) × (Nat → Int32) × (Nat → Int32) × (Nat → Int32)) (fun _ x => x.1 ≤ k + 1) (fun x t => PW dC dI A ([(h0, .inr (9, u0 :: u1 :: u2 :: u3 :: u4 :: u5 :: u6 :: u7 :: u8 :: u9 :: u10 :: u11 :: .int (nI x.1) :: u13 :: .int li :: u15 :: u16 :: u17 :: u18 :: u19 :: u20 :: .ref a1 :: .ref a2 :: .ref a3 :: .ref a4 :: .ref a5 :: tl)), (a1, .inl (d1, 6000, .inl x.2.1)), (a2, .inl (d2, 6000, .inl x.2.2.1)), (a3, .inl (d3, 6000, .inl x.2.2.2.1)), (a4, .inl (d4, 6000, .inl x.2.2.2.2.1)), (a5, .inl (d5, 6000, .inl x.2.2.2.2.2))]) ([(d1, .int), (d2, .int), (d3, .int), (d4, .int), (d5, .boolean)]) t) A)) (by decide) (Nat.le_of_ble_eq_true rfl) ?_
  intro p e s m below meth c ls A H hf hr hin hlk hw hl
  have hl : lv_has ls 7 [(0, .ref h0), (1, .int s0), (2, .int 0), (3, .int 0)] := hl
  refine lv_iconst (v := 0) hf.1 hf.2.1 dX11_kindOf_0 (by decide) ?_
  refine lv_istore (lv' := [(4, .int 0), (0, .ref h0), (1, .int s0), (2, .int 0), (3, .int 0)]) hf.1 hf.2.1 dX11_kindOf_1 hl (by decide) rfl (fun ls hl => ?_)
  have J109 : ∀ (xx : Int32) (H : Heap) (locs : List Loc) (ls : Array Slot), Wd dC dI A [(h0, .inr (9, u0 :: u1 :: u2 :: u3 :: u4 :: u5 :: u6 :: u7 :: u8 :: u9 :: u10 :: u11 :: .int (nI k) :: u13 :: .int li :: u15 :: u16 :: u17 :: u18 :: u19 :: u20 :: .ref a1 :: .ref a2 :: .ref a3 :: .ref a4 :: .ref a5 :: tl)), (a1, .inl (d1, 6000, .inl p1)), (a2, .inl (d2, 6000, .inl p2)), (a3, .inl (d3, 6000, .inl p3)), (a4, .inl (d4, 6000, .inl p4)), (a5, .inl (d5, 6000, .inl p5))] [(d1, .int), (d2, .int), (d3, .int), (d4, .int), (d5, .boolean)] s H locs → lv_has ls 7 [(4, .int xx), (0, .ref h0), (1, .int s0), (2, .int 0), (3, .int 0)] → W p l e ({ frames := 6, cells := 0, slots := 0, locals := 90 } : Room) s m [.ref h0, .int s0, .int 0, .int 0].toArray below meth c H locs 0 0 (MQ below (va_Qi (S := Nat × (Nat → Int32) × (Nat → Int32) × (Nat → Int32) × (Nat → Int32) × (Nat → Int32)) (fun _ x => x.1 ≤ k + 1) (fun x t => PW dC dI A ([(h0, .inr (9, u0 :: u1 :: u2 :: u3 :: u4 :: u5 :: u6 :: u7 :: u8 :: u9 :: u10 :: u11 :: .int (nI x.1) :: u13 :: .int li :: u15 :: u16 :: u17 :: u18 :: u19 :: u20 :: .ref a1 :: .ref a2 :: .ref a3 :: .ref a4 :: .ref a5 :: tl)), (a1, .inl (d1, 6000, .inl x.2.1)), (a2, .inl (d2, 6000, .inl x.2.2.1)), (a3, .inl (d3, 6000, .inl x.2.2.2.1)), (a4, .inl (d4, 6000, .inl x.2.2.2.2.1)), (a5, .inl (d5, 6000, .inl x.2.2.2.2.2))]) ([(d1, .int), (d2, .int), (d3, .int), (d4, .int), (d5, .boolean)]) t) A) [.ref h0, .int s0, .int 0, .int 0].toArray s 0 0 A) (F0 m 109 ls []) := by
    intro xx H locs ls  hw hl
    refine lv_aload_n hf.1 hf.2.1 dX11_kindOf_109 rfl (lv_at hl 1 rfl) ?_
    refine mget hf hw iX11 0 rfl rfl 12 (by decide) k1382 rfl dX11_kindOf_110 ?_
    refine lv_istore (lv' := [(4, .int (nI k)), (0, .ref h0), (1, .int s0), (2, .int 0), (3, .int 0)]) hf.1 hf.2.1 dX11_kindOf_113 hl (by decide) rfl (fun ls hl => ?_)
    refine lv_aload_n hf.1 hf.2.1 dX11_kindOf_115 rfl (lv_at hl 1 rfl) ?_
    refine lv_dup hf.1 hf.2.1 dX11_kindOf_116 rfl ?_
    refine mget hf hw iX11 0 rfl rfl 12 (by decide) k1382 rfl dX11_kindOf_117 ?_
    refine lv_iconst (v := 1) hf.1 hf.2.1 dX11_kindOf_120 (by decide) ?_
    refine lv_iadd hf.1 hf.2.1 dX11_kindOf_121 ?_
    refine lv_topi (fun x_1 ex_1 => ?_)
    obtain rfl : x_1 = nI (k + 1) := by rw [ex_1, nI_1]
    refine mput hf hw iX11 tyX11 tyX11_ok nmX11 0 rfl rfl 12 (by decide) k1382 rfl rfl rfl (lt_app (K := [u0, u1, u2, u3, u4, u5, u6, u7, u8, u9, u10, u11, .int (nI (k + 1)), u13, .int li, u15, u16, u17, u18, u19, u20, .ref a1, .ref a2, .ref a3, .ref a4, .ref a5]) htl (Nat.le_of_ble_eq_true rfl)) (ws' := [(h0, .inr (9, u0 :: u1 :: u2 :: u3 :: u4 :: u5 :: u6 :: u7 :: u8 :: u9 :: u10 :: u11 :: .int (nI (k + 1)) :: u13 :: .int li :: u15 :: u16 :: u17 :: u18 :: u19 :: u20 :: .ref a1 :: .ref a2 :: .ref a3 :: .ref a4 :: .ref a5 :: tl)), (a1, .inl (d1, 6000, .inl p1)), (a2, .inl (d2, 6000, .inl p2)), (a3, .inl (d3, 6000, .inl p3)), (a4, .inl (d4, 6000, .inl p4)), (a5, .inl (d5, 6000, .inl p5))]) rfl dX11_kindOf_122 (fun H locs hw => ?_)
    refine lv_aload_n hf.1 hf.2.1 dX11_kindOf_125 rfl (lv_at hl 1 rfl) ?_
    refine mget hf hw iX11 0 rfl rfl 21 (by decide) k1384 rfl dX11_kindOf_126 ?_
    refine lv_iload hf.1 hf.2.1 dX11_kindOf_129 (lv_at hl 0 rfl) ?_
    refine lv_iload_n hf.1 hf.2.1 dX11_kindOf_131 rfl (lv_at hl 2 rfl) ?_
    refine miast hf hw 1 0 rfl rfl (vp_in_nI (by omega) (by decide)) dX11_kindOf_132 (fun f_2 ef_2 H locs hw => ?_)
    have hw : Wd dC dI A [(h0, .inr (9, u0 :: u1 :: u2 :: u3 :: u4 :: u5 :: u6 :: u7 :: u8 :: u9 :: u10 :: u11 :: .int (nI (k + 1)) :: u13 :: .int li :: u15 :: u16 :: u17 :: u18 :: u19 :: u20 :: .ref a1 :: .ref a2 :: .ref a3 :: .ref a4 :: .ref a5 :: tl)), (a1, .inl (d1, 6000, .inl f_2)), (a2, .inl (d2, 6000, .inl p2)), (a3, .inl (d3, 6000, .inl p3)), (a4, .inl (d4, 6000, .inl p4)), (a5, .inl (d5, 6000, .inl p5))] [(d1, .int), (d2, .int), (d3, .int), (d4, .int), (d5, .boolean)] s H locs := hw
    refine lv_aload_n hf.1 hf.2.1 dX11_kindOf_133 rfl (lv_at hl 1 rfl) ?_
    refine mget hf hw iX11 0 rfl rfl 22 (by decide) k1385 rfl dX11_kindOf_134 ?_
    refine lv_iload hf.1 hf.2.1 dX11_kindOf_137 (lv_at hl 0 rfl) ?_
    refine lv_iload_n hf.1 hf.2.1 dX11_kindOf_139 rfl (lv_at hl 4 rfl) ?_
    refine miast hf hw 2 1 rfl rfl (vp_in_nI (by omega) (by decide)) dX11_kindOf_140 (fun f_3 ef_3 H locs hw => ?_)
    have hw : Wd dC dI A [(h0, .inr (9, u0 :: u1 :: u2 :: u3 :: u4 :: u5 :: u6 :: u7 :: u8 :: u9 :: u10 :: u11 :: .int (nI (k + 1)) :: u13 :: .int li :: u15 :: u16 :: u17 :: u18 :: u19 :: u20 :: .ref a1 :: .ref a2 :: .ref a3 :: .ref a4 :: .ref a5 :: tl)), (a1, .inl (d1, 6000, .inl f_2)), (a2, .inl (d2, 6000, .inl f_3)), (a3, .inl (d3, 6000, .inl p3)), (a4, .inl (d4, 6000, .inl p4)), (a5, .inl (d5, 6000, .inl p5))] [(d1, .int), (d2, .int), (d3, .int), (d4, .int), (d5, .boolean)] s H locs := hw
    refine lv_aload_n hf.1 hf.2.1 dX11_kindOf_141 rfl (lv_at hl 1 rfl) ?_
    refine mget hf hw iX11 0 rfl rfl 23 (by decide) k1386 rfl dX11_kindOf_142 ?_
    refine lv_iload hf.1 hf.2.1 dX11_kindOf_145 (lv_at hl 0 rfl) ?_
    refine lv_aload_n hf.1 hf.2.1 dX11_kindOf_147 rfl (lv_at hl 1 rfl) ?_
    refine mget hf hw iX11 0 rfl rfl 14 (by decide) k1389 rfl dX11_kindOf_148 ?_
    refine miast hf hw 3 2 rfl rfl (vp_in_nI (by omega) (by decide)) dX11_kindOf_151 (fun f_4 ef_4 H locs hw => ?_)
    have hw : Wd dC dI A [(h0, .inr (9, u0 :: u1 :: u2 :: u3 :: u4 :: u5 :: u6 :: u7 :: u8 :: u9 :: u10 :: u11 :: .int (nI (k + 1)) :: u13 :: .int li :: u15 :: u16 :: u17 :: u18 :: u19 :: u20 :: .ref a1 :: .ref a2 :: .ref a3 :: .ref a4 :: .ref a5 :: tl)), (a1, .inl (d1, 6000, .inl f_2)), (a2, .inl (d2, 6000, .inl f_3)), (a3, .inl (d3, 6000, .inl f_4)), (a4, .inl (d4, 6000, .inl p4)), (a5, .inl (d5, 6000, .inl p5))] [(d1, .int), (d2, .int), (d3, .int), (d4, .int), (d5, .boolean)] s H locs := hw
    refine lv_aload_n hf.1 hf.2.1 dX11_kindOf_152 rfl (lv_at hl 1 rfl) ?_
    refine mget hf hw iX11 0 rfl rfl 25 (by decide) k1388 rfl dX11_kindOf_153 ?_
    refine lv_iload hf.1 hf.2.1 dX11_kindOf_156 (lv_at hl 0 rfl) ?_
    refine lv_iload_n hf.1 hf.2.1 dX11_kindOf_158 rfl (lv_at hl 2 rfl) ?_
    refine lv_iconst (v := 3) hf.1 hf.2.1 dX11_kindOf_159 (by decide) ?_
    refine lv_icmp_ne (tgt := 167) hf.1 hf.2.1 dX11_kindOf_160 (by decide) (fun c_5 => ?_) (fun c_5 => ?_)
    · refine lv_iconst (v := 0) hf.1 hf.2.1 dX11_kindOf_167 (by decide) ?_
      refine mzast hf hw 5 4 rfl rfl (vp_in_nI (by omega) (by decide)) dX11_kindOf_168 (fun f_6 ef_6 H locs hw => ?_)
      have hw : Wd dC dI A [(h0, .inr (9, u0 :: u1 :: u2 :: u3 :: u4 :: u5 :: u6 :: u7 :: u8 :: u9 :: u10 :: u11 :: .int (nI (k + 1)) :: u13 :: .int li :: u15 :: u16 :: u17 :: u18 :: u19 :: u20 :: .ref a1 :: .ref a2 :: .ref a3 :: .ref a4 :: .ref a5 :: tl)), (a1, .inl (d1, 6000, .inl f_2)), (a2, .inl (d2, 6000, .inl f_3)), (a3, .inl (d3, 6000, .inl f_4)), (a4, .inl (d4, 6000, .inl p4)), (a5, .inl (d5, 6000, .inl f_6))] [(d1, .int), (d2, .int), (d3, .int), (d4, .int), (d5, .boolean)] s H locs := hw
      refine lv_iload_n hf.1 hf.2.1 dX11_kindOf_169 rfl (lv_at hl 2 rfl) ?_
      refine lv_iconst (v := 4) hf.1 hf.2.1 dX11_kindOf_170 (by decide) ?_
      refine lv_icmp_ne (tgt := 192) hf.1 hf.2.1 dX11_kindOf_171 (by decide) (fun c_7 => ?_) (fun c_7 => absurd c_7 hs4)
      refine lv_iload_n hf.1 hf.2.1 dX11_kindOf_192 rfl (lv_at hl 2 rfl) ?_
      refine lv_iconst (v := 5) hf.1 hf.2.1 dX11_kindOf_193 (by decide) ?_
      refine lv_icmp_ne (tgt := 206) hf.1 hf.2.1 dX11_kindOf_194 (by decide) (fun c_8 => ?_) (fun c_8 => absurd c_8 hs5)
      refine lv_iload_n hf.1 hf.2.1 dX11_kindOf_206 rfl (lv_at hl 2 rfl) ?_
      refine lv_istore (lv' := [(5, .int s0), (4, .int (nI k)), (0, .ref h0), (1, .int s0), (2, .int 0), (3, .int 0)]) hf.1 hf.2.1 dX11_kindOf_207 hl (by decide) rfl (fun ls hl => ?_)
      refine lv_iconst (v := 0) hf.1 hf.2.1 dX11_kindOf_209 (by decide) ?_
      refine lv_istore (lv' := [(6, .int 0), (5, .int s0), (4, .int (nI k)), (0, .ref h0), (1, .int s0), (2, .int 0), (3, .int 0)]) hf.1 hf.2.1 dX11_kindOf_210 hl (by decide) rfl (fun ls hl => ?_)
      refine lv_iload hf.1 hf.2.1 dX11_kindOf_212 (lv_at hl 0 rfl) ?_
      refine lv_iload_n hf.1 hf.2.1 dX11_kindOf_214 rfl (lv_at hl 6 rfl) ?_
      refine lv_icmp_ge (tgt := 323) hf.1 hf.2.1 dX11_kindOf_215 (by decide) (fun c_9 => ?_) (fun c_9 => absurd (by decide) c_9)
      refine lv_aload_n hf.1 hf.2.1 dX11_kindOf_323 rfl (lv_at hl 3 rfl) ?_
      refine mget hf hw iX11 0 rfl rfl 24 (by decide) k1387 rfl dX11_kindOf_324 ?_
      refine lv_iload hf.1 hf.2.1 dX11_kindOf_327 (lv_at hl 2 rfl) ?_
      refine lv_iload hf.1 hf.2.1 dX11_kindOf_329 (lv_at hl 1 rfl) ?_
      refine miast hf hw 4 3 rfl rfl (vp_in_nI (by omega) (by decide)) dX11_kindOf_331 (fun f_10 ef_10 H locs hw => ?_)
      have hw : Wd dC dI A [(h0, .inr (9, u0 :: u1 :: u2 :: u3 :: u4 :: u5 :: u6 :: u7 :: u8 :: u9 :: u10 :: u11 :: .int (nI (k + 1)) :: u13 :: .int li :: u15 :: u16 :: u17 :: u18 :: u19 :: u20 :: .ref a1 :: .ref a2 :: .ref a3 :: .ref a4 :: .ref a5 :: tl)), (a1, .inl (d1, 6000, .inl f_2)), (a2, .inl (d2, 6000, .inl f_3)), (a3, .inl (d3, 6000, .inl f_4)), (a4, .inl (d4, 6000, .inl f_10)), (a5, .inl (d5, 6000, .inl f_6))] [(d1, .int), (d2, .int), (d3, .int), (d4, .int), (d5, .boolean)] s H locs := hw
      refine lv_iload hf.1 hf.2.1 dX11_kindOf_332 (lv_at hl 2 rfl) ?_
      exact mret_i (v := (nI k)) hf hr hlk hw (k + 1, f_2, f_3, f_4, f_10, f_6) (Nat.le_refl _) [0, 1, 2, 3, 4, 5] [0, 1, 2, 3, 4] rfl rfl rfl (Nat.le_of_ble_eq_true rfl) (Nat.le_of_ble_eq_true rfl) dX11_kindOf_334
    · refine lv_iconst (v := 1) hf.1 hf.2.1 dX11_kindOf_163 (by decide) ?_
      refine lv_goto (tgt := 168) hf.1 hf.2.1 dX11_kindOf_164 (by decide) ?_
      refine mzast hf hw 5 4 rfl rfl (vp_in_nI (by omega) (by decide)) dX11_kindOf_168 (fun f_11 ef_11 H locs hw => ?_)
      have hw : Wd dC dI A [(h0, .inr (9, u0 :: u1 :: u2 :: u3 :: u4 :: u5 :: u6 :: u7 :: u8 :: u9 :: u10 :: u11 :: .int (nI (k + 1)) :: u13 :: .int li :: u15 :: u16 :: u17 :: u18 :: u19 :: u20 :: .ref a1 :: .ref a2 :: .ref a3 :: .ref a4 :: .ref a5 :: tl)), (a1, .inl (d1, 6000, .inl f_2)), (a2, .inl (d2, 6000, .inl f_3)), (a3, .inl (d3, 6000, .inl f_4)), (a4, .inl (d4, 6000, .inl p4)), (a5, .inl (d5, 6000, .inl f_11))] [(d1, .int), (d2, .int), (d3, .int), (d4, .int), (d5, .boolean)] s H locs := hw
      refine lv_iload_n hf.1 hf.2.1 dX11_kindOf_169 rfl (lv_at hl 2 rfl) ?_
      refine lv_iconst (v := 4) hf.1 hf.2.1 dX11_kindOf_170 (by decide) ?_
      refine lv_icmp_ne (tgt := 192) hf.1 hf.2.1 dX11_kindOf_171 (by decide) (fun c_12 => ?_) (fun c_12 => absurd c_12 hs4)
      refine lv_iload_n hf.1 hf.2.1 dX11_kindOf_192 rfl (lv_at hl 2 rfl) ?_
      refine lv_iconst (v := 5) hf.1 hf.2.1 dX11_kindOf_193 (by decide) ?_
      refine lv_icmp_ne (tgt := 206) hf.1 hf.2.1 dX11_kindOf_194 (by decide) (fun c_13 => ?_) (fun c_13 => absurd c_13 hs5)
      refine lv_iload_n hf.1 hf.2.1 dX11_kindOf_206 rfl (lv_at hl 2 rfl) ?_
      refine lv_istore (lv' := [(5, .int s0), (4, .int (nI k)), (0, .ref h0), (1, .int s0), (2, .int 0), (3, .int 0)]) hf.1 hf.2.1 dX11_kindOf_207 hl (by decide) rfl (fun ls hl => ?_)
      refine lv_iconst (v := 0) hf.1 hf.2.1 dX11_kindOf_209 (by decide) ?_
      refine lv_istore (lv' := [(6, .int 0), (5, .int s0), (4, .int (nI k)), (0, .ref h0), (1, .int s0), (2, .int 0), (3, .int 0)]) hf.1 hf.2.1 dX11_kindOf_210 hl (by decide) rfl (fun ls hl => ?_)
      refine lv_iload hf.1 hf.2.1 dX11_kindOf_212 (lv_at hl 0 rfl) ?_
      refine lv_iload_n hf.1 hf.2.1 dX11_kindOf_214 rfl (lv_at hl 6 rfl) ?_
      refine lv_icmp_ge (tgt := 323) hf.1 hf.2.1 dX11_kindOf_215 (by decide) (fun c_14 => ?_) (fun c_14 => absurd (by decide) c_14)
      refine lv_aload_n hf.1 hf.2.1 dX11_kindOf_323 rfl (lv_at hl 3 rfl) ?_
      refine mget hf hw iX11 0 rfl rfl 24 (by decide) k1387 rfl dX11_kindOf_324 ?_
      refine lv_iload hf.1 hf.2.1 dX11_kindOf_327 (lv_at hl 2 rfl) ?_
      refine lv_iload hf.1 hf.2.1 dX11_kindOf_329 (lv_at hl 1 rfl) ?_
      refine miast hf hw 4 3 rfl rfl (vp_in_nI (by omega) (by decide)) dX11_kindOf_331 (fun f_15 ef_15 H locs hw => ?_)
      have hw : Wd dC dI A [(h0, .inr (9, u0 :: u1 :: u2 :: u3 :: u4 :: u5 :: u6 :: u7 :: u8 :: u9 :: u10 :: u11 :: .int (nI (k + 1)) :: u13 :: .int li :: u15 :: u16 :: u17 :: u18 :: u19 :: u20 :: .ref a1 :: .ref a2 :: .ref a3 :: .ref a4 :: .ref a5 :: tl)), (a1, .inl (d1, 6000, .inl f_2)), (a2, .inl (d2, 6000, .inl f_3)), (a3, .inl (d3, 6000, .inl f_4)), (a4, .inl (d4, 6000, .inl f_15)), (a5, .inl (d5, 6000, .inl f_11))] [(d1, .int), (d2, .int), (d3, .int), (d4, .int), (d5, .boolean)] s H locs := hw
      refine lv_iload hf.1 hf.2.1 dX11_kindOf_332 (lv_at hl 2 rfl) ?_
      exact mret_i (v := (nI k)) hf hr hlk hw (k + 1, f_2, f_3, f_4, f_15, f_11) (Nat.le_refl _) [0, 1, 2, 3, 4, 5] [0, 1, 2, 3, 4] rfl rfl rfl (Nat.le_of_ble_eq_true rfl) (Nat.le_of_ble_eq_true rfl) dX11_kindOf_334
  have loop : ∀ (N : Nat) (i : Nat) (H : Heap) (locs : List Loc) (ls : Array Slot), k - i < N → i ≤ k → Wd dC dI A [(h0, .inr (9, u0 :: u1 :: u2 :: u3 :: u4 :: u5 :: u6 :: u7 :: u8 :: u9 :: u10 :: u11 :: .int (nI k) :: u13 :: .int li :: u15 :: u16 :: u17 :: u18 :: u19 :: u20 :: .ref a1 :: .ref a2 :: .ref a3 :: .ref a4 :: .ref a5 :: tl)), (a1, .inl (d1, 6000, .inl p1)), (a2, .inl (d2, 6000, .inl p2)), (a3, .inl (d3, 6000, .inl p3)), (a4, .inl (d4, 6000, .inl p4)), (a5, .inl (d5, 6000, .inl p5))] [(d1, .int), (d2, .int), (d3, .int), (d4, .int), (d5, .boolean)] s H locs → lv_has ls 7 [(4, .int (nI i)), (0, .ref h0), (1, .int s0), (2, .int 0), (3, .int 0)] → W p l e ({ frames := 6, cells := 0, slots := 0, locals := 90 } : Room) s m [.ref h0, .int s0, .int 0, .int 0].toArray below meth c H locs 0 0 (MQ below (va_Qi (S := Nat × (Nat → Int32) × (Nat → Int32) × (Nat → Int32) × (Nat → Int32) × (Nat → Int32)) (fun _ x => x.1 ≤ k + 1) (fun x t => PW dC dI A ([(h0, .inr (9, u0 :: u1 :: u2 :: u3 :: u4 :: u5 :: u6 :: u7 :: u8 :: u9 :: u10 :: u11 :: .int (nI x.1) :: u13 :: .int li :: u15 :: u16 :: u17 :: u18 :: u19 :: u20 :: .ref a1 :: .ref a2 :: .ref a3 :: .ref a4 :: .ref a5 :: tl)), (a1, .inl (d1, 6000, .inl x.2.1)), (a2, .inl (d2, 6000, .inl x.2.2.1)), (a3, .inl (d3, 6000, .inl x.2.2.2.1)), (a4, .inl (d4, 6000, .inl x.2.2.2.2.1)), (a5, .inl (d5, 6000, .inl x.2.2.2.2.2))]) ([(d1, .int), (d2, .int), (d3, .int), (d4, .int), (d5, .boolean)]) t) A) [.ref h0, .int s0, .int 0, .int 0].toArray s 0 0 A) (F0 m 3 ls []) := by
    intro N
    induction N with
    | zero => intro i H locs ls hm; exact absurd hm (Nat.not_lt_zero _)
    | succ N ih =>
      intro i H locs ls hm hi4 hw hl
      refine lv_iload hf.1 hf.2.1 dX11_kindOf_3 (lv_at hl 0 rfl) ?_
      refine lv_aload_n hf.1 hf.2.1 dX11_kindOf_5 rfl (lv_at hl 1 rfl) ?_
      refine mget hf hw iX11 0 rfl rfl 12 (by decide) k1382 rfl dX11_kindOf_6 ?_
      refine lv_icmp_ge (tgt := 109) hf.1 hf.2.1 dX11_kindOf_9 (by decide) (fun c_16 => ?_) (fun c_16 => ?_)
      · exact J109 (nI i) _ _ _  hw (lv_sub hl [0, 1, 2, 3, 4] rfl)
      · have hi : i < k := (nI_ltI (by omega) (by omega)).mp (Int32.not_le.mp c_16)
        have J39 : ∀ (same : Int32) (H : Heap) (locs : List Loc) (ls : Array Slot), Wd dC dI A [(h0, .inr (9, u0 :: u1 :: u2 :: u3 :: u4 :: u5 :: u6 :: u7 :: u8 :: u9 :: u10 :: u11 :: .int (nI k) :: u13 :: .int li :: u15 :: u16 :: u17 :: u18 :: u19 :: u20 :: .ref a1 :: .ref a2 :: .ref a3 :: .ref a4 :: .ref a5 :: tl)), (a1, .inl (d1, 6000, .inl p1)), (a2, .inl (d2, 6000, .inl p2)), (a3, .inl (d3, 6000, .inl p3)), (a4, .inl (d4, 6000, .inl p4)), (a5, .inl (d5, 6000, .inl p5))] [(d1, .int), (d2, .int), (d3, .int), (d4, .int), (d5, .boolean)] s H locs → lv_has ls 7 [(4, .int (nI i)), (0, .ref h0), (1, .int s0), (2, .int 0), (3, .int 0)] → W p l e ({ frames := 6, cells := 0, slots := 0, locals := 90 } : Room) s m [.ref h0, .int s0, .int 0, .int 0].toArray below meth c H locs 0 0 (MQ below (va_Qi (S := Nat × (Nat → Int32) × (Nat → Int32) × (Nat → Int32) × (Nat → Int32) × (Nat → Int32)) (fun _ x => x.1 ≤ k + 1) (fun x t => PW dC dI A ([(h0, .inr (9, u0 :: u1 :: u2 :: u3 :: u4 :: u5 :: u6 :: u7 :: u8 :: u9 :: u10 :: u11 :: .int (nI x.1) :: u13 :: .int li :: u15 :: u16 :: u17 :: u18 :: u19 :: u20 :: .ref a1 :: .ref a2 :: .ref a3 :: .ref a4 :: .ref a5 :: tl)), (a1, .inl (d1, 6000, .inl x.2.1)), (a2, .inl (d2, 6000, .inl x.2.2.1)), (a3, .inl (d3, 6000, .inl x.2.2.2.1)), (a4, .inl (d4, 6000, .inl x.2.2.2.2.1)), (a5, .inl (d5, 6000, .inl x.2.2.2.2.2))]) ([(d1, .int), (d2, .int), (d3, .int), (d4, .int), (d5, .boolean)]) t) A) [.ref h0, .int s0, .int 0, .int 0].toArray s 0 0 A) (F0 m 39 ls [.int same]) := by
          intro same H locs ls  hw hl
          refine lv_istore (lv' := [(5, .int same), (4, .int (nI i)), (0, .ref h0), (1, .int s0), (2, .int 0), (3, .int 0)]) hf.1 hf.2.1 dX11_kindOf_39 hl (by decide) rfl (fun ls hl => ?_)
          refine lv_iconst (v := 0) hf.1 hf.2.1 dX11_kindOf_41 (by decide) ?_
          refine lv_istore (lv' := [(6, .int 0), (5, .int same), (4, .int (nI i)), (0, .ref h0), (1, .int s0), (2, .int 0), (3, .int 0)]) hf.1 hf.2.1 dX11_kindOf_42 hl (by decide) rfl (fun ls hl => ?_)
          refine lv_iload hf.1 hf.2.1 dX11_kindOf_44 (lv_at hl 0 rfl) ?_
          refine lv_iload_n hf.1 hf.2.1 dX11_kindOf_46 rfl (lv_at hl 6 rfl) ?_
          refine lv_icmp_ge (tgt := 95) hf.1 hf.2.1 dX11_kindOf_47 (by decide) (fun c_17 => ?_) (fun c_17 => absurd (by decide) c_17)
          refine lv_iload hf.1 hf.2.1 dX11_kindOf_95 (lv_at hl 1 rfl) ?_
          refine lv_if_eq (tgt := 103) hf.1 hf.2.1 dX11_kindOf_97 (by decide) (fun c_18 => ?_) (fun c_18 => ?_)
          · obtain ⟨x_19, ex_19⟩ : ∃ y : Int32, y = (nI i) + 1 := ⟨_, rfl⟩
            refine lv_iinc (v := x_19) (lv' := [(4, .int x_19), (6, .int 0), (5, .int same), (0, .ref h0), (1, .int s0), (2, .int 0), (3, .int 0)]) hf.1 hf.2.1 dX11_kindOf_103 hl (k := 2) rfl (by rw [ex_19]; rfl) (by decide) rfl (fun ls hl => ?_)
            obtain rfl : x_19 = nI (i + 1) := by rw [ex_19, nI_1]
            refine lv_goto (tgt := 3) hf.1 hf.2.1 dX11_kindOf_106 (by decide) ?_
            exact ih (i + 1) _ _ _ (by omega) (by omega) hw (lv_sub hl [0, 3, 4, 5, 6] rfl)
          · refine lv_iload hf.1 hf.2.1 dX11_kindOf_100 (lv_at hl 2 rfl) ?_
            exact mret_i (v := (nI i)) hf hr hlk hw (k, p1, p2, p3, p4, p5) (Nat.le_succ _) [0, 1, 2, 3, 4, 5] [0, 1, 2, 3, 4] rfl rfl rfl (Nat.le_of_ble_eq_true rfl) (Nat.le_of_ble_eq_true rfl) dX11_kindOf_102
        refine lv_aload_n hf.1 hf.2.1 dX11_kindOf_12 rfl (lv_at hl 1 rfl) ?_
        refine mget hf hw iX11 0 rfl rfl 21 (by decide) k1384 rfl dX11_kindOf_13 ?_
        refine lv_iload hf.1 hf.2.1 dX11_kindOf_16 (lv_at hl 0 rfl) ?_
        refine miald hf hw 1 0 rfl rfl (vp_in_nI (by omega) (by decide)) dX11_kindOf_18 ?_
        refine lv_topi (fun x_20 ex_20 => ?_)
        refine lv_iload_n hf.1 hf.2.1 dX11_kindOf_19 rfl (lv_at hl 2 rfl) ?_
        refine lv_icmp_ne (tgt := 38) hf.1 hf.2.1 dX11_kindOf_20 (by decide) (fun c_21 => ?_) (fun c_21 => ?_)
        · refine lv_iconst (v := 0) hf.1 hf.2.1 dX11_kindOf_38 (by decide) ?_
          exact J39 _ _ _ _ hw (lv_sub hl [0, 1, 2, 3, 4] rfl)
        · refine lv_aload_n hf.1 hf.2.1 dX11_kindOf_23 rfl (lv_at hl 1 rfl) ?_
          refine mget hf hw iX11 0 rfl rfl 22 (by decide) k1385 rfl dX11_kindOf_24 ?_
          refine lv_iload hf.1 hf.2.1 dX11_kindOf_27 (lv_at hl 0 rfl) ?_
          refine miald hf hw 2 1 rfl rfl (vp_in_nI (by omega) (by decide)) dX11_kindOf_29 ?_
          refine lv_topi (fun x_22 ex_22 => ?_)
          refine lv_iload_n hf.1 hf.2.1 dX11_kindOf_30 rfl (lv_at hl 4 rfl) ?_
          refine lv_icmp_ne (tgt := 38) hf.1 hf.2.1 dX11_kindOf_31 (by decide) (fun c_23 => ?_) (fun c_23 => ?_)
          · refine lv_iconst (v := 0) hf.1 hf.2.1 dX11_kindOf_38 (by decide) ?_
            exact J39 _ _ _ _ hw (lv_sub hl [0, 1, 2, 3, 4] rfl)
          · refine lv_iconst (v := 1) hf.1 hf.2.1 dX11_kindOf_34 (by decide) ?_
            refine lv_goto (tgt := 39) hf.1 hf.2.1 dX11_kindOf_35 (by decide) ?_
            exact J39 _ _ _ _ hw (lv_sub hl [0, 1, 2, 3, 4] rfl)
  exact loop (k + 1) 0 _ _ _ (by omega) (Nat.zero_le _) hw (lv_sub hl [0, 1, 2, 3, 4] rfl)

set_option maxHeartbeats 4000000 in
set_option maxRecDepth 100000 in
theorem m_kinds (l : Launch) (dC : Nat → ClassId) (dI : Nat → Nat → Nat) (h0 : Nat) (tl : List Value) (u0 u1 u2 u3 u4 u5 u6 u7 u8 u9 u10 u11 u13 u15 u16 u17 u18 u19 u20 : Value) (a1 a2 a3 a4 a5 : Nat) (d1 d2 d3 d4 d5 : ClassId) (p1 p2 p3 p4 p5 : Nat → Int32) (ki li : Value) (sz : Nat) (htl : tl.length = 103) : Met l yX11_kinds (wsOf yX11_kinds cX11_kinds 2 none) ({ frames := 10, cells := 0, slots := 0, locals := 150 } : Room) (va_Pc [.ref h0, .int 0] (PB dC dI sz [(h0, .inr (9, u0 :: u1 :: u2 :: u3 :: u4 :: u5 :: u6 :: u7 :: u8 :: u9 :: u10 :: u11 :: ki :: u13 :: li :: u15 :: u16 :: u17 :: u18 :: u19 :: u20 :: .ref a1 :: .ref a2 :: .ref a3 :: .ref a4 :: .ref a5 :: tl)), (a1, .inl (d1, 6000, .inl p1)), (a2, .inl (d2, 6000, .inl p2)), (a3, .inl (d3, 6000, .inl p3)), (a4, .inl (d4, 6000, .inl p4)), (a5, .inl (d5, 6000, .inl p5))] [(d1, .int), (d2, .int), (d3, .int), (d4, .int), (d5, .boolean)])) (va_Qv (S := Nat × (Nat → Int32) × (Nat → Int32) × (Nat → Int32) × (Nat → Int32) × (Nat → Int32)) (fun x => x.1 ≤ 3) (fun x t => PW dC dI (va_A [(h0, .inr (9, u0 :: u1 :: u2 :: u3 :: u4 :: u5 :: u6 :: u7 :: u8 :: u9 :: u10 :: u11 :: ki :: u13 :: li :: u15 :: u16 :: u17 :: u18 :: u19 :: u20 :: .ref a1 :: .ref a2 :: .ref a3 :: .ref a4 :: .ref a5 :: tl)), (a1, .inl (d1, 6000, .inl p1)), (a2, .inl (d2, 6000, .inl p2)), (a3, .inl (d3, 6000, .inl p3)), (a4, .inl (d4, 6000, .inl p4)), (a5, .inl (d5, 6000, .inl p5))] sz) ([(h0, .inr (9, u0 :: u1 :: u2 :: u3 :: u4 :: u5 :: u6 :: u7 :: u8 :: u9 :: u10 :: u11 :: .int (nI x.1) :: u13 :: .int 0 :: u15 :: u16 :: u17 :: u18 :: u19 :: u20 :: .ref a1 :: .ref a2 :: .ref a3 :: .ref a4 :: .ref a5 :: tl)), (a1, .inl (d1, 6000, .inl x.2.1)), (a2, .inl (d2, 6000, .inl x.2.2.1)), (a3, .inl (d3, 6000, .inl x.2.2.2.1)), (a4, .inl (d4, 6000, .inl x.2.2.2.2.1)), (a5, .inl (d5, 6000, .inl x.2.2.2.2.2))]) ([(d1, .int), (d2, .int), (d3, .int), (d4, .int), (d5, .boolean)]) t) (va_A [(h0, .inr (9, u0 :: u1 :: u2 :: u3 :: u4 :: u5 :: u6 :: u7 :: u8 :: u9 :: u10 :: u11 :: ki :: u13 :: li :: u15 :: u16 :: u17 :: u18 :: u19 :: u20 :: .ref a1 :: .ref a2 :: .ref a3 :: .ref a4 :: .ref a5 :: tl)), (a1, .inl (d1, 6000, .inl p1)), (a2, .inl (d2, 6000, .inl p2)), (a3, .inl (d3, 6000, .inl p3)), (a4, .inl (d4, 6000, .inl p4)), (a5, .inl (d5, 6000, .inl p5))] sz)) 0 0 (va_A [(h0, .inr (9, u0 :: u1 :: u2 :: u3 :: u4 :: u5 :: u6 :: u7 :: u8 :: u9 :: u10 :: u11 :: ki :: u13 :: li :: u15 :: u16 :: u17 :: u18 :: u19 :: u20 :: .ref a1 :: .ref a2 :: .ref a3 :: .ref a4 :: .ref a5 :: tl)), (a1, .inl (d1, 6000, .inl p1)), (a2, .inl (d2, 6000, .inl p2)), (a3, .inl (d3, 6000, .inl p3)), (a4, .inl (d4, 6000, .inl p4)), (a5, .inl (d5, 6000, .inl p5))] sz) := by
  refine mbody (y := yX11_kinds) (av := [.ref h0, .int 0]) (b := cX11_kinds) (n := 2) (ret := none) (Qc := fun A => (va_Qv (S := Nat × (Nat → Int32) × (Nat → Int32) × (Nat → Int32) × (Nat → Int32) × (Nat → Int32)) (fun x => x.1 ≤ 3) (fun x t => PW dC dI A ([(h0, .inr (9, u0 :: u1 :: u2 :: u3 :: u4 :: u5 :: u6 :: u7 :: u8 :: u9 :: u10 :: u11 :: .int (nI x.1) :: u13 :: .int 0 :: u15 :: u16 :: u17 :: u18 :: u19 :: u20 :: .ref a1 :: .ref a2 :: .ref a3 :: .ref a4 :: .ref a5 :: tl)), (a1, .inl (d1, 6000, .inl x.2.1)), (a2, .inl (d2, 6000, .inl x.2.2.1)), (a3, .inl (d3, 6000, .inl x.2.2.2.1)), (a4, .inl (d4, 6000, .inl x.2.2.2.2.1)), (a5, .inl (d5, 6000, .inl x.2.2.2.2.2))]) ([(d1, .int), (d2, .int), (d3, .int), (d4, .int), (d5, .boolean)]) t) A)) (by decide) (Nat.le_of_ble_eq_true rfl) ?_
  intro p e s m below meth c ls A H hf hr hin hlk hw hl
  have hl : lv_has ls 2 [(0, .ref h0), (1, .int 0)] := hl
  refine lv_aload_n hf.1 hf.2.1 dX11_kinds_0 rfl (lv_at hl 0 rfl) ?_
  refine lv_iload_n hf.1 hf.2.1 dX11_kinds_1 rfl (lv_at hl 1 rfl) ?_
  refine mput hf hw iX11 tyX11 tyX11_ok nmX11 0 rfl rfl 12 (by decide) k1382 rfl rfl rfl (lt_app (K := [u0, u1, u2, u3, u4, u5, u6, u7, u8, u9, u10, u11, .int 0, u13, li, u15, u16, u17, u18, u19, u20, .ref a1, .ref a2, .ref a3, .ref a4, .ref a5]) htl (Nat.le_of_ble_eq_true rfl)) (ws' := [(h0, .inr (9, u0 :: u1 :: u2 :: u3 :: u4 :: u5 :: u6 :: u7 :: u8 :: u9 :: u10 :: u11 :: .int 0 :: u13 :: li :: u15 :: u16 :: u17 :: u18 :: u19 :: u20 :: .ref a1 :: .ref a2 :: .ref a3 :: .ref a4 :: .ref a5 :: tl)), (a1, .inl (d1, 6000, .inl p1)), (a2, .inl (d2, 6000, .inl p2)), (a3, .inl (d3, 6000, .inl p3)), (a4, .inl (d4, 6000, .inl p4)), (a5, .inl (d5, 6000, .inl p5))]) rfl dX11_kinds_2 (fun H locs hw => ?_)
  refine lv_aload_n hf.1 hf.2.1 dX11_kinds_5 rfl (lv_at hl 0 rfl) ?_
  refine lv_iconst (v := 0) hf.1 hf.2.1 dX11_kinds_6 (by decide) ?_
  refine mput hf hw iX11 tyX11 tyX11_ok nmX11 0 rfl rfl 14 (by decide) k1389 rfl rfl rfl (lt_app (K := [u0, u1, u2, u3, u4, u5, u6, u7, u8, u9, u10, u11, .int 0, u13, .int 0, u15, u16, u17, u18, u19, u20, .ref a1, .ref a2, .ref a3, .ref a4, .ref a5]) htl (Nat.le_of_ble_eq_true rfl)) (ws' := [(h0, .inr (9, u0 :: u1 :: u2 :: u3 :: u4 :: u5 :: u6 :: u7 :: u8 :: u9 :: u10 :: u11 :: .int 0 :: u13 :: .int 0 :: u15 :: u16 :: u17 :: u18 :: u19 :: u20 :: .ref a1 :: .ref a2 :: .ref a3 :: .ref a4 :: .ref a5 :: tl)), (a1, .inl (d1, 6000, .inl p1)), (a2, .inl (d2, 6000, .inl p2)), (a3, .inl (d3, 6000, .inl p3)), (a4, .inl (d4, 6000, .inl p4)), (a5, .inl (d5, 6000, .inl p5))]) rfl dX11_kinds_7 (fun H locs hw => ?_)
  refine lv_aload_n hf.1 hf.2.1 dX11_kinds_10 rfl (lv_at hl 0 rfl) ?_
  refine lv_iconst (v := 1) hf.1 hf.2.1 dX11_kinds_11 (by decide) ?_
  refine lv_iconst (v := 0) hf.1 hf.2.1 dX11_kinds_12 (by decide) ?_
  refine lv_iconst (v := 0) hf.1 hf.2.1 dX11_kinds_13 (by decide) ?_
  refine mV_i (As := [.int 1, .int 0, .int 0]) (rest := []) (wr := []) (tr := []) hf hw (m_kindOf l dC dI h0 tl u0 u1 u2 u3 u4 u5 u6 u7 u8 u9 u10 u11 u13 u15 u16 u17 u18 u19 u20 a1 a2 a3 a4 a5 d1 d2 d3 d4 d5 p1 p2 p3 p4 p5 1 0 0 H.size htl (by omega) (by decide) (by decide)) ka_X11_kindOf kv_X11_kindOf 0 rfl rfl k1361 [0, 1, 2, 3, 4, 5] [0, 1, 2, 3, 4] [] [] rfl rfl rfl rfl rfl (by decide) rfl rfl rfl hl.1 rfl rfl ⟨Nat.le_of_ble_eq_true rfl, Nat.le_of_ble_eq_true rfl⟩ (Nat.le_of_ble_eq_true rfl) (ce := 0) (sl := 0) rfl rfl ⟨Nat.le_of_ble_eq_true rfl, Nat.le_of_ble_eq_true rfl⟩ dX11_kinds_14 (fun r_8 u_9 hm_7 H locs hw => ?_)
  obtain ⟨n_1, g_2, g_3, g_4, g_5, g_6⟩ := u_9
  have hw : Wd dC dI A [(h0, .inr (9, u0 :: u1 :: u2 :: u3 :: u4 :: u5 :: u6 :: u7 :: u8 :: u9 :: u10 :: u11 :: .int (nI n_1) :: u13 :: .int 0 :: u15 :: u16 :: u17 :: u18 :: u19 :: u20 :: .ref a1 :: .ref a2 :: .ref a3 :: .ref a4 :: .ref a5 :: tl)), (a1, .inl (d1, 6000, .inl g_2)), (a2, .inl (d2, 6000, .inl g_3)), (a3, .inl (d3, 6000, .inl g_4)), (a4, .inl (d4, 6000, .inl g_5)), (a5, .inl (d5, 6000, .inl g_6))] [(d1, .int), (d2, .int), (d3, .int), (d4, .int), (d5, .boolean)] s H locs := hw
  refine lv_pop hf.1 hf.2.1 dX11_kinds_17 rfl ?_
  refine lv_aload_n hf.1 hf.2.1 dX11_kinds_18 rfl (lv_at hl 0 rfl) ?_
  refine lv_iconst (v := 2) hf.1 hf.2.1 dX11_kinds_19 (by decide) ?_
  refine lv_iconst (v := 0) hf.1 hf.2.1 dX11_kinds_20 (by decide) ?_
  refine lv_iconst (v := 0) hf.1 hf.2.1 dX11_kinds_21 (by decide) ?_
  refine mV_i (As := [.int 2, .int 0, .int 0]) (rest := []) (wr := []) (tr := []) hf hw (m_kindOf l dC dI h0 tl u0 u1 u2 u3 u4 u5 u6 u7 u8 u9 u10 u11 u13 u15 u16 u17 u18 u19 u20 a1 a2 a3 a4 a5 d1 d2 d3 d4 d5 g_2 g_3 g_4 g_5 g_6 2 0 n_1 H.size htl (by omega) (by decide) (by decide)) ka_X11_kindOf kv_X11_kindOf 0 rfl rfl k1361 [0, 1, 2, 3, 4, 5] [0, 1, 2, 3, 4] [] [] rfl rfl rfl rfl rfl (by decide) rfl rfl rfl hl.1 rfl rfl ⟨Nat.le_of_ble_eq_true rfl, Nat.le_of_ble_eq_true rfl⟩ (Nat.le_of_ble_eq_true rfl) (ce := 0) (sl := 0) rfl rfl ⟨Nat.le_of_ble_eq_true rfl, Nat.le_of_ble_eq_true rfl⟩ dX11_kinds_22 (fun r_17 u_18 hm_16 H locs hw => ?_)
  obtain ⟨n_10, g_11, g_12, g_13, g_14, g_15⟩ := u_18
  have hw : Wd dC dI A [(h0, .inr (9, u0 :: u1 :: u2 :: u3 :: u4 :: u5 :: u6 :: u7 :: u8 :: u9 :: u10 :: u11 :: .int (nI n_10) :: u13 :: .int 0 :: u15 :: u16 :: u17 :: u18 :: u19 :: u20 :: .ref a1 :: .ref a2 :: .ref a3 :: .ref a4 :: .ref a5 :: tl)), (a1, .inl (d1, 6000, .inl g_11)), (a2, .inl (d2, 6000, .inl g_12)), (a3, .inl (d3, 6000, .inl g_13)), (a4, .inl (d4, 6000, .inl g_14)), (a5, .inl (d5, 6000, .inl g_15))] [(d1, .int), (d2, .int), (d3, .int), (d4, .int), (d5, .boolean)] s H locs := hw
  refine lv_pop hf.1 hf.2.1 dX11_kinds_25 rfl ?_
  refine lv_aload_n hf.1 hf.2.1 dX11_kinds_26 rfl (lv_at hl 0 rfl) ?_
  refine lv_iconst (v := 3) hf.1 hf.2.1 dX11_kinds_27 (by decide) ?_
  refine lv_iconst (v := 0) hf.1 hf.2.1 dX11_kinds_28 (by decide) ?_
  refine lv_iconst (v := 0) hf.1 hf.2.1 dX11_kinds_29 (by decide) ?_
  refine mV_i (As := [.int 3, .int 0, .int 0]) (rest := []) (wr := []) (tr := []) hf hw (m_kindOf l dC dI h0 tl u0 u1 u2 u3 u4 u5 u6 u7 u8 u9 u10 u11 u13 u15 u16 u17 u18 u19 u20 a1 a2 a3 a4 a5 d1 d2 d3 d4 d5 g_11 g_12 g_13 g_14 g_15 3 0 n_10 H.size htl (by omega) (by decide) (by decide)) ka_X11_kindOf kv_X11_kindOf 0 rfl rfl k1361 [0, 1, 2, 3, 4, 5] [0, 1, 2, 3, 4] [] [] rfl rfl rfl rfl rfl (by decide) rfl rfl rfl hl.1 rfl rfl ⟨Nat.le_of_ble_eq_true rfl, Nat.le_of_ble_eq_true rfl⟩ (Nat.le_of_ble_eq_true rfl) (ce := 0) (sl := 0) rfl rfl ⟨Nat.le_of_ble_eq_true rfl, Nat.le_of_ble_eq_true rfl⟩ dX11_kinds_30 (fun r_26 u_27 hm_25 H locs hw => ?_)
  obtain ⟨n_19, g_20, g_21, g_22, g_23, g_24⟩ := u_27
  have hw : Wd dC dI A [(h0, .inr (9, u0 :: u1 :: u2 :: u3 :: u4 :: u5 :: u6 :: u7 :: u8 :: u9 :: u10 :: u11 :: .int (nI n_19) :: u13 :: .int 0 :: u15 :: u16 :: u17 :: u18 :: u19 :: u20 :: .ref a1 :: .ref a2 :: .ref a3 :: .ref a4 :: .ref a5 :: tl)), (a1, .inl (d1, 6000, .inl g_20)), (a2, .inl (d2, 6000, .inl g_21)), (a3, .inl (d3, 6000, .inl g_22)), (a4, .inl (d4, 6000, .inl g_23)), (a5, .inl (d5, 6000, .inl g_24))] [(d1, .int), (d2, .int), (d3, .int), (d4, .int), (d5, .boolean)] s H locs := hw
  refine lv_pop hf.1 hf.2.1 dX11_kinds_33 rfl ?_
  exact mret_v hf hr hlk hw (n_19, g_20, g_21, g_22, g_23, g_24) (by show n_19 ≤ 3; omega) [0, 1, 2, 3, 4, 5] [0, 1, 2, 3, 4] rfl rfl rfl (Nat.le_of_ble_eq_true rfl) (Nat.le_of_ble_eq_true rfl) dX11_kinds_34

set_option maxHeartbeats 4000000 in
set_option maxRecDepth 100000 in
theorem m_isWell (l : Launch) (dC : Nat → ClassId) (dI : Nat → Nat → Nat) (h0 : Nat) (tl : List Value) (u0 u1 u2 u3 u4 u5 u6 u7 u9 u10 u11 u12 u13 u14 u15 u16 u17 u18 u19 u20 u21 u22 u23 u24 u25 : Value) (sz : Nat) (htl : tl.length = 103) : Met l yX11_isWell (wsOf yX11_isWell cX11_isWell 1 (some .boolean)) ({ frames := 6, cells := 0, slots := 0, locals := 90 } : Room) (va_Pc [.ref h0] (PB dC dI sz [(h0, .inr (9, u0 :: u1 :: u2 :: u3 :: u4 :: u5 :: u6 :: u7 :: .int 0 :: u9 :: u10 :: u11 :: u12 :: u13 :: u14 :: u15 :: u16 :: u17 :: u18 :: u19 :: u20 :: u21 :: u22 :: u23 :: u24 :: u25 :: tl))] [])) (va_Qi (S := Unit) (fun r _ => r = 1) (fun x t => PW dC dI (va_A [(h0, .inr (9, u0 :: u1 :: u2 :: u3 :: u4 :: u5 :: u6 :: u7 :: .int 0 :: u9 :: u10 :: u11 :: u12 :: u13 :: u14 :: u15 :: u16 :: u17 :: u18 :: u19 :: u20 :: u21 :: u22 :: u23 :: u24 :: u25 :: tl))] sz) ([(h0, .inr (9, u0 :: u1 :: u2 :: u3 :: u4 :: u5 :: u6 :: u7 :: .int 0 :: u9 :: u10 :: u11 :: u12 :: u13 :: u14 :: u15 :: u16 :: u17 :: u18 :: u19 :: u20 :: u21 :: u22 :: u23 :: u24 :: u25 :: tl))]) ([]) t) (va_A [(h0, .inr (9, u0 :: u1 :: u2 :: u3 :: u4 :: u5 :: u6 :: u7 :: .int 0 :: u9 :: u10 :: u11 :: u12 :: u13 :: u14 :: u15 :: u16 :: u17 :: u18 :: u19 :: u20 :: u21 :: u22 :: u23 :: u24 :: u25 :: tl))] sz)) 0 0 (va_A [(h0, .inr (9, u0 :: u1 :: u2 :: u3 :: u4 :: u5 :: u6 :: u7 :: .int 0 :: u9 :: u10 :: u11 :: u12 :: u13 :: u14 :: u15 :: u16 :: u17 :: u18 :: u19 :: u20 :: u21 :: u22 :: u23 :: u24 :: u25 :: tl))] sz) := by
  refine mbody (y := yX11_isWell) (av := [.ref h0]) (b := cX11_isWell) (n := 1) (ret := (some .boolean)) (Qc := fun A => (va_Qi (S := Unit) (fun r _ => r = 1) (fun x t => PW dC dI A ([(h0, .inr (9, u0 :: u1 :: u2 :: u3 :: u4 :: u5 :: u6 :: u7 :: .int 0 :: u9 :: u10 :: u11 :: u12 :: u13 :: u14 :: u15 :: u16 :: u17 :: u18 :: u19 :: u20 :: u21 :: u22 :: u23 :: u24 :: u25 :: tl))]) ([]) t) A)) (by decide) (Nat.le_of_ble_eq_true rfl) ?_
  intro p e s m below meth c ls A H hf hr hin hlk hw hl
  have hl : lv_has ls 1 [(0, .ref h0)] := hl
  refine lv_aload_n hf.1 hf.2.1 dX11_isWell_0 rfl (lv_at hl 0 rfl) ?_
  refine mget hf hw iX11 0 rfl rfl 8 (by decide) k1378 rfl dX11_isWell_1 ?_
  refine lv_if_ne (tgt := 11) hf.1 hf.2.1 dX11_isWell_4 (by decide) (fun c_1 => absurd (by decide) c_1) (fun c_1 => ?_)
  refine lv_iconst (v := 1) hf.1 hf.2.1 dX11_isWell_7 (by decide) ?_
  refine lv_goto (tgt := 12) hf.1 hf.2.1 dX11_isWell_8 (by decide) ?_
  exact mret_z (v := 1) hf hr hlk (by decide) hw () rfl [0] [] rfl rfl rfl (Nat.le_of_ble_eq_true rfl) (Nat.le_of_ble_eq_true rfl) dX11_isWell_12

set_option maxHeartbeats 4000000 in
set_option maxRecDepth 100000 in
theorem m_next (l : Launch) (dC : Nat → ClassId) (dI : Nat → Nat → Nat) (h0 : Nat) (tl : List Value) (u0 u2 u3 u5 u6 u7 u8 u9 u10 u11 u12 u13 u14 u15 u16 u17 u18 u19 u20 u21 u22 u23 u24 u25 : Value) (sz : Nat) (htl : tl.length = 103) : Met l yX11_next (wsOf yX11_next cX11_next 2 none) ({ frames := 6, cells := 0, slots := 0, locals := 90 } : Room) (va_Pc [.ref h0] (PB dC dI sz [(h0, .inr (9, u0 :: .int 0 :: u2 :: u3 :: .int 0 :: u5 :: u6 :: u7 :: u8 :: u9 :: u10 :: u11 :: u12 :: u13 :: u14 :: u15 :: u16 :: u17 :: u18 :: u19 :: u20 :: u21 :: u22 :: u23 :: u24 :: u25 :: tl))] [])) (va_Qv (S := Unit) (fun _ => True) (fun x t => PW dC dI (va_A [(h0, .inr (9, u0 :: .int 0 :: u2 :: u3 :: .int 0 :: u5 :: u6 :: u7 :: u8 :: u9 :: u10 :: u11 :: u12 :: u13 :: u14 :: u15 :: u16 :: u17 :: u18 :: u19 :: u20 :: u21 :: u22 :: u23 :: u24 :: u25 :: tl))] sz) ([(h0, .inr (9, u0 :: .int 0 :: u2 :: u3 :: .int 0 :: .int 0 :: .int 0 :: .long 0 :: u8 :: u9 :: u10 :: u11 :: u12 :: u13 :: u14 :: u15 :: u16 :: u17 :: u18 :: u19 :: u20 :: u21 :: u22 :: u23 :: u24 :: u25 :: tl))]) ([]) t) (va_A [(h0, .inr (9, u0 :: .int 0 :: u2 :: u3 :: .int 0 :: u5 :: u6 :: u7 :: u8 :: u9 :: u10 :: u11 :: u12 :: u13 :: u14 :: u15 :: u16 :: u17 :: u18 :: u19 :: u20 :: u21 :: u22 :: u23 :: u24 :: u25 :: tl))] sz)) 0 0 (va_A [(h0, .inr (9, u0 :: .int 0 :: u2 :: u3 :: .int 0 :: u5 :: u6 :: u7 :: u8 :: u9 :: u10 :: u11 :: u12 :: u13 :: u14 :: u15 :: u16 :: u17 :: u18 :: u19 :: u20 :: u21 :: u22 :: u23 :: u24 :: u25 :: tl))] sz) := by
  refine mbody (y := yX11_next) (av := [.ref h0]) (b := cX11_next) (n := 2) (ret := none) (Qc := fun A => (va_Qv (S := Unit) (fun _ => True) (fun x t => PW dC dI A ([(h0, .inr (9, u0 :: .int 0 :: u2 :: u3 :: .int 0 :: .int 0 :: .int 0 :: .long 0 :: u8 :: u9 :: u10 :: u11 :: u12 :: u13 :: u14 :: u15 :: u16 :: u17 :: u18 :: u19 :: u20 :: u21 :: u22 :: u23 :: u24 :: u25 :: tl))]) ([]) t) A)) (by decide) (Nat.le_of_ble_eq_true rfl) ?_
  intro p e s m below meth c ls A H hf hr hin hlk hw hl
  have hl : lv_has ls 2 [(0, .ref h0)] := hl
  refine lv_aload_n hf.1 hf.2.1 dX11_next_0 rfl (lv_at hl 0 rfl) ?_
  refine mget hf hw iX11 0 rfl rfl 4 (by decide) k1373 rfl dX11_next_1 ?_
  refine lv_aload_n hf.1 hf.2.1 dX11_next_4 rfl (lv_at hl 0 rfl) ?_
  refine mget hf hw iX11 0 rfl rfl 1 (by decide) k1368 rfl dX11_next_5 ?_
  refine lv_icmp_ge (tgt := 52) hf.1 hf.2.1 dX11_next_8 (by decide) (fun c_1 => ?_) (fun c_1 => absurd (by decide) c_1)
  refine lv_aload_n hf.1 hf.2.1 dX11_next_52 rfl (lv_at hl 0 rfl) ?_
  refine lv_aload_n hf.1 hf.2.1 dX11_next_53 rfl (lv_at hl 0 rfl) ?_
  refine mget hf hw iX11 0 rfl rfl 4 (by decide) k1373 rfl dX11_next_54 ?_
  refine mput hf hw iX11 tyX11 tyX11_ok nmX11 0 rfl rfl 5 (by decide) k1374 rfl rfl rfl (lt_app (K := [u0, .int 0, u2, u3, .int 0, .int 0, u6, u7, u8, u9, u10, u11, u12, u13, u14, u15, u16, u17, u18, u19, u20, u21, u22, u23, u24, u25]) htl (Nat.le_of_ble_eq_true rfl)) (ws' := [(h0, .inr (9, u0 :: .int 0 :: u2 :: u3 :: .int 0 :: .int 0 :: u6 :: u7 :: u8 :: u9 :: u10 :: u11 :: u12 :: u13 :: u14 :: u15 :: u16 :: u17 :: u18 :: u19 :: u20 :: u21 :: u22 :: u23 :: u24 :: u25 :: tl))]) rfl dX11_next_57 (fun H locs hw => ?_)
  refine lv_aload_n hf.1 hf.2.1 dX11_next_60 rfl (lv_at hl 0 rfl) ?_
  refine lv_lconst (v := 0) hf.1 hf.2.1 dX11_next_61 (by decide) ?_
  refine mput hf hw iX11 tyX11 tyX11_ok nmX11 0 rfl rfl 7 (by decide) k1376 rfl rfl rfl (lt_app (K := [u0, .int 0, u2, u3, .int 0, .int 0, u6, .long 0, u8, u9, u10, u11, u12, u13, u14, u15, u16, u17, u18, u19, u20, u21, u22, u23, u24, u25]) htl (Nat.le_of_ble_eq_true rfl)) (ws' := [(h0, .inr (9, u0 :: .int 0 :: u2 :: u3 :: .int 0 :: .int 0 :: u6 :: .long 0 :: u8 :: u9 :: u10 :: u11 :: u12 :: u13 :: u14 :: u15 :: u16 :: u17 :: u18 :: u19 :: u20 :: u21 :: u22 :: u23 :: u24 :: u25 :: tl))]) rfl dX11_next_62 (fun H locs hw => ?_)
  refine lv_aload_n hf.1 hf.2.1 dX11_next_65 rfl (lv_at hl 0 rfl) ?_
  refine mget hf hw iX11 0 rfl rfl 4 (by decide) k1373 rfl dX11_next_66 ?_
  refine lv_aload_n hf.1 hf.2.1 dX11_next_69 rfl (lv_at hl 0 rfl) ?_
  refine mget hf hw iX11 0 rfl rfl 1 (by decide) k1368 rfl dX11_next_70 ?_
  refine lv_icmp_ne (tgt := 82) hf.1 hf.2.1 dX11_next_73 (by decide) (fun c_2 => absurd (by decide) c_2) (fun c_2 => ?_)
  refine lv_aload_n hf.1 hf.2.1 dX11_next_76 rfl (lv_at hl 0 rfl) ?_
  refine lv_iconst (v := 0) hf.1 hf.2.1 dX11_next_77 (by decide) ?_
  refine mput hf hw iX11 tyX11 tyX11_ok nmX11 0 rfl rfl 6 (by decide) k1375 rfl rfl rfl (lt_app (K := [u0, .int 0, u2, u3, .int 0, .int 0, .int 0, .long 0, u8, u9, u10, u11, u12, u13, u14, u15, u16, u17, u18, u19, u20, u21, u22, u23, u24, u25]) htl (Nat.le_of_ble_eq_true rfl)) (ws' := [(h0, .inr (9, u0 :: .int 0 :: u2 :: u3 :: .int 0 :: .int 0 :: .int 0 :: .long 0 :: u8 :: u9 :: u10 :: u11 :: u12 :: u13 :: u14 :: u15 :: u16 :: u17 :: u18 :: u19 :: u20 :: u21 :: u22 :: u23 :: u24 :: u25 :: tl))]) rfl dX11_next_78 (fun H locs hw => ?_)
  exact mret_v hf hr hlk hw () trivial [0] [] rfl rfl rfl (Nat.le_of_ble_eq_true rfl) (Nat.le_of_ble_eq_true rfl) dX11_next_81

set_option maxHeartbeats 4000000 in
set_option maxRecDepth 100000 in
theorem m_knows (l : Launch) (dC : Nat → ClassId) (dI : Nat → Nat → Nat) (h0 : Nat) (tl : List Value) (u0 u2 u3 u4 u5 u6 u7 u8 u9 u10 u11 u12 u13 u14 u15 u18 u19 u20 u21 u22 u23 u24 u25 : Value) (sz : Nat) (htl : tl.length = 103) : Met l yX11_knows (wsOf yX11_knows cX11_knows 4 none) ({ frames := 6, cells := 0, slots := 0, locals := 90 } : Room) (va_Pc [.ref h0] (PB dC dI sz [(h0, .inr (9, u0 :: .int 0 :: u2 :: u3 :: u4 :: u5 :: u6 :: u7 :: u8 :: u9 :: u10 :: u11 :: u12 :: u13 :: u14 :: u15 :: .int 0 :: .int 0 :: u18 :: u19 :: u20 :: u21 :: u22 :: u23 :: u24 :: u25 :: tl))] [])) (va_Qv (S := Unit) (fun _ => True) (fun x t => PW dC dI (va_A [(h0, .inr (9, u0 :: .int 0 :: u2 :: u3 :: u4 :: u5 :: u6 :: u7 :: u8 :: u9 :: u10 :: u11 :: u12 :: u13 :: u14 :: u15 :: .int 0 :: .int 0 :: u18 :: u19 :: u20 :: u21 :: u22 :: u23 :: u24 :: u25 :: tl))] sz) ([(h0, .inr (9, u0 :: .int 0 :: u2 :: u3 :: u4 :: u5 :: u6 :: u7 :: u8 :: u9 :: u10 :: u11 :: u12 :: u13 :: u14 :: u15 :: .int 0 :: .int 0 :: u18 :: u19 :: u20 :: u21 :: u22 :: u23 :: u24 :: u25 :: tl))]) ([]) t) (va_A [(h0, .inr (9, u0 :: .int 0 :: u2 :: u3 :: u4 :: u5 :: u6 :: u7 :: u8 :: u9 :: u10 :: u11 :: u12 :: u13 :: u14 :: u15 :: .int 0 :: .int 0 :: u18 :: u19 :: u20 :: u21 :: u22 :: u23 :: u24 :: u25 :: tl))] sz)) 0 0 (va_A [(h0, .inr (9, u0 :: .int 0 :: u2 :: u3 :: u4 :: u5 :: u6 :: u7 :: u8 :: u9 :: u10 :: u11 :: u12 :: u13 :: u14 :: u15 :: .int 0 :: .int 0 :: u18 :: u19 :: u20 :: u21 :: u22 :: u23 :: u24 :: u25 :: tl))] sz) := by
  refine mbody (y := yX11_knows) (av := [.ref h0]) (b := cX11_knows) (n := 4) (ret := none) (Qc := fun A => (va_Qv (S := Unit) (fun _ => True) (fun x t => PW dC dI A ([(h0, .inr (9, u0 :: .int 0 :: u2 :: u3 :: u4 :: u5 :: u6 :: u7 :: u8 :: u9 :: u10 :: u11 :: u12 :: u13 :: u14 :: u15 :: .int 0 :: .int 0 :: u18 :: u19 :: u20 :: u21 :: u22 :: u23 :: u24 :: u25 :: tl))]) ([]) t) A)) (by decide) (Nat.le_of_ble_eq_true rfl) ?_
  intro p e s m below meth c ls A H hf hr hin hlk hw hl
  have hl : lv_has ls 4 [(0, .ref h0)] := hl
  refine lv_aload_n hf.1 hf.2.1 dX11_knows_0 rfl (lv_at hl 0 rfl) ?_
  refine mget hf hw iX11 0 rfl rfl 1 (by decide) k1368 rfl dX11_knows_1 ?_
  refine lv_iconst (v := 1) hf.1 hf.2.1 dX11_knows_4 (by decide) ?_
  refine lv_iadd hf.1 hf.2.1 dX11_knows_5 ?_
  refine lv_topi (fun x_1 ex_1 => ?_)
  obtain rfl : x_1 = 1 := by rw [ex_1]; decide
  refine lv_istore_n (lv' := [(1, .int 1), (0, .ref h0)]) hf.1 hf.2.1 dX11_knows_6 rfl hl (by decide) rfl (fun ls hl => ?_)
  refine lv_iconst (v := 0) hf.1 hf.2.1 dX11_knows_7 (by decide) ?_
  refine lv_istore_n (lv' := [(2, .int 0), (1, .int 1), (0, .ref h0)]) hf.1 hf.2.1 dX11_knows_8 rfl hl (by decide) rfl (fun ls hl => ?_)
  refine lv_iconst (v := 0) hf.1 hf.2.1 dX11_knows_9 (by decide) ?_
  refine lv_istore_n (lv' := [(3, .int 0), (2, .int 0), (1, .int 1), (0, .ref h0)]) hf.1 hf.2.1 dX11_knows_10 rfl hl (by decide) rfl (fun ls hl => ?_)
  refine lv_iload_n hf.1 hf.2.1 dX11_knows_11 rfl (lv_at hl 0 rfl) ?_
  refine lv_aload_n hf.1 hf.2.1 dX11_knows_12 rfl (lv_at hl 3 rfl) ?_
  refine mget hf hw iX11 0 rfl rfl 16 (by decide) k1394 rfl dX11_knows_13 ?_
  refine lv_icmp_ge (tgt := 58) hf.1 hf.2.1 dX11_knows_16 (by decide) (fun c_2 => ?_) (fun c_2 => absurd (by decide) c_2)
  refine lv_iconst (v := 0) hf.1 hf.2.1 dX11_knows_58 (by decide) ?_
  refine lv_istore_n (lv' := [(3, .int 0), (2, .int 0), (1, .int 1), (0, .ref h0)]) hf.1 hf.2.1 dX11_knows_59 rfl hl (by decide) rfl (fun ls hl => ?_)
  refine lv_iload_n hf.1 hf.2.1 dX11_knows_60 rfl (lv_at hl 0 rfl) ?_
  refine lv_aload_n hf.1 hf.2.1 dX11_knows_61 rfl (lv_at hl 3 rfl) ?_
  refine mget hf hw iX11 0 rfl rfl 17 (by decide) k1404 rfl dX11_knows_62 ?_
  refine lv_icmp_ge (tgt := 132) hf.1 hf.2.1 dX11_knows_65 (by decide) (fun c_3 => ?_) (fun c_3 => absurd (by decide) c_3)
  refine lv_iload_n hf.1 hf.2.1 dX11_knows_132 rfl (lv_at hl 1 rfl) ?_
  refine lv_if_le (tgt := 142) hf.1 hf.2.1 dX11_knows_133 (by decide) (fun c_4 => ?_) (fun c_4 => absurd (by decide) c_4)
  exact mret_v hf hr hlk hw () trivial [0] [] rfl rfl rfl (Nat.le_of_ble_eq_true rfl) (Nat.le_of_ble_eq_true rfl) dX11_knows_142

set_option maxHeartbeats 4000000 in
set_option maxRecDepth 100000 in
theorem m_partOf (l : Launch) (dC : Nat → ClassId) (dI : Nat → Nat → Nat) (h0 : Nat) (tl : List Value) (u0 u1 u2 u3 u4 u5 u6 u7 u8 u9 u10 u11 u12 u13 u14 u15 u17 u18 u19 u20 u21 u22 u23 u24 u25 : Value) (v : Int64) (sz : Nat) (htl : tl.length = 103) : Met l yX11_partOf (wsOf yX11_partOf cX11_partOf 5 (some .int)) ({ frames := 6, cells := 0, slots := 0, locals := 90 } : Room) (va_Pc [.ref h0, .long v] (PB dC dI sz [(h0, .inr (9, u0 :: u1 :: u2 :: u3 :: u4 :: u5 :: u6 :: u7 :: u8 :: u9 :: u10 :: u11 :: u12 :: u13 :: u14 :: u15 :: .int 0 :: u17 :: u18 :: u19 :: u20 :: u21 :: u22 :: u23 :: u24 :: u25 :: tl))] [])) (va_Qi (S := Unit) (fun r _ => r = -1) (fun x t => PW dC dI (va_A [(h0, .inr (9, u0 :: u1 :: u2 :: u3 :: u4 :: u5 :: u6 :: u7 :: u8 :: u9 :: u10 :: u11 :: u12 :: u13 :: u14 :: u15 :: .int 0 :: u17 :: u18 :: u19 :: u20 :: u21 :: u22 :: u23 :: u24 :: u25 :: tl))] sz) ([(h0, .inr (9, u0 :: u1 :: u2 :: u3 :: u4 :: u5 :: u6 :: u7 :: u8 :: u9 :: u10 :: u11 :: u12 :: u13 :: u14 :: u15 :: .int 0 :: u17 :: u18 :: u19 :: u20 :: u21 :: u22 :: u23 :: u24 :: u25 :: tl))]) ([]) t) (va_A [(h0, .inr (9, u0 :: u1 :: u2 :: u3 :: u4 :: u5 :: u6 :: u7 :: u8 :: u9 :: u10 :: u11 :: u12 :: u13 :: u14 :: u15 :: .int 0 :: u17 :: u18 :: u19 :: u20 :: u21 :: u22 :: u23 :: u24 :: u25 :: tl))] sz)) 0 0 (va_A [(h0, .inr (9, u0 :: u1 :: u2 :: u3 :: u4 :: u5 :: u6 :: u7 :: u8 :: u9 :: u10 :: u11 :: u12 :: u13 :: u14 :: u15 :: .int 0 :: u17 :: u18 :: u19 :: u20 :: u21 :: u22 :: u23 :: u24 :: u25 :: tl))] sz) := by
  refine mbody (y := yX11_partOf) (av := [.ref h0, .long v]) (b := cX11_partOf) (n := 5) (ret := (some .int)) (Qc := fun A => (va_Qi (S := Unit) (fun r _ => r = -1) (fun x t => PW dC dI A ([(h0, .inr (9, u0 :: u1 :: u2 :: u3 :: u4 :: u5 :: u6 :: u7 :: u8 :: u9 :: u10 :: u11 :: u12 :: u13 :: u14 :: u15 :: .int 0 :: u17 :: u18 :: u19 :: u20 :: u21 :: u22 :: u23 :: u24 :: u25 :: tl))]) ([]) t) A)) (by decide) (Nat.le_of_ble_eq_true rfl) ?_
  intro p e s m below meth c ls A H hf hr hin hlk hw hl
  have hl : lv_has ls 5 [(0, .ref h0), (1, .long v)] := hl
  refine lv_iconst (v := (-1)) hf.1 hf.2.1 dX11_partOf_0 (by decide) ?_
  refine lv_istore_n (lv' := [(3, .int (-1)), (0, .ref h0), (1, .long v)]) hf.1 hf.2.1 dX11_partOf_1 rfl hl (by decide) rfl (fun ls hl => ?_)
  refine lv_aload_n hf.1 hf.2.1 dX11_partOf_2 rfl (lv_at hl 1 rfl) ?_
  refine mget hf hw iX11 0 rfl rfl 16 (by decide) k1394 rfl dX11_partOf_3 ?_
  refine lv_iconst (v := 1) hf.1 hf.2.1 dX11_partOf_6 (by decide) ?_
  refine lv_isub hf.1 hf.2.1 dX11_partOf_7 ?_
  refine lv_topi (fun x_1 ex_1 => ?_)
  obtain rfl : x_1 = (-1) := by rw [ex_1]; decide
  refine lv_istore (lv' := [(4, .int (-1)), (3, .int (-1)), (0, .ref h0), (1, .long v)]) hf.1 hf.2.1 dX11_partOf_8 hl (by decide) rfl (fun ls hl => ?_)
  refine lv_iload hf.1 hf.2.1 dX11_partOf_10 (lv_at hl 0 rfl) ?_
  refine lv_if_lt (tgt := 40) hf.1 hf.2.1 dX11_partOf_12 (by decide) (fun c_2 => ?_) (fun c_2 => absurd (by decide) c_2)
  refine lv_iload_n hf.1 hf.2.1 dX11_partOf_40 rfl (lv_at hl 1 rfl) ?_
  exact mret_i (v := (-1)) hf hr hlk hw () rfl [0] [] rfl rfl rfl (Nat.le_of_ble_eq_true rfl) (Nat.le_of_ble_eq_true rfl) dX11_partOf_41

set_option maxHeartbeats 4000000 in
set_option maxRecDepth 100000 in
theorem m_fails (l : Launch) (dC : Nat → ClassId) (dI : Nat → Nat → Nat) (h0 : Nat) (tl : List Value) (u0 u1 u2 u3 u4 u5 u6 u7 u9 u10 u11 u12 u13 u14 u15 u16 u17 u18 u19 u20 u21 u22 u23 u24 u25 : Value) (sz : Nat) (htl : tl.length = 103) : Met l yX11_fails (wsOf yX11_fails cX11_fails 3 none) ({ frames := 6, cells := 0, slots := 0, locals := 90 } : Room) (va_Pc [.ref h0, .int 7, .int 0] (PB dC dI sz [(h0, .inr (9, u0 :: u1 :: u2 :: u3 :: u4 :: u5 :: u6 :: u7 :: .int 0 :: u9 :: u10 :: u11 :: u12 :: u13 :: u14 :: u15 :: u16 :: u17 :: u18 :: u19 :: u20 :: u21 :: u22 :: u23 :: u24 :: u25 :: tl))] [])) (va_Qv (S := Unit) (fun _ => True) (fun x t => PW dC dI (va_A [(h0, .inr (9, u0 :: u1 :: u2 :: u3 :: u4 :: u5 :: u6 :: u7 :: .int 0 :: u9 :: u10 :: u11 :: u12 :: u13 :: u14 :: u15 :: u16 :: u17 :: u18 :: u19 :: u20 :: u21 :: u22 :: u23 :: u24 :: u25 :: tl))] sz) ([(h0, .inr (9, u0 :: u1 :: u2 :: u3 :: u4 :: u5 :: u6 :: u7 :: .int 7 :: .int 0 :: u10 :: u11 :: u12 :: u13 :: u14 :: u15 :: u16 :: u17 :: u18 :: u19 :: u20 :: u21 :: u22 :: u23 :: u24 :: u25 :: tl))]) ([]) t) (va_A [(h0, .inr (9, u0 :: u1 :: u2 :: u3 :: u4 :: u5 :: u6 :: u7 :: .int 0 :: u9 :: u10 :: u11 :: u12 :: u13 :: u14 :: u15 :: u16 :: u17 :: u18 :: u19 :: u20 :: u21 :: u22 :: u23 :: u24 :: u25 :: tl))] sz)) 0 0 (va_A [(h0, .inr (9, u0 :: u1 :: u2 :: u3 :: u4 :: u5 :: u6 :: u7 :: .int 0 :: u9 :: u10 :: u11 :: u12 :: u13 :: u14 :: u15 :: u16 :: u17 :: u18 :: u19 :: u20 :: u21 :: u22 :: u23 :: u24 :: u25 :: tl))] sz) := by
  refine mbody (y := yX11_fails) (av := [.ref h0, .int 7, .int 0]) (b := cX11_fails) (n := 3) (ret := none) (Qc := fun A => (va_Qv (S := Unit) (fun _ => True) (fun x t => PW dC dI A ([(h0, .inr (9, u0 :: u1 :: u2 :: u3 :: u4 :: u5 :: u6 :: u7 :: .int 7 :: .int 0 :: u10 :: u11 :: u12 :: u13 :: u14 :: u15 :: u16 :: u17 :: u18 :: u19 :: u20 :: u21 :: u22 :: u23 :: u24 :: u25 :: tl))]) ([]) t) A)) (by decide) (Nat.le_of_ble_eq_true rfl) ?_
  intro p e s m below meth c ls A H hf hr hin hlk hw hl
  have hl : lv_has ls 3 [(0, .ref h0), (1, .int 7), (2, .int 0)] := hl
  refine lv_aload_n hf.1 hf.2.1 dX11_fails_0 rfl (lv_at hl 0 rfl) ?_
  refine mget hf hw iX11 0 rfl rfl 8 (by decide) k1378 rfl dX11_fails_1 ?_
  refine lv_if_ne (tgt := 17) hf.1 hf.2.1 dX11_fails_4 (by decide) (fun c_1 => absurd (by decide) c_1) (fun c_1 => ?_)
  refine lv_aload_n hf.1 hf.2.1 dX11_fails_7 rfl (lv_at hl 0 rfl) ?_
  refine lv_iload_n hf.1 hf.2.1 dX11_fails_8 rfl (lv_at hl 1 rfl) ?_
  refine mput hf hw iX11 tyX11 tyX11_ok nmX11 0 rfl rfl 8 (by decide) k1378 rfl rfl rfl (lt_app (K := [u0, u1, u2, u3, u4, u5, u6, u7, .int 7, u9, u10, u11, u12, u13, u14, u15, u16, u17, u18, u19, u20, u21, u22, u23, u24, u25]) htl (Nat.le_of_ble_eq_true rfl)) (ws' := [(h0, .inr (9, u0 :: u1 :: u2 :: u3 :: u4 :: u5 :: u6 :: u7 :: .int 7 :: u9 :: u10 :: u11 :: u12 :: u13 :: u14 :: u15 :: u16 :: u17 :: u18 :: u19 :: u20 :: u21 :: u22 :: u23 :: u24 :: u25 :: tl))]) rfl dX11_fails_9 (fun H locs hw => ?_)
  refine lv_aload_n hf.1 hf.2.1 dX11_fails_12 rfl (lv_at hl 0 rfl) ?_
  refine lv_iload_n hf.1 hf.2.1 dX11_fails_13 rfl (lv_at hl 2 rfl) ?_
  refine mput hf hw iX11 tyX11 tyX11_ok nmX11 0 rfl rfl 9 (by decide) k1379 rfl rfl rfl (lt_app (K := [u0, u1, u2, u3, u4, u5, u6, u7, .int 7, .int 0, u10, u11, u12, u13, u14, u15, u16, u17, u18, u19, u20, u21, u22, u23, u24, u25]) htl (Nat.le_of_ble_eq_true rfl)) (ws' := [(h0, .inr (9, u0 :: u1 :: u2 :: u3 :: u4 :: u5 :: u6 :: u7 :: .int 7 :: .int 0 :: u10 :: u11 :: u12 :: u13 :: u14 :: u15 :: u16 :: u17 :: u18 :: u19 :: u20 :: u21 :: u22 :: u23 :: u24 :: u25 :: tl))]) rfl dX11_fails_14 (fun H locs hw => ?_)
  exact mret_v hf hr hlk hw () trivial [0] [] rfl rfl rfl (Nat.le_of_ble_eq_true rfl) (Nat.le_of_ble_eq_true rfl) dX11_fails_17

set_option maxHeartbeats 4000000 in
set_option maxRecDepth 100000 in
theorem m_reads (l : Launch) (dC : Nat → ClassId) (dI : Nat → Nat → Nat) (h0 : Nat) (tl : List Value) (u20 : Value) (a1 a2 a3 a4 a5 : Nat) (d1 d2 d3 d4 d5 : ClassId) (p1 p2 p3 p4 p5 : Nat → Int32) (k : Nat) (sz : Nat) (htl : tl.length = 103) : Met l yX11_reads (wsOf yX11_reads cX11_reads 1 none) ({ frames := 14, cells := 0, slots := 0, locals := 210 } : Room) (va_Pc [.ref h0] (PB dC dI sz [(h0, .inr (9, .int 0 :: .int 0 :: .int 0 :: .int 0 :: .int 0 :: .int 0 :: .int 0 :: .long 0 :: .int 0 :: .int 0 :: .int (-1) :: .int (-1) :: .int (nI k) :: .int 0 :: .int 0 :: .int 0 :: .int 0 :: .int 0 :: .int 0 :: .int 0 :: u20 :: .ref a1 :: .ref a2 :: .ref a3 :: .ref a4 :: .ref a5 :: tl)), (a1, .inl (d1, 6000, .inl p1)), (a2, .inl (d2, 6000, .inl p2)), (a3, .inl (d3, 6000, .inl p3)), (a4, .inl (d4, 6000, .inl p4)), (a5, .inl (d5, 6000, .inl p5))] [(d1, .int), (d2, .int), (d3, .int), (d4, .int), (d5, .boolean)])) (va_Qv (S := Nat) (fun _ => True) (fun x t => PW dC dI (va_A [(h0, .inr (9, .int 0 :: .int 0 :: .int 0 :: .int 0 :: .int 0 :: .int 0 :: .int 0 :: .long 0 :: .int 0 :: .int 0 :: .int (-1) :: .int (-1) :: .int (nI k) :: .int 0 :: .int 0 :: .int 0 :: .int 0 :: .int 0 :: .int 0 :: .int 0 :: u20 :: .ref a1 :: .ref a2 :: .ref a3 :: .ref a4 :: .ref a5 :: tl)), (a1, .inl (d1, 6000, .inl p1)), (a2, .inl (d2, 6000, .inl p2)), (a3, .inl (d3, 6000, .inl p3)), (a4, .inl (d4, 6000, .inl p4)), (a5, .inl (d5, 6000, .inl p5))] sz) ([(h0, .inr (9, .int 0 :: .int 0 :: .int 0 :: .int 0 :: .int 0 :: .int 0 :: .int 0 :: .long 0 :: .int 7 :: .int 0 :: .int (-1) :: .int (-1) :: .int (nI x) :: .int (nI x) :: .int 0 :: .int 0 :: .int 0 :: .int 0 :: .int (-1) :: .int 0 :: u20 :: .ref a1 :: .ref a2 :: .ref a3 :: .ref a4 :: .ref a5 :: tl))]) ([]) t) (va_A [(h0, .inr (9, .int 0 :: .int 0 :: .int 0 :: .int 0 :: .int 0 :: .int 0 :: .int 0 :: .long 0 :: .int 0 :: .int 0 :: .int (-1) :: .int (-1) :: .int (nI k) :: .int 0 :: .int 0 :: .int 0 :: .int 0 :: .int 0 :: .int 0 :: .int 0 :: u20 :: .ref a1 :: .ref a2 :: .ref a3 :: .ref a4 :: .ref a5 :: tl)), (a1, .inl (d1, 6000, .inl p1)), (a2, .inl (d2, 6000, .inl p2)), (a3, .inl (d3, 6000, .inl p3)), (a4, .inl (d4, 6000, .inl p4)), (a5, .inl (d5, 6000, .inl p5))] sz)) 0 0 (va_A [(h0, .inr (9, .int 0 :: .int 0 :: .int 0 :: .int 0 :: .int 0 :: .int 0 :: .int 0 :: .long 0 :: .int 0 :: .int 0 :: .int (-1) :: .int (-1) :: .int (nI k) :: .int 0 :: .int 0 :: .int 0 :: .int 0 :: .int 0 :: .int 0 :: .int 0 :: u20 :: .ref a1 :: .ref a2 :: .ref a3 :: .ref a4 :: .ref a5 :: tl)), (a1, .inl (d1, 6000, .inl p1)), (a2, .inl (d2, 6000, .inl p2)), (a3, .inl (d3, 6000, .inl p3)), (a4, .inl (d4, 6000, .inl p4)), (a5, .inl (d5, 6000, .inl p5))] sz) := by
  refine mbody (y := yX11_reads) (av := [.ref h0]) (b := cX11_reads) (n := 1) (ret := none) (Qc := fun A => (va_Qv (S := Nat) (fun _ => True) (fun x t => PW dC dI A ([(h0, .inr (9, .int 0 :: .int 0 :: .int 0 :: .int 0 :: .int 0 :: .int 0 :: .int 0 :: .long 0 :: .int 7 :: .int 0 :: .int (-1) :: .int (-1) :: .int (nI x) :: .int (nI x) :: .int 0 :: .int 0 :: .int 0 :: .int 0 :: .int (-1) :: .int 0 :: u20 :: .ref a1 :: .ref a2 :: .ref a3 :: .ref a4 :: .ref a5 :: tl))]) ([]) t) A)) (by decide) (Nat.le_of_ble_eq_true rfl) ?_
  intro p e s m below meth c ls A H hf hr hin hlk hw hl
  have hl : lv_has ls 1 [(0, .ref h0)] := hl
  refine lv_aload_n hf.1 hf.2.1 dX11_reads_0 rfl (lv_at hl 0 rfl) ?_
  refine lv_iconst (v := 0) hf.1 hf.2.1 dX11_reads_1 (by decide) ?_
  refine mput hf hw iX11 tyX11 tyX11_ok nmX11 0 rfl rfl 4 (by decide) k1373 rfl rfl rfl (lt_app (K := [.int 0, .int 0, .int 0, .int 0, .int 0, .int 0, .int 0, .long 0, .int 0, .int 0, .int (-1), .int (-1), .int (nI k), .int 0, .int 0, .int 0, .int 0, .int 0, .int 0, .int 0, u20, .ref a1, .ref a2, .ref a3, .ref a4, .ref a5]) htl (Nat.le_of_ble_eq_true rfl)) (ws' := [(h0, .inr (9, .int 0 :: .int 0 :: .int 0 :: .int 0 :: .int 0 :: .int 0 :: .int 0 :: .long 0 :: .int 0 :: .int 0 :: .int (-1) :: .int (-1) :: .int (nI k) :: .int 0 :: .int 0 :: .int 0 :: .int 0 :: .int 0 :: .int 0 :: .int 0 :: u20 :: .ref a1 :: .ref a2 :: .ref a3 :: .ref a4 :: .ref a5 :: tl)), (a1, .inl (d1, 6000, .inl p1)), (a2, .inl (d2, 6000, .inl p2)), (a3, .inl (d3, 6000, .inl p3)), (a4, .inl (d4, 6000, .inl p4)), (a5, .inl (d5, 6000, .inl p5))]) rfl dX11_reads_2 (fun H locs hw => ?_)
  refine lv_aload_n hf.1 hf.2.1 dX11_reads_5 rfl (lv_at hl 0 rfl) ?_
  refine lv_iconst (v := 0) hf.1 hf.2.1 dX11_reads_6 (by decide) ?_
  refine mput hf hw iX11 tyX11 tyX11_ok nmX11 0 rfl rfl 8 (by decide) k1378 rfl rfl rfl (lt_app (K := [.int 0, .int 0, .int 0, .int 0, .int 0, .int 0, .int 0, .long 0, .int 0, .int 0, .int (-1), .int (-1), .int (nI k), .int 0, .int 0, .int 0, .int 0, .int 0, .int 0, .int 0, u20, .ref a1, .ref a2, .ref a3, .ref a4, .ref a5]) htl (Nat.le_of_ble_eq_true rfl)) (ws' := [(h0, .inr (9, .int 0 :: .int 0 :: .int 0 :: .int 0 :: .int 0 :: .int 0 :: .int 0 :: .long 0 :: .int 0 :: .int 0 :: .int (-1) :: .int (-1) :: .int (nI k) :: .int 0 :: .int 0 :: .int 0 :: .int 0 :: .int 0 :: .int 0 :: .int 0 :: u20 :: .ref a1 :: .ref a2 :: .ref a3 :: .ref a4 :: .ref a5 :: tl)), (a1, .inl (d1, 6000, .inl p1)), (a2, .inl (d2, 6000, .inl p2)), (a3, .inl (d3, 6000, .inl p3)), (a4, .inl (d4, 6000, .inl p4)), (a5, .inl (d5, 6000, .inl p5))]) rfl dX11_reads_7 (fun H locs hw => ?_)
  refine lv_aload_n hf.1 hf.2.1 dX11_reads_10 rfl (lv_at hl 0 rfl) ?_
  refine lv_iconst (v := (-1)) hf.1 hf.2.1 dX11_reads_11 (by decide) ?_
  refine mput hf hw iX11 tyX11 tyX11_ok nmX11 0 rfl rfl 9 (by decide) k1379 rfl rfl rfl (lt_app (K := [.int 0, .int 0, .int 0, .int 0, .int 0, .int 0, .int 0, .long 0, .int 0, .int (-1), .int (-1), .int (-1), .int (nI k), .int 0, .int 0, .int 0, .int 0, .int 0, .int 0, .int 0, u20, .ref a1, .ref a2, .ref a3, .ref a4, .ref a5]) htl (Nat.le_of_ble_eq_true rfl)) (ws' := [(h0, .inr (9, .int 0 :: .int 0 :: .int 0 :: .int 0 :: .int 0 :: .int 0 :: .int 0 :: .long 0 :: .int 0 :: .int (-1) :: .int (-1) :: .int (-1) :: .int (nI k) :: .int 0 :: .int 0 :: .int 0 :: .int 0 :: .int 0 :: .int 0 :: .int 0 :: u20 :: .ref a1 :: .ref a2 :: .ref a3 :: .ref a4 :: .ref a5 :: tl)), (a1, .inl (d1, 6000, .inl p1)), (a2, .inl (d2, 6000, .inl p2)), (a3, .inl (d3, 6000, .inl p3)), (a4, .inl (d4, 6000, .inl p4)), (a5, .inl (d5, 6000, .inl p5))]) rfl dX11_reads_12 (fun H locs hw => ?_)
  refine lv_aload_n hf.1 hf.2.1 dX11_reads_15 rfl (lv_at hl 0 rfl) ?_
  refine lv_iconst (v := 0) hf.1 hf.2.1 dX11_reads_16 (by decide) ?_
  refine mput hf hw iX11 tyX11 tyX11_ok nmX11 0 rfl rfl 16 (by decide) k1394 rfl rfl rfl (lt_app (K := [.int 0, .int 0, .int 0, .int 0, .int 0, .int 0, .int 0, .long 0, .int 0, .int (-1), .int (-1), .int (-1), .int (nI k), .int 0, .int 0, .int 0, .int 0, .int 0, .int 0, .int 0, u20, .ref a1, .ref a2, .ref a3, .ref a4, .ref a5]) htl (Nat.le_of_ble_eq_true rfl)) (ws' := [(h0, .inr (9, .int 0 :: .int 0 :: .int 0 :: .int 0 :: .int 0 :: .int 0 :: .int 0 :: .long 0 :: .int 0 :: .int (-1) :: .int (-1) :: .int (-1) :: .int (nI k) :: .int 0 :: .int 0 :: .int 0 :: .int 0 :: .int 0 :: .int 0 :: .int 0 :: u20 :: .ref a1 :: .ref a2 :: .ref a3 :: .ref a4 :: .ref a5 :: tl)), (a1, .inl (d1, 6000, .inl p1)), (a2, .inl (d2, 6000, .inl p2)), (a3, .inl (d3, 6000, .inl p3)), (a4, .inl (d4, 6000, .inl p4)), (a5, .inl (d5, 6000, .inl p5))]) rfl dX11_reads_17 (fun H locs hw => ?_)
  refine lv_aload_n hf.1 hf.2.1 dX11_reads_20 rfl (lv_at hl 0 rfl) ?_
  refine lv_iconst (v := 0) hf.1 hf.2.1 dX11_reads_21 (by decide) ?_
  refine mput hf hw iX11 tyX11 tyX11_ok nmX11 0 rfl rfl 17 (by decide) k1404 rfl rfl rfl (lt_app (K := [.int 0, .int 0, .int 0, .int 0, .int 0, .int 0, .int 0, .long 0, .int 0, .int (-1), .int (-1), .int (-1), .int (nI k), .int 0, .int 0, .int 0, .int 0, .int 0, .int 0, .int 0, u20, .ref a1, .ref a2, .ref a3, .ref a4, .ref a5]) htl (Nat.le_of_ble_eq_true rfl)) (ws' := [(h0, .inr (9, .int 0 :: .int 0 :: .int 0 :: .int 0 :: .int 0 :: .int 0 :: .int 0 :: .long 0 :: .int 0 :: .int (-1) :: .int (-1) :: .int (-1) :: .int (nI k) :: .int 0 :: .int 0 :: .int 0 :: .int 0 :: .int 0 :: .int 0 :: .int 0 :: u20 :: .ref a1 :: .ref a2 :: .ref a3 :: .ref a4 :: .ref a5 :: tl)), (a1, .inl (d1, 6000, .inl p1)), (a2, .inl (d2, 6000, .inl p2)), (a3, .inl (d3, 6000, .inl p3)), (a4, .inl (d4, 6000, .inl p4)), (a5, .inl (d5, 6000, .inl p5))]) rfl dX11_reads_22 (fun H locs hw => ?_)
  refine lv_aload_n hf.1 hf.2.1 dX11_reads_25 rfl (lv_at hl 0 rfl) ?_
  refine lv_iconst (v := 0) hf.1 hf.2.1 dX11_reads_26 (by decide) ?_
  refine mput hf hw iX11 tyX11 tyX11_ok nmX11 0 rfl rfl 3 (by decide) k1372 rfl rfl rfl (lt_app (K := [.int 0, .int 0, .int 0, .int 0, .int 0, .int 0, .int 0, .long 0, .int 0, .int (-1), .int (-1), .int (-1), .int (nI k), .int 0, .int 0, .int 0, .int 0, .int 0, .int 0, .int 0, u20, .ref a1, .ref a2, .ref a3, .ref a4, .ref a5]) htl (Nat.le_of_ble_eq_true rfl)) (ws' := [(h0, .inr (9, .int 0 :: .int 0 :: .int 0 :: .int 0 :: .int 0 :: .int 0 :: .int 0 :: .long 0 :: .int 0 :: .int (-1) :: .int (-1) :: .int (-1) :: .int (nI k) :: .int 0 :: .int 0 :: .int 0 :: .int 0 :: .int 0 :: .int 0 :: .int 0 :: u20 :: .ref a1 :: .ref a2 :: .ref a3 :: .ref a4 :: .ref a5 :: tl)), (a1, .inl (d1, 6000, .inl p1)), (a2, .inl (d2, 6000, .inl p2)), (a3, .inl (d3, 6000, .inl p3)), (a4, .inl (d4, 6000, .inl p4)), (a5, .inl (d5, 6000, .inl p5))]) rfl dX11_reads_27 (fun H locs hw => ?_)
  refine lv_aload_n hf.1 hf.2.1 dX11_reads_30 rfl (lv_at hl 0 rfl) ?_
  refine lv_iconst (v := 0) hf.1 hf.2.1 dX11_reads_31 (by decide) ?_
  refine mV_v (As := [.int 0]) (rest := []) (wr := []) (tr := []) hf hw (m_kinds l dC dI h0 tl (.int 0) (.int 0) (.int 0) (.int 0) (.int 0) (.int 0) (.int 0) (.long 0) (.int 0) (.int (-1)) (.int (-1)) (.int (-1)) (.int 0) (.int 0) (.int 0) (.int 0) (.int 0) (.int 0) u20 a1 a2 a3 a4 a5 d1 d2 d3 d4 d5 p1 p2 p3 p4 p5 (.int (nI k)) (.int 0) H.size htl) ka_X11_kinds kv_X11_kinds 0 rfl rfl k1357 [0, 1, 2, 3, 4, 5] [0, 1, 2, 3, 4] [] [] rfl rfl rfl rfl rfl (by decide) rfl rfl rfl hl.1 rfl rfl ⟨Nat.le_of_ble_eq_true rfl, Nat.le_of_ble_eq_true rfl⟩ (Nat.le_of_ble_eq_true rfl) (ce := 0) (sl := 0) rfl rfl ⟨Nat.le_of_ble_eq_true rfl, Nat.le_of_ble_eq_true rfl⟩ dX11_reads_32 (fun u_9 hm_7 H locs hw => ?_)
  obtain ⟨n_1, g_2, g_3, g_4, g_5, g_6⟩ := u_9
  have hw : Wd dC dI A [(h0, .inr (9, .int 0 :: .int 0 :: .int 0 :: .int 0 :: .int 0 :: .int 0 :: .int 0 :: .long 0 :: .int 0 :: .int (-1) :: .int (-1) :: .int (-1) :: .int (nI n_1) :: .int 0 :: .int 0 :: .int 0 :: .int 0 :: .int 0 :: .int 0 :: .int 0 :: u20 :: .ref a1 :: .ref a2 :: .ref a3 :: .ref a4 :: .ref a5 :: tl)), (a1, .inl (d1, 6000, .inl g_2)), (a2, .inl (d2, 6000, .inl g_3)), (a3, .inl (d3, 6000, .inl g_4)), (a4, .inl (d4, 6000, .inl g_5)), (a5, .inl (d5, 6000, .inl g_6))] [(d1, .int), (d2, .int), (d3, .int), (d4, .int), (d5, .boolean)] s H locs := hw
  refine lv_aload_n hf.1 hf.2.1 dX11_reads_35 rfl (lv_at hl 0 rfl) ?_
  refine mV_v (As := []) (rest := []) (wr := [(a1, .inl (d1, 6000, .inl g_2)), (a2, .inl (d2, 6000, .inl g_3)), (a3, .inl (d3, 6000, .inl g_4)), (a4, .inl (d4, 6000, .inl g_5)), (a5, .inl (d5, 6000, .inl g_6))]) (tr := [(d1, .int), (d2, .int), (d3, .int), (d4, .int), (d5, .boolean)]) hf hw (m_next l dC dI h0 tl (.int 0) (.int 0) (.int 0) (.int 0) (.int 0) (.long 0) (.int 0) (.int (-1)) (.int (-1)) (.int (-1)) (.int (nI n_1)) (.int 0) (.int 0) (.int 0) (.int 0) (.int 0) (.int 0) (.int 0) u20 (.ref a1) (.ref a2) (.ref a3) (.ref a4) (.ref a5) H.size htl) ka_X11_next kv_X11_next 0 rfl rfl k1776 [0] [] [1, 2, 3, 4, 5] [0, 1, 2, 3, 4] rfl rfl rfl rfl rfl (by decide) rfl rfl rfl hl.1 rfl rfl ⟨Nat.le_of_ble_eq_true rfl, Nat.le_of_ble_eq_true rfl⟩ (Nat.le_of_ble_eq_true rfl) (ce := 0) (sl := 0) rfl rfl ⟨Nat.le_of_ble_eq_true rfl, Nat.le_of_ble_eq_true rfl⟩ dX11_reads_36 (fun u_11 hu_11 H locs hw => ?_)
  have hw : Wd dC dI A [(a1, .inl (d1, 6000, .inl g_2)), (a2, .inl (d2, 6000, .inl g_3)), (a3, .inl (d3, 6000, .inl g_4)), (a4, .inl (d4, 6000, .inl g_5)), (a5, .inl (d5, 6000, .inl g_6)), (h0, .inr (9, .int 0 :: .int 0 :: .int 0 :: .int 0 :: .int 0 :: .int 0 :: .int 0 :: .long 0 :: .int 0 :: .int (-1) :: .int (-1) :: .int (-1) :: .int (nI n_1) :: .int 0 :: .int 0 :: .int 0 :: .int 0 :: .int 0 :: .int 0 :: .int 0 :: u20 :: .ref a1 :: .ref a2 :: .ref a3 :: .ref a4 :: .ref a5 :: tl))] [(d1, .int), (d2, .int), (d3, .int), (d4, .int), (d5, .boolean)] s H locs := hw
  refine lv_aload_n hf.1 hf.2.1 dX11_reads_39 rfl (lv_at hl 0 rfl) ?_
  refine mV_i (As := []) (rest := []) (wr := [(a1, .inl (d1, 6000, .inl g_2)), (a2, .inl (d2, 6000, .inl g_3)), (a3, .inl (d3, 6000, .inl g_4)), (a4, .inl (d4, 6000, .inl g_5)), (a5, .inl (d5, 6000, .inl g_6))]) (tr := [(d1, .int), (d2, .int), (d3, .int), (d4, .int), (d5, .boolean)]) hf hw (m_isWell l dC dI h0 tl (.int 0) (.int 0) (.int 0) (.int 0) (.int 0) (.int 0) (.int 0) (.long 0) (.int (-1)) (.int (-1)) (.int (-1)) (.int (nI n_1)) (.int 0) (.int 0) (.int 0) (.int 0) (.int 0) (.int 0) (.int 0) u20 (.ref a1) (.ref a2) (.ref a3) (.ref a4) (.ref a5) H.size htl) ka_X11_isWell kv_X11_isWell 5 rfl rfl k1800 [5] [] [0, 1, 2, 3, 4] [0, 1, 2, 3, 4] rfl rfl rfl rfl rfl (by decide) rfl rfl rfl hl.1 rfl rfl ⟨Nat.le_of_ble_eq_true rfl, Nat.le_of_ble_eq_true rfl⟩ (Nat.le_of_ble_eq_true rfl) (ce := 0) (sl := 0) rfl rfl ⟨Nat.le_of_ble_eq_true rfl, Nat.le_of_ble_eq_true rfl⟩ dX11_reads_40 (fun r_12 u_13 hu_13 H locs hw => ?_)
  have hw : Wd dC dI A [(a1, .inl (d1, 6000, .inl g_2)), (a2, .inl (d2, 6000, .inl g_3)), (a3, .inl (d3, 6000, .inl g_4)), (a4, .inl (d4, 6000, .inl g_5)), (a5, .inl (d5, 6000, .inl g_6)), (h0, .inr (9, .int 0 :: .int 0 :: .int 0 :: .int 0 :: .int 0 :: .int 0 :: .int 0 :: .long 0 :: .int 0 :: .int (-1) :: .int (-1) :: .int (-1) :: .int (nI n_1) :: .int 0 :: .int 0 :: .int 0 :: .int 0 :: .int 0 :: .int 0 :: .int 0 :: u20 :: .ref a1 :: .ref a2 :: .ref a3 :: .ref a4 :: .ref a5 :: tl))] [(d1, .int), (d2, .int), (d3, .int), (d4, .int), (d5, .boolean)] s H locs := hw
  obtain rfl := hu_13
  refine lv_if_eq (tgt := 109) hf.1 hf.2.1 dX11_reads_43 (by decide) (fun c_14 => absurd c_14 (by decide)) (fun c_14 => ?_)
  refine lv_aload_n hf.1 hf.2.1 dX11_reads_46 rfl (lv_at hl 0 rfl) ?_
  refine mget hf hw iX11 5 rfl rfl 6 (by decide) k1375 rfl dX11_reads_47 ?_
  refine lv_if_eq (tgt := 109) hf.1 hf.2.1 dX11_reads_50 (by decide) (fun c_15 => ?_) (fun c_15 => absurd (by decide) c_15)
  refine lv_aload_n hf.1 hf.2.1 dX11_reads_109 rfl (lv_at hl 0 rfl) ?_
  refine mV_i (As := []) (rest := []) (wr := [(a1, .inl (d1, 6000, .inl g_2)), (a2, .inl (d2, 6000, .inl g_3)), (a3, .inl (d3, 6000, .inl g_4)), (a4, .inl (d4, 6000, .inl g_5)), (a5, .inl (d5, 6000, .inl g_6))]) (tr := [(d1, .int), (d2, .int), (d3, .int), (d4, .int), (d5, .boolean)]) hf hw (m_isWell l dC dI h0 tl (.int 0) (.int 0) (.int 0) (.int 0) (.int 0) (.int 0) (.int 0) (.long 0) (.int (-1)) (.int (-1)) (.int (-1)) (.int (nI n_1)) (.int 0) (.int 0) (.int 0) (.int 0) (.int 0) (.int 0) (.int 0) u20 (.ref a1) (.ref a2) (.ref a3) (.ref a4) (.ref a5) H.size htl) ka_X11_isWell kv_X11_isWell 5 rfl rfl k1800 [5] [] [0, 1, 2, 3, 4] [0, 1, 2, 3, 4] rfl rfl rfl rfl rfl (by decide) rfl rfl rfl hl.1 rfl rfl ⟨Nat.le_of_ble_eq_true rfl, Nat.le_of_ble_eq_true rfl⟩ (Nat.le_of_ble_eq_true rfl) (ce := 0) (sl := 0) rfl rfl ⟨Nat.le_of_ble_eq_true rfl, Nat.le_of_ble_eq_true rfl⟩ dX11_reads_110 (fun r_16 u_17 hu_17 H locs hw => ?_)
  have hw : Wd dC dI A [(a1, .inl (d1, 6000, .inl g_2)), (a2, .inl (d2, 6000, .inl g_3)), (a3, .inl (d3, 6000, .inl g_4)), (a4, .inl (d4, 6000, .inl g_5)), (a5, .inl (d5, 6000, .inl g_6)), (h0, .inr (9, .int 0 :: .int 0 :: .int 0 :: .int 0 :: .int 0 :: .int 0 :: .int 0 :: .long 0 :: .int 0 :: .int (-1) :: .int (-1) :: .int (-1) :: .int (nI n_1) :: .int 0 :: .int 0 :: .int 0 :: .int 0 :: .int 0 :: .int 0 :: .int 0 :: u20 :: .ref a1 :: .ref a2 :: .ref a3 :: .ref a4 :: .ref a5 :: tl))] [(d1, .int), (d2, .int), (d3, .int), (d4, .int), (d5, .boolean)] s H locs := hw
  obtain rfl := hu_17
  refine lv_if_eq (tgt := 120) hf.1 hf.2.1 dX11_reads_113 (by decide) (fun c_18 => absurd c_18 (by decide)) (fun c_18 => ?_)
  refine lv_aload_n hf.1 hf.2.1 dX11_reads_116 rfl (lv_at hl 0 rfl) ?_
  refine mV_v (As := []) (rest := []) (wr := [(a1, .inl (d1, 6000, .inl g_2)), (a2, .inl (d2, 6000, .inl g_3)), (a3, .inl (d3, 6000, .inl g_4)), (a4, .inl (d4, 6000, .inl g_5)), (a5, .inl (d5, 6000, .inl g_6))]) (tr := [(d1, .int), (d2, .int), (d3, .int), (d4, .int), (d5, .boolean)]) hf hw (m_knows l dC dI h0 tl (.int 0) (.int 0) (.int 0) (.int 0) (.int 0) (.int 0) (.long 0) (.int 0) (.int (-1)) (.int (-1)) (.int (-1)) (.int (nI n_1)) (.int 0) (.int 0) (.int 0) (.int 0) (.int 0) u20 (.ref a1) (.ref a2) (.ref a3) (.ref a4) (.ref a5) H.size htl) ka_X11_knows kv_X11_knows 5 rfl rfl k1959 [5] [] [0, 1, 2, 3, 4] [0, 1, 2, 3, 4] rfl rfl rfl rfl rfl (by decide) rfl rfl rfl hl.1 rfl rfl ⟨Nat.le_of_ble_eq_true rfl, Nat.le_of_ble_eq_true rfl⟩ (Nat.le_of_ble_eq_true rfl) (ce := 0) (sl := 0) rfl rfl ⟨Nat.le_of_ble_eq_true rfl, Nat.le_of_ble_eq_true rfl⟩ dX11_reads_117 (fun u_20 hu_20 H locs hw => ?_)
  have hw : Wd dC dI A [(a1, .inl (d1, 6000, .inl g_2)), (a2, .inl (d2, 6000, .inl g_3)), (a3, .inl (d3, 6000, .inl g_4)), (a4, .inl (d4, 6000, .inl g_5)), (a5, .inl (d5, 6000, .inl g_6)), (h0, .inr (9, .int 0 :: .int 0 :: .int 0 :: .int 0 :: .int 0 :: .int 0 :: .int 0 :: .long 0 :: .int 0 :: .int (-1) :: .int (-1) :: .int (-1) :: .int (nI n_1) :: .int 0 :: .int 0 :: .int 0 :: .int 0 :: .int 0 :: .int 0 :: .int 0 :: u20 :: .ref a1 :: .ref a2 :: .ref a3 :: .ref a4 :: .ref a5 :: tl))] [(d1, .int), (d2, .int), (d3, .int), (d4, .int), (d5, .boolean)] s H locs := hw
  refine lv_aload_n hf.1 hf.2.1 dX11_reads_120 rfl (lv_at hl 0 rfl) ?_
  refine lv_aload_n hf.1 hf.2.1 dX11_reads_121 rfl (lv_at hl 0 rfl) ?_
  refine lv_ldc2 (v := 3412558) hf.1 hf.2.1 hf.2.2.2.1 (hf.2.2.2.2.1 _ k1967) dX11_reads_122 ?_
  refine mV_i (As := [.long 3412558]) (rest := [.ref h0]) (wr := [(a1, .inl (d1, 6000, .inl g_2)), (a2, .inl (d2, 6000, .inl g_3)), (a3, .inl (d3, 6000, .inl g_4)), (a4, .inl (d4, 6000, .inl g_5)), (a5, .inl (d5, 6000, .inl g_6))]) (tr := [(d1, .int), (d2, .int), (d3, .int), (d4, .int), (d5, .boolean)]) hf hw (m_partOf l dC dI h0 tl (.int 0) (.int 0) (.int 0) (.int 0) (.int 0) (.int 0) (.int 0) (.long 0) (.int 0) (.int (-1)) (.int (-1)) (.int (-1)) (.int (nI n_1)) (.int 0) (.int 0) (.int 0) (.int 0) (.int 0) (.int 0) u20 (.ref a1) (.ref a2) (.ref a3) (.ref a4) (.ref a5) 3412558 H.size htl) ka_X11_partOf kv_X11_partOf 5 rfl rfl k1963 [5] [] [0, 1, 2, 3, 4] [0, 1, 2, 3, 4] rfl rfl rfl rfl rfl (by decide) rfl rfl rfl hl.1 rfl rfl ⟨Nat.le_of_ble_eq_true rfl, Nat.le_of_ble_eq_true rfl⟩ (Nat.le_of_ble_eq_true rfl) (ce := 0) (sl := 0) rfl rfl ⟨Nat.le_of_ble_eq_true rfl, Nat.le_of_ble_eq_true rfl⟩ dX11_reads_125 (fun r_21 u_22 hu_22 H locs hw => ?_)
  have hw : Wd dC dI A [(a1, .inl (d1, 6000, .inl g_2)), (a2, .inl (d2, 6000, .inl g_3)), (a3, .inl (d3, 6000, .inl g_4)), (a4, .inl (d4, 6000, .inl g_5)), (a5, .inl (d5, 6000, .inl g_6)), (h0, .inr (9, .int 0 :: .int 0 :: .int 0 :: .int 0 :: .int 0 :: .int 0 :: .int 0 :: .long 0 :: .int 0 :: .int (-1) :: .int (-1) :: .int (-1) :: .int (nI n_1) :: .int 0 :: .int 0 :: .int 0 :: .int 0 :: .int 0 :: .int 0 :: .int 0 :: u20 :: .ref a1 :: .ref a2 :: .ref a3 :: .ref a4 :: .ref a5 :: tl))] [(d1, .int), (d2, .int), (d3, .int), (d4, .int), (d5, .boolean)] s H locs := hw
  obtain rfl := hu_22
  refine mput hf hw iX11 tyX11 tyX11_ok nmX11 5 rfl rfl 18 (by decide) k1430 rfl rfl rfl (lt_app (K := [.int 0, .int 0, .int 0, .int 0, .int 0, .int 0, .int 0, .long 0, .int 0, .int (-1), .int (-1), .int (-1), .int (nI n_1), .int 0, .int 0, .int 0, .int 0, .int 0, .int (-1), .int 0, u20, .ref a1, .ref a2, .ref a3, .ref a4, .ref a5]) htl (Nat.le_of_ble_eq_true rfl)) (ws' := [(a1, .inl (d1, 6000, .inl g_2)), (a2, .inl (d2, 6000, .inl g_3)), (a3, .inl (d3, 6000, .inl g_4)), (a4, .inl (d4, 6000, .inl g_5)), (a5, .inl (d5, 6000, .inl g_6)), (h0, .inr (9, .int 0 :: .int 0 :: .int 0 :: .int 0 :: .int 0 :: .int 0 :: .int 0 :: .long 0 :: .int 0 :: .int (-1) :: .int (-1) :: .int (-1) :: .int (nI n_1) :: .int 0 :: .int 0 :: .int 0 :: .int 0 :: .int 0 :: .int (-1) :: .int 0 :: u20 :: .ref a1 :: .ref a2 :: .ref a3 :: .ref a4 :: .ref a5 :: tl))]) rfl dX11_reads_128 (fun H locs hw => ?_)
  refine lv_aload_n hf.1 hf.2.1 dX11_reads_131 rfl (lv_at hl 0 rfl) ?_
  refine mV_i (As := []) (rest := []) (wr := [(a1, .inl (d1, 6000, .inl g_2)), (a2, .inl (d2, 6000, .inl g_3)), (a3, .inl (d3, 6000, .inl g_4)), (a4, .inl (d4, 6000, .inl g_5)), (a5, .inl (d5, 6000, .inl g_6))]) (tr := [(d1, .int), (d2, .int), (d3, .int), (d4, .int), (d5, .boolean)]) hf hw (m_isWell l dC dI h0 tl (.int 0) (.int 0) (.int 0) (.int 0) (.int 0) (.int 0) (.int 0) (.long 0) (.int (-1)) (.int (-1)) (.int (-1)) (.int (nI n_1)) (.int 0) (.int 0) (.int 0) (.int 0) (.int 0) (.int (-1)) (.int 0) u20 (.ref a1) (.ref a2) (.ref a3) (.ref a4) (.ref a5) H.size htl) ka_X11_isWell kv_X11_isWell 5 rfl rfl k1800 [5] [] [0, 1, 2, 3, 4] [0, 1, 2, 3, 4] rfl rfl rfl rfl rfl (by decide) rfl rfl rfl hl.1 rfl rfl ⟨Nat.le_of_ble_eq_true rfl, Nat.le_of_ble_eq_true rfl⟩ (Nat.le_of_ble_eq_true rfl) (ce := 0) (sl := 0) rfl rfl ⟨Nat.le_of_ble_eq_true rfl, Nat.le_of_ble_eq_true rfl⟩ dX11_reads_132 (fun r_23 u_24 hu_24 H locs hw => ?_)
  have hw : Wd dC dI A [(a1, .inl (d1, 6000, .inl g_2)), (a2, .inl (d2, 6000, .inl g_3)), (a3, .inl (d3, 6000, .inl g_4)), (a4, .inl (d4, 6000, .inl g_5)), (a5, .inl (d5, 6000, .inl g_6)), (h0, .inr (9, .int 0 :: .int 0 :: .int 0 :: .int 0 :: .int 0 :: .int 0 :: .int 0 :: .long 0 :: .int 0 :: .int (-1) :: .int (-1) :: .int (-1) :: .int (nI n_1) :: .int 0 :: .int 0 :: .int 0 :: .int 0 :: .int 0 :: .int (-1) :: .int 0 :: u20 :: .ref a1 :: .ref a2 :: .ref a3 :: .ref a4 :: .ref a5 :: tl))] [(d1, .int), (d2, .int), (d3, .int), (d4, .int), (d5, .boolean)] s H locs := hw
  obtain rfl := hu_24
  refine lv_if_eq (tgt := 167) hf.1 hf.2.1 dX11_reads_135 (by decide) (fun c_25 => absurd c_25 (by decide)) (fun c_25 => ?_)
  refine lv_aload_n hf.1 hf.2.1 dX11_reads_138 rfl (lv_at hl 0 rfl) ?_
  refine mget hf hw iX11 5 rfl rfl 18 (by decide) k1430 rfl dX11_reads_139 ?_
  refine lv_if_lt (tgt := 157) hf.1 hf.2.1 dX11_reads_142 (by decide) (fun c_26 => ?_) (fun c_26 => absurd (by decide) c_26)
  refine lv_aload_n hf.1 hf.2.1 dX11_reads_157 rfl (lv_at hl 0 rfl) ?_
  refine lv_bipush (v := 7) hf.1 hf.2.1 dX11_reads_158 (by decide) ?_
  refine lv_aload_n hf.1 hf.2.1 dX11_reads_160 rfl (lv_at hl 0 rfl) ?_
  refine mget hf hw iX11 5 rfl rfl 1 (by decide) k1368 rfl dX11_reads_161 ?_
  refine mV_v (As := [.int 7, .int 0]) (rest := []) (wr := [(a1, .inl (d1, 6000, .inl g_2)), (a2, .inl (d2, 6000, .inl g_3)), (a3, .inl (d3, 6000, .inl g_4)), (a4, .inl (d4, 6000, .inl g_5)), (a5, .inl (d5, 6000, .inl g_6))]) (tr := [(d1, .int), (d2, .int), (d3, .int), (d4, .int), (d5, .boolean)]) hf hw (m_fails l dC dI h0 tl (.int 0) (.int 0) (.int 0) (.int 0) (.int 0) (.int 0) (.int 0) (.long 0) (.int (-1)) (.int (-1)) (.int (-1)) (.int (nI n_1)) (.int 0) (.int 0) (.int 0) (.int 0) (.int 0) (.int (-1)) (.int 0) u20 (.ref a1) (.ref a2) (.ref a3) (.ref a4) (.ref a5) H.size htl) ka_X11_fails kv_X11_fails 5 rfl rfl k1812 [5] [] [0, 1, 2, 3, 4] [0, 1, 2, 3, 4] rfl rfl rfl rfl rfl (by decide) rfl rfl rfl hl.1 rfl rfl ⟨Nat.le_of_ble_eq_true rfl, Nat.le_of_ble_eq_true rfl⟩ (Nat.le_of_ble_eq_true rfl) (ce := 0) (sl := 0) rfl rfl ⟨Nat.le_of_ble_eq_true rfl, Nat.le_of_ble_eq_true rfl⟩ dX11_reads_164 (fun u_28 hu_28 H locs hw => ?_)
  have hw : Wd dC dI A [(a1, .inl (d1, 6000, .inl g_2)), (a2, .inl (d2, 6000, .inl g_3)), (a3, .inl (d3, 6000, .inl g_4)), (a4, .inl (d4, 6000, .inl g_5)), (a5, .inl (d5, 6000, .inl g_6)), (h0, .inr (9, .int 0 :: .int 0 :: .int 0 :: .int 0 :: .int 0 :: .int 0 :: .int 0 :: .long 0 :: .int 7 :: .int 0 :: .int (-1) :: .int (-1) :: .int (nI n_1) :: .int 0 :: .int 0 :: .int 0 :: .int 0 :: .int 0 :: .int (-1) :: .int 0 :: u20 :: .ref a1 :: .ref a2 :: .ref a3 :: .ref a4 :: .ref a5 :: tl))] [(d1, .int), (d2, .int), (d3, .int), (d4, .int), (d5, .boolean)] s H locs := hw
  refine lv_aload_n hf.1 hf.2.1 dX11_reads_167 rfl (lv_at hl 0 rfl) ?_
  refine lv_aload_n hf.1 hf.2.1 dX11_reads_168 rfl (lv_at hl 0 rfl) ?_
  refine mget hf hw iX11 5 rfl rfl 12 (by decide) k1382 rfl dX11_reads_169 ?_
  refine mput hf hw iX11 tyX11 tyX11_ok nmX11 5 rfl rfl 13 (by decide) k1383 rfl rfl rfl (lt_app (K := [.int 0, .int 0, .int 0, .int 0, .int 0, .int 0, .int 0, .long 0, .int 7, .int 0, .int (-1), .int (-1), .int (nI n_1), .int (nI n_1), .int 0, .int 0, .int 0, .int 0, .int (-1), .int 0, u20, .ref a1, .ref a2, .ref a3, .ref a4, .ref a5]) htl (Nat.le_of_ble_eq_true rfl)) (ws' := [(a1, .inl (d1, 6000, .inl g_2)), (a2, .inl (d2, 6000, .inl g_3)), (a3, .inl (d3, 6000, .inl g_4)), (a4, .inl (d4, 6000, .inl g_5)), (a5, .inl (d5, 6000, .inl g_6)), (h0, .inr (9, .int 0 :: .int 0 :: .int 0 :: .int 0 :: .int 0 :: .int 0 :: .int 0 :: .long 0 :: .int 7 :: .int 0 :: .int (-1) :: .int (-1) :: .int (nI n_1) :: .int (nI n_1) :: .int 0 :: .int 0 :: .int 0 :: .int 0 :: .int (-1) :: .int 0 :: u20 :: .ref a1 :: .ref a2 :: .ref a3 :: .ref a4 :: .ref a5 :: tl))]) rfl dX11_reads_172 (fun H locs hw => ?_)
  refine lv_aload_n hf.1 hf.2.1 dX11_reads_175 rfl (lv_at hl 0 rfl) ?_
  refine lv_aload_n hf.1 hf.2.1 dX11_reads_176 rfl (lv_at hl 0 rfl) ?_
  refine mget hf hw iX11 5 rfl rfl 14 (by decide) k1389 rfl dX11_reads_177 ?_
  refine mput hf hw iX11 tyX11 tyX11_ok nmX11 5 rfl rfl 15 (by decide) k1390 rfl rfl rfl (lt_app (K := [.int 0, .int 0, .int 0, .int 0, .int 0, .int 0, .int 0, .long 0, .int 7, .int 0, .int (-1), .int (-1), .int (nI n_1), .int (nI n_1), .int 0, .int 0, .int 0, .int 0, .int (-1), .int 0, u20, .ref a1, .ref a2, .ref a3, .ref a4, .ref a5]) htl (Nat.le_of_ble_eq_true rfl)) (ws' := [(a1, .inl (d1, 6000, .inl g_2)), (a2, .inl (d2, 6000, .inl g_3)), (a3, .inl (d3, 6000, .inl g_4)), (a4, .inl (d4, 6000, .inl g_5)), (a5, .inl (d5, 6000, .inl g_6)), (h0, .inr (9, .int 0 :: .int 0 :: .int 0 :: .int 0 :: .int 0 :: .int 0 :: .int 0 :: .long 0 :: .int 7 :: .int 0 :: .int (-1) :: .int (-1) :: .int (nI n_1) :: .int (nI n_1) :: .int 0 :: .int 0 :: .int 0 :: .int 0 :: .int (-1) :: .int 0 :: u20 :: .ref a1 :: .ref a2 :: .ref a3 :: .ref a4 :: .ref a5 :: tl))]) rfl dX11_reads_180 (fun H locs hw => ?_)
  exact mret_v hf hr hlk hw n_1 trivial [5] [] rfl rfl rfl (Nat.le_of_ble_eq_true rfl) (Nat.le_of_ble_eq_true rfl) dX11_reads_183

set_option maxHeartbeats 4000000 in
set_option maxRecDepth 100000 in
theorem m_read (l : Launch) (dC : Nat → ClassId) (dI : Nat → Nat → Nat) (h0 : Nat) (tl : List Value) (u20 : Value) (a1 a2 a3 a4 a5 : Nat) (d1 d2 d3 d4 d5 : ClassId) (p1 p2 p3 p4 p5 : Nat → Int32) (k : Nat) (sz : Nat) (htl : tl.length = 103) : Met l yX11_read (wsOf yX11_read cX11_read 3 (some .int)) ({ frames := 18, cells := 0, slots := 0, locals := 270 } : Room) (va_Pc [.ref h0] (PB dC dI sz [(h0, .inr (9, .int 0 :: .int 0 :: .int 0 :: .int 0 :: .int 0 :: .int 0 :: .int 0 :: .long 0 :: .int 0 :: .int 0 :: .int (-1) :: .int (-1) :: .int (nI k) :: .int 0 :: .int 0 :: .int 0 :: .int 0 :: .int 0 :: .int 0 :: .int 0 :: u20 :: .ref a1 :: .ref a2 :: .ref a3 :: .ref a4 :: .ref a5 :: tl)), (a1, .inl (d1, 6000, .inl p1)), (a2, .inl (d2, 6000, .inl p2)), (a3, .inl (d3, 6000, .inl p3)), (a4, .inl (d4, 6000, .inl p4)), (a5, .inl (d5, 6000, .inl p5))] [(d1, .int), (d2, .int), (d3, .int), (d4, .int), (d5, .boolean)])) (va_Qi (S := Unit) (fun r _ => r = -1) (fun x t => PW dC dI (va_A [(h0, .inr (9, .int 0 :: .int 0 :: .int 0 :: .int 0 :: .int 0 :: .int 0 :: .int 0 :: .long 0 :: .int 0 :: .int 0 :: .int (-1) :: .int (-1) :: .int (nI k) :: .int 0 :: .int 0 :: .int 0 :: .int 0 :: .int 0 :: .int 0 :: .int 0 :: u20 :: .ref a1 :: .ref a2 :: .ref a3 :: .ref a4 :: .ref a5 :: tl)), (a1, .inl (d1, 6000, .inl p1)), (a2, .inl (d2, 6000, .inl p2)), (a3, .inl (d3, 6000, .inl p3)), (a4, .inl (d4, 6000, .inl p4)), (a5, .inl (d5, 6000, .inl p5))] sz) ([]) ([]) t) (va_A [(h0, .inr (9, .int 0 :: .int 0 :: .int 0 :: .int 0 :: .int 0 :: .int 0 :: .int 0 :: .long 0 :: .int 0 :: .int 0 :: .int (-1) :: .int (-1) :: .int (nI k) :: .int 0 :: .int 0 :: .int 0 :: .int 0 :: .int 0 :: .int 0 :: .int 0 :: u20 :: .ref a1 :: .ref a2 :: .ref a3 :: .ref a4 :: .ref a5 :: tl)), (a1, .inl (d1, 6000, .inl p1)), (a2, .inl (d2, 6000, .inl p2)), (a3, .inl (d3, 6000, .inl p3)), (a4, .inl (d4, 6000, .inl p4)), (a5, .inl (d5, 6000, .inl p5))] sz)) 0 0 (va_A [(h0, .inr (9, .int 0 :: .int 0 :: .int 0 :: .int 0 :: .int 0 :: .int 0 :: .int 0 :: .long 0 :: .int 0 :: .int 0 :: .int (-1) :: .int (-1) :: .int (nI k) :: .int 0 :: .int 0 :: .int 0 :: .int 0 :: .int 0 :: .int 0 :: .int 0 :: u20 :: .ref a1 :: .ref a2 :: .ref a3 :: .ref a4 :: .ref a5 :: tl)), (a1, .inl (d1, 6000, .inl p1)), (a2, .inl (d2, 6000, .inl p2)), (a3, .inl (d3, 6000, .inl p3)), (a4, .inl (d4, 6000, .inl p4)), (a5, .inl (d5, 6000, .inl p5))] sz) := by
  refine mbody (y := yX11_read) (av := [.ref h0]) (b := cX11_read) (n := 3) (ret := (some .int)) (Qc := fun A => (va_Qi (S := Unit) (fun r _ => r = -1) (fun x t => PW dC dI A ([]) ([]) t) A)) (by decide) (Nat.le_of_ble_eq_true rfl) ?_
  intro p e s m below meth c ls A H hf hr hin hlk hw hl
  have hl : lv_has ls 3 [(0, .ref h0)] := hl
  refine lv_aload_n hf.1 hf.2.1 dX11_read_0 rfl (lv_at hl 0 rfl) ?_
  refine lv_aload_n hf.1 hf.2.1 dX11_read_1 rfl (lv_at hl 0 rfl) ?_
  refine mget hf hw iX11 0 rfl rfl 0 (by decide) k1366 rfl dX11_read_2 ?_
  refine mput hf hw iX11 tyX11 tyX11_ok nmX11 0 rfl rfl 1 (by decide) k1368 rfl rfl rfl (lt_app (K := [.int 0, .int 0, .int 0, .int 0, .int 0, .int 0, .int 0, .long 0, .int 0, .int 0, .int (-1), .int (-1), .int (nI k), .int 0, .int 0, .int 0, .int 0, .int 0, .int 0, .int 0, u20, .ref a1, .ref a2, .ref a3, .ref a4, .ref a5]) htl (Nat.le_of_ble_eq_true rfl)) (ws' := [(h0, .inr (9, .int 0 :: .int 0 :: .int 0 :: .int 0 :: .int 0 :: .int 0 :: .int 0 :: .long 0 :: .int 0 :: .int 0 :: .int (-1) :: .int (-1) :: .int (nI k) :: .int 0 :: .int 0 :: .int 0 :: .int 0 :: .int 0 :: .int 0 :: .int 0 :: u20 :: .ref a1 :: .ref a2 :: .ref a3 :: .ref a4 :: .ref a5 :: tl)), (a1, .inl (d1, 6000, .inl p1)), (a2, .inl (d2, 6000, .inl p2)), (a3, .inl (d3, 6000, .inl p3)), (a4, .inl (d4, 6000, .inl p4)), (a5, .inl (d5, 6000, .inl p5))]) rfl dX11_read_5 (fun H locs hw => ?_)
  refine lv_iconst (v := 0) hf.1 hf.2.1 dX11_read_8 (by decide) ?_
  refine lv_istore_n (lv' := [(1, .int 0), (0, .ref h0)]) hf.1 hf.2.1 dX11_read_9 rfl hl (by decide) rfl (fun ls hl => ?_)
  refine lv_iload_n hf.1 hf.2.1 dX11_read_10 rfl (lv_at hl 0 rfl) ?_
  refine lv_aload_n hf.1 hf.2.1 dX11_read_11 rfl (lv_at hl 1 rfl) ?_
  refine mget hf hw iX11 0 rfl rfl 0 (by decide) k1366 rfl dX11_read_12 ?_
  refine lv_icmp_ge (tgt := 36) hf.1 hf.2.1 dX11_read_15 (by decide) (fun c_1 => ?_) (fun c_1 => absurd (by decide) c_1)
  refine lv_aload_n hf.1 hf.2.1 dX11_read_36 rfl (lv_at hl 1 rfl) ?_
  refine lv_iconst (v := 0) hf.1 hf.2.1 dX11_read_37 (by decide) ?_
  refine mput hf hw iX11 tyX11 tyX11_ok nmX11 0 rfl rfl 0 (by decide) k1366 rfl rfl rfl (lt_app (K := [.int 0, .int 0, .int 0, .int 0, .int 0, .int 0, .int 0, .long 0, .int 0, .int 0, .int (-1), .int (-1), .int (nI k), .int 0, .int 0, .int 0, .int 0, .int 0, .int 0, .int 0, u20, .ref a1, .ref a2, .ref a3, .ref a4, .ref a5]) htl (Nat.le_of_ble_eq_true rfl)) (ws' := [(h0, .inr (9, .int 0 :: .int 0 :: .int 0 :: .int 0 :: .int 0 :: .int 0 :: .int 0 :: .long 0 :: .int 0 :: .int 0 :: .int (-1) :: .int (-1) :: .int (nI k) :: .int 0 :: .int 0 :: .int 0 :: .int 0 :: .int 0 :: .int 0 :: .int 0 :: u20 :: .ref a1 :: .ref a2 :: .ref a3 :: .ref a4 :: .ref a5 :: tl)), (a1, .inl (d1, 6000, .inl p1)), (a2, .inl (d2, 6000, .inl p2)), (a3, .inl (d3, 6000, .inl p3)), (a4, .inl (d4, 6000, .inl p4)), (a5, .inl (d5, 6000, .inl p5))]) rfl dX11_read_38 (fun H locs hw => ?_)
  refine lv_aload_n hf.1 hf.2.1 dX11_read_41 rfl (lv_at hl 1 rfl) ?_
  refine mget hf hw iX11 0 rfl rfl 3 (by decide) k1372 rfl dX11_read_42 ?_
  refine lv_istore_n (lv' := [(1, .int 0), (0, .ref h0)]) hf.1 hf.2.1 dX11_read_45 rfl hl (by decide) rfl (fun ls hl => ?_)
  refine lv_aload_n hf.1 hf.2.1 dX11_read_46 rfl (lv_at hl 1 rfl) ?_
  refine mV_v (As := []) (rest := []) (wr := []) (tr := []) hf hw (m_reads l dC dI h0 tl u20 a1 a2 a3 a4 a5 d1 d2 d3 d4 d5 p1 p2 p3 p4 p5 k H.size htl) ka_X11_reads kv_X11_reads 0 rfl rfl k1772 [0, 1, 2, 3, 4, 5] [0, 1, 2, 3, 4] [] [] rfl rfl rfl rfl rfl (by decide) rfl rfl rfl hl.1 rfl rfl ⟨Nat.le_of_ble_eq_true rfl, Nat.le_of_ble_eq_true rfl⟩ (Nat.le_of_ble_eq_true rfl) (ce := 0) (sl := 0) rfl rfl ⟨Nat.le_of_ble_eq_true rfl, Nat.le_of_ble_eq_true rfl⟩ dX11_read_47 (fun n_2 hu_4 H locs hw => ?_)
  have hw : Wd dC dI A [(h0, .inr (9, .int 0 :: .int 0 :: .int 0 :: .int 0 :: .int 0 :: .int 0 :: .int 0 :: .long 0 :: .int 7 :: .int 0 :: .int (-1) :: .int (-1) :: .int (nI n_2) :: .int (nI n_2) :: .int 0 :: .int 0 :: .int 0 :: .int 0 :: .int (-1) :: .int 0 :: u20 :: .ref a1 :: .ref a2 :: .ref a3 :: .ref a4 :: .ref a5 :: tl))] [] s H locs := hw
  refine lv_aload_n hf.1 hf.2.1 dX11_read_50 rfl (lv_at hl 1 rfl) ?_
  refine lv_aload_n hf.1 hf.2.1 dX11_read_51 rfl (lv_at hl 1 rfl) ?_
  refine mget hf hw iX11 0 rfl rfl 8 (by decide) k1378 rfl dX11_read_52 ?_
  refine mput hf hw iX11 tyX11 tyX11_ok nmX11 0 rfl rfl 10 (by decide) k1380 rfl rfl rfl (lt_app (K := [.int 0, .int 0, .int 0, .int 0, .int 0, .int 0, .int 0, .long 0, .int 7, .int 0, .int 7, .int (-1), .int (nI n_2), .int (nI n_2), .int 0, .int 0, .int 0, .int 0, .int (-1), .int 0, u20, .ref a1, .ref a2, .ref a3, .ref a4, .ref a5]) htl (Nat.le_of_ble_eq_true rfl)) (ws' := [(h0, .inr (9, .int 0 :: .int 0 :: .int 0 :: .int 0 :: .int 0 :: .int 0 :: .int 0 :: .long 0 :: .int 7 :: .int 0 :: .int 7 :: .int (-1) :: .int (nI n_2) :: .int (nI n_2) :: .int 0 :: .int 0 :: .int 0 :: .int 0 :: .int (-1) :: .int 0 :: u20 :: .ref a1 :: .ref a2 :: .ref a3 :: .ref a4 :: .ref a5 :: tl))]) rfl dX11_read_55 (fun H locs hw => ?_)
  refine lv_aload_n hf.1 hf.2.1 dX11_read_58 rfl (lv_at hl 1 rfl) ?_
  refine lv_aload_n hf.1 hf.2.1 dX11_read_59 rfl (lv_at hl 1 rfl) ?_
  refine mget hf hw iX11 0 rfl rfl 9 (by decide) k1379 rfl dX11_read_60 ?_
  refine mput hf hw iX11 tyX11 tyX11_ok nmX11 0 rfl rfl 11 (by decide) k1381 rfl rfl rfl (lt_app (K := [.int 0, .int 0, .int 0, .int 0, .int 0, .int 0, .int 0, .long 0, .int 7, .int 0, .int 7, .int 0, .int (nI n_2), .int (nI n_2), .int 0, .int 0, .int 0, .int 0, .int (-1), .int 0, u20, .ref a1, .ref a2, .ref a3, .ref a4, .ref a5]) htl (Nat.le_of_ble_eq_true rfl)) (ws' := [(h0, .inr (9, .int 0 :: .int 0 :: .int 0 :: .int 0 :: .int 0 :: .int 0 :: .int 0 :: .long 0 :: .int 7 :: .int 0 :: .int 7 :: .int 0 :: .int (nI n_2) :: .int (nI n_2) :: .int 0 :: .int 0 :: .int 0 :: .int 0 :: .int (-1) :: .int 0 :: u20 :: .ref a1 :: .ref a2 :: .ref a3 :: .ref a4 :: .ref a5 :: tl))]) rfl dX11_read_63 (fun H locs hw => ?_)
  refine lv_aload_n hf.1 hf.2.1 dX11_read_66 rfl (lv_at hl 1 rfl) ?_
  refine mget hf hw iX11 0 rfl rfl 8 (by decide) k1378 rfl dX11_read_67 ?_
  refine lv_if_ne (tgt := 147) hf.1 hf.2.1 dX11_read_70 (by decide) (fun c_5 => ?_) (fun c_5 => absurd c_5 (by decide))
  refine lv_aload_n hf.1 hf.2.1 dX11_read_147 rfl (lv_at hl 1 rfl) ?_
  refine lv_iconst (v := 0) hf.1 hf.2.1 dX11_read_148 (by decide) ?_
  refine mput hf hw iX11 tyX11 tyX11_ok nmX11 0 rfl rfl 16 (by decide) k1394 rfl rfl rfl (lt_app (K := [.int 0, .int 0, .int 0, .int 0, .int 0, .int 0, .int 0, .long 0, .int 7, .int 0, .int 7, .int 0, .int (nI n_2), .int (nI n_2), .int 0, .int 0, .int 0, .int 0, .int (-1), .int 0, u20, .ref a1, .ref a2, .ref a3, .ref a4, .ref a5]) htl (Nat.le_of_ble_eq_true rfl)) (ws' := [(h0, .inr (9, .int 0 :: .int 0 :: .int 0 :: .int 0 :: .int 0 :: .int 0 :: .int 0 :: .long 0 :: .int 7 :: .int 0 :: .int 7 :: .int 0 :: .int (nI n_2) :: .int (nI n_2) :: .int 0 :: .int 0 :: .int 0 :: .int 0 :: .int (-1) :: .int 0 :: u20 :: .ref a1 :: .ref a2 :: .ref a3 :: .ref a4 :: .ref a5 :: tl))]) rfl dX11_read_149 (fun H locs hw => ?_)
  refine lv_aload_n hf.1 hf.2.1 dX11_read_152 rfl (lv_at hl 1 rfl) ?_
  refine mget hf hw iX11 0 rfl rfl 2 (by decide) k1371 rfl dX11_read_153 ?_
  refine lv_if_eq (tgt := 207) hf.1 hf.2.1 dX11_read_156 (by decide) (fun c_6 => ?_) (fun c_6 => absurd (by decide) c_6)
  refine lv_iconst (v := (-1)) hf.1 hf.2.1 dX11_read_207 (by decide) ?_
  exact mret_i (v := (-1)) hf hr hlk hw () rfl [] [] rfl rfl rfl (Nat.le_of_ble_eq_true rfl) (Nat.le_of_ble_eq_true rfl) dX11_read_208
