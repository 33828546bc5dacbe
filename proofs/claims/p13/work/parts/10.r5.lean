theorem dX11_judgeCallee_0 : decode cX11_judgeCallee 0 = .ok (.aload_n 0, 1) := by decide +kernel
theorem dX11_judgeCallee_1 : decode cX11_judgeCallee 1 = .ok (.getfield 191, 3) := by decide +kernel
theorem dX11_judgeCallee_4 : decode cX11_judgeCallee 4 = .ok (.aload_n 0, 1) := by decide +kernel
theorem dX11_judgeCallee_5 : decode cX11_judgeCallee 5 = .ok (.getfield 577, 3) := by decide +kernel
theorem dX11_judgeCallee_8 : decode cX11_judgeCallee 8 = .ok (.iconst 1, 1) := by decide +kernel
theorem dX11_judgeCallee_9 : decode cX11_judgeCallee 9 = .ok (.isub, 1) := by decide +kernel
theorem dX11_judgeCallee_10 : decode cX11_judgeCallee 10 = .ok (.iaload, 1) := by decide +kernel
theorem dX11_judgeCallee_11 : decode cX11_judgeCallee 11 = .ok (.istore_n 3, 1) := by decide +kernel
theorem dX11_judgeCallee_12 : decode cX11_judgeCallee 12 = .ok (.iload_n 3, 1) := by decide +kernel
theorem dX11_judgeCallee_13 : decode cX11_judgeCallee 13 = .ok (.iconst 2, 1) := by decide +kernel
theorem dX11_judgeCallee_14 : decode cX11_judgeCallee 14 = .ok (.if_icmp .ne 49, 3) := by decide +kernel
theorem dX11_judgeCallee_17 : decode cX11_judgeCallee 17 = .ok (.aload_n 0, 1) := by decide +kernel
theorem dX11_judgeCallee_18 : decode cX11_judgeCallee 18 = .ok (.aload_n 0, 1) := by decide +kernel
theorem dX11_judgeCallee_19 : decode cX11_judgeCallee 19 = .ok (.getfield 98, 3) := by decide +kernel
theorem dX11_judgeCallee_22 : decode cX11_judgeCallee 22 = .ok (.iload_n 2, 1) := by decide +kernel
theorem dX11_judgeCallee_23 : decode cX11_judgeCallee 23 = .ok (.iaload, 1) := by decide +kernel
theorem dX11_judgeCallee_24 : decode cX11_judgeCallee 24 = .ok (.invokevirtual 621, 3) := by decide +kernel
theorem dX11_judgeCallee_27 : decode cX11_judgeCallee 27 = .ok (.istore 4, 2) := by decide +kernel
theorem dX11_judgeCallee_29 : decode cX11_judgeCallee 29 = .ok (.aload_n 0, 1) := by decide +kernel
theorem dX11_judgeCallee_30 : decode cX11_judgeCallee 30 = .ok (.iload_n 1, 1) := by decide +kernel
theorem dX11_judgeCallee_31 : decode cX11_judgeCallee 31 = .ok (.iload_n 3, 1) := by decide +kernel
theorem dX11_judgeCallee_32 : decode cX11_judgeCallee 32 = .ok (.iload 4, 2) := by decide +kernel
theorem dX11_judgeCallee_34 : decode cX11_judgeCallee 34 = .ok (.aload_n 0, 1) := by decide +kernel
theorem dX11_judgeCallee_35 : decode cX11_judgeCallee 35 = .ok (.getfield 83, 3) := by decide +kernel
theorem dX11_judgeCallee_38 : decode cX11_judgeCallee 38 = .ok (.iload_n 2, 1) := by decide +kernel
theorem dX11_judgeCallee_39 : decode cX11_judgeCallee 39 = .ok (.iaload, 1) := by decide +kernel
theorem dX11_judgeCallee_40 : decode cX11_judgeCallee 40 = .ok (.aload_n 0, 1) := by decide +kernel
theorem dX11_judgeCallee_41 : decode cX11_judgeCallee 41 = .ok (.getfield 568, 3) := by decide +kernel
theorem dX11_judgeCallee_44 : decode cX11_judgeCallee 44 = .ok (.invokevirtual 584, 3) := by decide +kernel
theorem dX11_judgeCallee_47 : decode cX11_judgeCallee 47 = .ok (.aload_n 0, 1) := by decide +kernel
theorem dX11_judgeCallee_48 : decode cX11_judgeCallee 48 = .ok (.getfield 191, 3) := by decide +kernel
theorem dX11_judgeCallee_51 : decode cX11_judgeCallee 51 = .ok (.aload_n 0, 1) := by decide +kernel
theorem dX11_judgeCallee_52 : decode cX11_judgeCallee 52 = .ok (.getfield 577, 3) := by decide +kernel
theorem dX11_judgeCallee_55 : decode cX11_judgeCallee 55 = .ok (.iconst 1, 1) := by decide +kernel
theorem dX11_judgeCallee_56 : decode cX11_judgeCallee 56 = .ok (.isub, 1) := by decide +kernel
theorem dX11_judgeCallee_57 : decode cX11_judgeCallee 57 = .ok (.iload 4, 2) := by decide +kernel
theorem dX11_judgeCallee_59 : decode cX11_judgeCallee 59 = .ok (.iastore, 1) := by decide +kernel
theorem dX11_judgeCallee_60 : decode cX11_judgeCallee 60 = .ok (.goto 57, 3) := by decide +kernel
theorem dX11_judgeCallee_63 : decode cX11_judgeCallee 63 = .ok (.aload_n 0, 1) := by decide +kernel
theorem dX11_judgeCallee_64 : decode cX11_judgeCallee 64 = .ok (.getfield 26, 3) := by decide +kernel
theorem dX11_judgeCallee_67 : decode cX11_judgeCallee 67 = .ok (.iload_n 3, 1) := by decide +kernel
theorem dX11_judgeCallee_68 : decode cX11_judgeCallee 68 = .ok (.iaload, 1) := by decide +kernel
theorem dX11_judgeCallee_69 : decode cX11_judgeCallee 69 = .ok (.iconst 5, 1) := by decide +kernel
theorem dX11_judgeCallee_70 : decode cX11_judgeCallee 70 = .ok (.if_icmp .eq 18, 3) := by decide +kernel
theorem dX11_judgeCallee_73 : decode cX11_judgeCallee 73 = .ok (.aload_n 0, 1) := by decide +kernel
theorem dX11_judgeCallee_74 : decode cX11_judgeCallee 74 = .ok (.bipush 9, 2) := by decide +kernel
theorem dX11_judgeCallee_76 : decode cX11_judgeCallee 76 = .ok (.aload_n 0, 1) := by decide +kernel
theorem dX11_judgeCallee_77 : decode cX11_judgeCallee 77 = .ok (.getfield 83, 3) := by decide +kernel
theorem dX11_judgeCallee_80 : decode cX11_judgeCallee 80 = .ok (.iload_n 2, 1) := by decide +kernel
theorem dX11_judgeCallee_81 : decode cX11_judgeCallee 81 = .ok (.iaload, 1) := by decide +kernel
theorem dX11_judgeCallee_82 : decode cX11_judgeCallee 82 = .ok (.invokevirtual 295, 3) := by decide +kernel
theorem dX11_judgeCallee_85 : decode cX11_judgeCallee 85 = .ok (.goto 32, 3) := by decide +kernel
theorem dX11_judgeCallee_88 : decode cX11_judgeCallee 88 = .ok (.aload_n 0, 1) := by decide +kernel
theorem dX11_judgeCallee_89 : decode cX11_judgeCallee 89 = .ok (.getfield 30, 3) := by decide +kernel
theorem dX11_judgeCallee_92 : decode cX11_judgeCallee 92 = .ok (.iload_n 3, 1) := by decide +kernel
theorem dX11_judgeCallee_93 : decode cX11_judgeCallee 93 = .ok (.iaload, 1) := by decide +kernel
theorem dX11_judgeCallee_94 : decode cX11_judgeCallee 94 = .ok (.iconst 1, 1) := by decide +kernel
theorem dX11_judgeCallee_95 : decode cX11_judgeCallee 95 = .ok (.isub, 1) := by decide +kernel
theorem dX11_judgeCallee_96 : decode cX11_judgeCallee 96 = .ok (.aload_n 0, 1) := by decide +kernel
theorem dX11_judgeCallee_97 : decode cX11_judgeCallee 97 = .ok (.getfield 98, 3) := by decide +kernel
theorem dX11_judgeCallee_100 : decode cX11_judgeCallee 100 = .ok (.iload_n 2, 1) := by decide +kernel
theorem dX11_judgeCallee_101 : decode cX11_judgeCallee 101 = .ok (.iaload, 1) := by decide +kernel
theorem dX11_judgeCallee_102 : decode cX11_judgeCallee 102 = .ok (.if_icmp .eq 15, 3) := by decide +kernel
theorem dX11_judgeCallee_105 : decode cX11_judgeCallee 105 = .ok (.aload_n 0, 1) := by decide +kernel
theorem dX11_judgeCallee_106 : decode cX11_judgeCallee 106 = .ok (.bipush 8, 2) := by decide +kernel
theorem dX11_judgeCallee_108 : decode cX11_judgeCallee 108 = .ok (.aload_n 0, 1) := by decide +kernel
theorem dX11_judgeCallee_109 : decode cX11_judgeCallee 109 = .ok (.getfield 83, 3) := by decide +kernel
theorem dX11_judgeCallee_112 : decode cX11_judgeCallee 112 = .ok (.iload_n 2, 1) := by decide +kernel
theorem dX11_judgeCallee_113 : decode cX11_judgeCallee 113 = .ok (.iaload, 1) := by decide +kernel
theorem dX11_judgeCallee_114 : decode cX11_judgeCallee 114 = .ok (.invokevirtual 295, 3) := by decide +kernel
theorem dX11_judgeCallee_117 : decode cX11_judgeCallee 117 = .ok (.return_, 1) := by decide +kernel
theorem dX11_judgeElements_0 : decode cX11_judgeElements 0 = .ok (.aload_n 0, 1) := by decide +kernel
theorem dX11_judgeElements_1 : decode cX11_judgeElements 1 = .ok (.dup, 1) := by decide +kernel
theorem dX11_judgeElements_2 : decode cX11_judgeElements 2 = .ok (.getfield 577, 3) := by decide +kernel
theorem dX11_judgeElements_5 : decode cX11_judgeElements 5 = .ok (.aload_n 0, 1) := by decide +kernel
theorem dX11_judgeElements_6 : decode cX11_judgeElements 6 = .ok (.getfield 98, 3) := by decide +kernel
theorem dX11_judgeElements_9 : decode cX11_judgeElements 9 = .ok (.iload_n 1, 1) := by decide +kernel
theorem dX11_judgeElements_10 : decode cX11_judgeElements 10 = .ok (.iaload, 1) := by decide +kernel
theorem dX11_judgeElements_11 : decode cX11_judgeElements 11 = .ok (.isub, 1) := by decide +kernel
theorem dX11_judgeElements_12 : decode cX11_judgeElements 12 = .ok (.putfield 577, 3) := by decide +kernel
theorem dX11_judgeElements_15 : decode cX11_judgeElements 15 = .ok (.aload_n 0, 1) := by decide +kernel
theorem dX11_judgeElements_16 : decode cX11_judgeElements 16 = .ok (.getfield 98, 3) := by decide +kernel
theorem dX11_judgeElements_19 : decode cX11_judgeElements 19 = .ok (.iload_n 1, 1) := by decide +kernel
theorem dX11_judgeElements_20 : decode cX11_judgeElements 20 = .ok (.iaload, 1) := by decide +kernel
theorem dX11_judgeElements_21 : decode cX11_judgeElements 21 = .ok (.ifCond .le 7, 3) := by decide +kernel
theorem dX11_judgeElements_24 : decode cX11_judgeElements 24 = .ok (.iconst 1, 1) := by decide +kernel
theorem dX11_judgeElements_25 : decode cX11_judgeElements 25 = .ok (.goto 4, 3) := by decide +kernel
theorem dX11_judgeElements_28 : decode cX11_judgeElements 28 = .ok (.iconst 0, 1) := by decide +kernel
theorem dX11_judgeElements_29 : decode cX11_judgeElements 29 = .ok (.istore_n 2, 1) := by decide +kernel
theorem dX11_judgeElements_30 : decode cX11_judgeElements 30 = .ok (.iconst 1, 1) := by decide +kernel
theorem dX11_judgeElements_31 : decode cX11_judgeElements 31 = .ok (.istore_n 3, 1) := by decide +kernel
theorem dX11_judgeElements_32 : decode cX11_judgeElements 32 = .ok (.iload_n 3, 1) := by decide +kernel
theorem dX11_judgeElements_33 : decode cX11_judgeElements 33 = .ok (.aload_n 0, 1) := by decide +kernel
theorem dX11_judgeElements_34 : decode cX11_judgeElements 34 = .ok (.getfield 98, 3) := by decide +kernel
theorem dX11_judgeElements_37 : decode cX11_judgeElements 37 = .ok (.iload_n 1, 1) := by decide +kernel
theorem dX11_judgeElements_38 : decode cX11_judgeElements 38 = .ok (.iaload, 1) := by decide +kernel
theorem dX11_judgeElements_39 : decode cX11_judgeElements 39 = .ok (.if_icmp .ge 42, 3) := by decide +kernel
theorem dX11_judgeElements_42 : decode cX11_judgeElements 42 = .ok (.iload_n 2, 1) := by decide +kernel
theorem dX11_judgeElements_43 : decode cX11_judgeElements 43 = .ok (.ifCond .eq 30, 3) := by decide +kernel
theorem dX11_judgeElements_46 : decode cX11_judgeElements 46 = .ok (.aload_n 0, 1) := by decide +kernel
theorem dX11_judgeElements_47 : decode cX11_judgeElements 47 = .ok (.getfield 191, 3) := by decide +kernel
theorem dX11_judgeElements_50 : decode cX11_judgeElements 50 = .ok (.aload_n 0, 1) := by decide +kernel
theorem dX11_judgeElements_51 : decode cX11_judgeElements 51 = .ok (.getfield 577, 3) := by decide +kernel
theorem dX11_judgeElements_54 : decode cX11_judgeElements 54 = .ok (.iload_n 3, 1) := by decide +kernel
theorem dX11_judgeElements_55 : decode cX11_judgeElements 55 = .ok (.iadd, 1) := by decide +kernel
theorem dX11_judgeElements_56 : decode cX11_judgeElements 56 = .ok (.iaload, 1) := by decide +kernel
theorem dX11_judgeElements_57 : decode cX11_judgeElements 57 = .ok (.aload_n 0, 1) := by decide +kernel
theorem dX11_judgeElements_58 : decode cX11_judgeElements 58 = .ok (.getfield 191, 3) := by decide +kernel
theorem dX11_judgeElements_61 : decode cX11_judgeElements 61 = .ok (.aload_n 0, 1) := by decide +kernel
theorem dX11_judgeElements_62 : decode cX11_judgeElements 62 = .ok (.getfield 577, 3) := by decide +kernel
theorem dX11_judgeElements_65 : decode cX11_judgeElements 65 = .ok (.iaload, 1) := by decide +kernel
theorem dX11_judgeElements_66 : decode cX11_judgeElements 66 = .ok (.if_icmp .ne 7, 3) := by decide +kernel
theorem dX11_judgeElements_69 : decode cX11_judgeElements 69 = .ok (.iconst 1, 1) := by decide +kernel
theorem dX11_judgeElements_70 : decode cX11_judgeElements 70 = .ok (.goto 4, 3) := by decide +kernel
theorem dX11_judgeElements_73 : decode cX11_judgeElements 73 = .ok (.iconst 0, 1) := by decide +kernel
theorem dX11_judgeElements_74 : decode cX11_judgeElements 74 = .ok (.istore_n 2, 1) := by decide +kernel
theorem dX11_judgeElements_75 : decode cX11_judgeElements 75 = .ok (.iinc 3 1, 3) := by decide +kernel
theorem dX11_judgeElements_78 : decode cX11_judgeElements 78 = .ok (.goto (-46), 3) := by decide +kernel
theorem dX11_judgeElements_81 : decode cX11_judgeElements 81 = .ok (.iconst 0, 1) := by decide +kernel
theorem dX11_judgeElements_82 : decode cX11_judgeElements 82 = .ok (.istore_n 3, 1) := by decide +kernel
theorem dX11_judgeElements_83 : decode cX11_judgeElements 83 = .ok (.aload_n 0, 1) := by decide +kernel
theorem dX11_judgeElements_84 : decode cX11_judgeElements 84 = .ok (.getfield 89, 3) := by decide +kernel
theorem dX11_judgeElements_87 : decode cX11_judgeElements 87 = .ok (.iload_n 1, 1) := by decide +kernel
theorem dX11_judgeElements_88 : decode cX11_judgeElements 88 = .ok (.iaload, 1) := by decide +kernel
theorem dX11_judgeElements_89 : decode cX11_judgeElements 89 = .ok (.istore 4, 2) := by decide +kernel
theorem dX11_judgeElements_91 : decode cX11_judgeElements 91 = .ok (.iload 4, 2) := by decide +kernel
theorem dX11_judgeElements_93 : decode cX11_judgeElements 93 = .ok (.ifCond .lt 56, 3) := by decide +kernel
theorem dX11_judgeElements_96 : decode cX11_judgeElements 96 = .ok (.iload_n 2, 1) := by decide +kernel
theorem dX11_judgeElements_97 : decode cX11_judgeElements 97 = .ok (.ifCond .ne 37, 3) := by decide +kernel
theorem dX11_judgeElements_100 : decode cX11_judgeElements 100 = .ok (.aload_n 0, 1) := by decide +kernel
theorem dX11_judgeElements_101 : decode cX11_judgeElements 101 = .ok (.aload_n 0, 1) := by decide +kernel
theorem dX11_judgeElements_102 : decode cX11_judgeElements 102 = .ok (.getfield 152, 3) := by decide +kernel
theorem dX11_judgeElements_105 : decode cX11_judgeElements 105 = .ok (.iload 4, 2) := by decide +kernel
theorem dX11_judgeElements_107 : decode cX11_judgeElements 107 = .ok (.iaload, 1) := by decide +kernel
theorem dX11_judgeElements_108 : decode cX11_judgeElements 108 = .ok (.aload_n 0, 1) := by decide +kernel
theorem dX11_judgeElements_109 : decode cX11_judgeElements 109 = .ok (.getfield 191, 3) := by decide +kernel
theorem dX11_judgeElements_112 : decode cX11_judgeElements 112 = .ok (.aload_n 0, 1) := by decide +kernel
theorem dX11_judgeElements_113 : decode cX11_judgeElements 113 = .ok (.getfield 577, 3) := by decide +kernel
theorem dX11_judgeElements_116 : decode cX11_judgeElements 116 = .ok (.iload_n 3, 1) := by decide +kernel
theorem dX11_judgeElements_117 : decode cX11_judgeElements 117 = .ok (.iadd, 1) := by decide +kernel
theorem dX11_judgeElements_118 : decode cX11_judgeElements 118 = .ok (.iaload, 1) := by decide +kernel
theorem dX11_judgeElements_119 : decode cX11_judgeElements 119 = .ok (.iconst 2, 1) := by decide +kernel
theorem dX11_judgeElements_120 : decode cX11_judgeElements 120 = .ok (.aload_n 0, 1) := by decide +kernel
theorem dX11_judgeElements_121 : decode cX11_judgeElements 121 = .ok (.getfield 80, 3) := by decide +kernel
theorem dX11_judgeElements_124 : decode cX11_judgeElements 124 = .ok (.iload 4, 2) := by decide +kernel
theorem dX11_judgeElements_126 : decode cX11_judgeElements 126 = .ok (.iaload, 1) := by decide +kernel
theorem dX11_judgeElements_127 : decode cX11_judgeElements 127 = .ok (.aload_n 0, 1) := by decide +kernel
theorem dX11_judgeElements_128 : decode cX11_judgeElements 128 = .ok (.getfield 568, 3) := by decide +kernel
theorem dX11_judgeElements_131 : decode cX11_judgeElements 131 = .ok (.invokevirtual 584, 3) := by decide +kernel
theorem dX11_judgeElements_134 : decode cX11_judgeElements 134 = .ok (.iinc 3 1, 3) := by decide +kernel
theorem dX11_judgeElements_137 : decode cX11_judgeElements 137 = .ok (.aload_n 0, 1) := by decide +kernel
theorem dX11_judgeElements_138 : decode cX11_judgeElements 138 = .ok (.getfield 101, 3) := by decide +kernel
theorem dX11_judgeElements_141 : decode cX11_judgeElements 141 = .ok (.iload 4, 2) := by decide +kernel
theorem dX11_judgeElements_143 : decode cX11_judgeElements 143 = .ok (.iaload, 1) := by decide +kernel
theorem dX11_judgeElements_144 : decode cX11_judgeElements 144 = .ok (.istore 4, 2) := by decide +kernel
theorem dX11_judgeElements_146 : decode cX11_judgeElements 146 = .ok (.goto (-55), 3) := by decide +kernel
theorem dX11_judgeElements_149 : decode cX11_judgeElements 149 = .ok (.aload_n 0, 1) := by decide +kernel
theorem dX11_judgeElements_150 : decode cX11_judgeElements 150 = .ok (.aload_n 0, 1) := by decide +kernel
theorem dX11_judgeElements_151 : decode cX11_judgeElements 151 = .ok (.iload_n 2, 1) := by decide +kernel
theorem dX11_judgeElements_152 : decode cX11_judgeElements 152 = .ok (.ifCond .eq 15, 3) := by decide +kernel
theorem dX11_judgeElements_155 : decode cX11_judgeElements 155 = .ok (.aload_n 0, 1) := by decide +kernel
theorem dX11_judgeElements_156 : decode cX11_judgeElements 156 = .ok (.getfield 191, 3) := by decide +kernel
theorem dX11_judgeElements_159 : decode cX11_judgeElements 159 = .ok (.aload_n 0, 1) := by decide +kernel
theorem dX11_judgeElements_160 : decode cX11_judgeElements 160 = .ok (.getfield 577, 3) := by decide +kernel
theorem dX11_judgeElements_163 : decode cX11_judgeElements 163 = .ok (.iaload, 1) := by decide +kernel
theorem dX11_judgeElements_164 : decode cX11_judgeElements 164 = .ok (.goto 4, 3) := by decide +kernel
theorem dX11_judgeElements_167 : decode cX11_judgeElements 167 = .ok (.iconst 2, 1) := by decide +kernel
theorem dX11_judgeElements_168 : decode cX11_judgeElements 168 = .ok (.invokevirtual 380, 3) := by decide +kernel
theorem dX11_judgeElements_171 : decode cX11_judgeElements 171 = .ok (.invokevirtual 596, 3) := by decide +kernel
theorem dX11_judgeElements_174 : decode cX11_judgeElements 174 = .ok (.return_, 1) := by decide +kernel
theorem dX11_judgeJoin_0 : decode cX11_judgeJoin 0 = .ok (.aload_n 0, 1) := by decide +kernel
theorem dX11_judgeJoin_1 : decode cX11_judgeJoin 1 = .ok (.dup, 1) := by decide +kernel
theorem dX11_judgeJoin_2 : decode cX11_judgeJoin 2 = .ok (.getfield 577, 3) := by decide +kernel
theorem dX11_judgeJoin_5 : decode cX11_judgeJoin 5 = .ok (.iconst 2, 1) := by decide +kernel
theorem dX11_judgeJoin_6 : decode cX11_judgeJoin 6 = .ok (.isub, 1) := by decide +kernel
theorem dX11_judgeJoin_7 : decode cX11_judgeJoin 7 = .ok (.putfield 577, 3) := by decide +kernel
theorem dX11_judgeJoin_10 : decode cX11_judgeJoin 10 = .ok (.aload_n 0, 1) := by decide +kernel
theorem dX11_judgeJoin_11 : decode cX11_judgeJoin 11 = .ok (.getfield 191, 3) := by decide +kernel
theorem dX11_judgeJoin_14 : decode cX11_judgeJoin 14 = .ok (.aload_n 0, 1) := by decide +kernel
theorem dX11_judgeJoin_15 : decode cX11_judgeJoin 15 = .ok (.getfield 577, 3) := by decide +kernel
theorem dX11_judgeJoin_18 : decode cX11_judgeJoin 18 = .ok (.iaload, 1) := by decide +kernel
theorem dX11_judgeJoin_19 : decode cX11_judgeJoin 19 = .ok (.istore_n 2, 1) := by decide +kernel
theorem dX11_judgeJoin_20 : decode cX11_judgeJoin 20 = .ok (.aload_n 0, 1) := by decide +kernel
theorem dX11_judgeJoin_21 : decode cX11_judgeJoin 21 = .ok (.getfield 191, 3) := by decide +kernel
theorem dX11_judgeJoin_24 : decode cX11_judgeJoin 24 = .ok (.aload_n 0, 1) := by decide +kernel
theorem dX11_judgeJoin_25 : decode cX11_judgeJoin 25 = .ok (.getfield 577, 3) := by decide +kernel
theorem dX11_judgeJoin_28 : decode cX11_judgeJoin 28 = .ok (.iconst 1, 1) := by decide +kernel
theorem dX11_judgeJoin_29 : decode cX11_judgeJoin 29 = .ok (.iadd, 1) := by decide +kernel
theorem dX11_judgeJoin_30 : decode cX11_judgeJoin 30 = .ok (.iaload, 1) := by decide +kernel
theorem dX11_judgeJoin_31 : decode cX11_judgeJoin 31 = .ok (.istore_n 3, 1) := by decide +kernel
theorem dX11_judgeJoin_32 : decode cX11_judgeJoin 32 = .ok (.iload_n 2, 1) := by decide +kernel
theorem dX11_judgeJoin_33 : decode cX11_judgeJoin 33 = .ok (.iload_n 3, 1) := by decide +kernel
theorem dX11_judgeJoin_34 : decode cX11_judgeJoin 34 = .ok (.if_icmp .eq 67, 3) := by decide +kernel
theorem dX11_judgeJoin_37 : decode cX11_judgeJoin 37 = .ok (.aload_n 0, 1) := by decide +kernel
theorem dX11_judgeJoin_38 : decode cX11_judgeJoin 38 = .ok (.aload_n 0, 1) := by decide +kernel
theorem dX11_judgeJoin_39 : decode cX11_judgeJoin 39 = .ok (.getfield 152, 3) := by decide +kernel
theorem dX11_judgeJoin_42 : decode cX11_judgeJoin 42 = .ok (.aload_n 0, 1) := by decide +kernel
theorem dX11_judgeJoin_43 : decode cX11_judgeJoin 43 = .ok (.getfield 89, 3) := by decide +kernel
theorem dX11_judgeJoin_46 : decode cX11_judgeJoin 46 = .ok (.iload_n 1, 1) := by decide +kernel
theorem dX11_judgeJoin_47 : decode cX11_judgeJoin 47 = .ok (.iaload, 1) := by decide +kernel
theorem dX11_judgeJoin_48 : decode cX11_judgeJoin 48 = .ok (.iaload, 1) := by decide +kernel
theorem dX11_judgeJoin_49 : decode cX11_judgeJoin 49 = .ok (.iload_n 2, 1) := by decide +kernel
theorem dX11_judgeJoin_50 : decode cX11_judgeJoin 50 = .ok (.iconst 2, 1) := by decide +kernel
theorem dX11_judgeJoin_51 : decode cX11_judgeJoin 51 = .ok (.aload_n 0, 1) := by decide +kernel
theorem dX11_judgeJoin_52 : decode cX11_judgeJoin 52 = .ok (.getfield 80, 3) := by decide +kernel
theorem dX11_judgeJoin_55 : decode cX11_judgeJoin 55 = .ok (.aload_n 0, 1) := by decide +kernel
theorem dX11_judgeJoin_56 : decode cX11_judgeJoin 56 = .ok (.getfield 89, 3) := by decide +kernel
theorem dX11_judgeJoin_59 : decode cX11_judgeJoin 59 = .ok (.iload_n 1, 1) := by decide +kernel
theorem dX11_judgeJoin_60 : decode cX11_judgeJoin 60 = .ok (.iaload, 1) := by decide +kernel
theorem dX11_judgeJoin_61 : decode cX11_judgeJoin 61 = .ok (.iaload, 1) := by decide +kernel
theorem dX11_judgeJoin_62 : decode cX11_judgeJoin 62 = .ok (.aload_n 0, 1) := by decide +kernel
theorem dX11_judgeJoin_63 : decode cX11_judgeJoin 63 = .ok (.getfield 568, 3) := by decide +kernel
theorem dX11_judgeJoin_66 : decode cX11_judgeJoin 66 = .ok (.invokevirtual 584, 3) := by decide +kernel
theorem dX11_judgeJoin_69 : decode cX11_judgeJoin 69 = .ok (.aload_n 0, 1) := by decide +kernel
theorem dX11_judgeJoin_70 : decode cX11_judgeJoin 70 = .ok (.aload_n 0, 1) := by decide +kernel
theorem dX11_judgeJoin_71 : decode cX11_judgeJoin 71 = .ok (.getfield 152, 3) := by decide +kernel
theorem dX11_judgeJoin_74 : decode cX11_judgeJoin 74 = .ok (.aload_n 0, 1) := by decide +kernel
theorem dX11_judgeJoin_75 : decode cX11_judgeJoin 75 = .ok (.getfield 92, 3) := by decide +kernel
theorem dX11_judgeJoin_78 : decode cX11_judgeJoin 78 = .ok (.iload_n 1, 1) := by decide +kernel
theorem dX11_judgeJoin_79 : decode cX11_judgeJoin 79 = .ok (.iaload, 1) := by decide +kernel
theorem dX11_judgeJoin_80 : decode cX11_judgeJoin 80 = .ok (.iaload, 1) := by decide +kernel
theorem dX11_judgeJoin_81 : decode cX11_judgeJoin 81 = .ok (.iload_n 3, 1) := by decide +kernel
theorem dX11_judgeJoin_82 : decode cX11_judgeJoin 82 = .ok (.iconst 2, 1) := by decide +kernel
theorem dX11_judgeJoin_83 : decode cX11_judgeJoin 83 = .ok (.aload_n 0, 1) := by decide +kernel
theorem dX11_judgeJoin_84 : decode cX11_judgeJoin 84 = .ok (.getfield 80, 3) := by decide +kernel
theorem dX11_judgeJoin_87 : decode cX11_judgeJoin 87 = .ok (.aload_n 0, 1) := by decide +kernel
theorem dX11_judgeJoin_88 : decode cX11_judgeJoin 88 = .ok (.getfield 92, 3) := by decide +kernel
theorem dX11_judgeJoin_91 : decode cX11_judgeJoin 91 = .ok (.iload_n 1, 1) := by decide +kernel
theorem dX11_judgeJoin_92 : decode cX11_judgeJoin 92 = .ok (.iaload, 1) := by decide +kernel
theorem dX11_judgeJoin_93 : decode cX11_judgeJoin 93 = .ok (.iaload, 1) := by decide +kernel
theorem dX11_judgeJoin_94 : decode cX11_judgeJoin 94 = .ok (.aload_n 0, 1) := by decide +kernel
theorem dX11_judgeJoin_95 : decode cX11_judgeJoin 95 = .ok (.getfield 568, 3) := by decide +kernel
theorem dX11_judgeJoin_98 : decode cX11_judgeJoin 98 = .ok (.invokevirtual 584, 3) := by decide +kernel
theorem dX11_judgeJoin_101 : decode cX11_judgeJoin 101 = .ok (.aload_n 0, 1) := by decide +kernel
theorem dX11_judgeJoin_102 : decode cX11_judgeJoin 102 = .ok (.iload_n 2, 1) := by decide +kernel
theorem dX11_judgeJoin_103 : decode cX11_judgeJoin 103 = .ok (.iload_n 3, 1) := by decide +kernel
theorem dX11_judgeJoin_104 : decode cX11_judgeJoin 104 = .ok (.if_icmp .ne 7, 3) := by decide +kernel
theorem dX11_judgeJoin_107 : decode cX11_judgeJoin 107 = .ok (.iload_n 2, 1) := by decide +kernel
theorem dX11_judgeJoin_108 : decode cX11_judgeJoin 108 = .ok (.goto 4, 3) := by decide +kernel
theorem dX11_judgeJoin_111 : decode cX11_judgeJoin 111 = .ok (.iconst 2, 1) := by decide +kernel
theorem dX11_judgeJoin_112 : decode cX11_judgeJoin 112 = .ok (.invokevirtual 596, 3) := by decide +kernel
theorem dX11_judgeJoin_115 : decode cX11_judgeJoin 115 = .ok (.return_, 1) := by decide +kernel
theorem dX11_judgeMore_0 : decode cX11_judgeMore 0 = .ok (.aload_n 0, 1) := by decide +kernel
theorem dX11_judgeMore_1 : decode cX11_judgeMore 1 = .ok (.getfield 137, 3) := by decide +kernel
theorem dX11_judgeMore_4 : decode cX11_judgeMore 4 = .ok (.iload_n 1, 1) := by decide +kernel
theorem dX11_judgeMore_5 : decode cX11_judgeMore 5 = .ok (.iaload, 1) := by decide +kernel
theorem dX11_judgeMore_6 : decode cX11_judgeMore 6 = .ok (.tableswitch 440 12 31 #[94, 180, 440, 213, 440, 226, 234, 242, 274, 274, 274, 292, 310, 310, 343, 373, 403, 213, 440, 213], 94) := by decide +kernel
theorem dX11_judgeMore_100 : decode cX11_judgeMore 100 = .ok (.aload_n 0, 1) := by decide +kernel
theorem dX11_judgeMore_101 : decode cX11_judgeMore 101 = .ok (.getfield 92, 3) := by decide +kernel
theorem dX11_judgeMore_104 : decode cX11_judgeMore 104 = .ok (.iload_n 2, 1) := by decide +kernel
theorem dX11_judgeMore_105 : decode cX11_judgeMore 105 = .ok (.iaload, 1) := by decide +kernel
theorem dX11_judgeMore_106 : decode cX11_judgeMore 106 = .ok (.ifCond .lt 340, 3) := by decide +kernel
theorem dX11_judgeMore_109 : decode cX11_judgeMore 109 = .ok (.aload_n 0, 1) := by decide +kernel
theorem dX11_judgeMore_110 : decode cX11_judgeMore 110 = .ok (.iload_n 1, 1) := by decide +kernel
theorem dX11_judgeMore_111 : decode cX11_judgeMore 111 = .ok (.aload_n 0, 1) := by decide +kernel
theorem dX11_judgeMore_112 : decode cX11_judgeMore 112 = .ok (.aload_n 0, 1) := by decide +kernel
theorem dX11_judgeMore_113 : decode cX11_judgeMore 113 = .ok (.getfield 92, 3) := by decide +kernel
theorem dX11_judgeMore_116 : decode cX11_judgeMore 116 = .ok (.iload_n 2, 1) := by decide +kernel
theorem dX11_judgeMore_117 : decode cX11_judgeMore 117 = .ok (.iaload, 1) := by decide +kernel
theorem dX11_judgeMore_118 : decode cX11_judgeMore 118 = .ok (.invokevirtual 624, 3) := by decide +kernel
theorem dX11_judgeMore_121 : decode cX11_judgeMore 121 = .ok (.aload_n 0, 1) := by decide +kernel
theorem dX11_judgeMore_122 : decode cX11_judgeMore 122 = .ok (.getfield 80, 3) := by decide +kernel
theorem dX11_judgeMore_125 : decode cX11_judgeMore 125 = .ok (.aload_n 0, 1) := by decide +kernel
theorem dX11_judgeMore_126 : decode cX11_judgeMore 126 = .ok (.getfield 86, 3) := by decide +kernel
theorem dX11_judgeMore_129 : decode cX11_judgeMore 129 = .ok (.iload_n 2, 1) := by decide +kernel
theorem dX11_judgeMore_130 : decode cX11_judgeMore 130 = .ok (.iaload, 1) := by decide +kernel
theorem dX11_judgeMore_131 : decode cX11_judgeMore 131 = .ok (.iaload, 1) := by decide +kernel
theorem dX11_judgeMore_132 : decode cX11_judgeMore 132 = .ok (.aload_n 0, 1) := by decide +kernel
theorem dX11_judgeMore_133 : decode cX11_judgeMore 133 = .ok (.getfield 568, 3) := by decide +kernel
theorem dX11_judgeMore_136 : decode cX11_judgeMore 136 = .ok (.invokevirtual 602, 3) := by decide +kernel
theorem dX11_judgeMore_139 : decode cX11_judgeMore 139 = .ok (.aload_n 0, 1) := by decide +kernel
theorem dX11_judgeMore_140 : decode cX11_judgeMore 140 = .ok (.getfield 188, 3) := by decide +kernel
theorem dX11_judgeMore_143 : decode cX11_judgeMore 143 = .ok (.aload_n 0, 1) := by decide +kernel
theorem dX11_judgeMore_144 : decode cX11_judgeMore 144 = .ok (.getfield 568, 3) := by decide +kernel
theorem dX11_judgeMore_147 : decode cX11_judgeMore 147 = .ok (.aload_n 0, 1) := by decide +kernel
theorem dX11_judgeMore_148 : decode cX11_judgeMore 148 = .ok (.getfield 188, 3) := by decide +kernel
theorem dX11_judgeMore_151 : decode cX11_judgeMore 151 = .ok (.aload_n 0, 1) := by decide +kernel
theorem dX11_judgeMore_152 : decode cX11_judgeMore 152 = .ok (.getfield 568, 3) := by decide +kernel
theorem dX11_judgeMore_155 : decode cX11_judgeMore 155 = .ok (.baload, 1) := by decide +kernel
theorem dX11_judgeMore_156 : decode cX11_judgeMore 156 = .ok (.ifCond .ne 21, 3) := by decide +kernel
theorem dX11_judgeMore_159 : decode cX11_judgeMore 159 = .ok (.aload_n 0, 1) := by decide +kernel
theorem dX11_judgeMore_160 : decode cX11_judgeMore 160 = .ok (.getfield 39, 3) := by decide +kernel
theorem dX11_judgeMore_163 : decode cX11_judgeMore 163 = .ok (.aload_n 0, 1) := by decide +kernel
theorem dX11_judgeMore_164 : decode cX11_judgeMore 164 = .ok (.aload_n 0, 1) := by decide +kernel
theorem dX11_judgeMore_165 : decode cX11_judgeMore 165 = .ok (.getfield 92, 3) := by decide +kernel
theorem dX11_judgeMore_168 : decode cX11_judgeMore 168 = .ok (.iload_n 2, 1) := by decide +kernel
theorem dX11_judgeMore_169 : decode cX11_judgeMore 169 = .ok (.iaload, 1) := by decide +kernel
theorem dX11_judgeMore_170 : decode cX11_judgeMore 170 = .ok (.invokevirtual 624, 3) := by decide +kernel
theorem dX11_judgeMore_173 : decode cX11_judgeMore 173 = .ok (.baload, 1) := by decide +kernel
theorem dX11_judgeMore_174 : decode cX11_judgeMore 174 = .ok (.ifCond .eq 7, 3) := by decide +kernel
theorem dX11_judgeMore_177 : decode cX11_judgeMore 177 = .ok (.iconst 1, 1) := by decide +kernel
theorem dX11_judgeMore_178 : decode cX11_judgeMore 178 = .ok (.goto 4, 3) := by decide +kernel
theorem dX11_judgeMore_181 : decode cX11_judgeMore 181 = .ok (.iconst 0, 1) := by decide +kernel
theorem dX11_judgeMore_182 : decode cX11_judgeMore 182 = .ok (.bastore, 1) := by decide +kernel
theorem dX11_judgeMore_183 : decode cX11_judgeMore 183 = .ok (.goto 263, 3) := by decide +kernel
theorem dX11_judgeMore_186 : decode cX11_judgeMore 186 = .ok (.aload_n 0, 1) := by decide +kernel
theorem dX11_judgeMore_187 : decode cX11_judgeMore 187 = .ok (.dup, 1) := by decide +kernel
theorem dX11_judgeMore_188 : decode cX11_judgeMore 188 = .ok (.getfield 577, 3) := by decide +kernel
theorem dX11_judgeMore_191 : decode cX11_judgeMore 191 = .ok (.iconst 1, 1) := by decide +kernel
theorem dX11_judgeMore_192 : decode cX11_judgeMore 192 = .ok (.isub, 1) := by decide +kernel
theorem dX11_judgeMore_193 : decode cX11_judgeMore 193 = .ok (.putfield 577, 3) := by decide +kernel
theorem dX11_judgeMore_196 : decode cX11_judgeMore 196 = .ok (.aload_n 0, 1) := by decide +kernel
theorem dX11_judgeMore_197 : decode cX11_judgeMore 197 = .ok (.getfield 194, 3) := by decide +kernel
theorem dX11_judgeMore_200 : decode cX11_judgeMore 200 = .ok (.aload_n 0, 1) := by decide +kernel
theorem dX11_judgeMore_201 : decode cX11_judgeMore 201 = .ok (.getfield 95, 3) := by decide +kernel
theorem dX11_judgeMore_204 : decode cX11_judgeMore 204 = .ok (.iload_n 2, 1) := by decide +kernel
theorem dX11_judgeMore_205 : decode cX11_judgeMore 205 = .ok (.iaload, 1) := by decide +kernel
theorem dX11_judgeMore_206 : decode cX11_judgeMore 206 = .ok (.aload_n 0, 1) := by decide +kernel
theorem dX11_judgeMore_207 : decode cX11_judgeMore 207 = .ok (.getfield 191, 3) := by decide +kernel
theorem dX11_judgeMore_210 : decode cX11_judgeMore 210 = .ok (.aload_n 0, 1) := by decide +kernel
theorem dX11_judgeMore_211 : decode cX11_judgeMore 211 = .ok (.getfield 577, 3) := by decide +kernel
theorem dX11_judgeMore_214 : decode cX11_judgeMore 214 = .ok (.iaload, 1) := by decide +kernel
theorem dX11_judgeMore_215 : decode cX11_judgeMore 215 = .ok (.iastore, 1) := by decide +kernel
theorem dX11_judgeMore_216 : decode cX11_judgeMore 216 = .ok (.goto 230, 3) := by decide +kernel
theorem dX11_judgeMore_219 : decode cX11_judgeMore 219 = .ok (.aload_n 0, 1) := by decide +kernel
theorem dX11_judgeMore_220 : decode cX11_judgeMore 220 = .ok (.dup, 1) := by decide +kernel
theorem dX11_judgeMore_221 : decode cX11_judgeMore 221 = .ok (.getfield 577, 3) := by decide +kernel
theorem dX11_judgeMore_224 : decode cX11_judgeMore 224 = .ok (.iconst 1, 1) := by decide +kernel
theorem dX11_judgeMore_225 : decode cX11_judgeMore 225 = .ok (.isub, 1) := by decide +kernel
theorem dX11_judgeMore_226 : decode cX11_judgeMore 226 = .ok (.putfield 577, 3) := by decide +kernel
theorem dX11_judgeMore_229 : decode cX11_judgeMore 229 = .ok (.goto 217, 3) := by decide +kernel
theorem dX11_judgeMore_232 : decode cX11_judgeMore 232 = .ok (.aload_n 0, 1) := by decide +kernel
theorem dX11_judgeMore_233 : decode cX11_judgeMore 233 = .ok (.iload_n 2, 1) := by decide +kernel
theorem dX11_judgeMore_234 : decode cX11_judgeMore 234 = .ok (.invokevirtual 627, 3) := by decide +kernel
theorem dX11_judgeMore_237 : decode cX11_judgeMore 237 = .ok (.goto 209, 3) := by decide +kernel
theorem dX11_judgeMore_240 : decode cX11_judgeMore 240 = .ok (.aload_n 0, 1) := by decide +kernel
theorem dX11_judgeMore_241 : decode cX11_judgeMore 241 = .ok (.iload_n 2, 1) := by decide +kernel
theorem dX11_judgeMore_242 : decode cX11_judgeMore 242 = .ok (.invokevirtual 630, 3) := by decide +kernel
theorem dX11_judgeMore_245 : decode cX11_judgeMore 245 = .ok (.goto 201, 3) := by decide +kernel
theorem dX11_judgeMore_248 : decode cX11_judgeMore 248 = .ok (.aload_n 0, 1) := by decide +kernel
theorem dX11_judgeMore_249 : decode cX11_judgeMore 249 = .ok (.dup, 1) := by decide +kernel
theorem dX11_judgeMore_250 : decode cX11_judgeMore 250 = .ok (.getfield 577, 3) := by decide +kernel
theorem dX11_judgeMore_253 : decode cX11_judgeMore 253 = .ok (.iconst 2, 1) := by decide +kernel
theorem dX11_judgeMore_254 : decode cX11_judgeMore 254 = .ok (.isub, 1) := by decide +kernel
theorem dX11_judgeMore_255 : decode cX11_judgeMore 255 = .ok (.putfield 577, 3) := by decide +kernel
theorem dX11_judgeMore_258 : decode cX11_judgeMore 258 = .ok (.aload_n 0, 1) := by decide +kernel
theorem dX11_judgeMore_259 : decode cX11_judgeMore 259 = .ok (.aload_n 0, 1) := by decide +kernel
theorem dX11_judgeMore_260 : decode cX11_judgeMore 260 = .ok (.aload_n 0, 1) := by decide +kernel
theorem dX11_judgeMore_261 : decode cX11_judgeMore 261 = .ok (.getfield 191, 3) := by decide +kernel
theorem dX11_judgeMore_264 : decode cX11_judgeMore 264 = .ok (.aload_n 0, 1) := by decide +kernel
theorem dX11_judgeMore_265 : decode cX11_judgeMore 265 = .ok (.getfield 577, 3) := by decide +kernel
theorem dX11_judgeMore_268 : decode cX11_judgeMore 268 = .ok (.iconst 1, 1) := by decide +kernel
theorem dX11_judgeMore_269 : decode cX11_judgeMore 269 = .ok (.iadd, 1) := by decide +kernel
theorem dX11_judgeMore_270 : decode cX11_judgeMore 270 = .ok (.iaload, 1) := by decide +kernel
theorem dX11_judgeMore_271 : decode cX11_judgeMore 271 = .ok (.invokevirtual 380, 3) := by decide +kernel
theorem dX11_judgeMore_274 : decode cX11_judgeMore 274 = .ok (.invokevirtual 596, 3) := by decide +kernel
theorem dX11_judgeMore_277 : decode cX11_judgeMore 277 = .ok (.goto 169, 3) := by decide +kernel
theorem dX11_judgeMore_280 : decode cX11_judgeMore 280 = .ok (.aload_n 0, 1) := by decide +kernel
theorem dX11_judgeMore_281 : decode cX11_judgeMore 281 = .ok (.dup, 1) := by decide +kernel
theorem dX11_judgeMore_282 : decode cX11_judgeMore 282 = .ok (.getfield 577, 3) := by decide +kernel
theorem dX11_judgeMore_285 : decode cX11_judgeMore 285 = .ok (.iconst 1, 1) := by decide +kernel
theorem dX11_judgeMore_286 : decode cX11_judgeMore 286 = .ok (.isub, 1) := by decide +kernel
theorem dX11_judgeMore_287 : decode cX11_judgeMore 287 = .ok (.putfield 577, 3) := by decide +kernel
theorem dX11_judgeMore_290 : decode cX11_judgeMore 290 = .ok (.aload_n 0, 1) := by decide +kernel
theorem dX11_judgeMore_291 : decode cX11_judgeMore 291 = .ok (.iconst 0, 1) := by decide +kernel
theorem dX11_judgeMore_292 : decode cX11_judgeMore 292 = .ok (.invokevirtual 596, 3) := by decide +kernel
theorem dX11_judgeMore_295 : decode cX11_judgeMore 295 = .ok (.goto 151, 3) := by decide +kernel
theorem dX11_judgeMore_298 : decode cX11_judgeMore 298 = .ok (.aload_n 0, 1) := by decide +kernel
theorem dX11_judgeMore_299 : decode cX11_judgeMore 299 = .ok (.dup, 1) := by decide +kernel
theorem dX11_judgeMore_300 : decode cX11_judgeMore 300 = .ok (.getfield 577, 3) := by decide +kernel
theorem dX11_judgeMore_303 : decode cX11_judgeMore 303 = .ok (.iconst 1, 1) := by decide +kernel
theorem dX11_judgeMore_304 : decode cX11_judgeMore 304 = .ok (.isub, 1) := by decide +kernel
theorem dX11_judgeMore_305 : decode cX11_judgeMore 305 = .ok (.putfield 577, 3) := by decide +kernel
theorem dX11_judgeMore_308 : decode cX11_judgeMore 308 = .ok (.aload_n 0, 1) := by decide +kernel
theorem dX11_judgeMore_309 : decode cX11_judgeMore 309 = .ok (.iconst 1, 1) := by decide +kernel
theorem dX11_judgeMore_310 : decode cX11_judgeMore 310 = .ok (.invokevirtual 596, 3) := by decide +kernel
theorem dX11_judgeMore_313 : decode cX11_judgeMore 313 = .ok (.goto 133, 3) := by decide +kernel
theorem dX11_judgeMore_316 : decode cX11_judgeMore 316 = .ok (.aload_n 0, 1) := by decide +kernel
theorem dX11_judgeMore_317 : decode cX11_judgeMore 317 = .ok (.dup, 1) := by decide +kernel
theorem dX11_judgeMore_318 : decode cX11_judgeMore 318 = .ok (.getfield 577, 3) := by decide +kernel
theorem dX11_judgeMore_321 : decode cX11_judgeMore 321 = .ok (.iconst 2, 1) := by decide +kernel
theorem dX11_judgeMore_322 : decode cX11_judgeMore 322 = .ok (.isub, 1) := by decide +kernel
theorem dX11_judgeMore_323 : decode cX11_judgeMore 323 = .ok (.putfield 577, 3) := by decide +kernel
theorem dX11_judgeMore_326 : decode cX11_judgeMore 326 = .ok (.aload_n 0, 1) := by decide +kernel
theorem dX11_judgeMore_327 : decode cX11_judgeMore 327 = .ok (.aload_n 0, 1) := by decide +kernel
theorem dX11_judgeMore_328 : decode cX11_judgeMore 328 = .ok (.getfield 137, 3) := by decide +kernel
theorem dX11_judgeMore_331 : decode cX11_judgeMore 331 = .ok (.iload_n 1, 1) := by decide +kernel
theorem dX11_judgeMore_332 : decode cX11_judgeMore 332 = .ok (.iaload, 1) := by decide +kernel
theorem dX11_judgeMore_333 : decode cX11_judgeMore 333 = .ok (.bipush 24, 2) := by decide +kernel
theorem dX11_judgeMore_335 : decode cX11_judgeMore 335 = .ok (.if_icmp .ne 7, 3) := by decide +kernel
theorem dX11_judgeMore_338 : decode cX11_judgeMore 338 = .ok (.iconst 0, 1) := by decide +kernel
theorem dX11_judgeMore_339 : decode cX11_judgeMore 339 = .ok (.goto 4, 3) := by decide +kernel
theorem dX11_judgeMore_342 : decode cX11_judgeMore 342 = .ok (.iconst 1, 1) := by decide +kernel
theorem dX11_judgeMore_343 : decode cX11_judgeMore 343 = .ok (.invokevirtual 596, 3) := by decide +kernel
theorem dX11_judgeMore_346 : decode cX11_judgeMore 346 = .ok (.goto 100, 3) := by decide +kernel
theorem dX11_judgeMore_349 : decode cX11_judgeMore 349 = .ok (.aload_n 0, 1) := by decide +kernel
theorem dX11_judgeMore_350 : decode cX11_judgeMore 350 = .ok (.dup, 1) := by decide +kernel
theorem dX11_judgeMore_351 : decode cX11_judgeMore 351 = .ok (.getfield 577, 3) := by decide +kernel
theorem dX11_judgeMore_354 : decode cX11_judgeMore 354 = .ok (.iconst 2, 1) := by decide +kernel
theorem dX11_judgeMore_355 : decode cX11_judgeMore 355 = .ok (.isub, 1) := by decide +kernel
theorem dX11_judgeMore_356 : decode cX11_judgeMore 356 = .ok (.putfield 577, 3) := by decide +kernel
theorem dX11_judgeMore_359 : decode cX11_judgeMore 359 = .ok (.aload_n 0, 1) := by decide +kernel
theorem dX11_judgeMore_360 : decode cX11_judgeMore 360 = .ok (.aload_n 0, 1) := by decide +kernel
theorem dX11_judgeMore_361 : decode cX11_judgeMore 361 = .ok (.aload_n 0, 1) := by decide +kernel
theorem dX11_judgeMore_362 : decode cX11_judgeMore 362 = .ok (.getfield 191, 3) := by decide +kernel
theorem dX11_judgeMore_365 : decode cX11_judgeMore 365 = .ok (.aload_n 0, 1) := by decide +kernel
theorem dX11_judgeMore_366 : decode cX11_judgeMore 366 = .ok (.getfield 577, 3) := by decide +kernel
theorem dX11_judgeMore_369 : decode cX11_judgeMore 369 = .ok (.iaload, 1) := by decide +kernel
theorem dX11_judgeMore_370 : decode cX11_judgeMore 370 = .ok (.invokevirtual 615, 3) := by decide +kernel
theorem dX11_judgeMore_373 : decode cX11_judgeMore 373 = .ok (.invokevirtual 596, 3) := by decide +kernel
theorem dX11_judgeMore_376 : decode cX11_judgeMore 376 = .ok (.goto 70, 3) := by decide +kernel
theorem dX11_judgeMore_379 : decode cX11_judgeMore 379 = .ok (.aload_n 0, 1) := by decide +kernel
theorem dX11_judgeMore_380 : decode cX11_judgeMore 380 = .ok (.dup, 1) := by decide +kernel
theorem dX11_judgeMore_381 : decode cX11_judgeMore 381 = .ok (.getfield 577, 3) := by decide +kernel
theorem dX11_judgeMore_384 : decode cX11_judgeMore 384 = .ok (.iconst 3, 1) := by decide +kernel
theorem dX11_judgeMore_385 : decode cX11_judgeMore 385 = .ok (.isub, 1) := by decide +kernel
theorem dX11_judgeMore_386 : decode cX11_judgeMore 386 = .ok (.putfield 577, 3) := by decide +kernel
theorem dX11_judgeMore_389 : decode cX11_judgeMore 389 = .ok (.aload_n 0, 1) := by decide +kernel
theorem dX11_judgeMore_390 : decode cX11_judgeMore 390 = .ok (.aload_n 0, 1) := by decide +kernel
theorem dX11_judgeMore_391 : decode cX11_judgeMore 391 = .ok (.aload_n 0, 1) := by decide +kernel
theorem dX11_judgeMore_392 : decode cX11_judgeMore 392 = .ok (.getfield 191, 3) := by decide +kernel
theorem dX11_judgeMore_395 : decode cX11_judgeMore 395 = .ok (.aload_n 0, 1) := by decide +kernel
theorem dX11_judgeMore_396 : decode cX11_judgeMore 396 = .ok (.getfield 577, 3) := by decide +kernel
theorem dX11_judgeMore_399 : decode cX11_judgeMore 399 = .ok (.iaload, 1) := by decide +kernel
theorem dX11_judgeMore_400 : decode cX11_judgeMore 400 = .ok (.invokevirtual 615, 3) := by decide +kernel
theorem dX11_judgeMore_403 : decode cX11_judgeMore 403 = .ok (.invokevirtual 596, 3) := by decide +kernel
theorem dX11_judgeMore_406 : decode cX11_judgeMore 406 = .ok (.goto 40, 3) := by decide +kernel
theorem dX11_judgeMore_409 : decode cX11_judgeMore 409 = .ok (.aload_n 0, 1) := by decide +kernel
theorem dX11_judgeMore_410 : decode cX11_judgeMore 410 = .ok (.dup, 1) := by decide +kernel
theorem dX11_judgeMore_411 : decode cX11_judgeMore 411 = .ok (.getfield 577, 3) := by decide +kernel
theorem dX11_judgeMore_414 : decode cX11_judgeMore 414 = .ok (.aload_n 0, 1) := by decide +kernel
theorem dX11_judgeMore_415 : decode cX11_judgeMore 415 = .ok (.getfield 98, 3) := by decide +kernel
theorem dX11_judgeMore_418 : decode cX11_judgeMore 418 = .ok (.iload_n 2, 1) := by decide +kernel
theorem dX11_judgeMore_419 : decode cX11_judgeMore 419 = .ok (.iaload, 1) := by decide +kernel
theorem dX11_judgeMore_420 : decode cX11_judgeMore 420 = .ok (.iconst 1, 1) := by decide +kernel
theorem dX11_judgeMore_421 : decode cX11_judgeMore 421 = .ok (.iadd, 1) := by decide +kernel
theorem dX11_judgeMore_422 : decode cX11_judgeMore 422 = .ok (.isub, 1) := by decide +kernel
theorem dX11_judgeMore_423 : decode cX11_judgeMore 423 = .ok (.putfield 577, 3) := by decide +kernel
theorem dX11_judgeMore_426 : decode cX11_judgeMore 426 = .ok (.aload_n 0, 1) := by decide +kernel
theorem dX11_judgeMore_427 : decode cX11_judgeMore 427 = .ok (.aload_n 0, 1) := by decide +kernel
theorem dX11_judgeMore_428 : decode cX11_judgeMore 428 = .ok (.aload_n 0, 1) := by decide +kernel
theorem dX11_judgeMore_429 : decode cX11_judgeMore 429 = .ok (.getfield 191, 3) := by decide +kernel
theorem dX11_judgeMore_432 : decode cX11_judgeMore 432 = .ok (.aload_n 0, 1) := by decide +kernel
theorem dX11_judgeMore_433 : decode cX11_judgeMore 433 = .ok (.getfield 577, 3) := by decide +kernel
theorem dX11_judgeMore_436 : decode cX11_judgeMore 436 = .ok (.iaload, 1) := by decide +kernel
theorem dX11_judgeMore_437 : decode cX11_judgeMore 437 = .ok (.invokevirtual 633, 3) := by decide +kernel
theorem dX11_judgeMore_440 : decode cX11_judgeMore 440 = .ok (.invokevirtual 596, 3) := by decide +kernel
theorem dX11_judgeMore_443 : decode cX11_judgeMore 443 = .ok (.goto 3, 3) := by decide +kernel
theorem dX11_judgeMore_446 : decode cX11_judgeMore 446 = .ok (.return_, 1) := by decide +kernel
theorem dX11_judgeOne_0 : decode cX11_judgeOne 0 = .ok (.aload_n 0, 1) := by decide +kernel
theorem dX11_judgeOne_1 : decode cX11_judgeOne 1 = .ok (.getfield 137, 3) := by decide +kernel
theorem dX11_judgeOne_4 : decode cX11_judgeOne 4 = .ok (.iload_n 1, 1) := by decide +kernel
theorem dX11_judgeOne_5 : decode cX11_judgeOne 5 = .ok (.iaload, 1) := by decide +kernel
theorem dX11_judgeOne_6 : decode cX11_judgeOne 6 = .ok (.tableswitch 415 1 30 #[134, 142, 150, 168, 185, 204, 223, 232, 246, 260, 349, 415, 415, 415, 415, 415, 415, 415, 415, 415, 415, 415, 415, 415, 415, 415, 415, 415, 415, 387], 134) := by decide +kernel
theorem dX11_judgeOne_140 : decode cX11_judgeOne 140 = .ok (.aload_n 0, 1) := by decide +kernel
theorem dX11_judgeOne_141 : decode cX11_judgeOne 141 = .ok (.iconst 0, 1) := by decide +kernel
theorem dX11_judgeOne_142 : decode cX11_judgeOne 142 = .ok (.invokevirtual 596, 3) := by decide +kernel
theorem dX11_judgeOne_145 : decode cX11_judgeOne 145 = .ok (.goto 282, 3) := by decide +kernel
theorem dX11_judgeOne_148 : decode cX11_judgeOne 148 = .ok (.aload_n 0, 1) := by decide +kernel
theorem dX11_judgeOne_149 : decode cX11_judgeOne 149 = .ok (.iconst 1, 1) := by decide +kernel
theorem dX11_judgeOne_150 : decode cX11_judgeOne 150 = .ok (.invokevirtual 596, 3) := by decide +kernel
theorem dX11_judgeOne_153 : decode cX11_judgeOne 153 = .ok (.goto 274, 3) := by decide +kernel
theorem dX11_judgeOne_156 : decode cX11_judgeOne 156 = .ok (.aload_n 0, 1) := by decide +kernel
theorem dX11_judgeOne_157 : decode cX11_judgeOne 157 = .ok (.aload_n 0, 1) := by decide +kernel
theorem dX11_judgeOne_158 : decode cX11_judgeOne 158 = .ok (.getfield 194, 3) := by decide +kernel
theorem dX11_judgeOne_161 : decode cX11_judgeOne 161 = .ok (.aload_n 0, 1) := by decide +kernel
theorem dX11_judgeOne_162 : decode cX11_judgeOne 162 = .ok (.getfield 95, 3) := by decide +kernel
theorem dX11_judgeOne_165 : decode cX11_judgeOne 165 = .ok (.iload_n 2, 1) := by decide +kernel
theorem dX11_judgeOne_166 : decode cX11_judgeOne 166 = .ok (.iaload, 1) := by decide +kernel
theorem dX11_judgeOne_167 : decode cX11_judgeOne 167 = .ok (.iaload, 1) := by decide +kernel
theorem dX11_judgeOne_168 : decode cX11_judgeOne 168 = .ok (.invokevirtual 596, 3) := by decide +kernel
theorem dX11_judgeOne_171 : decode cX11_judgeOne 171 = .ok (.goto 256, 3) := by decide +kernel
theorem dX11_judgeOne_174 : decode cX11_judgeOne 174 = .ok (.aload_n 0, 1) := by decide +kernel
theorem dX11_judgeOne_175 : decode cX11_judgeOne 175 = .ok (.aload_n 0, 1) := by decide +kernel
theorem dX11_judgeOne_176 : decode cX11_judgeOne 176 = .ok (.aload_n 0, 1) := by decide +kernel
theorem dX11_judgeOne_177 : decode cX11_judgeOne 177 = .ok (.getfield 95, 3) := by decide +kernel
theorem dX11_judgeOne_180 : decode cX11_judgeOne 180 = .ok (.iload_n 2, 1) := by decide +kernel
theorem dX11_judgeOne_181 : decode cX11_judgeOne 181 = .ok (.iaload, 1) := by decide +kernel
theorem dX11_judgeOne_182 : decode cX11_judgeOne 182 = .ok (.invokevirtual 599, 3) := by decide +kernel
theorem dX11_judgeOne_185 : decode cX11_judgeOne 185 = .ok (.invokevirtual 596, 3) := by decide +kernel
theorem dX11_judgeOne_188 : decode cX11_judgeOne 188 = .ok (.goto 239, 3) := by decide +kernel
theorem dX11_judgeOne_191 : decode cX11_judgeOne 191 = .ok (.aload_n 0, 1) := by decide +kernel
theorem dX11_judgeOne_192 : decode cX11_judgeOne 192 = .ok (.iload_n 1, 1) := by decide +kernel
theorem dX11_judgeOne_193 : decode cX11_judgeOne 193 = .ok (.iconst 0, 1) := by decide +kernel
theorem dX11_judgeOne_194 : decode cX11_judgeOne 194 = .ok (.aload_n 0, 1) := by decide +kernel
theorem dX11_judgeOne_195 : decode cX11_judgeOne 195 = .ok (.getfield 80, 3) := by decide +kernel
theorem dX11_judgeOne_198 : decode cX11_judgeOne 198 = .ok (.iload_n 2, 1) := by decide +kernel
theorem dX11_judgeOne_199 : decode cX11_judgeOne 199 = .ok (.iaload, 1) := by decide +kernel
theorem dX11_judgeOne_200 : decode cX11_judgeOne 200 = .ok (.aload_n 0, 1) := by decide +kernel
theorem dX11_judgeOne_201 : decode cX11_judgeOne 201 = .ok (.getfield 568, 3) := by decide +kernel
theorem dX11_judgeOne_204 : decode cX11_judgeOne 204 = .ok (.invokevirtual 602, 3) := by decide +kernel
theorem dX11_judgeOne_207 : decode cX11_judgeOne 207 = .ok (.goto 220, 3) := by decide +kernel
theorem dX11_judgeOne_210 : decode cX11_judgeOne 210 = .ok (.aload_n 0, 1) := by decide +kernel
theorem dX11_judgeOne_211 : decode cX11_judgeOne 211 = .ok (.iload_n 1, 1) := by decide +kernel
theorem dX11_judgeOne_212 : decode cX11_judgeOne 212 = .ok (.iconst 1, 1) := by decide +kernel
theorem dX11_judgeOne_213 : decode cX11_judgeOne 213 = .ok (.aload_n 0, 1) := by decide +kernel
theorem dX11_judgeOne_214 : decode cX11_judgeOne 214 = .ok (.getfield 80, 3) := by decide +kernel
theorem dX11_judgeOne_217 : decode cX11_judgeOne 217 = .ok (.iload_n 2, 1) := by decide +kernel
theorem dX11_judgeOne_218 : decode cX11_judgeOne 218 = .ok (.iaload, 1) := by decide +kernel
theorem dX11_judgeOne_219 : decode cX11_judgeOne 219 = .ok (.aload_n 0, 1) := by decide +kernel
theorem dX11_judgeOne_220 : decode cX11_judgeOne 220 = .ok (.getfield 568, 3) := by decide +kernel
theorem dX11_judgeOne_223 : decode cX11_judgeOne 223 = .ok (.invokevirtual 602, 3) := by decide +kernel
theorem dX11_judgeOne_226 : decode cX11_judgeOne 226 = .ok (.goto 201, 3) := by decide +kernel
theorem dX11_judgeOne_229 : decode cX11_judgeOne 229 = .ok (.aload_n 0, 1) := by decide +kernel
theorem dX11_judgeOne_230 : decode cX11_judgeOne 230 = .ok (.iload_n 1, 1) := by decide +kernel
theorem dX11_judgeOne_231 : decode cX11_judgeOne 231 = .ok (.iload_n 2, 1) := by decide +kernel
theorem dX11_judgeOne_232 : decode cX11_judgeOne 232 = .ok (.invokevirtual 606, 3) := by decide +kernel
theorem dX11_judgeOne_235 : decode cX11_judgeOne 235 = .ok (.goto 192, 3) := by decide +kernel
theorem dX11_judgeOne_238 : decode cX11_judgeOne 238 = .ok (.aload_n 0, 1) := by decide +kernel
theorem dX11_judgeOne_239 : decode cX11_judgeOne 239 = .ok (.iload_n 1, 1) := by decide +kernel
theorem dX11_judgeOne_240 : decode cX11_judgeOne 240 = .ok (.aload_n 0, 1) := by decide +kernel
theorem dX11_judgeOne_241 : decode cX11_judgeOne 241 = .ok (.getfield 83, 3) := by decide +kernel
theorem dX11_judgeOne_244 : decode cX11_judgeOne 244 = .ok (.iload_n 2, 1) := by decide +kernel
theorem dX11_judgeOne_245 : decode cX11_judgeOne 245 = .ok (.iaload, 1) := by decide +kernel
theorem dX11_judgeOne_246 : decode cX11_judgeOne 246 = .ok (.invokevirtual 609, 3) := by decide +kernel
theorem dX11_judgeOne_249 : decode cX11_judgeOne 249 = .ok (.goto 178, 3) := by decide +kernel
theorem dX11_judgeOne_252 : decode cX11_judgeOne 252 = .ok (.aload_n 0, 1) := by decide +kernel
theorem dX11_judgeOne_253 : decode cX11_judgeOne 253 = .ok (.iload_n 1, 1) := by decide +kernel
theorem dX11_judgeOne_254 : decode cX11_judgeOne 254 = .ok (.aload_n 0, 1) := by decide +kernel
theorem dX11_judgeOne_255 : decode cX11_judgeOne 255 = .ok (.getfield 80, 3) := by decide +kernel
theorem dX11_judgeOne_258 : decode cX11_judgeOne 258 = .ok (.iload_n 2, 1) := by decide +kernel
theorem dX11_judgeOne_259 : decode cX11_judgeOne 259 = .ok (.iaload, 1) := by decide +kernel
theorem dX11_judgeOne_260 : decode cX11_judgeOne 260 = .ok (.invokevirtual 609, 3) := by decide +kernel
theorem dX11_judgeOne_263 : decode cX11_judgeOne 263 = .ok (.goto 164, 3) := by decide +kernel
theorem dX11_judgeOne_266 : decode cX11_judgeOne 266 = .ok (.aload_n 0, 1) := by decide +kernel
theorem dX11_judgeOne_267 : decode cX11_judgeOne 267 = .ok (.getfield 170, 3) := by decide +kernel
theorem dX11_judgeOne_270 : decode cX11_judgeOne 270 = .ok (.iload_n 2, 1) := by decide +kernel
theorem dX11_judgeOne_271 : decode cX11_judgeOne 271 = .ok (.iaload, 1) := by decide +kernel
theorem dX11_judgeOne_272 : decode cX11_judgeOne 272 = .ok (.istore_n 3, 1) := by decide +kernel
theorem dX11_judgeOne_273 : decode cX11_judgeOne 273 = .ok (.aload_n 0, 1) := by decide +kernel
theorem dX11_judgeOne_274 : decode cX11_judgeOne 274 = .ok (.getfield 143, 3) := by decide +kernel
theorem dX11_judgeOne_277 : decode cX11_judgeOne 277 = .ok (.iload_n 1, 1) := by decide +kernel
theorem dX11_judgeOne_278 : decode cX11_judgeOne 278 = .ok (.iaload, 1) := by decide +kernel
theorem dX11_judgeOne_279 : decode cX11_judgeOne 279 = .ok (.bipush 8, 2) := by decide +kernel
theorem dX11_judgeOne_281 : decode cX11_judgeOne 281 = .ok (.idiv, 1) := by decide +kernel
theorem dX11_judgeOne_282 : decode cX11_judgeOne 282 = .ok (.istore 4, 2) := by decide +kernel
theorem dX11_judgeOne_284 : decode cX11_judgeOne 284 = .ok (.aload_n 0, 1) := by decide +kernel
theorem dX11_judgeOne_285 : decode cX11_judgeOne 285 = .ok (.getfield 77, 3) := by decide +kernel
theorem dX11_judgeOne_288 : decode cX11_judgeOne 288 = .ok (.aload_n 0, 1) := by decide +kernel
theorem dX11_judgeOne_289 : decode cX11_judgeOne 289 = .ok (.getfield 86, 3) := by decide +kernel
theorem dX11_judgeOne_292 : decode cX11_judgeOne 292 = .ok (.iload_n 3, 1) := by decide +kernel
theorem dX11_judgeOne_293 : decode cX11_judgeOne 293 = .ok (.iaload, 1) := by decide +kernel
theorem dX11_judgeOne_294 : decode cX11_judgeOne 294 = .ok (.iaload, 1) := by decide +kernel
theorem dX11_judgeOne_295 : decode cX11_judgeOne 295 = .ok (.iconst 3, 1) := by decide +kernel
theorem dX11_judgeOne_296 : decode cX11_judgeOne 296 = .ok (.if_icmp .ne 17, 3) := by decide +kernel
theorem dX11_judgeOne_299 : decode cX11_judgeOne 299 = .ok (.aload_n 0, 1) := by decide +kernel
theorem dX11_judgeOne_300 : decode cX11_judgeOne 300 = .ok (.getfield 95, 3) := by decide +kernel
theorem dX11_judgeOne_303 : decode cX11_judgeOne 303 = .ok (.aload_n 0, 1) := by decide +kernel
theorem dX11_judgeOne_304 : decode cX11_judgeOne 304 = .ok (.getfield 86, 3) := by decide +kernel
theorem dX11_judgeOne_307 : decode cX11_judgeOne 307 = .ok (.iload_n 3, 1) := by decide +kernel
theorem dX11_judgeOne_308 : decode cX11_judgeOne 308 = .ok (.iaload, 1) := by decide +kernel
theorem dX11_judgeOne_309 : decode cX11_judgeOne 309 = .ok (.iaload, 1) := by decide +kernel
theorem dX11_judgeOne_310 : decode cX11_judgeOne 310 = .ok (.goto 7, 3) := by decide +kernel
theorem dX11_judgeOne_313 : decode cX11_judgeOne 313 = .ok (.aload_n 0, 1) := by decide +kernel
theorem dX11_judgeOne_314 : decode cX11_judgeOne 314 = .ok (.getfield 568, 3) := by decide +kernel
theorem dX11_judgeOne_317 : decode cX11_judgeOne 317 = .ok (.istore 5, 2) := by decide +kernel
theorem dX11_judgeOne_319 : decode cX11_judgeOne 319 = .ok (.aload_n 0, 1) := by decide +kernel
theorem dX11_judgeOne_320 : decode cX11_judgeOne 320 = .ok (.iload_n 1, 1) := by decide +kernel
theorem dX11_judgeOne_321 : decode cX11_judgeOne 321 = .ok (.aload_n 0, 1) := by decide +kernel
theorem dX11_judgeOne_322 : decode cX11_judgeOne 322 = .ok (.aload_n 0, 1) := by decide +kernel
theorem dX11_judgeOne_323 : decode cX11_judgeOne 323 = .ok (.getfield 191, 3) := by decide +kernel
theorem dX11_judgeOne_326 : decode cX11_judgeOne 326 = .ok (.aload_n 0, 1) := by decide +kernel
theorem dX11_judgeOne_327 : decode cX11_judgeOne 327 = .ok (.getfield 577, 3) := by decide +kernel
theorem dX11_judgeOne_330 : decode cX11_judgeOne 330 = .ok (.iconst 2, 1) := by decide +kernel
theorem dX11_judgeOne_331 : decode cX11_judgeOne 331 = .ok (.isub, 1) := by decide +kernel
theorem dX11_judgeOne_332 : decode cX11_judgeOne 332 = .ok (.iload 4, 2) := by decide +kernel
theorem dX11_judgeOne_334 : decode cX11_judgeOne 334 = .ok (.isub, 1) := by decide +kernel
theorem dX11_judgeOne_335 : decode cX11_judgeOne 335 = .ok (.iaload, 1) := by decide +kernel
theorem dX11_judgeOne_336 : decode cX11_judgeOne 336 = .ok (.iload 4, 2) := by decide +kernel
theorem dX11_judgeOne_338 : decode cX11_judgeOne 338 = .ok (.invokevirtual 612, 3) := by decide +kernel
theorem dX11_judgeOne_341 : decode cX11_judgeOne 341 = .ok (.aload_n 0, 1) := by decide +kernel
theorem dX11_judgeOne_342 : decode cX11_judgeOne 342 = .ok (.getfield 80, 3) := by decide +kernel
theorem dX11_judgeOne_345 : decode cX11_judgeOne 345 = .ok (.iload_n 2, 1) := by decide +kernel
theorem dX11_judgeOne_346 : decode cX11_judgeOne 346 = .ok (.iaload, 1) := by decide +kernel
theorem dX11_judgeOne_347 : decode cX11_judgeOne 347 = .ok (.iload 5, 2) := by decide +kernel
theorem dX11_judgeOne_349 : decode cX11_judgeOne 349 = .ok (.invokevirtual 602, 3) := by decide +kernel
theorem dX11_judgeOne_352 : decode cX11_judgeOne 352 = .ok (.goto 75, 3) := by decide +kernel
theorem dX11_judgeOne_355 : decode cX11_judgeOne 355 = .ok (.aload_n 0, 1) := by decide +kernel
theorem dX11_judgeOne_356 : decode cX11_judgeOne 356 = .ok (.iload_n 1, 1) := by decide +kernel
theorem dX11_judgeOne_357 : decode cX11_judgeOne 357 = .ok (.aload_n 0, 1) := by decide +kernel
theorem dX11_judgeOne_358 : decode cX11_judgeOne 358 = .ok (.aload_n 0, 1) := by decide +kernel
theorem dX11_judgeOne_359 : decode cX11_judgeOne 359 = .ok (.getfield 191, 3) := by decide +kernel
theorem dX11_judgeOne_362 : decode cX11_judgeOne 362 = .ok (.aload_n 0, 1) := by decide +kernel
theorem dX11_judgeOne_363 : decode cX11_judgeOne 363 = .ok (.getfield 577, 3) := by decide +kernel
theorem dX11_judgeOne_366 : decode cX11_judgeOne 366 = .ok (.iconst 3, 1) := by decide +kernel
theorem dX11_judgeOne_367 : decode cX11_judgeOne 367 = .ok (.isub, 1) := by decide +kernel
theorem dX11_judgeOne_368 : decode cX11_judgeOne 368 = .ok (.iaload, 1) := by decide +kernel
theorem dX11_judgeOne_369 : decode cX11_judgeOne 369 = .ok (.invokevirtual 615, 3) := by decide +kernel
theorem dX11_judgeOne_372 : decode cX11_judgeOne 372 = .ok (.aload_n 0, 1) := by decide +kernel
theorem dX11_judgeOne_373 : decode cX11_judgeOne 373 = .ok (.getfield 80, 3) := by decide +kernel
theorem dX11_judgeOne_376 : decode cX11_judgeOne 376 = .ok (.aload_n 0, 1) := by decide +kernel
theorem dX11_judgeOne_377 : decode cX11_judgeOne 377 = .ok (.getfield 92, 3) := by decide +kernel
theorem dX11_judgeOne_380 : decode cX11_judgeOne 380 = .ok (.iload_n 2, 1) := by decide +kernel
theorem dX11_judgeOne_381 : decode cX11_judgeOne 381 = .ok (.iaload, 1) := by decide +kernel
theorem dX11_judgeOne_382 : decode cX11_judgeOne 382 = .ok (.iaload, 1) := by decide +kernel
theorem dX11_judgeOne_383 : decode cX11_judgeOne 383 = .ok (.aload_n 0, 1) := by decide +kernel
theorem dX11_judgeOne_384 : decode cX11_judgeOne 384 = .ok (.getfield 568, 3) := by decide +kernel
theorem dX11_judgeOne_387 : decode cX11_judgeOne 387 = .ok (.invokevirtual 602, 3) := by decide +kernel
theorem dX11_judgeOne_390 : decode cX11_judgeOne 390 = .ok (.goto 37, 3) := by decide +kernel
theorem dX11_judgeOne_393 : decode cX11_judgeOne 393 = .ok (.aload_n 0, 1) := by decide +kernel
theorem dX11_judgeOne_394 : decode cX11_judgeOne 394 = .ok (.iload_n 1, 1) := by decide +kernel
theorem dX11_judgeOne_395 : decode cX11_judgeOne 395 = .ok (.aload_n 0, 1) := by decide +kernel
theorem dX11_judgeOne_396 : decode cX11_judgeOne 396 = .ok (.iload_n 2, 1) := by decide +kernel
theorem dX11_judgeOne_397 : decode cX11_judgeOne 397 = .ok (.invokevirtual 574, 3) := by decide +kernel
theorem dX11_judgeOne_400 : decode cX11_judgeOne 400 = .ok (.aload_n 0, 1) := by decide +kernel
theorem dX11_judgeOne_401 : decode cX11_judgeOne 401 = .ok (.getfield 80, 3) := by decide +kernel
theorem dX11_judgeOne_404 : decode cX11_judgeOne 404 = .ok (.aload_n 0, 1) := by decide +kernel
theorem dX11_judgeOne_405 : decode cX11_judgeOne 405 = .ok (.getfield 71, 3) := by decide +kernel
theorem dX11_judgeOne_408 : decode cX11_judgeOne 408 = .ok (.iload_n 2, 1) := by decide +kernel
theorem dX11_judgeOne_409 : decode cX11_judgeOne 409 = .ok (.iaload, 1) := by decide +kernel
theorem dX11_judgeOne_410 : decode cX11_judgeOne 410 = .ok (.iaload, 1) := by decide +kernel
theorem dX11_judgeOne_411 : decode cX11_judgeOne 411 = .ok (.aload_n 0, 1) := by decide +kernel
theorem dX11_judgeOne_412 : decode cX11_judgeOne 412 = .ok (.getfield 568, 3) := by decide +kernel
theorem dX11_judgeOne_415 : decode cX11_judgeOne 415 = .ok (.invokevirtual 602, 3) := by decide +kernel
theorem dX11_judgeOne_418 : decode cX11_judgeOne 418 = .ok (.goto 9, 3) := by decide +kernel
theorem dX11_judgeOne_421 : decode cX11_judgeOne 421 = .ok (.aload_n 0, 1) := by decide +kernel
theorem dX11_judgeOne_422 : decode cX11_judgeOne 422 = .ok (.iload_n 1, 1) := by decide +kernel
theorem dX11_judgeOne_423 : decode cX11_judgeOne 423 = .ok (.iload_n 2, 1) := by decide +kernel
theorem dX11_judgeOne_424 : decode cX11_judgeOne 424 = .ok (.invokevirtual 618, 3) := by decide +kernel
theorem dX11_judgeOne_427 : decode cX11_judgeOne 427 = .ok (.return_, 1) := by decide +kernel
theorem dX11_judgeRow_0 : decode cX11_judgeRow 0 = .ok (.aload_n 0, 1) := by decide +kernel
theorem dX11_judgeRow_1 : decode cX11_judgeRow 1 = .ok (.getfield 191, 3) := by decide +kernel
theorem dX11_judgeRow_4 : decode cX11_judgeRow 4 = .ok (.aload_n 0, 1) := by decide +kernel
theorem dX11_judgeRow_5 : decode cX11_judgeRow 5 = .ok (.getfield 577, 3) := by decide +kernel
theorem dX11_judgeRow_8 : decode cX11_judgeRow 8 = .ok (.iconst 1, 1) := by decide +kernel
theorem dX11_judgeRow_9 : decode cX11_judgeRow 9 = .ok (.isub, 1) := by decide +kernel
theorem dX11_judgeRow_10 : decode cX11_judgeRow 10 = .ok (.iaload, 1) := by decide +kernel
theorem dX11_judgeRow_11 : decode cX11_judgeRow 11 = .ok (.istore_n 3, 1) := by decide +kernel
theorem dX11_judgeRow_12 : decode cX11_judgeRow 12 = .ok (.iload_n 3, 1) := by decide +kernel
theorem dX11_judgeRow_13 : decode cX11_judgeRow 13 = .ok (.iconst 2, 1) := by decide +kernel
theorem dX11_judgeRow_14 : decode cX11_judgeRow 14 = .ok (.if_icmp .ne 39, 3) := by decide +kernel
theorem dX11_judgeRow_17 : decode cX11_judgeRow 17 = .ok (.aload_n 0, 1) := by decide +kernel
theorem dX11_judgeRow_18 : decode cX11_judgeRow 18 = .ok (.iconst 2, 1) := by decide +kernel
theorem dX11_judgeRow_19 : decode cX11_judgeRow 19 = .ok (.invokevirtual 380, 3) := by decide +kernel
theorem dX11_judgeRow_22 : decode cX11_judgeRow 22 = .ok (.istore 4, 2) := by decide +kernel
theorem dX11_judgeRow_24 : decode cX11_judgeRow 24 = .ok (.aload_n 0, 1) := by decide +kernel
theorem dX11_judgeRow_25 : decode cX11_judgeRow 25 = .ok (.iload_n 1, 1) := by decide +kernel
theorem dX11_judgeRow_26 : decode cX11_judgeRow 26 = .ok (.iload_n 3, 1) := by decide +kernel
theorem dX11_judgeRow_27 : decode cX11_judgeRow 27 = .ok (.iload 4, 2) := by decide +kernel
theorem dX11_judgeRow_29 : decode cX11_judgeRow 29 = .ok (.iload_n 2, 1) := by decide +kernel
theorem dX11_judgeRow_30 : decode cX11_judgeRow 30 = .ok (.aload_n 0, 1) := by decide +kernel
theorem dX11_judgeRow_31 : decode cX11_judgeRow 31 = .ok (.getfield 568, 3) := by decide +kernel
theorem dX11_judgeRow_34 : decode cX11_judgeRow 34 = .ok (.invokevirtual 584, 3) := by decide +kernel
theorem dX11_judgeRow_37 : decode cX11_judgeRow 37 = .ok (.aload_n 0, 1) := by decide +kernel
theorem dX11_judgeRow_38 : decode cX11_judgeRow 38 = .ok (.getfield 191, 3) := by decide +kernel
theorem dX11_judgeRow_41 : decode cX11_judgeRow 41 = .ok (.aload_n 0, 1) := by decide +kernel
theorem dX11_judgeRow_42 : decode cX11_judgeRow 42 = .ok (.getfield 577, 3) := by decide +kernel
theorem dX11_judgeRow_45 : decode cX11_judgeRow 45 = .ok (.iconst 1, 1) := by decide +kernel
theorem dX11_judgeRow_46 : decode cX11_judgeRow 46 = .ok (.isub, 1) := by decide +kernel
theorem dX11_judgeRow_47 : decode cX11_judgeRow 47 = .ok (.iload 4, 2) := by decide +kernel
theorem dX11_judgeRow_49 : decode cX11_judgeRow 49 = .ok (.iastore, 1) := by decide +kernel
theorem dX11_judgeRow_50 : decode cX11_judgeRow 50 = .ok (.goto 20, 3) := by decide +kernel
theorem dX11_judgeRow_53 : decode cX11_judgeRow 53 = .ok (.aload_n 0, 1) := by decide +kernel
theorem dX11_judgeRow_54 : decode cX11_judgeRow 54 = .ok (.getfield 26, 3) := by decide +kernel
theorem dX11_judgeRow_57 : decode cX11_judgeRow 57 = .ok (.iload_n 3, 1) := by decide +kernel
theorem dX11_judgeRow_58 : decode cX11_judgeRow 58 = .ok (.iaload, 1) := by decide +kernel
theorem dX11_judgeRow_59 : decode cX11_judgeRow 59 = .ok (.iconst 4, 1) := by decide +kernel
theorem dX11_judgeRow_60 : decode cX11_judgeRow 60 = .ok (.if_icmp .eq 10, 3) := by decide +kernel
theorem dX11_judgeRow_63 : decode cX11_judgeRow 63 = .ok (.aload_n 0, 1) := by decide +kernel
theorem dX11_judgeRow_64 : decode cX11_judgeRow 64 = .ok (.bipush 9, 2) := by decide +kernel
theorem dX11_judgeRow_66 : decode cX11_judgeRow 66 = .ok (.iload_n 2, 1) := by decide +kernel
theorem dX11_judgeRow_67 : decode cX11_judgeRow 67 = .ok (.invokevirtual 295, 3) := by decide +kernel
theorem dX11_judgeRow_70 : decode cX11_judgeRow 70 = .ok (.return_, 1) := by decide +kernel
theorem dX11_judges_0 : decode cX11_judges 0 = .ok (.aload_n 0, 1) := by decide +kernel
theorem dX11_judges_1 : decode cX11_judges 1 = .ok (.aload_n 0, 1) := by decide +kernel
theorem dX11_judges_2 : decode cX11_judges 2 = .ok (.getfield 524, 3) := by decide +kernel
theorem dX11_judges_5 : decode cX11_judges 5 = .ok (.putfield 267, 3) := by decide +kernel
theorem dX11_judges_8 : decode cX11_judges 8 = .ok (.aload_n 0, 1) := by decide +kernel
theorem dX11_judges_9 : decode cX11_judges 9 = .ok (.aload_n 0, 1) := by decide +kernel
theorem dX11_judges_10 : decode cX11_judges 10 = .ok (.getfield 527, 3) := by decide +kernel
theorem dX11_judges_13 : decode cX11_judges 13 = .ok (.putfield 269, 3) := by decide +kernel
theorem dX11_judges_16 : decode cX11_judges 16 = .ok (.aload_n 0, 1) := by decide +kernel
theorem dX11_judges_17 : decode cX11_judges 17 = .ok (.iconst 0, 1) := by decide +kernel
theorem dX11_judges_18 : decode cX11_judges 18 = .ok (.putfield 286, 3) := by decide +kernel
theorem dX11_judges_21 : decode cX11_judges 21 = .ok (.aload_n 0, 1) := by decide +kernel
theorem dX11_judges_22 : decode cX11_judges 22 = .ok (.iconst (-1), 1) := by decide +kernel
theorem dX11_judges_23 : decode cX11_judges 23 = .ok (.putfield 289, 3) := by decide +kernel
theorem dX11_judges_26 : decode cX11_judges 26 = .ok (.aload_n 0, 1) := by decide +kernel
theorem dX11_judges_27 : decode cX11_judges 27 = .ok (.iconst 0, 1) := by decide +kernel
theorem dX11_judges_28 : decode cX11_judges 28 = .ok (.putfield 588, 3) := by decide +kernel
theorem dX11_judges_31 : decode cX11_judges 31 = .ok (.aload_n 0, 1) := by decide +kernel
theorem dX11_judges_32 : decode cX11_judges 32 = .ok (.invokevirtual 590, 3) := by decide +kernel
theorem dX11_judges_35 : decode cX11_judges 35 = .ok (.iconst 0, 1) := by decide +kernel
theorem dX11_judges_36 : decode cX11_judges 36 = .ok (.istore_n 1, 1) := by decide +kernel
theorem dX11_judges_37 : decode cX11_judges 37 = .ok (.iload_n 1, 1) := by decide +kernel
theorem dX11_judges_38 : decode cX11_judges 38 = .ok (.aload_n 0, 1) := by decide +kernel
theorem dX11_judges_39 : decode cX11_judges 39 = .ok (.getfield 497, 3) := by decide +kernel
theorem dX11_judges_42 : decode cX11_judges 42 = .ok (.if_icmp .ge 168, 3) := by decide +kernel
theorem dX11_judges_45 : decode cX11_judges 45 = .ok (.aload_n 0, 1) := by decide +kernel
theorem dX11_judges_46 : decode cX11_judges 46 = .ok (.invokevirtual 341, 3) := by decide +kernel
theorem dX11_judges_49 : decode cX11_judges 49 = .ok (.ifCond .eq 161, 3) := by decide +kernel
theorem dX11_judges_52 : decode cX11_judges 52 = .ok (.aload_n 0, 1) := by decide +kernel
theorem dX11_judges_53 : decode cX11_judges 53 = .ok (.iload_n 1, 1) := by decide +kernel
theorem dX11_judges_54 : decode cX11_judges 54 = .ok (.putfield 568, 3) := by decide +kernel
theorem dX11_judges_57 : decode cX11_judges 57 = .ok (.aload_n 0, 1) := by decide +kernel
theorem dX11_judges_58 : decode cX11_judges 58 = .ok (.iconst 0, 1) := by decide +kernel
theorem dX11_judges_59 : decode cX11_judges 59 = .ok (.putfield 577, 3) := by decide +kernel
theorem dX11_judges_62 : decode cX11_judges 62 = .ok (.aload_n 0, 1) := by decide +kernel
theorem dX11_judges_63 : decode cX11_judges 63 = .ok (.getfield 188, 3) := by decide +kernel
theorem dX11_judges_66 : decode cX11_judges 66 = .ok (.iload_n 1, 1) := by decide +kernel
theorem dX11_judges_67 : decode cX11_judges 67 = .ok (.aload_n 0, 1) := by decide +kernel
theorem dX11_judges_68 : decode cX11_judges 68 = .ok (.getfield 39, 3) := by decide +kernel
theorem dX11_judges_71 : decode cX11_judges 71 = .ok (.aload_n 0, 1) := by decide +kernel
theorem dX11_judges_72 : decode cX11_judges 72 = .ok (.iload_n 1, 1) := by decide +kernel
theorem dX11_judges_73 : decode cX11_judges 73 = .ok (.invokevirtual 574, 3) := by decide +kernel
theorem dX11_judges_76 : decode cX11_judges 76 = .ok (.baload, 1) := by decide +kernel
theorem dX11_judges_77 : decode cX11_judges 77 = .ok (.bastore, 1) := by decide +kernel
theorem dX11_judges_78 : decode cX11_judges 78 = .ok (.iconst 0, 1) := by decide +kernel
theorem dX11_judges_79 : decode cX11_judges 79 = .ok (.istore_n 2, 1) := by decide +kernel
theorem dX11_judges_80 : decode cX11_judges 80 = .ok (.iload_n 2, 1) := by decide +kernel
theorem dX11_judges_81 : decode cX11_judges 81 = .ok (.aload_n 0, 1) := by decide +kernel
theorem dX11_judges_82 : decode cX11_judges 82 = .ok (.getfield 62, 3) := by decide +kernel
theorem dX11_judges_85 : decode cX11_judges 85 = .ok (.iload_n 1, 1) := by decide +kernel
theorem dX11_judges_86 : decode cX11_judges 86 = .ok (.iaload, 1) := by decide +kernel
theorem dX11_judges_87 : decode cX11_judges 87 = .ok (.if_icmp .ge 55, 3) := by decide +kernel
theorem dX11_judges_90 : decode cX11_judges 90 = .ok (.aload_n 0, 1) := by decide +kernel
theorem dX11_judges_91 : decode cX11_judges 91 = .ok (.getfield 194, 3) := by decide +kernel
theorem dX11_judges_94 : decode cX11_judges 94 = .ok (.iload_n 2, 1) := by decide +kernel
theorem dX11_judges_95 : decode cX11_judges 95 = .ok (.aload_n 0, 1) := by decide +kernel
theorem dX11_judges_96 : decode cX11_judges 96 = .ok (.iload_n 1, 1) := by decide +kernel
theorem dX11_judges_97 : decode cX11_judges 97 = .ok (.iload_n 2, 1) := by decide +kernel
theorem dX11_judges_98 : decode cX11_judges 98 = .ok (.invokevirtual 571, 3) := by decide +kernel
theorem dX11_judges_101 : decode cX11_judges 101 = .ok (.iastore, 1) := by decide +kernel
theorem dX11_judges_102 : decode cX11_judges 102 = .ok (.aload_n 0, 1) := by decide +kernel
theorem dX11_judges_103 : decode cX11_judges 103 = .ok (.getfield 188, 3) := by decide +kernel
theorem dX11_judges_106 : decode cX11_judges 106 = .ok (.iload_n 1, 1) := by decide +kernel
theorem dX11_judges_107 : decode cX11_judges 107 = .ok (.aload_n 0, 1) := by decide +kernel
theorem dX11_judges_108 : decode cX11_judges 108 = .ok (.getfield 188, 3) := by decide +kernel
theorem dX11_judges_111 : decode cX11_judges 111 = .ok (.iload_n 1, 1) := by decide +kernel
theorem dX11_judges_112 : decode cX11_judges 112 = .ok (.baload, 1) := by decide +kernel
theorem dX11_judges_113 : decode cX11_judges 113 = .ok (.ifCond .ne 17, 3) := by decide +kernel
theorem dX11_judges_116 : decode cX11_judges 116 = .ok (.aload_n 0, 1) := by decide +kernel
theorem dX11_judges_117 : decode cX11_judges 117 = .ok (.getfield 39, 3) := by decide +kernel
theorem dX11_judges_120 : decode cX11_judges 120 = .ok (.aload_n 0, 1) := by decide +kernel
theorem dX11_judges_121 : decode cX11_judges 121 = .ok (.getfield 194, 3) := by decide +kernel
theorem dX11_judges_124 : decode cX11_judges 124 = .ok (.iload_n 2, 1) := by decide +kernel
theorem dX11_judges_125 : decode cX11_judges 125 = .ok (.iaload, 1) := by decide +kernel
theorem dX11_judges_126 : decode cX11_judges 126 = .ok (.baload, 1) := by decide +kernel
theorem dX11_judges_127 : decode cX11_judges 127 = .ok (.ifCond .eq 7, 3) := by decide +kernel
theorem dX11_judges_130 : decode cX11_judges 130 = .ok (.iconst 1, 1) := by decide +kernel
theorem dX11_judges_131 : decode cX11_judges 131 = .ok (.goto 4, 3) := by decide +kernel
theorem dX11_judges_134 : decode cX11_judges 134 = .ok (.iconst 0, 1) := by decide +kernel
theorem dX11_judges_135 : decode cX11_judges 135 = .ok (.bastore, 1) := by decide +kernel
theorem dX11_judges_136 : decode cX11_judges 136 = .ok (.iinc 2 1, 3) := by decide +kernel
theorem dX11_judges_139 : decode cX11_judges 139 = .ok (.goto (-59), 3) := by decide +kernel
theorem dX11_judges_142 : decode cX11_judges 142 = .ok (.iload_n 1, 1) := by decide +kernel
theorem dX11_judges_143 : decode cX11_judges 143 = .ok (.iconst 1, 1) := by decide +kernel
theorem dX11_judges_144 : decode cX11_judges 144 = .ok (.iadd, 1) := by decide +kernel
theorem dX11_judges_145 : decode cX11_judges 145 = .ok (.aload_n 0, 1) := by decide +kernel
theorem dX11_judges_146 : decode cX11_judges 146 = .ok (.getfield 497, 3) := by decide +kernel
theorem dX11_judges_149 : decode cX11_judges 149 = .ok (.if_icmp .ge 14, 3) := by decide +kernel
theorem dX11_judges_152 : decode cX11_judges 152 = .ok (.aload_n 0, 1) := by decide +kernel
theorem dX11_judges_153 : decode cX11_judges 153 = .ok (.getfield 149, 3) := by decide +kernel
theorem dX11_judges_156 : decode cX11_judges 156 = .ok (.iload_n 1, 1) := by decide +kernel
theorem dX11_judges_157 : decode cX11_judges 157 = .ok (.iconst 1, 1) := by decide +kernel
theorem dX11_judges_158 : decode cX11_judges 158 = .ok (.iadd, 1) := by decide +kernel
theorem dX11_judges_159 : decode cX11_judges 159 = .ok (.iaload, 1) := by decide +kernel
theorem dX11_judges_160 : decode cX11_judges 160 = .ok (.goto 7, 3) := by decide +kernel
theorem dX11_judges_163 : decode cX11_judges 163 = .ok (.aload_n 0, 1) := by decide +kernel
theorem dX11_judges_164 : decode cX11_judges 164 = .ok (.getfield 548, 3) := by decide +kernel
theorem dX11_judges_167 : decode cX11_judges 167 = .ok (.istore_n 2, 1) := by decide +kernel
theorem dX11_judges_168 : decode cX11_judges 168 = .ok (.aload_n 0, 1) := by decide +kernel
theorem dX11_judges_169 : decode cX11_judges 169 = .ok (.getfield 149, 3) := by decide +kernel
theorem dX11_judges_172 : decode cX11_judges 172 = .ok (.iload_n 1, 1) := by decide +kernel
theorem dX11_judges_173 : decode cX11_judges 173 = .ok (.iaload, 1) := by decide +kernel
theorem dX11_judges_174 : decode cX11_judges 174 = .ok (.istore_n 3, 1) := by decide +kernel
theorem dX11_judges_175 : decode cX11_judges 175 = .ok (.iload_n 3, 1) := by decide +kernel
theorem dX11_judges_176 : decode cX11_judges 176 = .ok (.iload_n 2, 1) := by decide +kernel
theorem dX11_judges_177 : decode cX11_judges 177 = .ok (.if_icmp .ge 27, 3) := by decide +kernel
theorem dX11_judges_180 : decode cX11_judges 180 = .ok (.aload_n 0, 1) := by decide +kernel
theorem dX11_judges_181 : decode cX11_judges 181 = .ok (.invokevirtual 341, 3) := by decide +kernel
theorem dX11_judges_184 : decode cX11_judges 184 = .ok (.ifCond .eq 20, 3) := by decide +kernel
theorem dX11_judges_187 : decode cX11_judges 187 = .ok (.aload_n 0, 1) := by decide +kernel
theorem dX11_judges_188 : decode cX11_judges 188 = .ok (.iload_n 3, 1) := by decide +kernel
theorem dX11_judges_189 : decode cX11_judges 189 = .ok (.aload_n 0, 1) := by decide +kernel
theorem dX11_judges_190 : decode cX11_judges 190 = .ok (.getfield 140, 3) := by decide +kernel
theorem dX11_judges_193 : decode cX11_judges 193 = .ok (.iload_n 3, 1) := by decide +kernel
theorem dX11_judges_194 : decode cX11_judges 194 = .ok (.iaload, 1) := by decide +kernel
theorem dX11_judges_195 : decode cX11_judges 195 = .ok (.invokevirtual 593, 3) := by decide +kernel
theorem dX11_judges_198 : decode cX11_judges 198 = .ok (.iinc 3 1, 3) := by decide +kernel
theorem dX11_judges_201 : decode cX11_judges 201 = .ok (.goto (-26), 3) := by decide +kernel
theorem dX11_judges_204 : decode cX11_judges 204 = .ok (.iinc 1 1, 3) := by decide +kernel
theorem dX11_judges_207 : decode cX11_judges 207 = .ok (.goto (-170), 3) := by decide +kernel
theorem dX11_judges_210 : decode cX11_judges 210 = .ok (.aload_n 0, 1) := by decide +kernel
theorem dX11_judges_211 : decode cX11_judges 211 = .ok (.aload_n 0, 1) := by decide +kernel
theorem dX11_judges_212 : decode cX11_judges 212 = .ok (.invokevirtual 341, 3) := by decide +kernel
theorem dX11_judges_215 : decode cX11_judges 215 = .ok (.putfield 509, 3) := by decide +kernel
theorem dX11_judges_218 : decode cX11_judges 218 = .ok (.return_, 1) := by decide +kernel
theorem dX11_must_0 : decode cX11_must 0 = .ok (.aload_n 0, 1) := by decide +kernel
theorem dX11_must_1 : decode cX11_must 1 = .ok (.getfield 191, 3) := by decide +kernel
theorem dX11_must_4 : decode cX11_must 4 = .ok (.aload_n 0, 1) := by decide +kernel
theorem dX11_must_5 : decode cX11_must 5 = .ok (.getfield 577, 3) := by decide +kernel
theorem dX11_must_8 : decode cX11_must 8 = .ok (.iconst 1, 1) := by decide +kernel
theorem dX11_must_9 : decode cX11_must 9 = .ok (.isub, 1) := by decide +kernel
theorem dX11_must_10 : decode cX11_must 10 = .ok (.iaload, 1) := by decide +kernel
theorem dX11_must_11 : decode cX11_must 11 = .ok (.istore 5, 2) := by decide +kernel
theorem dX11_must_13 : decode cX11_must 13 = .ok (.aload_n 0, 1) := by decide +kernel
theorem dX11_must_14 : decode cX11_must 14 = .ok (.iload 5, 2) := by decide +kernel
theorem dX11_must_16 : decode cX11_must 16 = .ok (.iload_n 2, 1) := by decide +kernel
theorem dX11_must_17 : decode cX11_must 17 = .ok (.invokevirtual 580, 3) := by decide +kernel
theorem dX11_must_20 : decode cX11_must 20 = .ok (.ifCond .ne 11, 3) := by decide +kernel
theorem dX11_must_23 : decode cX11_must 23 = .ok (.aload_n 0, 1) := by decide +kernel
theorem dX11_must_24 : decode cX11_must 24 = .ok (.bipush 9, 2) := by decide +kernel
theorem dX11_must_26 : decode cX11_must 26 = .ok (.iload_n 3, 1) := by decide +kernel
theorem dX11_must_27 : decode cX11_must 27 = .ok (.invokevirtual 295, 3) := by decide +kernel
theorem dX11_must_30 : decode cX11_must 30 = .ok (.return_, 1) := by decide +kernel
theorem dX11_must_31 : decode cX11_must 31 = .ok (.aload_n 0, 1) := by decide +kernel
theorem dX11_must_32 : decode cX11_must 32 = .ok (.iload_n 1, 1) := by decide +kernel
theorem dX11_must_33 : decode cX11_must 33 = .ok (.iload 5, 2) := by decide +kernel
theorem dX11_must_35 : decode cX11_must 35 = .ok (.iload_n 2, 1) := by decide +kernel
theorem dX11_must_36 : decode cX11_must 36 = .ok (.iload_n 3, 1) := by decide +kernel
theorem dX11_must_37 : decode cX11_must 37 = .ok (.iload 4, 2) := by decide +kernel
theorem dX11_must_39 : decode cX11_must 39 = .ok (.invokevirtual 584, 3) := by decide +kernel
theorem dX11_must_42 : decode cX11_must 42 = .ok (.aload_n 0, 1) := by decide +kernel
theorem dX11_must_43 : decode cX11_must 43 = .ok (.getfield 191, 3) := by decide +kernel
theorem dX11_must_46 : decode cX11_must 46 = .ok (.aload_n 0, 1) := by decide +kernel
theorem dX11_must_47 : decode cX11_must 47 = .ok (.getfield 577, 3) := by decide +kernel
theorem dX11_must_50 : decode cX11_must 50 = .ok (.iconst 1, 1) := by decide +kernel
theorem dX11_must_51 : decode cX11_must 51 = .ok (.isub, 1) := by decide +kernel
theorem dX11_must_52 : decode cX11_must 52 = .ok (.iload_n 2, 1) := by decide +kernel
theorem dX11_must_53 : decode cX11_must 53 = .ok (.iastore, 1) := by decide +kernel
theorem dX11_must_54 : decode cX11_must 54 = .ok (.return_, 1) := by decide +kernel
theorem dX11_read_0 : decode cX11_read 0 = .ok (.aload_n 0, 1) := by decide +kernel
theorem dX11_read_1 : decode cX11_read 1 = .ok (.aload_n 0, 1) := by decide +kernel
theorem dX11_read_2 : decode cX11_read 2 = .ok (.getfield 276, 3) := by decide +kernel
theorem dX11_read_5 : decode cX11_read 5 = .ok (.putfield 302, 3) := by decide +kernel
theorem dX11_read_8 : decode cX11_read 8 = .ok (.iconst 0, 1) := by decide +kernel
theorem dX11_read_9 : decode cX11_read 9 = .ok (.istore_n 1, 1) := by decide +kernel
theorem dX11_read_10 : decode cX11_read 10 = .ok (.iload_n 1, 1) := by decide +kernel
theorem dX11_read_11 : decode cX11_read 11 = .ok (.aload_n 0, 1) := by decide +kernel
theorem dX11_read_12 : decode cX11_read 12 = .ok (.getfield 276, 3) := by decide +kernel
theorem dX11_read_15 : decode cX11_read 15 = .ok (.if_icmp .ge 21, 3) := by decide +kernel
theorem dX11_read_18 : decode cX11_read 18 = .ok (.aload_n 0, 1) := by decide +kernel
theorem dX11_read_19 : decode cX11_read 19 = .ok (.getfield 13, 3) := by decide +kernel
theorem dX11_read_22 : decode cX11_read 22 = .ok (.iload_n 1, 1) := by decide +kernel
theorem dX11_read_23 : decode cX11_read 23 = .ok (.aload_n 0, 1) := by decide +kernel
theorem dX11_read_24 : decode cX11_read 24 = .ok (.getfield 7, 3) := by decide +kernel
theorem dX11_read_27 : decode cX11_read 27 = .ok (.iload_n 1, 1) := by decide +kernel
theorem dX11_read_28 : decode cX11_read 28 = .ok (.baload, 1) := by decide +kernel
theorem dX11_read_29 : decode cX11_read 29 = .ok (.bastore, 1) := by decide +kernel
theorem dX11_read_30 : decode cX11_read 30 = .ok (.iinc 1 1, 3) := by decide +kernel
theorem dX11_read_33 : decode cX11_read 33 = .ok (.goto (-23), 3) := by decide +kernel
theorem dX11_read_36 : decode cX11_read 36 = .ok (.aload_n 0, 1) := by decide +kernel
theorem dX11_read_37 : decode cX11_read 37 = .ok (.iconst 0, 1) := by decide +kernel
theorem dX11_read_38 : decode cX11_read 38 = .ok (.putfield 276, 3) := by decide +kernel
theorem dX11_read_41 : decode cX11_read 41 = .ok (.aload_n 0, 1) := by decide +kernel
theorem dX11_read_42 : decode cX11_read 42 = .ok (.getfield 509, 3) := by decide +kernel
theorem dX11_read_45 : decode cX11_read 45 = .ok (.istore_n 1, 1) := by decide +kernel
theorem dX11_read_46 : decode cX11_read 46 = .ok (.aload_n 0, 1) := by decide +kernel
theorem dX11_read_47 : decode cX11_read 47 = .ok (.invokevirtual 530, 3) := by decide +kernel
theorem dX11_read_50 : decode cX11_read 50 = .ok (.aload_n 0, 1) := by decide +kernel
theorem dX11_read_51 : decode cX11_read 51 = .ok (.aload_n 0, 1) := by decide +kernel
theorem dX11_read_52 : decode cX11_read 52 = .ok (.getfield 286, 3) := by decide +kernel
theorem dX11_read_55 : decode cX11_read 55 = .ok (.putfield 19, 3) := by decide +kernel
theorem dX11_read_58 : decode cX11_read 58 = .ok (.aload_n 0, 1) := by decide +kernel
theorem dX11_read_59 : decode cX11_read 59 = .ok (.aload_n 0, 1) := by decide +kernel
theorem dX11_read_60 : decode cX11_read 60 = .ok (.getfield 289, 3) := by decide +kernel
theorem dX11_read_63 : decode cX11_read 63 = .ok (.putfield 23, 3) := by decide +kernel
theorem dX11_read_66 : decode cX11_read 66 = .ok (.aload_n 0, 1) := by decide +kernel
theorem dX11_read_67 : decode cX11_read 67 = .ok (.getfield 286, 3) := by decide +kernel
theorem dX11_read_70 : decode cX11_read 70 = .ok (.ifCond .ne 77, 3) := by decide +kernel
theorem dX11_read_73 : decode cX11_read 73 = .ok (.aload_n 0, 1) := by decide +kernel
theorem dX11_read_74 : decode cX11_read 74 = .ok (.iconst 1, 1) := by decide +kernel
theorem dX11_read_75 : decode cX11_read 75 = .ok (.putfield 533, 3) := by decide +kernel
theorem dX11_read_78 : decode cX11_read 78 = .ok (.aload_n 0, 1) := by decide +kernel
theorem dX11_read_79 : decode cX11_read 79 = .ok (.aload_n 0, 1) := by decide +kernel
theorem dX11_read_80 : decode cX11_read 80 = .ok (.getfield 302, 3) := by decide +kernel
theorem dX11_read_83 : decode cX11_read 83 = .ok (.putfield 536, 3) := by decide +kernel
theorem dX11_read_86 : decode cX11_read 86 = .ok (.iconst 0, 1) := by decide +kernel
theorem dX11_read_87 : decode cX11_read 87 = .ok (.istore_n 2, 1) := by decide +kernel
theorem dX11_read_88 : decode cX11_read 88 = .ok (.iload_n 2, 1) := by decide +kernel
theorem dX11_read_89 : decode cX11_read 89 = .ok (.aload_n 0, 1) := by decide +kernel
theorem dX11_read_90 : decode cX11_read 90 = .ok (.getfield 302, 3) := by decide +kernel
theorem dX11_read_93 : decode cX11_read 93 = .ok (.if_icmp .ge 21, 3) := by decide +kernel
theorem dX11_read_96 : decode cX11_read 96 = .ok (.aload_n 0, 1) := by decide +kernel
theorem dX11_read_97 : decode cX11_read 97 = .ok (.getfield 16, 3) := by decide +kernel
theorem dX11_read_100 : decode cX11_read 100 = .ok (.iload_n 2, 1) := by decide +kernel
theorem dX11_read_101 : decode cX11_read 101 = .ok (.aload_n 0, 1) := by decide +kernel
theorem dX11_read_102 : decode cX11_read 102 = .ok (.getfield 13, 3) := by decide +kernel
theorem dX11_read_105 : decode cX11_read 105 = .ok (.iload_n 2, 1) := by decide +kernel
theorem dX11_read_106 : decode cX11_read 106 = .ok (.baload, 1) := by decide +kernel
theorem dX11_read_107 : decode cX11_read 107 = .ok (.bastore, 1) := by decide +kernel
theorem dX11_read_108 : decode cX11_read 108 = .ok (.iinc 2 1, 3) := by decide +kernel
theorem dX11_read_111 : decode cX11_read 111 = .ok (.goto (-23), 3) := by decide +kernel
theorem dX11_read_114 : decode cX11_read 114 = .ok (.iconst 0, 1) := by decide +kernel
theorem dX11_read_115 : decode cX11_read 115 = .ok (.istore_n 2, 1) := by decide +kernel
theorem dX11_read_116 : decode cX11_read 116 = .ok (.iload_n 2, 1) := by decide +kernel
theorem dX11_read_117 : decode cX11_read 117 = .ok (.aload_n 0, 1) := by decide +kernel
theorem dX11_read_118 : decode cX11_read 118 = .ok (.getfield 497, 3) := by decide +kernel
theorem dX11_read_121 : decode cX11_read 121 = .ok (.if_icmp .ge 16, 3) := by decide +kernel
theorem dX11_read_124 : decode cX11_read 124 = .ok (.aload_n 0, 1) := by decide +kernel
theorem dX11_read_125 : decode cX11_read 125 = .ok (.getfield 74, 3) := by decide +kernel
theorem dX11_read_128 : decode cX11_read 128 = .ok (.iload_n 2, 1) := by decide +kernel
theorem dX11_read_129 : decode cX11_read 129 = .ok (.iconst 1, 1) := by decide +kernel
theorem dX11_read_130 : decode cX11_read 130 = .ok (.bastore, 1) := by decide +kernel
theorem dX11_read_131 : decode cX11_read 131 = .ok (.iinc 2 1, 3) := by decide +kernel
theorem dX11_read_134 : decode cX11_read 134 = .ok (.goto (-18), 3) := by decide +kernel
theorem dX11_read_137 : decode cX11_read 137 = .ok (.aload_n 0, 1) := by decide +kernel
theorem dX11_read_138 : decode cX11_read 138 = .ok (.iconst 0, 1) := by decide +kernel
theorem dX11_read_139 : decode cX11_read 139 = .ok (.putfield 539, 3) := by decide +kernel
theorem dX11_read_142 : decode cX11_read 142 = .ok (.aload_n 0, 1) := by decide +kernel
theorem dX11_read_143 : decode cX11_read 143 = .ok (.getfield 497, 3) := by decide +kernel
theorem dX11_read_146 : decode cX11_read 146 = .ok (.ireturn, 1) := by decide +kernel
theorem dX11_read_147 : decode cX11_read 147 = .ok (.aload_n 0, 1) := by decide +kernel
theorem dX11_read_148 : decode cX11_read 148 = .ok (.iconst 0, 1) := by decide +kernel
theorem dX11_read_149 : decode cX11_read 149 = .ok (.putfield 497, 3) := by decide +kernel
theorem dX11_read_152 : decode cX11_read 152 = .ok (.aload_n 0, 1) := by decide +kernel
theorem dX11_read_153 : decode cX11_read 153 = .ok (.getfield 533, 3) := by decide +kernel
theorem dX11_read_156 : decode cX11_read 156 = .ok (.ifCond .eq 51, 3) := by decide +kernel
theorem dX11_read_159 : decode cX11_read 159 = .ok (.aload_n 0, 1) := by decide +kernel
theorem dX11_read_160 : decode cX11_read 160 = .ok (.aload_n 0, 1) := by decide +kernel
theorem dX11_read_161 : decode cX11_read 161 = .ok (.getfield 536, 3) := by decide +kernel
theorem dX11_read_164 : decode cX11_read 164 = .ok (.putfield 302, 3) := by decide +kernel
theorem dX11_read_167 : decode cX11_read 167 = .ok (.iconst 0, 1) := by decide +kernel
theorem dX11_read_168 : decode cX11_read 168 = .ok (.istore_n 2, 1) := by decide +kernel
theorem dX11_read_169 : decode cX11_read 169 = .ok (.iload_n 2, 1) := by decide +kernel
theorem dX11_read_170 : decode cX11_read 170 = .ok (.aload_n 0, 1) := by decide +kernel
theorem dX11_read_171 : decode cX11_read 171 = .ok (.getfield 302, 3) := by decide +kernel
theorem dX11_read_174 : decode cX11_read 174 = .ok (.if_icmp .ge 21, 3) := by decide +kernel
theorem dX11_read_177 : decode cX11_read 177 = .ok (.aload_n 0, 1) := by decide +kernel
theorem dX11_read_178 : decode cX11_read 178 = .ok (.getfield 13, 3) := by decide +kernel
theorem dX11_read_181 : decode cX11_read 181 = .ok (.iload_n 2, 1) := by decide +kernel
theorem dX11_read_182 : decode cX11_read 182 = .ok (.aload_n 0, 1) := by decide +kernel
theorem dX11_read_183 : decode cX11_read 183 = .ok (.getfield 16, 3) := by decide +kernel
theorem dX11_read_186 : decode cX11_read 186 = .ok (.iload_n 2, 1) := by decide +kernel
theorem dX11_read_187 : decode cX11_read 187 = .ok (.baload, 1) := by decide +kernel
theorem dX11_read_188 : decode cX11_read 188 = .ok (.bastore, 1) := by decide +kernel
theorem dX11_read_189 : decode cX11_read 189 = .ok (.iinc 2 1, 3) := by decide +kernel
theorem dX11_read_192 : decode cX11_read 192 = .ok (.goto (-23), 3) := by decide +kernel
theorem dX11_read_195 : decode cX11_read 195 = .ok (.aload_n 0, 1) := by decide +kernel
theorem dX11_read_196 : decode cX11_read 196 = .ok (.invokevirtual 530, 3) := by decide +kernel
theorem dX11_read_199 : decode cX11_read 199 = .ok (.iload_n 1, 1) := by decide +kernel
theorem dX11_read_200 : decode cX11_read 200 = .ok (.ifCond .eq 7, 3) := by decide +kernel
theorem dX11_read_203 : decode cX11_read 203 = .ok (.aload_n 0, 1) := by decide +kernel
theorem dX11_read_204 : decode cX11_read 204 = .ok (.invokevirtual 542, 3) := by decide +kernel
theorem dX11_read_207 : decode cX11_read 207 = .ok (.iconst (-1), 1) := by decide +kernel
theorem dX11_read_208 : decode cX11_read 208 = .ok (.ireturn, 1) := by decide +kernel
theorem dX11_toldKind_0 : decode cX11_toldKind 0 = .ok (.aload_n 0, 1) := by decide +kernel
theorem dX11_toldKind_1 : decode cX11_toldKind 1 = .ok (.getfield 74, 3) := by decide +kernel
theorem dX11_toldKind_4 : decode cX11_toldKind 4 = .ok (.aload_n 0, 1) := by decide +kernel
theorem dX11_toldKind_5 : decode cX11_toldKind 5 = .ok (.getfield 568, 3) := by decide +kernel
theorem dX11_toldKind_8 : decode cX11_toldKind 8 = .ok (.baload, 1) := by decide +kernel
theorem dX11_toldKind_9 : decode cX11_toldKind 9 = .ok (.ifCond .eq 7, 3) := by decide +kernel
theorem dX11_toldKind_12 : decode cX11_toldKind 12 = .ok (.iload_n 1, 1) := by decide +kernel
theorem dX11_toldKind_13 : decode cX11_toldKind 13 = .ok (.goto 4, 3) := by decide +kernel
theorem dX11_toldKind_16 : decode cX11_toldKind 16 = .ok (.iconst 2, 1) := by decide +kernel
theorem dX11_toldKind_17 : decode cX11_toldKind 17 = .ok (.ireturn, 1) := by decide +kernel
theorem k1369 : Cond.fieldLink "BlameCourtModel" 16 "BlameCourtModel" "forme\x72" "[B" ∈ gtb := gtm (in_tables_1_5 (List.mem_of_getElem? (i := 223) rfl)) rfl
theorem k1370 : Cond.fieldLink "BlameCourtModel" 536 "BlameCourtModel" "formerLength" "I" ∈ gtb := gtm (in_tables_1_5 (List.mem_of_getElem? (i := 224) rfl)) rfl
theorem k1371 : Cond.fieldLink "BlameCourtModel" 533 "BlameCourtModel" "hasProgram" "Z" ∈ gtb := gtm (in_tables_1_5 (List.mem_of_getElem? (i := 225) rfl)) rfl
theorem k1380 : Cond.fieldLink "BlameCourtModel" 19 "BlameCourtModel" "fault" "I" ∈ gtb := gtm (in_tables_1_5 (List.mem_of_getElem? (i := 234) rfl)) rfl
theorem k1381 : Cond.fieldLink "BlameCourtModel" 23 "BlameCourtModel" "faultAt" "I" ∈ gtb := gtm (in_tables_1_5 (List.mem_of_getElem? (i := 235) rfl)) rfl
theorem k1455 : Cond.fieldLink "BlameCourtModel" 194 "BlameCourtModel" "localKind" "[I" ∈ gtb := gtm (in_tables_1_6 (List.mem_of_getElem? (i := 69) rfl)) rfl
theorem k1485 : Cond.fieldLink "BlameCourtModel" 539 "BlameCourtModel" "hasRun" "Z" ∈ gtb := gtm (in_tables_1_6 (List.mem_of_getElem? (i := 99) rfl)) rfl
theorem k1772 : Cond.methodLink "BlameCourtModel" 530 yX11_reads ∈ gtb := gtm (in_tables_1_7 (List.mem_of_getElem? (i := 146) rfl)) rfl
theorem k1968 : Cond.methodLink "BlameCourtModel" 542 yX11_judges ∈ gtb := gtm (in_tables_1_8 (List.mem_of_getElem? (i := 102) rfl)) rfl
theorem k1972 : Cond.methodLink "BlameCourtModel" 590 yX11_compiles ∈ gtb := gtm (in_tables_1_8 (List.mem_of_getElem? (i := 106) rfl)) rfl
theorem k2008 : Cond.methodLink "BlameCourtModel" 593 yX11_judgeOne ∈ gtb := gtm (in_tables_1_8 (List.mem_of_getElem? (i := 142) rfl)) rfl
theorem k2012 : Cond.methodLink "BlameCourtModel" 596 yX11_push ∈ gtb := gtm (in_tables_1_8 (List.mem_of_getElem? (i := 146) rfl)) rfl
theorem k2016 : Cond.methodLink "BlameCourtModel" 599 yX11_functionOf ∈ gtb := gtm (in_tables_1_8 (List.mem_of_getElem? (i := 150) rfl)) rfl
theorem k2020 : Cond.methodLink "BlameCourtModel" 602 yX11_must ∈ gtb := gtm (in_tables_1_8 (List.mem_of_getElem? (i := 154) rfl)) rfl
theorem k2024 : Cond.methodLink "BlameCourtModel" 580 yX11_fits ∈ gtb := gtm (in_tables_1_8 (List.mem_of_getElem? (i := 158) rfl)) rfl
theorem k2028 : Cond.methodLink "BlameCourtModel" 584 yX11_guards ∈ gtb := gtm (in_tables_1_8 (List.mem_of_getElem? (i := 162) rfl)) rfl
theorem k2032 : Cond.methodLink "BlameCourtModel" 606 yX11_judgeCallee ∈ gtb := gtm (in_tables_1_8 (List.mem_of_getElem? (i := 166) rfl)) rfl
theorem k2036 : Cond.methodLink "BlameCourtModel" 621 yX11_anyFunction ∈ gtb := gtm (in_tables_1_8 (List.mem_of_getElem? (i := 170) rfl)) rfl
theorem k2040 : Cond.methodLink "BlameCourtModel" 609 yX11_judgeRow ∈ gtb := gtm (in_tables_1_8 (List.mem_of_getElem? (i := 174) rfl)) rfl
theorem k2044 : Cond.methodLink "BlameCourtModel" 612 yX11_paramOf ∈ gtb := gtm (in_tables_1_8 (List.mem_of_getElem? (i := 178) rfl)) rfl
theorem k2048 : Cond.methodLink "BlameCourtModel" 615 yX11_elementOf ∈ gtb := gtm (in_tables_1_8 (List.mem_of_getElem? (i := 182) rfl)) rfl
theorem k2052 : Cond.methodLink "BlameCourtModel" 618 yX11_judgeMore ∈ gtb := gtm (in_tables_1_8 (List.mem_of_getElem? (i := 186) rfl)) rfl
theorem k2056 : Cond.methodLink "BlameCourtModel" 624 yX11_toldKind ∈ gtb := gtm (in_tables_1_8 (List.mem_of_getElem? (i := 190) rfl)) rfl
theorem k2060 : Cond.methodLink "BlameCourtModel" 627 yX11_judgeJoin ∈ gtb := gtm (in_tables_1_8 (List.mem_of_getElem? (i := 194) rfl)) rfl
theorem k2064 : Cond.methodLink "BlameCourtModel" 630 yX11_judgeElements ∈ gtb := gtm (in_tables_1_8 (List.mem_of_getElem? (i := 198) rfl)) rfl
theorem k2068 : Cond.methodLink "BlameCourtModel" 633 yX11_resultOf ∈ gtb := gtm (in_tables_1_8 (List.mem_of_getElem? (i := 202) rfl)) rfl
theorem k2035 : Cond.code yX11_judgeCallee cX11_judgeCallee 5 none ∈ gtb := gtm (in_tables_1_8 (List.mem_of_getElem? (i := 169) rfl)) rfl
theorem ka_X11_judgeCallee : KA yX11_judgeCallee cX11_judgeCallee 5 none 2 := ⟨k2035, k197, by decide, by decide, by decide +kernel⟩
theorem k2034 : Cond.instanceMethod yX11_judgeCallee ∈ gtb := gtm (in_tables_1_8 (List.mem_of_getElem? (i := 168) rfl)) rfl
theorem k155 : Cond.selects "BlameCourtModel" yX11_judgeCallee yX11_judgeCallee ∈ gtb := gtm (in_lw_privs_10 (q := (yX11_judgeCallee, 129)) (List.mem_of_getElem? (i := 11) rfl)) rfl
theorem kv_X11_judgeCallee : KV yX11_judgeCallee := ⟨k2034, k155⟩
theorem k2067 : Cond.code yX11_judgeElements cX11_judgeElements 5 none ∈ gtb := gtm (in_tables_1_8 (List.mem_of_getElem? (i := 201) rfl)) rfl
theorem ka_X11_judgeElements : KA yX11_judgeElements cX11_judgeElements 5 none 1 := ⟨k2067, k197, by decide, by decide, by decide +kernel⟩
theorem k2066 : Cond.instanceMethod yX11_judgeElements ∈ gtb := gtm (in_tables_1_8 (List.mem_of_getElem? (i := 200) rfl)) rfl
theorem k163 : Cond.selects "BlameCourtModel" yX11_judgeElements yX11_judgeElements ∈ gtb := gtm (in_lw_privs_11 (q := (yX11_judgeElements, 129)) (List.mem_of_getElem? (i := 3) rfl)) rfl
theorem kv_X11_judgeElements : KV yX11_judgeElements := ⟨k2066, k163⟩
theorem k2063 : Cond.code yX11_judgeJoin cX11_judgeJoin 4 none ∈ gtb := gtm (in_tables_1_8 (List.mem_of_getElem? (i := 197) rfl)) rfl
theorem ka_X11_judgeJoin : KA yX11_judgeJoin cX11_judgeJoin 4 none 1 := ⟨k2063, k197, by decide, by decide, by decide +kernel⟩
theorem k2062 : Cond.instanceMethod yX11_judgeJoin ∈ gtb := gtm (in_tables_1_8 (List.mem_of_getElem? (i := 196) rfl)) rfl
theorem k162 : Cond.selects "BlameCourtModel" yX11_judgeJoin yX11_judgeJoin ∈ gtb := gtm (in_lw_privs_11 (q := (yX11_judgeJoin, 129)) (List.mem_of_getElem? (i := 2) rfl)) rfl
theorem kv_X11_judgeJoin : KV yX11_judgeJoin := ⟨k2062, k162⟩
theorem k2055 : Cond.code yX11_judgeMore cX11_judgeMore 3 none ∈ gtb := gtm (in_tables_1_8 (List.mem_of_getElem? (i := 189) rfl)) rfl
theorem ka_X11_judgeMore : KA yX11_judgeMore cX11_judgeMore 3 none 2 := ⟨k2055, k197, by decide, by decide, by decide +kernel⟩
theorem k2054 : Cond.instanceMethod yX11_judgeMore ∈ gtb := gtm (in_tables_1_8 (List.mem_of_getElem? (i := 188) rfl)) rfl
theorem k160 : Cond.selects "BlameCourtModel" yX11_judgeMore yX11_judgeMore ∈ gtb := gtm (in_lw_privs_11 (q := (yX11_judgeMore, 129)) (List.mem_of_getElem? (i := 0) rfl)) rfl
theorem kv_X11_judgeMore : KV yX11_judgeMore := ⟨k2054, k160⟩
theorem k2011 : Cond.code yX11_judgeOne cX11_judgeOne 6 none ∈ gtb := gtm (in_tables_1_8 (List.mem_of_getElem? (i := 145) rfl)) rfl
theorem ka_X11_judgeOne : KA yX11_judgeOne cX11_judgeOne 6 none 2 := ⟨k2011, k197, by decide, by decide, by decide +kernel⟩
theorem k2010 : Cond.instanceMethod yX11_judgeOne ∈ gtb := gtm (in_tables_1_8 (List.mem_of_getElem? (i := 144) rfl)) rfl
theorem k149 : Cond.selects "BlameCourtModel" yX11_judgeOne yX11_judgeOne ∈ gtb := gtm (in_lw_privs_10 (q := (yX11_judgeOne, 129)) (List.mem_of_getElem? (i := 5) rfl)) rfl
theorem kv_X11_judgeOne : KV yX11_judgeOne := ⟨k2010, k149⟩
theorem k2043 : Cond.code yX11_judgeRow cX11_judgeRow 5 none ∈ gtb := gtm (in_tables_1_8 (List.mem_of_getElem? (i := 177) rfl)) rfl
theorem ka_X11_judgeRow : KA yX11_judgeRow cX11_judgeRow 5 none 2 := ⟨k2043, k197, by decide, by decide, by decide +kernel⟩
theorem k2042 : Cond.instanceMethod yX11_judgeRow ∈ gtb := gtm (in_tables_1_8 (List.mem_of_getElem? (i := 176) rfl)) rfl
theorem k157 : Cond.selects "BlameCourtModel" yX11_judgeRow yX11_judgeRow ∈ gtb := gtm (in_lw_privs_10 (q := (yX11_judgeRow, 129)) (List.mem_of_getElem? (i := 13) rfl)) rfl
theorem kv_X11_judgeRow : KV yX11_judgeRow := ⟨k2042, k157⟩
theorem k1971 : Cond.code yX11_judges cX11_judges 4 none ∈ gtb := gtm (in_tables_1_8 (List.mem_of_getElem? (i := 105) rfl)) rfl
theorem ka_X11_judges : KA yX11_judges cX11_judges 4 none 0 := ⟨k1971, k197, by decide, by decide, by decide +kernel⟩
theorem k1970 : Cond.instanceMethod yX11_judges ∈ gtb := gtm (in_tables_1_8 (List.mem_of_getElem? (i := 104) rfl)) rfl
theorem k139 : Cond.selects "BlameCourtModel" yX11_judges yX11_judges ∈ gtb := gtm (in_lw_privs_9 (q := (yX11_judges, 129)) (List.mem_of_getElem? (i := 11) rfl)) rfl
theorem kv_X11_judges : KV yX11_judges := ⟨k1970, k139⟩
theorem k2023 : Cond.code yX11_must cX11_must 6 none ∈ gtb := gtm (in_tables_1_8 (List.mem_of_getElem? (i := 157) rfl)) rfl
theorem ka_X11_must : KA yX11_must cX11_must 6 none 4 := ⟨k2023, k197, by decide, by decide, by decide +kernel⟩
theorem k2022 : Cond.instanceMethod yX11_must ∈ gtb := gtm (in_tables_1_8 (List.mem_of_getElem? (i := 156) rfl)) rfl
theorem k152 : Cond.selects "BlameCourtModel" yX11_must yX11_must ∈ gtb := gtm (in_lw_privs_10 (q := (yX11_must, 129)) (List.mem_of_getElem? (i := 8) rfl)) rfl
theorem kv_X11_must : KV yX11_must := ⟨k2022, k152⟩
theorem k1771 : Cond.code yX11_read cX11_read 3 (some .int) ∈ gtb := gtm (in_tables_1_7 (List.mem_of_getElem? (i := 145) rfl)) rfl
theorem ka_X11_read : KA yX11_read cX11_read 3 (some .int) 0 := ⟨k1771, k197, by decide, by decide, by decide +kernel⟩
theorem k1769 : Cond.instanceMethod yX11_read ∈ gtb := gtm (in_tables_1_7 (List.mem_of_getElem? (i := 143) rfl)) rfl
theorem k1770 : Cond.selects "BlameCourtModel" yX11_read yX11_read ∈ gtb := gtm (in_tables_1_7 (List.mem_of_getElem? (i := 144) rfl)) rfl
theorem kv_X11_read : KV yX11_read := ⟨k1769, k1770⟩
theorem k2059 : Cond.code yX11_toldKind cX11_toldKind 2 (some .int) ∈ gtb := gtm (in_tables_1_8 (List.mem_of_getElem? (i := 193) rfl)) rfl
theorem ka_X11_toldKind : KA yX11_toldKind cX11_toldKind 2 (some .int) 1 := ⟨k2059, k197, by decide, by decide, by decide +kernel⟩
theorem k2058 : Cond.instanceMethod yX11_toldKind ∈ gtb := gtm (in_tables_1_8 (List.mem_of_getElem? (i := 192) rfl)) rfl
theorem k161 : Cond.selects "BlameCourtModel" yX11_toldKind yX11_toldKind ∈ gtb := gtm (in_lw_privs_11 (q := (yX11_toldKind, 129)) (List.mem_of_getElem? (i := 1) rfl)) rfl
theorem kv_X11_toldKind : KV yX11_toldKind := ⟨k2058, k161⟩
abbrev R_must : Room := { frames := 10, cells := 0, slots := 0, locals := 150 }
noncomputable def f_must (p1 : Int32) (p2 : Int32) (p3 : Int32) (p4 : Int32) (X : St) : Option (Int32 × St) :=
  letV (X.1 0 30) fun x1 =>
  letV (x1 - (1 : Int32)) fun x2 =>
  chk (inR x2 3200) (letV (X.1 58 (ix x2)) fun x3 =>
  bnd (f_fits x3 p2 X) fun x4 X5 =>
  if x4.toInt = 0 then
    bnd (f_fails (9 : Int32) p3 X5) fun _ X10 =>
    some (0, X10)
  else
    bnd (f_guards p1 x3 p2 p3 p4 X5) fun _ X6 =>
    letV (X6.1 0 30) fun x7 =>
    letV (x7 - (1 : Int32)) fun x8 =>
    chk (inR x8 3200) (letV (wI X6 58 (ix x8) p2) fun X9 =>
    some (0, X9)))
set_option maxHeartbeats 4000000 in
set_option maxRecDepth 100000 in
theorem c_must (Γ : Gx) (p1 : Int32) (p2 : Int32) (p3 : Int32) (p4 : Int32) (X : St) : TMV YR Γ yX11_must cX11_must 6 "BlameCourtModel" none R_must [.ref (Γ.2.2.2.1 0), .int p1, .int p2, .int p3, .int p4] X (f_must p1 p2 p3 p4 X) := by
  refine TMV.of (by decide) (Nat.le_of_ble_eq_true rfl) rfl ?_
  show T YR Γ cX11_must 6 "BlameCourtModel" none R_must _ qV 0 [(0, .ref (Γ.2.2.2.1 0)), (1, .int p1), (2, .int p2), (3, .int p3), (4, .int p4)] [] X (f_must p1 p2 p3 p4 X)
  unfold f_must
  refine T.aload_n dX11_must_0 rfl 0 rfl ?_
  refine cR105 k1454 dX11_must_1 ?_
  refine T.aload_n dX11_must_4 rfl 0 rfl ?_
  refine gR30 k1453 dX11_must_5 (fun x1 => ?_)
  refine T.iconst (w := 1) dX11_must_8 (by decide) ?_
  refine T.isub dX11_must_9 (fun x2 => ?_)
  refine alR58 dX11_must_10 (fun x3 => ?_)
  refine T.istore (lv1 := [(5, .int x3), (0, .ref (Γ.2.2.2.1 0)), (1, .int p1), (2, .int p2), (3, .int p3), (4, .int p4)]) dX11_must_11 (by decide) rfl ?_
  refine T.aload_n dX11_must_13 rfl 1 rfl ?_
  refine T.iload dX11_must_14 0 rfl ?_
  refine T.iload_n dX11_must_16 rfl 3 rfl ?_
  refine T.callV_i 0 (As1 := [.int x3, .int p2]) (rest := []) (c_fits Γ x3 p2 X) ka_X11_fits kv_X11_fits oR rfl k2024 rfl rfl rfl rfl ⟨Nat.le_of_ble_eq_true rfl, Nat.le_of_ble_eq_true rfl⟩ (Nat.le_of_ble_eq_true rfl) dX11_must_17 (fun x4 X5 => ?_)
  refine T.if_ne (pc1 := 31) dX11_must_20 (by decide) ?_ ?_
  · refine T.aload_n dX11_must_31 rfl 1 rfl ?_
    refine T.iload_n dX11_must_32 rfl 2 rfl ?_
    refine T.iload dX11_must_33 0 rfl ?_
    refine T.iload_n dX11_must_35 rfl 3 rfl ?_
    refine T.iload_n dX11_must_36 rfl 4 rfl ?_
    refine T.iload dX11_must_37 5 rfl ?_
    refine T.callV_v 0 (As1 := [.int p1, .int x3, .int p2, .int p3, .int p4]) (rest := []) (c_guards Γ p1 x3 p2 p3 p4 X5) ka_X11_guards kv_X11_guards oR rfl k2028 rfl rfl rfl rfl ⟨Nat.le_of_ble_eq_true rfl, Nat.le_of_ble_eq_true rfl⟩ (Nat.le_of_ble_eq_true rfl) dX11_must_39 (fun _ X6 => ?_)
    refine T.aload_n dX11_must_42 rfl 1 rfl ?_
    refine cR105 k1454 dX11_must_43 ?_
    refine T.aload_n dX11_must_46 rfl 1 rfl ?_
    refine gR30 k1453 dX11_must_47 (fun x7 => ?_)
    refine T.iconst (w := 1) dX11_must_50 (by decide) ?_
    refine T.isub dX11_must_51 (fun x8 => ?_)
    refine T.iload_n dX11_must_52 rfl 3 rfl ?_
    refine asR58 dX11_must_53 (fun X9 => ?_)
    exact T.ret_v rfl dX11_must_54
  · refine T.aload_n dX11_must_23 rfl 1 rfl ?_
    refine T.bipush (w := 9) dX11_must_24 (by decide) ?_
    refine T.iload_n dX11_must_26 rfl 4 rfl ?_
    refine T.callV_v 0 (As1 := [.int 9, .int p3]) (rest := []) (c_fails Γ (9 : Int32) p3 X5) ka_X11_fails kv_X11_fails oR rfl k1812 rfl rfl rfl rfl ⟨Nat.le_of_ble_eq_true rfl, Nat.le_of_ble_eq_true rfl⟩ (Nat.le_of_ble_eq_true rfl) dX11_must_27 (fun _ X10 => ?_)
    exact T.ret_v rfl dX11_must_30
abbrev R_judgeCallee : Room := { frames := 14, cells := 0, slots := 0, locals := 210 }
noncomputable def f_judgeCallee (p1 : Int32) (p2 : Int32) (X : St) : Option (Int32 × St) :=
  letV (X.1 0 30) fun x1 =>
  letV (x1 - (1 : Int32)) fun x2 =>
  chk (inR x2 3200) (letV (X.1 58 (ix x2)) fun x3 =>
  if x3.toInt = 2 then
    chk (inR p2 3100) (letV (X.1 27 (ix p2)) fun x12 =>
    bnd (f_anyFunction x12 X) fun x13 X14 =>
    chk (inR p2 3100) (letV (X14.1 22 (ix p2)) fun x15 =>
    letV (X14.1 0 29) fun x16 =>
    bnd (f_guards p1 x3 x13 x15 x16 X14) fun _ X17 =>
    letV (X17.1 0 30) fun x18 =>
    letV (x18 - (1 : Int32)) fun x19 =>
    chk (inR x19 3200) (letV (wI X17 58 (ix x19) x13) fun X20 =>
    some (0, X20))))
  else
    chk (inR x3 6000) (letV (X.1 4 (ix x3)) fun x4 =>
    if x4.toInt = 5 then
      chk (inR x3 6000) (letV (X.1 5 (ix x3)) fun x5 =>
      letV (x5 - (1 : Int32)) fun x6 =>
      chk (inR p2 3100) (letV (X.1 27 (ix p2)) fun x7 =>
      if x6.toInt = x7.toInt then
        some (0, X)
      else
        chk (inR p2 3100) (letV (X.1 22 (ix p2)) fun x8 =>
        bnd (f_fails (8 : Int32) x8 X) fun _ X9 =>
        some (0, X9))))
    else
      chk (inR p2 3100) (letV (X.1 22 (ix p2)) fun x10 =>
      bnd (f_fails (9 : Int32) x10 X) fun _ X11 =>
      some (0, X11))))
set_option maxHeartbeats 4000000 in
set_option maxRecDepth 100000 in
theorem c_judgeCallee (Γ : Gx) (p1 : Int32) (p2 : Int32) (X : St) : TMV YR Γ yX11_judgeCallee cX11_judgeCallee 5 "BlameCourtModel" none R_judgeCallee [.ref (Γ.2.2.2.1 0), .int p1, .int p2] X (f_judgeCallee p1 p2 X) := by
  refine TMV.of (by decide) (Nat.le_of_ble_eq_true rfl) rfl ?_
  show T YR Γ cX11_judgeCallee 5 "BlameCourtModel" none R_judgeCallee _ qV 0 [(0, .ref (Γ.2.2.2.1 0)), (1, .int p1), (2, .int p2)] [] X (f_judgeCallee p1 p2 X)
  unfold f_judgeCallee
  refine T.aload_n dX11_judgeCallee_0 rfl 0 rfl ?_
  refine cR105 k1454 dX11_judgeCallee_1 ?_
  refine T.aload_n dX11_judgeCallee_4 rfl 0 rfl ?_
  refine gR30 k1453 dX11_judgeCallee_5 (fun x1 => ?_)
  refine T.iconst (w := 1) dX11_judgeCallee_8 (by decide) ?_
  refine T.isub dX11_judgeCallee_9 (fun x2 => ?_)
  refine alR58 dX11_judgeCallee_10 (fun x3 => ?_)
  refine T.istore_n (lv1 := [(3, .int x3), (0, .ref (Γ.2.2.2.1 0)), (1, .int p1), (2, .int p2)]) dX11_judgeCallee_11 rfl (by decide) rfl ?_
  refine T.iload_n dX11_judgeCallee_12 rfl 0 rfl ?_
  refine T.iconst (w := 2) dX11_judgeCallee_13 (by decide) ?_
  refine T.icmp_ne (pc1 := 63) dX11_judgeCallee_14 (by decide) rfl ?_ ?_
  · refine T.aload_n dX11_judgeCallee_63 rfl 1 rfl ?_
    refine cR51 k1384 dX11_judgeCallee_64 ?_
    refine T.iload_n dX11_judgeCallee_67 rfl 0 rfl ?_
    refine alR4 dX11_judgeCallee_68 (fun x4 => ?_)
    refine T.iconst (w := 5) dX11_judgeCallee_69 (by decide) ?_
    refine T.icmp_eq (pc1 := 88) dX11_judgeCallee_70 (by decide) rfl ?_ ?_
    · refine T.aload_n dX11_judgeCallee_88 rfl 1 rfl ?_
      refine cR52 k1385 dX11_judgeCallee_89 ?_
      refine T.iload_n dX11_judgeCallee_92 rfl 0 rfl ?_
      refine alR5 dX11_judgeCallee_93 (fun x5 => ?_)
      refine T.iconst (w := 1) dX11_judgeCallee_94 (by decide) ?_
      refine T.isub dX11_judgeCallee_95 (fun x6 => ?_)
      refine T.aload_n dX11_judgeCallee_96 rfl 1 rfl ?_
      refine cR74 k1412 dX11_judgeCallee_97 ?_
      refine T.iload_n dX11_judgeCallee_100 rfl 3 rfl ?_
      refine alR27 dX11_judgeCallee_101 (fun x7 => ?_)
      refine T.icmp_eq (pc1 := 117) dX11_judgeCallee_102 (by decide) rfl ?_ ?_
      · exact T.ret_v rfl dX11_judgeCallee_117
      · refine T.aload_n dX11_judgeCallee_105 rfl 1 rfl ?_
        refine T.bipush (w := 8) dX11_judgeCallee_106 (by decide) ?_
        refine T.aload_n dX11_judgeCallee_108 rfl 1 rfl ?_
        refine cR69 k1407 dX11_judgeCallee_109 ?_
        refine T.iload_n dX11_judgeCallee_112 rfl 3 rfl ?_
        refine alR22 dX11_judgeCallee_113 (fun x8 => ?_)
        refine T.callV_v 0 (As1 := [.int 8, .int x8]) (rest := []) (c_fails Γ (8 : Int32) x8 X) ka_X11_fails kv_X11_fails oR rfl k1812 rfl rfl rfl rfl ⟨Nat.le_of_ble_eq_true rfl, Nat.le_of_ble_eq_true rfl⟩ (Nat.le_of_ble_eq_true rfl) dX11_judgeCallee_114 (fun _ X9 => ?_)
        exact T.ret_v rfl dX11_judgeCallee_117
    · refine T.aload_n dX11_judgeCallee_73 rfl 1 rfl ?_
      refine T.bipush (w := 9) dX11_judgeCallee_74 (by decide) ?_
      refine T.aload_n dX11_judgeCallee_76 rfl 1 rfl ?_
      refine cR69 k1407 dX11_judgeCallee_77 ?_
      refine T.iload_n dX11_judgeCallee_80 rfl 3 rfl ?_
      refine alR22 dX11_judgeCallee_81 (fun x10 => ?_)
      refine T.callV_v 0 (As1 := [.int 9, .int x10]) (rest := []) (c_fails Γ (9 : Int32) x10 X) ka_X11_fails kv_X11_fails oR rfl k1812 rfl rfl rfl rfl ⟨Nat.le_of_ble_eq_true rfl, Nat.le_of_ble_eq_true rfl⟩ (Nat.le_of_ble_eq_true rfl) dX11_judgeCallee_82 (fun _ X11 => ?_)
      refine T.goto (pc1 := 117) dX11_judgeCallee_85 (by decide) ?_
      exact T.ret_v rfl dX11_judgeCallee_117
  · refine T.aload_n dX11_judgeCallee_17 rfl 1 rfl ?_
    refine T.aload_n dX11_judgeCallee_18 rfl 1 rfl ?_
    refine cR74 k1412 dX11_judgeCallee_19 ?_
    refine T.iload_n dX11_judgeCallee_22 rfl 3 rfl ?_
    refine alR27 dX11_judgeCallee_23 (fun x12 => ?_)
    refine T.callV_i 0 (As1 := [.int x12]) (rest := []) (c_anyFunction Γ x12 X) ka_X11_anyFunction kv_X11_anyFunction oR rfl k2036 rfl rfl rfl rfl ⟨Nat.le_of_ble_eq_true rfl, Nat.le_of_ble_eq_true rfl⟩ (Nat.le_of_ble_eq_true rfl) dX11_judgeCallee_24 (fun x13 X14 => ?_)
    refine T.istore (lv1 := [(4, .int x13), (3, .int x3), (0, .ref (Γ.2.2.2.1 0)), (1, .int p1), (2, .int p2)]) dX11_judgeCallee_27 (by decide) rfl ?_
    refine T.aload_n dX11_judgeCallee_29 rfl 2 rfl ?_
    refine T.iload_n dX11_judgeCallee_30 rfl 3 rfl ?_
    refine T.iload_n dX11_judgeCallee_31 rfl 1 rfl ?_
    refine T.iload dX11_judgeCallee_32 0 rfl ?_
    refine T.aload_n dX11_judgeCallee_34 rfl 2 rfl ?_
    refine cR69 k1407 dX11_judgeCallee_35 ?_
    refine T.iload_n dX11_judgeCallee_38 rfl 4 rfl ?_
    refine alR22 dX11_judgeCallee_39 (fun x15 => ?_)
    refine T.aload_n dX11_judgeCallee_40 rfl 2 rfl ?_
    refine gR29 k1452 dX11_judgeCallee_41 (fun x16 => ?_)
    refine T.callV_v 0 (As1 := [.int p1, .int x3, .int x13, .int x15, .int x16]) (rest := []) (c_guards Γ p1 x3 x13 x15 x16 X14) ka_X11_guards kv_X11_guards oR rfl k2028 rfl rfl rfl rfl ⟨Nat.le_of_ble_eq_true rfl, Nat.le_of_ble_eq_true rfl⟩ (Nat.le_of_ble_eq_true rfl) dX11_judgeCallee_44 (fun _ X17 => ?_)
    refine T.aload_n dX11_judgeCallee_47 rfl 2 rfl ?_
    refine cR105 k1454 dX11_judgeCallee_48 ?_
    refine T.aload_n dX11_judgeCallee_51 rfl 2 rfl ?_
    refine gR30 k1453 dX11_judgeCallee_52 (fun x18 => ?_)
    refine T.iconst (w := 1) dX11_judgeCallee_55 (by decide) ?_
    refine T.isub dX11_judgeCallee_56 (fun x19 => ?_)
    refine T.iload dX11_judgeCallee_57 0 rfl ?_
    refine asR58 dX11_judgeCallee_59 (fun X20 => ?_)
    refine T.goto (pc1 := 117) dX11_judgeCallee_60 (by decide) ?_
    exact T.ret_v rfl dX11_judgeCallee_117
abbrev R_judgeRow : Room := { frames := 14, cells := 0, slots := 0, locals := 210 }
noncomputable def f_judgeRow (p1 : Int32) (p2 : Int32) (X : St) : Option (Int32 × St) :=
  letV (X.1 0 30) fun x1 =>
  letV (x1 - (1 : Int32)) fun x2 =>
  chk (inR x2 3200) (letV (X.1 58 (ix x2)) fun x3 =>
  if x3.toInt = 2 then
    bnd (f_rowOf (2 : Int32) X) fun x6 X7 =>
    letV (X7.1 0 29) fun x8 =>
    bnd (f_guards p1 x3 x6 p2 x8 X7) fun _ X9 =>
    letV (X9.1 0 30) fun x10 =>
    letV (x10 - (1 : Int32)) fun x11 =>
    chk (inR x11 3200) (letV (wI X9 58 (ix x11) x6) fun X12 =>
    some (0, X12))
  else
    chk (inR x3 6000) (letV (X.1 4 (ix x3)) fun x4 =>
    if x4.toInt = 4 then
      some (0, X)
    else
      bnd (f_fails (9 : Int32) p2 X) fun _ X5 =>
      some (0, X5)))
set_option maxHeartbeats 4000000 in
set_option maxRecDepth 100000 in
theorem c_judgeRow (Γ : Gx) (p1 : Int32) (p2 : Int32) (X : St) : TMV YR Γ yX11_judgeRow cX11_judgeRow 5 "BlameCourtModel" none R_judgeRow [.ref (Γ.2.2.2.1 0), .int p1, .int p2] X (f_judgeRow p1 p2 X) := by
  refine TMV.of (by decide) (Nat.le_of_ble_eq_true rfl) rfl ?_
  show T YR Γ cX11_judgeRow 5 "BlameCourtModel" none R_judgeRow _ qV 0 [(0, .ref (Γ.2.2.2.1 0)), (1, .int p1), (2, .int p2)] [] X (f_judgeRow p1 p2 X)
  unfold f_judgeRow
  refine T.aload_n dX11_judgeRow_0 rfl 0 rfl ?_
  refine cR105 k1454 dX11_judgeRow_1 ?_
  refine T.aload_n dX11_judgeRow_4 rfl 0 rfl ?_
  refine gR30 k1453 dX11_judgeRow_5 (fun x1 => ?_)
  refine T.iconst (w := 1) dX11_judgeRow_8 (by decide) ?_
  refine T.isub dX11_judgeRow_9 (fun x2 => ?_)
  refine alR58 dX11_judgeRow_10 (fun x3 => ?_)
  refine T.istore_n (lv1 := [(3, .int x3), (0, .ref (Γ.2.2.2.1 0)), (1, .int p1), (2, .int p2)]) dX11_judgeRow_11 rfl (by decide) rfl ?_
  refine T.iload_n dX11_judgeRow_12 rfl 0 rfl ?_
  refine T.iconst (w := 2) dX11_judgeRow_13 (by decide) ?_
  refine T.icmp_ne (pc1 := 53) dX11_judgeRow_14 (by decide) rfl ?_ ?_
  · refine T.aload_n dX11_judgeRow_53 rfl 1 rfl ?_
    refine cR51 k1384 dX11_judgeRow_54 ?_
    refine T.iload_n dX11_judgeRow_57 rfl 0 rfl ?_
    refine alR4 dX11_judgeRow_58 (fun x4 => ?_)
    refine T.iconst (w := 4) dX11_judgeRow_59 (by decide) ?_
    refine T.icmp_eq (pc1 := 70) dX11_judgeRow_60 (by decide) rfl ?_ ?_
    · exact T.ret_v rfl dX11_judgeRow_70
    · refine T.aload_n dX11_judgeRow_63 rfl 1 rfl ?_
      refine T.bipush (w := 9) dX11_judgeRow_64 (by decide) ?_
      refine T.iload_n dX11_judgeRow_66 rfl 3 rfl ?_
      refine T.callV_v 0 (As1 := [.int 9, .int p2]) (rest := []) (c_fails Γ (9 : Int32) p2 X) ka_X11_fails kv_X11_fails oR rfl k1812 rfl rfl rfl rfl ⟨Nat.le_of_ble_eq_true rfl, Nat.le_of_ble_eq_true rfl⟩ (Nat.le_of_ble_eq_true rfl) dX11_judgeRow_67 (fun _ X5 => ?_)
      exact T.ret_v rfl dX11_judgeRow_70
  · refine T.aload_n dX11_judgeRow_17 rfl 1 rfl ?_
    refine T.iconst (w := 2) dX11_judgeRow_18 (by decide) ?_
    refine T.callV_i 0 (As1 := [.int 2]) (rest := []) (c_rowOf Γ (2 : Int32) X) ka_X11_rowOf kv_X11_rowOf oR rfl k1852 rfl rfl rfl rfl ⟨Nat.le_of_ble_eq_true rfl, Nat.le_of_ble_eq_true rfl⟩ (Nat.le_of_ble_eq_true rfl) dX11_judgeRow_19 (fun x6 X7 => ?_)
    refine T.istore (lv1 := [(4, .int x6), (3, .int x3), (0, .ref (Γ.2.2.2.1 0)), (1, .int p1), (2, .int p2)]) dX11_judgeRow_22 (by decide) rfl ?_
    refine T.aload_n dX11_judgeRow_24 rfl 2 rfl ?_
    refine T.iload_n dX11_judgeRow_25 rfl 3 rfl ?_
    refine T.iload_n dX11_judgeRow_26 rfl 1 rfl ?_
    refine T.iload dX11_judgeRow_27 0 rfl ?_
    refine T.iload_n dX11_judgeRow_29 rfl 4 rfl ?_
    refine T.aload_n dX11_judgeRow_30 rfl 2 rfl ?_
    refine gR29 k1452 dX11_judgeRow_31 (fun x8 => ?_)
    refine T.callV_v 0 (As1 := [.int p1, .int x3, .int x6, .int p2, .int x8]) (rest := []) (c_guards Γ p1 x3 x6 p2 x8 X7) ka_X11_guards kv_X11_guards oR rfl k2028 rfl rfl rfl rfl ⟨Nat.le_of_ble_eq_true rfl, Nat.le_of_ble_eq_true rfl⟩ (Nat.le_of_ble_eq_true rfl) dX11_judgeRow_34 (fun _ X9 => ?_)
    refine T.aload_n dX11_judgeRow_37 rfl 2 rfl ?_
    refine cR105 k1454 dX11_judgeRow_38 ?_
    refine T.aload_n dX11_judgeRow_41 rfl 2 rfl ?_
    refine gR30 k1453 dX11_judgeRow_42 (fun x10 => ?_)
    refine T.iconst (w := 1) dX11_judgeRow_45 (by decide) ?_
    refine T.isub dX11_judgeRow_46 (fun x11 => ?_)
    refine T.iload dX11_judgeRow_47 0 rfl ?_
    refine asR58 dX11_judgeRow_49 (fun X12 => ?_)
    refine T.goto (pc1 := 70) dX11_judgeRow_50 (by decide) ?_
    exact T.ret_v rfl dX11_judgeRow_70
abbrev R_toldKind : Room := { frames := 6, cells := 0, slots := 0, locals := 90 }
noncomputable def f_toldKind (p1 : Int32) (X : St) : Option (Int32 × St) :=
  letV (X.1 0 29) fun x1 =>
  chk (inR x1 41) (letV (X.1 19 (ix x1)) fun x2 =>
  if x2.toInt = 0 then
    some (2, X)
  else
    some (p1, X))
set_option maxHeartbeats 4000000 in
set_option maxRecDepth 100000 in
theorem c_toldKind (Γ : Gx) (p1 : Int32) (X : St) : TMI YR Γ yX11_toldKind cX11_toldKind 2 "BlameCourtModel" (some .int) R_toldKind [.ref (Γ.2.2.2.1 0), .int p1] X (f_toldKind p1 X) := by
  refine TMI.of (by decide) (Nat.le_of_ble_eq_true rfl) rfl ?_
  show T YR Γ cX11_toldKind 2 "BlameCourtModel" (some .int) R_toldKind _ qI 0 [(0, .ref (Γ.2.2.2.1 0)), (1, .int p1)] [] X (f_toldKind p1 X)
  unfold f_toldKind
  refine T.aload_n dX11_toldKind_0 rfl 0 rfl ?_
  refine cR66 k1403 dX11_toldKind_1 ?_
  refine T.aload_n dX11_toldKind_4 rfl 0 rfl ?_
  refine gR29 k1452 dX11_toldKind_5 (fun x1 => ?_)
  refine alR19 dX11_toldKind_8 (fun x2 => ?_)
  refine T.if_eq (pc1 := 16) dX11_toldKind_9 (by decide) ?_ ?_
  · refine T.iconst (w := 2) dX11_toldKind_16 (by decide) ?_
    exact T.ret_i rfl dX11_toldKind_17
  · refine T.iload_n dX11_toldKind_12 rfl 1 rfl ?_
    refine T.goto (pc1 := 17) dX11_toldKind_13 (by decide) ?_
    exact T.ret_i rfl dX11_toldKind_17
abbrev R_judgeJoin : Room := { frames := 10, cells := 0, slots := 0, locals := 150 }
noncomputable def f_judgeJoin_112 (b0 : Int32) (X : St) : Option (Int32 × St) :=
  bnd (f_push b0 X) fun _ X9 =>
  some (0, X9)
set_option maxHeartbeats 4000000 in
set_option maxRecDepth 100000 in
theorem c_judgeJoin_112 (Γ : Gx) (As : List Value) (b0 : Int32) (X : St) : T YR Γ cX11_judgeJoin 4 "BlameCourtModel" none R_judgeJoin As qV 112 [] [.int b0, .ref (Γ.2.2.2.1 0)] X (f_judgeJoin_112 b0 X) := by
  unfold f_judgeJoin_112
  refine T.callV_v 0 (As1 := [.int b0]) (rest := []) (c_push Γ b0 X) ka_X11_push kv_X11_push oR rfl k2012 rfl rfl rfl rfl ⟨Nat.le_of_ble_eq_true rfl, Nat.le_of_ble_eq_true rfl⟩ (Nat.le_of_ble_eq_true rfl) dX11_judgeJoin_112 (fun _ X9 => ?_)
  exact T.ret_v rfl dX11_judgeJoin_115
noncomputable def f_judgeJoin_101 (a2 : Int32) (a3 : Int32) (X : St) : Option (Int32 × St) :=
  if a2.toInt = a3.toInt then
    f_judgeJoin_112 a2 X
  else
    f_judgeJoin_112 (2 : Int32) X
set_option maxHeartbeats 4000000 in
set_option maxRecDepth 100000 in
theorem c_judgeJoin_101 (Γ : Gx) (As : List Value) (a2 : Int32) (a3 : Int32) (X : St) : T YR Γ cX11_judgeJoin 4 "BlameCourtModel" none R_judgeJoin As qV 101 [(0, .ref (Γ.2.2.2.1 0)), (2, .int a2), (3, .int a3)] [] X (f_judgeJoin_101 a2 a3 X) := by
  unfold f_judgeJoin_101
  refine T.aload_n dX11_judgeJoin_101 rfl 0 rfl ?_
  refine T.iload_n dX11_judgeJoin_102 rfl 1 rfl ?_
  refine T.iload_n dX11_judgeJoin_103 rfl 2 rfl ?_
  refine T.icmp_ne (pc1 := 111) dX11_judgeJoin_104 (by decide) rfl ?_ ?_
  · refine T.iconst (w := 2) dX11_judgeJoin_111 (by decide) ?_
    refine T.sub [] rfl ?_
    exact c_judgeJoin_112 Γ _ (2 : Int32) X
  · refine T.iload_n dX11_judgeJoin_107 rfl 1 rfl ?_
    refine T.goto (pc1 := 112) dX11_judgeJoin_108 (by decide) ?_
    refine T.sub [] rfl ?_
    exact c_judgeJoin_112 Γ _ a2 X
noncomputable def f_judgeJoin (p1 : Int32) (X : St) : Option (Int32 × St) :=
  letV (X.1 0 30) fun x1 =>
  letV (x1 - (2 : Int32)) fun x2 =>
  letV (wI X 0 30 x2) fun X3 =>
  letV (X3.1 0 30) fun x4 =>
  chk (inR x4 3200) (letV (X3.1 58 (ix x4)) fun x5 =>
  letV (X3.1 0 30) fun x6 =>
  letV (x6 + (1 : Int32)) fun x7 =>
  chk (inR x7 3200) (letV (X3.1 58 (ix x7)) fun x8 =>
  if x5.toInt = x8.toInt then
    f_judgeJoin_101 x5 x8 X3
  else
    chk (inR p1 3100) (letV (X3.1 24 (ix p1)) fun x10 =>
    chk (inR x10 3100) (letV (X3.1 45 (ix x10)) fun x11 =>
    chk (inR p1 3100) (letV (X3.1 24 (ix p1)) fun x12 =>
    chk (inR x12 3100) (letV (X3.1 21 (ix x12)) fun x13 =>
    letV (X3.1 0 29) fun x14 =>
    bnd (f_guards x11 x5 (2 : Int32) x13 x14 X3) fun _ X15 =>
    chk (inR p1 3100) (letV (X15.1 25 (ix p1)) fun x16 =>
    chk (inR x16 3100) (letV (X15.1 45 (ix x16)) fun x17 =>
    chk (inR p1 3100) (letV (X15.1 25 (ix p1)) fun x18 =>
    chk (inR x18 3100) (letV (X15.1 21 (ix x18)) fun x19 =>
    letV (X15.1 0 29) fun x20 =>
    bnd (f_guards x17 x8 (2 : Int32) x19 x20 X15) fun _ X21 =>
    f_judgeJoin_101 x5 x8 X21))))))))))
set_option maxHeartbeats 4000000 in
set_option maxRecDepth 100000 in
theorem c_judgeJoin (Γ : Gx) (p1 : Int32) (X : St) : TMV YR Γ yX11_judgeJoin cX11_judgeJoin 4 "BlameCourtModel" none R_judgeJoin [.ref (Γ.2.2.2.1 0), .int p1] X (f_judgeJoin p1 X) := by
  refine TMV.of (by decide) (Nat.le_of_ble_eq_true rfl) rfl ?_
  show T YR Γ cX11_judgeJoin 4 "BlameCourtModel" none R_judgeJoin _ qV 0 [(0, .ref (Γ.2.2.2.1 0)), (1, .int p1)] [] X (f_judgeJoin p1 X)
  unfold f_judgeJoin
  refine T.aload_n dX11_judgeJoin_0 rfl 0 rfl ?_
  refine T.dupr dX11_judgeJoin_1 ?_
  refine gR30 k1453 dX11_judgeJoin_2 (fun x1 => ?_)
  refine T.iconst (w := 2) dX11_judgeJoin_5 (by decide) ?_
  refine T.isub dX11_judgeJoin_6 (fun x2 => ?_)
  refine pR30 k1453 dX11_judgeJoin_7 (fun X3 => ?_)
  refine T.aload_n dX11_judgeJoin_10 rfl 0 rfl ?_
  refine cR105 k1454 dX11_judgeJoin_11 ?_
  refine T.aload_n dX11_judgeJoin_14 rfl 0 rfl ?_
  refine gR30 k1453 dX11_judgeJoin_15 (fun x4 => ?_)
  refine alR58 dX11_judgeJoin_18 (fun x5 => ?_)
  refine T.istore_n (lv1 := [(2, .int x5), (0, .ref (Γ.2.2.2.1 0)), (1, .int p1)]) dX11_judgeJoin_19 rfl (by decide) rfl ?_
  refine T.aload_n dX11_judgeJoin_20 rfl 1 rfl ?_
  refine cR105 k1454 dX11_judgeJoin_21 ?_
  refine T.aload_n dX11_judgeJoin_24 rfl 1 rfl ?_
  refine gR30 k1453 dX11_judgeJoin_25 (fun x6 => ?_)
  refine T.iconst (w := 1) dX11_judgeJoin_28 (by decide) ?_
  refine T.iadd dX11_judgeJoin_29 (fun x7 => ?_)
  refine alR58 dX11_judgeJoin_30 (fun x8 => ?_)
  refine T.istore_n (lv1 := [(3, .int x8), (2, .int x5), (0, .ref (Γ.2.2.2.1 0)), (1, .int p1)]) dX11_judgeJoin_31 rfl (by decide) rfl ?_
  refine T.iload_n dX11_judgeJoin_32 rfl 1 rfl ?_
  refine T.iload_n dX11_judgeJoin_33 rfl 0 rfl ?_
  refine T.icmp_eq (pc1 := 101) dX11_judgeJoin_34 (by decide) rfl ?_ ?_
  · refine T.sub [2, 1, 0] rfl ?_
    exact c_judgeJoin_101 Γ _ x5 x8 X3
  · refine T.aload_n dX11_judgeJoin_37 rfl 2 rfl ?_
    refine T.aload_n dX11_judgeJoin_38 rfl 2 rfl ?_
    refine cR92 k1437 dX11_judgeJoin_39 ?_
    refine T.aload_n dX11_judgeJoin_42 rfl 2 rfl ?_
    refine cR71 k1409 dX11_judgeJoin_43 ?_
    refine T.iload_n dX11_judgeJoin_46 rfl 3 rfl ?_
    refine alR24 dX11_judgeJoin_47 (fun x10 => ?_)
    refine alR45 dX11_judgeJoin_48 (fun x11 => ?_)
    refine T.iload_n dX11_judgeJoin_49 rfl 1 rfl ?_
    refine T.iconst (w := 2) dX11_judgeJoin_50 (by decide) ?_
    refine T.aload_n dX11_judgeJoin_51 rfl 2 rfl ?_
    refine cR68 k1406 dX11_judgeJoin_52 ?_
    refine T.aload_n dX11_judgeJoin_55 rfl 2 rfl ?_
    refine cR71 k1409 dX11_judgeJoin_56 ?_
    refine T.iload_n dX11_judgeJoin_59 rfl 3 rfl ?_
    refine alR24 dX11_judgeJoin_60 (fun x12 => ?_)
    refine alR21 dX11_judgeJoin_61 (fun x13 => ?_)
    refine T.aload_n dX11_judgeJoin_62 rfl 2 rfl ?_
    refine gR29 k1452 dX11_judgeJoin_63 (fun x14 => ?_)
    refine T.callV_v 0 (As1 := [.int x11, .int x5, .int 2, .int x13, .int x14]) (rest := []) (c_guards Γ x11 x5 (2 : Int32) x13 x14 X3) ka_X11_guards kv_X11_guards oR rfl k2028 rfl rfl rfl rfl ⟨Nat.le_of_ble_eq_true rfl, Nat.le_of_ble_eq_true rfl⟩ (Nat.le_of_ble_eq_true rfl) dX11_judgeJoin_66 (fun _ X15 => ?_)
    refine T.aload_n dX11_judgeJoin_69 rfl 2 rfl ?_
    refine T.aload_n dX11_judgeJoin_70 rfl 2 rfl ?_
    refine cR92 k1437 dX11_judgeJoin_71 ?_
    refine T.aload_n dX11_judgeJoin_74 rfl 2 rfl ?_
    refine cR72 k1410 dX11_judgeJoin_75 ?_
    refine T.iload_n dX11_judgeJoin_78 rfl 3 rfl ?_
    refine alR25 dX11_judgeJoin_79 (fun x16 => ?_)
    refine alR45 dX11_judgeJoin_80 (fun x17 => ?_)
    refine T.iload_n dX11_judgeJoin_81 rfl 0 rfl ?_
    refine T.iconst (w := 2) dX11_judgeJoin_82 (by decide) ?_
    refine T.aload_n dX11_judgeJoin_83 rfl 2 rfl ?_
    refine cR68 k1406 dX11_judgeJoin_84 ?_
    refine T.aload_n dX11_judgeJoin_87 rfl 2 rfl ?_
    refine cR72 k1410 dX11_judgeJoin_88 ?_
    refine T.iload_n dX11_judgeJoin_91 rfl 3 rfl ?_
    refine alR25 dX11_judgeJoin_92 (fun x18 => ?_)
    refine alR21 dX11_judgeJoin_93 (fun x19 => ?_)
    refine T.aload_n dX11_judgeJoin_94 rfl 2 rfl ?_
    refine gR29 k1452 dX11_judgeJoin_95 (fun x20 => ?_)
    refine T.callV_v 0 (As1 := [.int x17, .int x8, .int 2, .int x19, .int x20]) (rest := []) (c_guards Γ x17 x8 (2 : Int32) x19 x20 X15) ka_X11_guards kv_X11_guards oR rfl k2028 rfl rfl rfl rfl ⟨Nat.le_of_ble_eq_true rfl, Nat.le_of_ble_eq_true rfl⟩ (Nat.le_of_ble_eq_true rfl) dX11_judgeJoin_98 (fun _ X21 => ?_)
    refine T.sub [2, 1, 0] rfl ?_
    exact c_judgeJoin_101 Γ _ x5 x8 X21
abbrev R_judgeElements : Room := { frames := 14, cells := 0, slots := 0, locals := 210 }
noncomputable def f_judgeElements_168 (b0 : Int32) (X : St) : Option (Int32 × St) :=
  bnd (f_rowOf b0 X) fun x8 X9 =>
  bnd (f_push x8 X9) fun _ X10 =>
  some (0, X10)
set_option maxHeartbeats 4000000 in
set_option maxRecDepth 100000 in
theorem c_judgeElements_168 (Γ : Gx) (As : List Value) (b0 : Int32) (X : St) : T YR Γ cX11_judgeElements 5 "BlameCourtModel" none R_judgeElements As qV 168 [] [.int b0, .ref (Γ.2.2.2.1 0), .ref (Γ.2.2.2.1 0)] X (f_judgeElements_168 b0 X) := by
  unfold f_judgeElements_168
  refine T.callV_i 0 (As1 := [.int b0]) (rest := [.ref (Γ.2.2.2.1 0)]) (c_rowOf Γ b0 X) ka_X11_rowOf kv_X11_rowOf oR rfl k1852 rfl rfl rfl rfl ⟨Nat.le_of_ble_eq_true rfl, Nat.le_of_ble_eq_true rfl⟩ (Nat.le_of_ble_eq_true rfl) dX11_judgeElements_168 (fun x8 X9 => ?_)
  refine T.callV_v 0 (As1 := [.int x8]) (rest := []) (c_push Γ x8 X9) ka_X11_push kv_X11_push oR rfl k2012 rfl rfl rfl rfl ⟨Nat.le_of_ble_eq_true rfl, Nat.le_of_ble_eq_true rfl⟩ (Nat.le_of_ble_eq_true rfl) dX11_judgeElements_171 (fun _ X10 => ?_)
  exact T.ret_v rfl dX11_judgeElements_174
noncomputable def f_judgeElements_134 (r91 : Int32 → Int32 → Int32 → St → Option (Int32 × St)) (a2 : Int32) (a3 : Int32) (a4 : Int32) (X : St) : Option (Int32 × St) :=
  letV (a3 + Int32.ofInt (1)) fun x13 =>
  chk (inR a4 3100) (letV (X.1 28 (ix a4)) fun x14 =>
  r91 a2 x13 x14 X)
set_option maxHeartbeats 4000000 in
set_option maxRecDepth 100000 in
theorem c_judgeElements_134 (Γ : Gx) (As : List Value) (r91 : Int32 → Int32 → Int32 → St → Option (Int32 × St)) (hr91 : ∀ (a2 : Int32) (a3 : Int32) (a4 : Int32) (X : St), T YR Γ cX11_judgeElements 5 "BlameCourtModel" none R_judgeElements As qV 91 [(0, .ref (Γ.2.2.2.1 0)), (2, .int a2), (3, .int a3), (4, .int a4)] [] X (r91 a2 a3 a4 X)) (a2 : Int32) (a3 : Int32) (a4 : Int32) (X : St) : T YR Γ cX11_judgeElements 5 "BlameCourtModel" none R_judgeElements As qV 134 [(0, .ref (Γ.2.2.2.1 0)), (2, .int a2), (3, .int a3), (4, .int a4)] [] X (f_judgeElements_134 r91 a2 a3 a4 X) := by
  unfold f_judgeElements_134
  refine T.iinc dX11_judgeElements_134 2 rfl (by decide) (lvf := fun x13 => [(3, .int x13), (0, .ref (Γ.2.2.2.1 0)), (2, .int a2), (4, .int a4)]) (fun _ => rfl) (fun x13 => ?_)
  refine T.aload_n dX11_judgeElements_137 rfl 1 rfl ?_
  refine cR75 k1413 dX11_judgeElements_138 ?_
  refine T.iload dX11_judgeElements_141 3 rfl ?_
  refine alR28 dX11_judgeElements_143 (fun x14 => ?_)
  refine T.istore (lv1 := [(4, .int x14), (3, .int x13), (0, .ref (Γ.2.2.2.1 0)), (2, .int a2)]) dX11_judgeElements_144 (by decide) rfl ?_
  refine T.goto (pc1 := 91) dX11_judgeElements_146 (by decide) ?_
  refine T.sub [2, 3, 1, 0] rfl ?_
  exact hr91 a2 x13 x14 X
noncomputable def f_judgeElements_91_s (r91 : Int32 → Int32 → Int32 → St → Option (Int32 × St)) (a2 : Int32) (a3 : Int32) (a4 : Int32) (X : St) : Option (Int32 × St) :=
  if a4.toInt < 0 then
    if a2.toInt = 0 then
      f_judgeElements_168 (2 : Int32) X
    else
      letV (X.1 0 30) fun x11 =>
      chk (inR x11 3200) (letV (X.1 58 (ix x11)) fun x12 =>
      f_judgeElements_168 x12 X)
  else
    if a2.toInt = 0 then
      chk (inR a4 3100) (letV (X.1 45 (ix a4)) fun x15 =>
      letV (X.1 0 30) fun x16 =>
      letV (x16 + a3) fun x17 =>
      chk (inR x17 3200) (letV (X.1 58 (ix x17)) fun x18 =>
      chk (inR a4 3100) (letV (X.1 21 (ix a4)) fun x19 =>
      letV (X.1 0 29) fun x20 =>
      bnd (f_guards x15 x18 (2 : Int32) x19 x20 X) fun _ X21 =>
      f_judgeElements_134 r91 a2 a3 a4 X21)))
    else
      f_judgeElements_134 r91 a2 a3 a4 X
noncomputable def f_judgeElements_91 (n : Nat) : Int32 → Int32 → Int32 → St → Option (Int32 × St) := lp (fun _ _ _ _ => none) (f_judgeElements_91_s) n
set_option maxHeartbeats 4000000 in
set_option maxRecDepth 100000 in
theorem c_judgeElements_91 (Γ : Gx) (As : List Value) (n : Nat) : ∀ (a2 : Int32) (a3 : Int32) (a4 : Int32) (X : St), T YR Γ cX11_judgeElements 5 "BlameCourtModel" none R_judgeElements As qV 91 [(0, .ref (Γ.2.2.2.1 0)), (2, .int a2), (3, .int a3), (4, .int a4)] [] X (f_judgeElements_91 n a2 a3 a4 X) := by
  unfold f_judgeElements_91
  refine lp_ind (P := fun (r91 : Int32 → Int32 → Int32 → St → Option (Int32 × St)) => ∀ (a2 : Int32) (a3 : Int32) (a4 : Int32) (X : St), T YR Γ cX11_judgeElements 5 "BlameCourtModel" none R_judgeElements As qV 91 [(0, .ref (Γ.2.2.2.1 0)), (2, .int a2), (3, .int a3), (4, .int a4)] [] X (r91 a2 a3 a4 X)) (fun _ _ _ _ => T.no) ?_ n
  intro r91 hr91 a2 a3 a4 X
  unfold f_judgeElements_91_s
  refine T.iload dX11_judgeElements_91 3 rfl ?_
  refine T.if_lt (pc1 := 149) dX11_judgeElements_93 (by decide) ?_ ?_
  · refine T.aload_n dX11_judgeElements_149 rfl 0 rfl ?_
    refine T.aload_n dX11_judgeElements_150 rfl 0 rfl ?_
    refine T.iload_n dX11_judgeElements_151 rfl 1 rfl ?_
    refine T.if_eq (pc1 := 167) dX11_judgeElements_152 (by decide) ?_ ?_
    · refine T.iconst (w := 2) dX11_judgeElements_167 (by decide) ?_
      refine T.sub [] rfl ?_
      exact c_judgeElements_168 Γ _ (2 : Int32) X
    · refine T.aload_n dX11_judgeElements_155 rfl 0 rfl ?_
      refine cR105 k1454 dX11_judgeElements_156 ?_
      refine T.aload_n dX11_judgeElements_159 rfl 0 rfl ?_
      refine gR30 k1453 dX11_judgeElements_160 (fun x11 => ?_)
      refine alR58 dX11_judgeElements_163 (fun x12 => ?_)
      refine T.goto (pc1 := 168) dX11_judgeElements_164 (by decide) ?_
      refine T.sub [] rfl ?_
      exact c_judgeElements_168 Γ _ x12 X
  · refine T.iload_n dX11_judgeElements_96 rfl 1 rfl ?_
    refine T.if_ne (pc1 := 134) dX11_judgeElements_97 (by decide) ?_ ?_
    · exact c_judgeElements_134 Γ _ r91 hr91 a2 a3 a4 X
    · refine T.aload_n dX11_judgeElements_100 rfl 0 rfl ?_
      refine T.aload_n dX11_judgeElements_101 rfl 0 rfl ?_
      refine cR92 k1437 dX11_judgeElements_102 ?_
      refine T.iload dX11_judgeElements_105 3 rfl ?_
      refine alR45 dX11_judgeElements_107 (fun x15 => ?_)
      refine T.aload_n dX11_judgeElements_108 rfl 0 rfl ?_
      refine cR105 k1454 dX11_judgeElements_109 ?_
      refine T.aload_n dX11_judgeElements_112 rfl 0 rfl ?_
      refine gR30 k1453 dX11_judgeElements_113 (fun x16 => ?_)
      refine T.iload_n dX11_judgeElements_116 rfl 2 rfl ?_
      refine T.iadd dX11_judgeElements_117 (fun x17 => ?_)
      refine alR58 dX11_judgeElements_118 (fun x18 => ?_)
      refine T.iconst (w := 2) dX11_judgeElements_119 (by decide) ?_
      refine T.aload_n dX11_judgeElements_120 rfl 0 rfl ?_
      refine cR68 k1406 dX11_judgeElements_121 ?_
      refine T.iload dX11_judgeElements_124 3 rfl ?_
      refine alR21 dX11_judgeElements_126 (fun x19 => ?_)
      refine T.aload_n dX11_judgeElements_127 rfl 0 rfl ?_
      refine gR29 k1452 dX11_judgeElements_128 (fun x20 => ?_)
      refine T.callV_v 0 (As1 := [.int x15, .int x18, .int 2, .int x19, .int x20]) (rest := []) (c_guards Γ x15 x18 (2 : Int32) x19 x20 X) ka_X11_guards kv_X11_guards oR rfl k2028 rfl rfl rfl rfl ⟨Nat.le_of_ble_eq_true rfl, Nat.le_of_ble_eq_true rfl⟩ (Nat.le_of_ble_eq_true rfl) dX11_judgeElements_131 (fun _ X21 => ?_)
      exact c_judgeElements_134 Γ _ r91 hr91 a2 a3 a4 X21
noncomputable def f_judgeElements_74 (r32 : Int32 → Int32 → Int32 → St → Option (Int32 × St)) (a1 : Int32) (a3 : Int32) (b0 : Int32) (X : St) : Option (Int32 × St) :=
  letV (a3 + Int32.ofInt (1)) fun x22 =>
  r32 a1 b0 x22 X
set_option maxHeartbeats 4000000 in
set_option maxRecDepth 100000 in
theorem c_judgeElements_74 (Γ : Gx) (As : List Value) (r32 : Int32 → Int32 → Int32 → St → Option (Int32 × St)) (hr32 : ∀ (a1 : Int32) (a2 : Int32) (a3 : Int32) (X : St), T YR Γ cX11_judgeElements 5 "BlameCourtModel" none R_judgeElements As qV 32 [(0, .ref (Γ.2.2.2.1 0)), (1, .int a1), (2, .int a2), (3, .int a3)] [] X (r32 a1 a2 a3 X)) (a1 : Int32) (a3 : Int32) (b0 : Int32) (X : St) : T YR Γ cX11_judgeElements 5 "BlameCourtModel" none R_judgeElements As qV 74 [(0, .ref (Γ.2.2.2.1 0)), (1, .int a1), (3, .int a3)] [.int b0] X (f_judgeElements_74 r32 a1 a3 b0 X) := by
  unfold f_judgeElements_74
  refine T.istore_n (lv1 := [(2, .int b0), (0, .ref (Γ.2.2.2.1 0)), (1, .int a1), (3, .int a3)]) dX11_judgeElements_74 rfl (by decide) rfl ?_
  refine T.iinc dX11_judgeElements_75 3 rfl (by decide) (lvf := fun x22 => [(3, .int x22), (2, .int b0), (0, .ref (Γ.2.2.2.1 0)), (1, .int a1)]) (fun _ => rfl) (fun x22 => ?_)
  refine T.goto (pc1 := 32) dX11_judgeElements_78 (by decide) ?_
  refine T.sub [2, 3, 1, 0] rfl ?_
  exact hr32 a1 b0 x22 X
noncomputable def f_judgeElements_73 (r32 : Int32 → Int32 → Int32 → St → Option (Int32 × St)) (a1 : Int32) (a3 : Int32) (X : St) : Option (Int32 × St) :=
  f_judgeElements_74 r32 a1 a3 (0 : Int32) X
set_option maxHeartbeats 4000000 in
set_option maxRecDepth 100000 in
theorem c_judgeElements_73 (Γ : Gx) (As : List Value) (r32 : Int32 → Int32 → Int32 → St → Option (Int32 × St)) (hr32 : ∀ (a1 : Int32) (a2 : Int32) (a3 : Int32) (X : St), T YR Γ cX11_judgeElements 5 "BlameCourtModel" none R_judgeElements As qV 32 [(0, .ref (Γ.2.2.2.1 0)), (1, .int a1), (2, .int a2), (3, .int a3)] [] X (r32 a1 a2 a3 X)) (a1 : Int32) (a3 : Int32) (X : St) : T YR Γ cX11_judgeElements 5 "BlameCourtModel" none R_judgeElements As qV 73 [(0, .ref (Γ.2.2.2.1 0)), (1, .int a1), (3, .int a3)] [] X (f_judgeElements_73 r32 a1 a3 X) := by
  unfold f_judgeElements_73
  refine T.iconst (w := 0) dX11_judgeElements_73 (by decide) ?_
  exact c_judgeElements_74 Γ _ r32 hr32 a1 a3 (0 : Int32) X
noncomputable def f_judgeElements_32_s (r32 : Int32 → Int32 → Int32 → St → Option (Int32 × St)) (a1 : Int32) (a2 : Int32) (a3 : Int32) (X : St) : Option (Int32 × St) :=
  chk (inR a1 3100) (letV (X.1 27 (ix a1)) fun x6 =>
  if x6.toInt ≤ a3.toInt then
    chk (inR a1 3100) (letV (X.1 24 (ix a1)) fun x7 =>
    f_judgeElements_91 BIG a2 (0 : Int32) x7 X)
  else
    if a2.toInt = 0 then
      f_judgeElements_73 r32 a1 a3 X
    else
      letV (X.1 0 30) fun x23 =>
      letV (x23 + a3) fun x24 =>
      chk (inR x24 3200) (letV (X.1 58 (ix x24)) fun x25 =>
      letV (X.1 0 30) fun x26 =>
      chk (inR x26 3200) (letV (X.1 58 (ix x26)) fun x27 =>
      if x25.toInt = x27.toInt then
        f_judgeElements_74 r32 a1 a3 (1 : Int32) X
      else
        f_judgeElements_73 r32 a1 a3 X)))
noncomputable def f_judgeElements_32 (n : Nat) : Int32 → Int32 → Int32 → St → Option (Int32 × St) := lp (fun _ _ _ _ => none) (f_judgeElements_32_s) n
set_option maxHeartbeats 4000000 in
set_option maxRecDepth 100000 in
theorem c_judgeElements_32 (Γ : Gx) (As : List Value) (n : Nat) : ∀ (a1 : Int32) (a2 : Int32) (a3 : Int32) (X : St), T YR Γ cX11_judgeElements 5 "BlameCourtModel" none R_judgeElements As qV 32 [(0, .ref (Γ.2.2.2.1 0)), (1, .int a1), (2, .int a2), (3, .int a3)] [] X (f_judgeElements_32 n a1 a2 a3 X) := by
  unfold f_judgeElements_32
  refine lp_ind (P := fun (r32 : Int32 → Int32 → Int32 → St → Option (Int32 × St)) => ∀ (a1 : Int32) (a2 : Int32) (a3 : Int32) (X : St), T YR Γ cX11_judgeElements 5 "BlameCourtModel" none R_judgeElements As qV 32 [(0, .ref (Γ.2.2.2.1 0)), (1, .int a1), (2, .int a2), (3, .int a3)] [] X (r32 a1 a2 a3 X)) (fun _ _ _ _ => T.no) ?_ n
  intro r32 hr32 a1 a2 a3 X
  unfold f_judgeElements_32_s
  refine T.iload_n dX11_judgeElements_32 rfl 3 rfl ?_
  refine T.aload_n dX11_judgeElements_33 rfl 0 rfl ?_
  refine cR74 k1412 dX11_judgeElements_34 ?_
  refine T.iload_n dX11_judgeElements_37 rfl 1 rfl ?_
  refine alR27 dX11_judgeElements_38 (fun x6 => ?_)
  refine T.icmp_ge (pc1 := 81) dX11_judgeElements_39 (by decide) rfl ?_ ?_
  · refine T.iconst (w := 0) dX11_judgeElements_81 (by decide) ?_
    refine T.istore_n (lv1 := [(3, .int 0), (0, .ref (Γ.2.2.2.1 0)), (1, .int a1), (2, .int a2)]) dX11_judgeElements_82 rfl (by decide) rfl ?_
    refine T.aload_n dX11_judgeElements_83 rfl 1 rfl ?_
    refine cR71 k1409 dX11_judgeElements_84 ?_
    refine T.iload_n dX11_judgeElements_87 rfl 2 rfl ?_
    refine alR24 dX11_judgeElements_88 (fun x7 => ?_)
    refine T.istore (lv1 := [(4, .int x7), (3, .int 0), (0, .ref (Γ.2.2.2.1 0)), (1, .int a1), (2, .int a2)]) dX11_judgeElements_89 (by decide) rfl ?_
    refine T.sub [2, 4, 1, 0] rfl ?_
    exact c_judgeElements_91 Γ _ BIG a2 (0 : Int32) x7 X
  · refine T.iload_n dX11_judgeElements_42 rfl 2 rfl ?_
    refine T.if_eq (pc1 := 73) dX11_judgeElements_43 (by decide) ?_ ?_
    · refine T.sub [0, 1, 3] rfl ?_
      exact c_judgeElements_73 Γ _ r32 hr32 a1 a3 X
    · refine T.aload_n dX11_judgeElements_46 rfl 0 rfl ?_
      refine cR105 k1454 dX11_judgeElements_47 ?_
      refine T.aload_n dX11_judgeElements_50 rfl 0 rfl ?_
      refine gR30 k1453 dX11_judgeElements_51 (fun x23 => ?_)
      refine T.iload_n dX11_judgeElements_54 rfl 3 rfl ?_
      refine T.iadd dX11_judgeElements_55 (fun x24 => ?_)
      refine alR58 dX11_judgeElements_56 (fun x25 => ?_)
      refine T.aload_n dX11_judgeElements_57 rfl 0 rfl ?_
      refine cR105 k1454 dX11_judgeElements_58 ?_
      refine T.aload_n dX11_judgeElements_61 rfl 0 rfl ?_
      refine gR30 k1453 dX11_judgeElements_62 (fun x26 => ?_)
      refine alR58 dX11_judgeElements_65 (fun x27 => ?_)
      refine T.icmp_ne (pc1 := 73) dX11_judgeElements_66 (by decide) rfl ?_ ?_
      · refine T.sub [0, 1, 3] rfl ?_
        exact c_judgeElements_73 Γ _ r32 hr32 a1 a3 X
      · refine T.iconst (w := 1) dX11_judgeElements_69 (by decide) ?_
        refine T.goto (pc1 := 74) dX11_judgeElements_70 (by decide) ?_
        refine T.sub [0, 1, 3] rfl ?_
        exact c_judgeElements_74 Γ _ r32 hr32 a1 a3 (1 : Int32) X
noncomputable def f_judgeElements_29 (a1 : Int32) (b0 : Int32) (X : St) : Option (Int32 × St) :=
  f_judgeElements_32 BIG a1 b0 (1 : Int32) X
set_option maxHeartbeats 4000000 in
set_option maxRecDepth 100000 in
theorem c_judgeElements_29 (Γ : Gx) (As : List Value) (a1 : Int32) (b0 : Int32) (X : St) : T YR Γ cX11_judgeElements 5 "BlameCourtModel" none R_judgeElements As qV 29 [(0, .ref (Γ.2.2.2.1 0)), (1, .int a1)] [.int b0] X (f_judgeElements_29 a1 b0 X) := by
  unfold f_judgeElements_29
  refine T.istore_n (lv1 := [(2, .int b0), (0, .ref (Γ.2.2.2.1 0)), (1, .int a1)]) dX11_judgeElements_29 rfl (by decide) rfl ?_
  refine T.iconst (w := 1) dX11_judgeElements_30 (by decide) ?_
  refine T.istore_n (lv1 := [(3, .int 1), (2, .int b0), (0, .ref (Γ.2.2.2.1 0)), (1, .int a1)]) dX11_judgeElements_31 rfl (by decide) rfl ?_
  refine T.sub [2, 3, 1, 0] rfl ?_
  exact c_judgeElements_32 Γ _ BIG a1 b0 (1 : Int32) X
noncomputable def f_judgeElements (p1 : Int32) (X : St) : Option (Int32 × St) :=
  letV (X.1 0 30) fun x1 =>
  chk (inR p1 3100) (letV (X.1 27 (ix p1)) fun x2 =>
  letV (x1 - x2) fun x3 =>
  letV (wI X 0 30 x3) fun X4 =>
  chk (inR p1 3100) (letV (X4.1 27 (ix p1)) fun x5 =>
  if x5.toInt ≤ 0 then
    f_judgeElements_29 p1 (0 : Int32) X4
  else
    f_judgeElements_29 p1 (1 : Int32) X4))
set_option maxHeartbeats 4000000 in
set_option maxRecDepth 100000 in
theorem c_judgeElements (Γ : Gx) (p1 : Int32) (X : St) : TMV YR Γ yX11_judgeElements cX11_judgeElements 5 "BlameCourtModel" none R_judgeElements [.ref (Γ.2.2.2.1 0), .int p1] X (f_judgeElements p1 X) := by
  refine TMV.of (by decide) (Nat.le_of_ble_eq_true rfl) rfl ?_
  show T YR Γ cX11_judgeElements 5 "BlameCourtModel" none R_judgeElements _ qV 0 [(0, .ref (Γ.2.2.2.1 0)), (1, .int p1)] [] X (f_judgeElements p1 X)
  unfold f_judgeElements
  refine T.aload_n dX11_judgeElements_0 rfl 0 rfl ?_
  refine T.dupr dX11_judgeElements_1 ?_
  refine gR30 k1453 dX11_judgeElements_2 (fun x1 => ?_)
  refine T.aload_n dX11_judgeElements_5 rfl 0 rfl ?_
  refine cR74 k1412 dX11_judgeElements_6 ?_
  refine T.iload_n dX11_judgeElements_9 rfl 1 rfl ?_
  refine alR27 dX11_judgeElements_10 (fun x2 => ?_)
  refine T.isub dX11_judgeElements_11 (fun x3 => ?_)
  refine pR30 k1453 dX11_judgeElements_12 (fun X4 => ?_)
  refine T.aload_n dX11_judgeElements_15 rfl 0 rfl ?_
  refine cR74 k1412 dX11_judgeElements_16 ?_
  refine T.iload_n dX11_judgeElements_19 rfl 1 rfl ?_
  refine alR27 dX11_judgeElements_20 (fun x5 => ?_)
  refine T.if_le (pc1 := 28) dX11_judgeElements_21 (by decide) ?_ ?_
  · refine T.iconst (w := 0) dX11_judgeElements_28 (by decide) ?_
    exact c_judgeElements_29 Γ _ p1 (0 : Int32) X4
  · refine T.iconst (w := 1) dX11_judgeElements_24 (by decide) ?_
    refine T.goto (pc1 := 29) dX11_judgeElements_25 (by decide) ?_
    exact c_judgeElements_29 Γ _ p1 (1 : Int32) X4
abbrev R_judgeMore : Room := { frames := 18, cells := 0, slots := 0, locals := 270 }
noncomputable def f_judgeMore_182 (b0 : Int32) (b1 : Int32) (X : St) : Option (Int32 × St) :=
  chk (inR b1 41) (letV (wI X 57 (ix b1) (vp_nar .boolean b0)) fun X14 =>
  some (0, X14))
set_option maxHeartbeats 4000000 in
set_option maxRecDepth 100000 in
theorem c_judgeMore_182 (Γ : Gx) (As : List Value) (b0 : Int32) (b1 : Int32) (X : St) : T YR Γ cX11_judgeMore 3 "BlameCourtModel" none R_judgeMore As qV 182 [] [.int b0, .int b1, .ref (Γ.2.2.2.1 57)] X (f_judgeMore_182 b0 b1 X) := by
  unfold f_judgeMore_182
  refine asR57 dX11_judgeMore_182 (fun X14 => ?_)
  refine T.goto (pc1 := 446) dX11_judgeMore_183 (by decide) ?_
  exact T.ret_v rfl dX11_judgeMore_446
noncomputable def f_judgeMore_177 (b0 : Int32) (X : St) : Option (Int32 × St) :=
  f_judgeMore_182 (1 : Int32) b0 X
set_option maxHeartbeats 4000000 in
set_option maxRecDepth 100000 in
theorem c_judgeMore_177 (Γ : Gx) (As : List Value) (b0 : Int32) (X : St) : T YR Γ cX11_judgeMore 3 "BlameCourtModel" none R_judgeMore As qV 177 [] [.int b0, .ref (Γ.2.2.2.1 57)] X (f_judgeMore_177 b0 X) := by
  unfold f_judgeMore_177
  refine T.iconst (w := 1) dX11_judgeMore_177 (by decide) ?_
  refine T.goto (pc1 := 182) dX11_judgeMore_178 (by decide) ?_
  exact c_judgeMore_182 Γ _ (1 : Int32) b0 X
noncomputable def f_judgeMore_343 (b0 : Int32) (X : St) : Option (Int32 × St) :=
  bnd (f_push b0 X) fun _ X70 =>
  some (0, X70)
set_option maxHeartbeats 4000000 in
set_option maxRecDepth 100000 in
theorem c_judgeMore_343 (Γ : Gx) (As : List Value) (b0 : Int32) (X : St) : T YR Γ cX11_judgeMore 3 "BlameCourtModel" none R_judgeMore As qV 343 [] [.int b0, .ref (Γ.2.2.2.1 0)] X (f_judgeMore_343 b0 X) := by
  unfold f_judgeMore_343
  refine T.callV_v 0 (As1 := [.int b0]) (rest := []) (c_push Γ b0 X) ka_X11_push kv_X11_push oR rfl k2012 rfl rfl rfl rfl ⟨Nat.le_of_ble_eq_true rfl, Nat.le_of_ble_eq_true rfl⟩ (Nat.le_of_ble_eq_true rfl) dX11_judgeMore_343 (fun _ X70 => ?_)
  refine T.goto (pc1 := 446) dX11_judgeMore_346 (by decide) ?_
  exact T.ret_v rfl dX11_judgeMore_446
noncomputable def f_judgeMore (p1 : Int32) (p2 : Int32) (X : St) : Option (Int32 × St) :=
  chk (inR p1 24000) (letV (X.1 40 (ix p1)) fun x1 =>
  if x1.toInt = 12 then
    chk (inR p2 3100) (letV (X.1 25 (ix p2)) fun x3 =>
    if x3.toInt < 0 then
      some (0, X)
    else
      chk (inR p2 3100) (letV (X.1 25 (ix p2)) fun x4 =>
      bnd (f_toldKind x4 X) fun x5 X6 =>
      chk (inR p2 3100) (letV (X6.1 23 (ix p2)) fun x7 =>
      chk (inR x7 3100) (letV (X6.1 21 (ix x7)) fun x8 =>
      letV (X6.1 0 29) fun x9 =>
      bnd (f_must p1 x5 x8 x9 X6) fun _ X10 =>
      letV (X10.1 0 29) fun x11 =>
      letV (X10.1 0 29) fun x12 =>
      chk (inR x12 41) (letV (X10.1 57 (ix x12)) fun x13 =>
      if x13.toInt = 0 then
        chk (inR p2 3100) (letV (X10.1 25 (ix p2)) fun x15 =>
        bnd (f_toldKind x15 X10) fun x16 X17 =>
        chk (inR x16 6000) (letV (X17.1 8 (ix x16)) fun x18 =>
        if x18.toInt = 0 then
          f_judgeMore_182 (0 : Int32) x11 X17
        else
          f_judgeMore_177 x11 X17))
      else
        f_judgeMore_177 x11 X10)))))
  else if x1.toInt = 13 then
    letV (X.1 0 30) fun x20 =>
    letV (x20 - (1 : Int32)) fun x21 =>
    letV (wI X 0 30 x21) fun X22 =>
    chk (inR p2 3100) (letV (X22.1 26 (ix p2)) fun x23 =>
    letV (X22.1 0 30) fun x24 =>
    chk (inR x24 3200) (letV (X22.1 58 (ix x24)) fun x25 =>
    chk (inR x23 60) (letV (wI X22 59 (ix x23) x25) fun X26 =>
    some (0, X26))))
  else if x1.toInt = 15 then
    letV (X.1 0 30) fun x28 =>
    letV (x28 - (1 : Int32)) fun x29 =>
    letV (wI X 0 30 x29) fun X30 =>
    some (0, X30)
  else if x1.toInt = 17 then
    bnd (f_judgeJoin p2 X) fun _ X32 =>
    some (0, X32)
  else if x1.toInt = 18 then
    bnd (f_judgeElements p2 X) fun _ X34 =>
    some (0, X34)
  else if x1.toInt = 19 then
    letV (X.1 0 30) fun x36 =>
    letV (x36 - (2 : Int32)) fun x37 =>
    letV (wI X 0 30 x37) fun X38 =>
    letV (X38.1 0 30) fun x39 =>
    letV (x39 + (1 : Int32)) fun x40 =>
    chk (inR x40 3200) (letV (X38.1 58 (ix x40)) fun x41 =>
    bnd (f_rowOf x41 X38) fun x42 X43 =>
    bnd (f_push x42 X43) fun _ X44 =>
    some (0, X44))
  else if x1.toInt = 20 then
    letV (X.1 0 30) fun x46 =>
    letV (x46 - (1 : Int32)) fun x47 =>
    letV (wI X 0 30 x47) fun X48 =>
    bnd (f_push (0 : Int32) X48) fun _ X49 =>
    some (0, X49)
  else if x1.toInt = 21 then
    letV (X.1 0 30) fun x51 =>
    letV (x51 - (1 : Int32)) fun x52 =>
    letV (wI X 0 30 x52) fun X53 =>
    bnd (f_push (0 : Int32) X53) fun _ X54 =>
    some (0, X54)
  else if x1.toInt = 22 then
    letV (X.1 0 30) fun x56 =>
    letV (x56 - (1 : Int32)) fun x57 =>
    letV (wI X 0 30 x57) fun X58 =>
    bnd (f_push (0 : Int32) X58) fun _ X59 =>
    some (0, X59)
  else if x1.toInt = 23 then
    letV (X.1 0 30) fun x61 =>
    letV (x61 - (1 : Int32)) fun x62 =>
    letV (wI X 0 30 x62) fun X63 =>
    bnd (f_push (1 : Int32) X63) fun _ X64 =>
    some (0, X64)
  else if x1.toInt = 24 then
    letV (X.1 0 30) fun x66 =>
    letV (x66 - (2 : Int32)) fun x67 =>
    letV (wI X 0 30 x67) fun X68 =>
    chk (inR p1 24000) (letV (X68.1 40 (ix p1)) fun x69 =>
    if x69.toInt = 24 then
      f_judgeMore_343 (0 : Int32) X68
    else
      f_judgeMore_343 (1 : Int32) X68)
  else if x1.toInt = 25 then
    letV (X.1 0 30) fun x72 =>
    letV (x72 - (2 : Int32)) fun x73 =>
    letV (wI X 0 30 x73) fun X74 =>
    chk (inR p1 24000) (letV (X74.1 40 (ix p1)) fun x75 =>
    if x75.toInt = 24 then
      f_judgeMore_343 (0 : Int32) X74
    else
      f_judgeMore_343 (1 : Int32) X74)
  else if x1.toInt = 26 then
    letV (X.1 0 30) fun x77 =>
    letV (x77 - (2 : Int32)) fun x78 =>
    letV (wI X 0 30 x78) fun X79 =>
    letV (X79.1 0 30) fun x80 =>
    chk (inR x80 3200) (letV (X79.1 58 (ix x80)) fun x81 =>
    bnd (f_elementOf x81 X79) fun x82 X83 =>
    bnd (f_push x82 X83) fun _ X84 =>
    some (0, X84))
  else if x1.toInt = 27 then
    letV (X.1 0 30) fun x86 =>
    letV (x86 - (3 : Int32)) fun x87 =>
    letV (wI X 0 30 x87) fun X88 =>
    letV (X88.1 0 30) fun x89 =>
    chk (inR x89 3200) (letV (X88.1 58 (ix x89)) fun x90 =>
    bnd (f_elementOf x90 X88) fun x91 X92 =>
    bnd (f_push x91 X92) fun _ X93 =>
    some (0, X93))
  else if x1.toInt = 28 then
    letV (X.1 0 30) fun x95 =>
    chk (inR p2 3100) (letV (X.1 27 (ix p2)) fun x96 =>
    letV (x96 + (1 : Int32)) fun x97 =>
    letV (x95 - x97) fun x98 =>
    letV (wI X 0 30 x98) fun X99 =>
    letV (X99.1 0 30) fun x100 =>
    chk (inR x100 3200) (letV (X99.1 58 (ix x100)) fun x101 =>
    bnd (f_resultOf x101 X99) fun x102 X103 =>
    bnd (f_push x102 X103) fun _ X104 =>
    some (0, X104)))
  else if x1.toInt = 29 then
    letV (X.1 0 30) fun x106 =>
    letV (x106 - (1 : Int32)) fun x107 =>
    letV (wI X 0 30 x107) fun X108 =>
    some (0, X108)
  else if x1.toInt = 31 then
    letV (X.1 0 30) fun x110 =>
    letV (x110 - (1 : Int32)) fun x111 =>
    letV (wI X 0 30 x111) fun X112 =>
    some (0, X112)
  else some (0, X))
set_option maxHeartbeats 4000000 in
set_option maxRecDepth 100000 in
theorem c_judgeMore (Γ : Gx) (p1 : Int32) (p2 : Int32) (X : St) : TMV YR Γ yX11_judgeMore cX11_judgeMore 3 "BlameCourtModel" none R_judgeMore [.ref (Γ.2.2.2.1 0), .int p1, .int p2] X (f_judgeMore p1 p2 X) := by
  refine TMV.of (by decide) (Nat.le_of_ble_eq_true rfl) rfl ?_
  show T YR Γ cX11_judgeMore 3 "BlameCourtModel" none R_judgeMore _ qV 0 [(0, .ref (Γ.2.2.2.1 0)), (1, .int p1), (2, .int p2)] [] X (f_judgeMore p1 p2 X)
  unfold f_judgeMore
  refine T.aload_n dX11_judgeMore_0 rfl 0 rfl ?_
  refine cR87 k1432 dX11_judgeMore_1 ?_
  refine T.iload_n dX11_judgeMore_4 rfl 1 rfl ?_
  refine alR40 dX11_judgeMore_5 (fun x1 => ?_)
  refine T.ite (fun s2 => ?_) (fun s2 => ?_)
  · refine T.tbl (pc1 := 100) dX11_judgeMore_6 (by decide) (off := 94) (by rw [s2]; rfl) (by decide) ?_
    refine T.aload_n dX11_judgeMore_100 rfl 0 rfl ?_
    refine cR72 k1410 dX11_judgeMore_101 ?_
    refine T.iload_n dX11_judgeMore_104 rfl 2 rfl ?_
    refine alR25 dX11_judgeMore_105 (fun x3 => ?_)
    refine T.if_lt (pc1 := 446) dX11_judgeMore_106 (by decide) ?_ ?_
    · exact T.ret_v rfl dX11_judgeMore_446
    · refine T.aload_n dX11_judgeMore_109 rfl 0 rfl ?_
      refine T.iload_n dX11_judgeMore_110 rfl 1 rfl ?_
      refine T.aload_n dX11_judgeMore_111 rfl 0 rfl ?_
      refine T.aload_n dX11_judgeMore_112 rfl 0 rfl ?_
      refine cR72 k1410 dX11_judgeMore_113 ?_
      refine T.iload_n dX11_judgeMore_116 rfl 2 rfl ?_
      refine alR25 dX11_judgeMore_117 (fun x4 => ?_)
      refine T.callV_i 0 (As1 := [.int x4]) (rest := [.int p1, .ref (Γ.2.2.2.1 0)]) (c_toldKind Γ x4 X) ka_X11_toldKind kv_X11_toldKind oR rfl k2056 rfl rfl rfl rfl ⟨Nat.le_of_ble_eq_true rfl, Nat.le_of_ble_eq_true rfl⟩ (Nat.le_of_ble_eq_true rfl) dX11_judgeMore_118 (fun x5 X6 => ?_)
      refine T.aload_n dX11_judgeMore_121 rfl 0 rfl ?_
      refine cR68 k1406 dX11_judgeMore_122 ?_
      refine T.aload_n dX11_judgeMore_125 rfl 0 rfl ?_
      refine cR70 k1408 dX11_judgeMore_126 ?_
      refine T.iload_n dX11_judgeMore_129 rfl 2 rfl ?_
      refine alR23 dX11_judgeMore_130 (fun x7 => ?_)
      refine alR21 dX11_judgeMore_131 (fun x8 => ?_)
      refine T.aload_n dX11_judgeMore_132 rfl 0 rfl ?_
      refine gR29 k1452 dX11_judgeMore_133 (fun x9 => ?_)
      refine T.callV_v 0 (As1 := [.int p1, .int x5, .int x8, .int x9]) (rest := []) (c_must Γ p1 x5 x8 x9 X6) ka_X11_must kv_X11_must oR rfl k2020 rfl rfl rfl rfl ⟨Nat.le_of_ble_eq_true rfl, Nat.le_of_ble_eq_true rfl⟩ (Nat.le_of_ble_eq_true rfl) dX11_judgeMore_136 (fun _ X10 => ?_)
      refine T.aload_n dX11_judgeMore_139 rfl 0 rfl ?_
      refine cR104 k1451 dX11_judgeMore_140 ?_
      refine T.aload_n dX11_judgeMore_143 rfl 0 rfl ?_
      refine gR29 k1452 dX11_judgeMore_144 (fun x11 => ?_)
      refine T.aload_n dX11_judgeMore_147 rfl 0 rfl ?_
      refine cR104 k1451 dX11_judgeMore_148 ?_
      refine T.aload_n dX11_judgeMore_151 rfl 0 rfl ?_
      refine gR29 k1452 dX11_judgeMore_152 (fun x12 => ?_)
      refine alR57 dX11_judgeMore_155 (fun x13 => ?_)
      refine T.if_ne (pc1 := 177) dX11_judgeMore_156 (by decide) ?_ ?_
      · refine T.sub [] rfl ?_
        exact c_judgeMore_177 Γ _ x11 X10
      · refine T.aload_n dX11_judgeMore_159 rfl 0 rfl ?_
        refine cR55 k1388 dX11_judgeMore_160 ?_
        refine T.aload_n dX11_judgeMore_163 rfl 0 rfl ?_
        refine T.aload_n dX11_judgeMore_164 rfl 0 rfl ?_
        refine cR72 k1410 dX11_judgeMore_165 ?_
        refine T.iload_n dX11_judgeMore_168 rfl 2 rfl ?_
        refine alR25 dX11_judgeMore_169 (fun x15 => ?_)
        refine T.callV_i 0 (As1 := [.int x15]) (rest := [.ref (Γ.2.2.2.1 8), .int x11, .ref (Γ.2.2.2.1 57)]) (c_toldKind Γ x15 X10) ka_X11_toldKind kv_X11_toldKind oR rfl k2056 rfl rfl rfl rfl ⟨Nat.le_of_ble_eq_true rfl, Nat.le_of_ble_eq_true rfl⟩ (Nat.le_of_ble_eq_true rfl) dX11_judgeMore_170 (fun x16 X17 => ?_)
        refine alR8 dX11_judgeMore_173 (fun x18 => ?_)
        refine T.if_eq (pc1 := 181) dX11_judgeMore_174 (by decide) ?_ ?_
        · refine T.iconst (w := 0) dX11_judgeMore_181 (by decide) ?_
          refine T.sub [] rfl ?_
          exact c_judgeMore_182 Γ _ (0 : Int32) x11 X17
        · refine T.sub [] rfl ?_
          exact c_judgeMore_177 Γ _ x11 X17
  refine T.ite (fun s19 => ?_) (fun s19 => ?_)
  · refine T.tbl (pc1 := 186) dX11_judgeMore_6 (by decide) (off := 180) (by rw [s19]; rfl) (by decide) ?_
    refine T.aload_n dX11_judgeMore_186 rfl 0 rfl ?_
    refine T.dupr dX11_judgeMore_187 ?_
    refine gR30 k1453 dX11_judgeMore_188 (fun x20 => ?_)
    refine T.iconst (w := 1) dX11_judgeMore_191 (by decide) ?_
    refine T.isub dX11_judgeMore_192 (fun x21 => ?_)
    refine pR30 k1453 dX11_judgeMore_193 (fun X22 => ?_)
    refine T.aload_n dX11_judgeMore_196 rfl 0 rfl ?_
    refine cR106 k1455 dX11_judgeMore_197 ?_
    refine T.aload_n dX11_judgeMore_200 rfl 0 rfl ?_
    refine cR73 k1411 dX11_judgeMore_201 ?_
    refine T.iload_n dX11_judgeMore_204 rfl 2 rfl ?_
    refine alR26 dX11_judgeMore_205 (fun x23 => ?_)
    refine T.aload_n dX11_judgeMore_206 rfl 0 rfl ?_
    refine cR105 k1454 dX11_judgeMore_207 ?_
    refine T.aload_n dX11_judgeMore_210 rfl 0 rfl ?_
    refine gR30 k1453 dX11_judgeMore_211 (fun x24 => ?_)
    refine alR58 dX11_judgeMore_214 (fun x25 => ?_)
    refine asR59 dX11_judgeMore_215 (fun X26 => ?_)
    refine T.goto (pc1 := 446) dX11_judgeMore_216 (by decide) ?_
    exact T.ret_v rfl dX11_judgeMore_446
  refine T.ite (fun s27 => ?_) (fun s27 => ?_)
  · refine T.tbl (pc1 := 219) dX11_judgeMore_6 (by decide) (off := 213) (by rw [s27]; rfl) (by decide) ?_
    refine T.aload_n dX11_judgeMore_219 rfl 0 rfl ?_
    refine T.dupr dX11_judgeMore_220 ?_
    refine gR30 k1453 dX11_judgeMore_221 (fun x28 => ?_)
    refine T.iconst (w := 1) dX11_judgeMore_224 (by decide) ?_
    refine T.isub dX11_judgeMore_225 (fun x29 => ?_)
    refine pR30 k1453 dX11_judgeMore_226 (fun X30 => ?_)
    refine T.goto (pc1 := 446) dX11_judgeMore_229 (by decide) ?_
    exact T.ret_v rfl dX11_judgeMore_446
  refine T.ite (fun s31 => ?_) (fun s31 => ?_)
  · refine T.tbl (pc1 := 232) dX11_judgeMore_6 (by decide) (off := 226) (by rw [s31]; rfl) (by decide) ?_
    refine T.aload_n dX11_judgeMore_232 rfl 0 rfl ?_
    refine T.iload_n dX11_judgeMore_233 rfl 2 rfl ?_
    refine T.callV_v 0 (As1 := [.int p2]) (rest := []) (c_judgeJoin Γ p2 X) ka_X11_judgeJoin kv_X11_judgeJoin oR rfl k2060 rfl rfl rfl rfl ⟨Nat.le_of_ble_eq_true rfl, Nat.le_of_ble_eq_true rfl⟩ (Nat.le_of_ble_eq_true rfl) dX11_judgeMore_234 (fun _ X32 => ?_)
    refine T.goto (pc1 := 446) dX11_judgeMore_237 (by decide) ?_
    exact T.ret_v rfl dX11_judgeMore_446
  refine T.ite (fun s33 => ?_) (fun s33 => ?_)
  · refine T.tbl (pc1 := 240) dX11_judgeMore_6 (by decide) (off := 234) (by rw [s33]; rfl) (by decide) ?_
    refine T.aload_n dX11_judgeMore_240 rfl 0 rfl ?_
    refine T.iload_n dX11_judgeMore_241 rfl 2 rfl ?_
    refine T.callV_v 0 (As1 := [.int p2]) (rest := []) (c_judgeElements Γ p2 X) ka_X11_judgeElements kv_X11_judgeElements oR rfl k2064 rfl rfl rfl rfl ⟨Nat.le_of_ble_eq_true rfl, Nat.le_of_ble_eq_true rfl⟩ (Nat.le_of_ble_eq_true rfl) dX11_judgeMore_242 (fun _ X34 => ?_)
    refine T.goto (pc1 := 446) dX11_judgeMore_245 (by decide) ?_
    exact T.ret_v rfl dX11_judgeMore_446
  refine T.ite (fun s35 => ?_) (fun s35 => ?_)
  · refine T.tbl (pc1 := 248) dX11_judgeMore_6 (by decide) (off := 242) (by rw [s35]; rfl) (by decide) ?_
    refine T.aload_n dX11_judgeMore_248 rfl 0 rfl ?_
    refine T.dupr dX11_judgeMore_249 ?_
    refine gR30 k1453 dX11_judgeMore_250 (fun x36 => ?_)
    refine T.iconst (w := 2) dX11_judgeMore_253 (by decide) ?_
    refine T.isub dX11_judgeMore_254 (fun x37 => ?_)
    refine pR30 k1453 dX11_judgeMore_255 (fun X38 => ?_)
    refine T.aload_n dX11_judgeMore_258 rfl 0 rfl ?_
    refine T.aload_n dX11_judgeMore_259 rfl 0 rfl ?_
    refine T.aload_n dX11_judgeMore_260 rfl 0 rfl ?_
    refine cR105 k1454 dX11_judgeMore_261 ?_
    refine T.aload_n dX11_judgeMore_264 rfl 0 rfl ?_
    refine gR30 k1453 dX11_judgeMore_265 (fun x39 => ?_)
    refine T.iconst (w := 1) dX11_judgeMore_268 (by decide) ?_
    refine T.iadd dX11_judgeMore_269 (fun x40 => ?_)
    refine alR58 dX11_judgeMore_270 (fun x41 => ?_)
    refine T.callV_i 0 (As1 := [.int x41]) (rest := [.ref (Γ.2.2.2.1 0)]) (c_rowOf Γ x41 X38) ka_X11_rowOf kv_X11_rowOf oR rfl k1852 rfl rfl rfl rfl ⟨Nat.le_of_ble_eq_true rfl, Nat.le_of_ble_eq_true rfl⟩ (Nat.le_of_ble_eq_true rfl) dX11_judgeMore_271 (fun x42 X43 => ?_)
    refine T.callV_v 0 (As1 := [.int x42]) (rest := []) (c_push Γ x42 X43) ka_X11_push kv_X11_push oR rfl k2012 rfl rfl rfl rfl ⟨Nat.le_of_ble_eq_true rfl, Nat.le_of_ble_eq_true rfl⟩ (Nat.le_of_ble_eq_true rfl) dX11_judgeMore_274 (fun _ X44 => ?_)
    refine T.goto (pc1 := 446) dX11_judgeMore_277 (by decide) ?_
    exact T.ret_v rfl dX11_judgeMore_446
  refine T.ite (fun s45 => ?_) (fun s45 => ?_)
  · refine T.tbl (pc1 := 280) dX11_judgeMore_6 (by decide) (off := 274) (by rw [s45]; rfl) (by decide) ?_
    refine T.aload_n dX11_judgeMore_280 rfl 0 rfl ?_
    refine T.dupr dX11_judgeMore_281 ?_
    refine gR30 k1453 dX11_judgeMore_282 (fun x46 => ?_)
    refine T.iconst (w := 1) dX11_judgeMore_285 (by decide) ?_
    refine T.isub dX11_judgeMore_286 (fun x47 => ?_)
    refine pR30 k1453 dX11_judgeMore_287 (fun X48 => ?_)
    refine T.aload_n dX11_judgeMore_290 rfl 0 rfl ?_
    refine T.iconst (w := 0) dX11_judgeMore_291 (by decide) ?_
    refine T.callV_v 0 (As1 := [.int 0]) (rest := []) (c_push Γ (0 : Int32) X48) ka_X11_push kv_X11_push oR rfl k2012 rfl rfl rfl rfl ⟨Nat.le_of_ble_eq_true rfl, Nat.le_of_ble_eq_true rfl⟩ (Nat.le_of_ble_eq_true rfl) dX11_judgeMore_292 (fun _ X49 => ?_)
    refine T.goto (pc1 := 446) dX11_judgeMore_295 (by decide) ?_
    exact T.ret_v rfl dX11_judgeMore_446
  refine T.ite (fun s50 => ?_) (fun s50 => ?_)
  · refine T.tbl (pc1 := 280) dX11_judgeMore_6 (by decide) (off := 274) (by rw [s50]; rfl) (by decide) ?_
    refine T.aload_n dX11_judgeMore_280 rfl 0 rfl ?_
    refine T.dupr dX11_judgeMore_281 ?_
    refine gR30 k1453 dX11_judgeMore_282 (fun x51 => ?_)
    refine T.iconst (w := 1) dX11_judgeMore_285 (by decide) ?_
    refine T.isub dX11_judgeMore_286 (fun x52 => ?_)
    refine pR30 k1453 dX11_judgeMore_287 (fun X53 => ?_)
    refine T.aload_n dX11_judgeMore_290 rfl 0 rfl ?_
    refine T.iconst (w := 0) dX11_judgeMore_291 (by decide) ?_
    refine T.callV_v 0 (As1 := [.int 0]) (rest := []) (c_push Γ (0 : Int32) X53) ka_X11_push kv_X11_push oR rfl k2012 rfl rfl rfl rfl ⟨Nat.le_of_ble_eq_true rfl, Nat.le_of_ble_eq_true rfl⟩ (Nat.le_of_ble_eq_true rfl) dX11_judgeMore_292 (fun _ X54 => ?_)
    refine T.goto (pc1 := 446) dX11_judgeMore_295 (by decide) ?_
    exact T.ret_v rfl dX11_judgeMore_446
  refine T.ite (fun s55 => ?_) (fun s55 => ?_)
  · refine T.tbl (pc1 := 280) dX11_judgeMore_6 (by decide) (off := 274) (by rw [s55]; rfl) (by decide) ?_
    refine T.aload_n dX11_judgeMore_280 rfl 0 rfl ?_
    refine T.dupr dX11_judgeMore_281 ?_
    refine gR30 k1453 dX11_judgeMore_282 (fun x56 => ?_)
    refine T.iconst (w := 1) dX11_judgeMore_285 (by decide) ?_
    refine T.isub dX11_judgeMore_286 (fun x57 => ?_)
    refine pR30 k1453 dX11_judgeMore_287 (fun X58 => ?_)
    refine T.aload_n dX11_judgeMore_290 rfl 0 rfl ?_
    refine T.iconst (w := 0) dX11_judgeMore_291 (by decide) ?_
    refine T.callV_v 0 (As1 := [.int 0]) (rest := []) (c_push Γ (0 : Int32) X58) ka_X11_push kv_X11_push oR rfl k2012 rfl rfl rfl rfl ⟨Nat.le_of_ble_eq_true rfl, Nat.le_of_ble_eq_true rfl⟩ (Nat.le_of_ble_eq_true rfl) dX11_judgeMore_292 (fun _ X59 => ?_)
    refine T.goto (pc1 := 446) dX11_judgeMore_295 (by decide) ?_
    exact T.ret_v rfl dX11_judgeMore_446
  refine T.ite (fun s60 => ?_) (fun s60 => ?_)
  · refine T.tbl (pc1 := 298) dX11_judgeMore_6 (by decide) (off := 292) (by rw [s60]; rfl) (by decide) ?_
    refine T.aload_n dX11_judgeMore_298 rfl 0 rfl ?_
    refine T.dupr dX11_judgeMore_299 ?_
    refine gR30 k1453 dX11_judgeMore_300 (fun x61 => ?_)
    refine T.iconst (w := 1) dX11_judgeMore_303 (by decide) ?_
    refine T.isub dX11_judgeMore_304 (fun x62 => ?_)
    refine pR30 k1453 dX11_judgeMore_305 (fun X63 => ?_)
    refine T.aload_n dX11_judgeMore_308 rfl 0 rfl ?_
    refine T.iconst (w := 1) dX11_judgeMore_309 (by decide) ?_
    refine T.callV_v 0 (As1 := [.int 1]) (rest := []) (c_push Γ (1 : Int32) X63) ka_X11_push kv_X11_push oR rfl k2012 rfl rfl rfl rfl ⟨Nat.le_of_ble_eq_true rfl, Nat.le_of_ble_eq_true rfl⟩ (Nat.le_of_ble_eq_true rfl) dX11_judgeMore_310 (fun _ X64 => ?_)
    refine T.goto (pc1 := 446) dX11_judgeMore_313 (by decide) ?_
    exact T.ret_v rfl dX11_judgeMore_446
  refine T.ite (fun s65 => ?_) (fun s65 => ?_)
  · refine T.tbl (pc1 := 316) dX11_judgeMore_6 (by decide) (off := 310) (by rw [s65]; rfl) (by decide) ?_
    refine T.aload_n dX11_judgeMore_316 rfl 0 rfl ?_
    refine T.dupr dX11_judgeMore_317 ?_
    refine gR30 k1453 dX11_judgeMore_318 (fun x66 => ?_)
    refine T.iconst (w := 2) dX11_judgeMore_321 (by decide) ?_
    refine T.isub dX11_judgeMore_322 (fun x67 => ?_)
    refine pR30 k1453 dX11_judgeMore_323 (fun X68 => ?_)
    refine T.aload_n dX11_judgeMore_326 rfl 0 rfl ?_
    refine T.aload_n dX11_judgeMore_327 rfl 0 rfl ?_
    refine cR87 k1432 dX11_judgeMore_328 ?_
    refine T.iload_n dX11_judgeMore_331 rfl 1 rfl ?_
    refine alR40 dX11_judgeMore_332 (fun x69 => ?_)
    refine T.bipush (w := 24) dX11_judgeMore_333 (by decide) ?_
    refine T.icmp_ne (pc1 := 342) dX11_judgeMore_335 (by decide) rfl ?_ ?_
    · refine T.iconst (w := 1) dX11_judgeMore_342 (by decide) ?_
      refine T.sub [] rfl ?_
      exact c_judgeMore_343 Γ _ (1 : Int32) X68
    · refine T.iconst (w := 0) dX11_judgeMore_338 (by decide) ?_
      refine T.goto (pc1 := 343) dX11_judgeMore_339 (by decide) ?_
      refine T.sub [] rfl ?_
      exact c_judgeMore_343 Γ _ (0 : Int32) X68
  refine T.ite (fun s71 => ?_) (fun s71 => ?_)
  · refine T.tbl (pc1 := 316) dX11_judgeMore_6 (by decide) (off := 310) (by rw [s71]; rfl) (by decide) ?_
    refine T.aload_n dX11_judgeMore_316 rfl 0 rfl ?_
    refine T.dupr dX11_judgeMore_317 ?_
    refine gR30 k1453 dX11_judgeMore_318 (fun x72 => ?_)
    refine T.iconst (w := 2) dX11_judgeMore_321 (by decide) ?_
    refine T.isub dX11_judgeMore_322 (fun x73 => ?_)
    refine pR30 k1453 dX11_judgeMore_323 (fun X74 => ?_)
    refine T.aload_n dX11_judgeMore_326 rfl 0 rfl ?_
    refine T.aload_n dX11_judgeMore_327 rfl 0 rfl ?_
    refine cR87 k1432 dX11_judgeMore_328 ?_
    refine T.iload_n dX11_judgeMore_331 rfl 1 rfl ?_
    refine alR40 dX11_judgeMore_332 (fun x75 => ?_)
    refine T.bipush (w := 24) dX11_judgeMore_333 (by decide) ?_
    refine T.icmp_ne (pc1 := 342) dX11_judgeMore_335 (by decide) rfl ?_ ?_
    · refine T.iconst (w := 1) dX11_judgeMore_342 (by decide) ?_
      refine T.sub [] rfl ?_
      exact c_judgeMore_343 Γ _ (1 : Int32) X74
    · refine T.iconst (w := 0) dX11_judgeMore_338 (by decide) ?_
      refine T.goto (pc1 := 343) dX11_judgeMore_339 (by decide) ?_
      refine T.sub [] rfl ?_
      exact c_judgeMore_343 Γ _ (0 : Int32) X74
  refine T.ite (fun s76 => ?_) (fun s76 => ?_)
  · refine T.tbl (pc1 := 349) dX11_judgeMore_6 (by decide) (off := 343) (by rw [s76]; rfl) (by decide) ?_
    refine T.aload_n dX11_judgeMore_349 rfl 0 rfl ?_
    refine T.dupr dX11_judgeMore_350 ?_
    refine gR30 k1453 dX11_judgeMore_351 (fun x77 => ?_)
    refine T.iconst (w := 2) dX11_judgeMore_354 (by decide) ?_
    refine T.isub dX11_judgeMore_355 (fun x78 => ?_)
    refine pR30 k1453 dX11_judgeMore_356 (fun X79 => ?_)
    refine T.aload_n dX11_judgeMore_359 rfl 0 rfl ?_
    refine T.aload_n dX11_judgeMore_360 rfl 0 rfl ?_
    refine T.aload_n dX11_judgeMore_361 rfl 0 rfl ?_
    refine cR105 k1454 dX11_judgeMore_362 ?_
    refine T.aload_n dX11_judgeMore_365 rfl 0 rfl ?_
    refine gR30 k1453 dX11_judgeMore_366 (fun x80 => ?_)
    refine alR58 dX11_judgeMore_369 (fun x81 => ?_)
    refine T.callV_i 0 (As1 := [.int x81]) (rest := [.ref (Γ.2.2.2.1 0)]) (c_elementOf Γ x81 X79) ka_X11_elementOf kv_X11_elementOf oR rfl k2048 rfl rfl rfl rfl ⟨Nat.le_of_ble_eq_true rfl, Nat.le_of_ble_eq_true rfl⟩ (Nat.le_of_ble_eq_true rfl) dX11_judgeMore_370 (fun x82 X83 => ?_)
    refine T.callV_v 0 (As1 := [.int x82]) (rest := []) (c_push Γ x82 X83) ka_X11_push kv_X11_push oR rfl k2012 rfl rfl rfl rfl ⟨Nat.le_of_ble_eq_true rfl, Nat.le_of_ble_eq_true rfl⟩ (Nat.le_of_ble_eq_true rfl) dX11_judgeMore_373 (fun _ X84 => ?_)
    refine T.goto (pc1 := 446) dX11_judgeMore_376 (by decide) ?_
    exact T.ret_v rfl dX11_judgeMore_446
  refine T.ite (fun s85 => ?_) (fun s85 => ?_)
  · refine T.tbl (pc1 := 379) dX11_judgeMore_6 (by decide) (off := 373) (by rw [s85]; rfl) (by decide) ?_
    refine T.aload_n dX11_judgeMore_379 rfl 0 rfl ?_
    refine T.dupr dX11_judgeMore_380 ?_
    refine gR30 k1453 dX11_judgeMore_381 (fun x86 => ?_)
    refine T.iconst (w := 3) dX11_judgeMore_384 (by decide) ?_
    refine T.isub dX11_judgeMore_385 (fun x87 => ?_)
    refine pR30 k1453 dX11_judgeMore_386 (fun X88 => ?_)
    refine T.aload_n dX11_judgeMore_389 rfl 0 rfl ?_
    refine T.aload_n dX11_judgeMore_390 rfl 0 rfl ?_
    refine T.aload_n dX11_judgeMore_391 rfl 0 rfl ?_
    refine cR105 k1454 dX11_judgeMore_392 ?_
    refine T.aload_n dX11_judgeMore_395 rfl 0 rfl ?_
    refine gR30 k1453 dX11_judgeMore_396 (fun x89 => ?_)
    refine alR58 dX11_judgeMore_399 (fun x90 => ?_)
    refine T.callV_i 0 (As1 := [.int x90]) (rest := [.ref (Γ.2.2.2.1 0)]) (c_elementOf Γ x90 X88) ka_X11_elementOf kv_X11_elementOf oR rfl k2048 rfl rfl rfl rfl ⟨Nat.le_of_ble_eq_true rfl, Nat.le_of_ble_eq_true rfl⟩ (Nat.le_of_ble_eq_true rfl) dX11_judgeMore_400 (fun x91 X92 => ?_)
    refine T.callV_v 0 (As1 := [.int x91]) (rest := []) (c_push Γ x91 X92) ka_X11_push kv_X11_push oR rfl k2012 rfl rfl rfl rfl ⟨Nat.le_of_ble_eq_true rfl, Nat.le_of_ble_eq_true rfl⟩ (Nat.le_of_ble_eq_true rfl) dX11_judgeMore_403 (fun _ X93 => ?_)
    refine T.goto (pc1 := 446) dX11_judgeMore_406 (by decide) ?_
    exact T.ret_v rfl dX11_judgeMore_446
  refine T.ite (fun s94 => ?_) (fun s94 => ?_)
  · refine T.tbl (pc1 := 409) dX11_judgeMore_6 (by decide) (off := 403) (by rw [s94]; rfl) (by decide) ?_
    refine T.aload_n dX11_judgeMore_409 rfl 0 rfl ?_
    refine T.dupr dX11_judgeMore_410 ?_
    refine gR30 k1453 dX11_judgeMore_411 (fun x95 => ?_)
    refine T.aload_n dX11_judgeMore_414 rfl 0 rfl ?_
    refine cR74 k1412 dX11_judgeMore_415 ?_
    refine T.iload_n dX11_judgeMore_418 rfl 2 rfl ?_
    refine alR27 dX11_judgeMore_419 (fun x96 => ?_)
    refine T.iconst (w := 1) dX11_judgeMore_420 (by decide) ?_
    refine T.iadd dX11_judgeMore_421 (fun x97 => ?_)
    refine T.isub dX11_judgeMore_422 (fun x98 => ?_)
    refine pR30 k1453 dX11_judgeMore_423 (fun X99 => ?_)
    refine T.aload_n dX11_judgeMore_426 rfl 0 rfl ?_
    refine T.aload_n dX11_judgeMore_427 rfl 0 rfl ?_
    refine T.aload_n dX11_judgeMore_428 rfl 0 rfl ?_
    refine cR105 k1454 dX11_judgeMore_429 ?_
    refine T.aload_n dX11_judgeMore_432 rfl 0 rfl ?_
    refine gR30 k1453 dX11_judgeMore_433 (fun x100 => ?_)
    refine alR58 dX11_judgeMore_436 (fun x101 => ?_)
    refine T.callV_i 0 (As1 := [.int x101]) (rest := [.ref (Γ.2.2.2.1 0)]) (c_resultOf Γ x101 X99) ka_X11_resultOf kv_X11_resultOf oR rfl k2068 rfl rfl rfl rfl ⟨Nat.le_of_ble_eq_true rfl, Nat.le_of_ble_eq_true rfl⟩ (Nat.le_of_ble_eq_true rfl) dX11_judgeMore_437 (fun x102 X103 => ?_)
    refine T.callV_v 0 (As1 := [.int x102]) (rest := []) (c_push Γ x102 X103) ka_X11_push kv_X11_push oR rfl k2012 rfl rfl rfl rfl ⟨Nat.le_of_ble_eq_true rfl, Nat.le_of_ble_eq_true rfl⟩ (Nat.le_of_ble_eq_true rfl) dX11_judgeMore_440 (fun _ X104 => ?_)
    refine T.goto (pc1 := 446) dX11_judgeMore_443 (by decide) ?_
    exact T.ret_v rfl dX11_judgeMore_446
  refine T.ite (fun s105 => ?_) (fun s105 => ?_)
  · refine T.tbl (pc1 := 219) dX11_judgeMore_6 (by decide) (off := 213) (by rw [s105]; rfl) (by decide) ?_
    refine T.aload_n dX11_judgeMore_219 rfl 0 rfl ?_
    refine T.dupr dX11_judgeMore_220 ?_
    refine gR30 k1453 dX11_judgeMore_221 (fun x106 => ?_)
    refine T.iconst (w := 1) dX11_judgeMore_224 (by decide) ?_
    refine T.isub dX11_judgeMore_225 (fun x107 => ?_)
    refine pR30 k1453 dX11_judgeMore_226 (fun X108 => ?_)
    refine T.goto (pc1 := 446) dX11_judgeMore_229 (by decide) ?_
    exact T.ret_v rfl dX11_judgeMore_446
  refine T.ite (fun s109 => ?_) (fun s109 => ?_)
  · refine T.tbl (pc1 := 219) dX11_judgeMore_6 (by decide) (off := 213) (by rw [s109]; rfl) (by decide) ?_
    refine T.aload_n dX11_judgeMore_219 rfl 0 rfl ?_
    refine T.dupr dX11_judgeMore_220 ?_
    refine gR30 k1453 dX11_judgeMore_221 (fun x110 => ?_)
    refine T.iconst (w := 1) dX11_judgeMore_224 (by decide) ?_
    refine T.isub dX11_judgeMore_225 (fun x111 => ?_)
    refine pR30 k1453 dX11_judgeMore_226 (fun X112 => ?_)
    refine T.goto (pc1 := 446) dX11_judgeMore_229 (by decide) ?_
    exact T.ret_v rfl dX11_judgeMore_446
  refine T.tbl (pc1 := 446) dX11_judgeMore_6 (by decide) (off := 440) (tbl_d [12, 13, 15, 17, 18, 19, 20, 21, 22, 23, 24, 25, 26, 27, 28, 29, 31] (by intro q; simp only [List.mem_cons, List.not_mem_nil, or_false] at q; omega) (by decide)) (by decide) ?_
  exact T.ret_v rfl dX11_judgeMore_446
abbrev R_judgeOne : Room := { frames := 22, cells := 0, slots := 0, locals := 330 }
noncomputable def f_judgeOne_317 (a1 : Int32) (a2 : Int32) (a4 : Int32) (b0 : Int32) (X : St) : Option (Int32 × St) :=
  letV (X.1 0 30) fun x39 =>
  letV (x39 - (2 : Int32)) fun x40 =>
  letV (x40 - a4) fun x41 =>
  chk (inR x41 3200) (letV (X.1 58 (ix x41)) fun x42 =>
  bnd (f_paramOf x42 a4 X) fun x43 X44 =>
  chk (inR a2 3100) (letV (X44.1 21 (ix a2)) fun x45 =>
  bnd (f_must a1 x43 x45 b0 X44) fun _ X46 =>
  some (0, X46)))
set_option maxHeartbeats 4000000 in
set_option maxRecDepth 100000 in
theorem c_judgeOne_317 (Γ : Gx) (As : List Value) (a1 : Int32) (a2 : Int32) (a4 : Int32) (b0 : Int32) (X : St) : T YR Γ cX11_judgeOne 6 "BlameCourtModel" none R_judgeOne As qV 317 [(0, .ref (Γ.2.2.2.1 0)), (1, .int a1), (2, .int a2), (4, .int a4)] [.int b0] X (f_judgeOne_317 a1 a2 a4 b0 X) := by
  unfold f_judgeOne_317
  refine T.istore (lv1 := [(5, .int b0), (0, .ref (Γ.2.2.2.1 0)), (1, .int a1), (2, .int a2), (4, .int a4)]) dX11_judgeOne_317 (by decide) rfl ?_
  refine T.aload_n dX11_judgeOne_319 rfl 1 rfl ?_
  refine T.iload_n dX11_judgeOne_320 rfl 2 rfl ?_
  refine T.aload_n dX11_judgeOne_321 rfl 1 rfl ?_
  refine T.aload_n dX11_judgeOne_322 rfl 1 rfl ?_
  refine cR105 k1454 dX11_judgeOne_323 ?_
  refine T.aload_n dX11_judgeOne_326 rfl 1 rfl ?_
  refine gR30 k1453 dX11_judgeOne_327 (fun x39 => ?_)
  refine T.iconst (w := 2) dX11_judgeOne_330 (by decide) ?_
  refine T.isub dX11_judgeOne_331 (fun x40 => ?_)
  refine T.iload dX11_judgeOne_332 4 rfl ?_
  refine T.isub dX11_judgeOne_334 (fun x41 => ?_)
  refine alR58 dX11_judgeOne_335 (fun x42 => ?_)
  refine T.iload dX11_judgeOne_336 4 rfl ?_
  refine T.callV_i 0 (As1 := [.int x42, .int a4]) (rest := [.int a1, .ref (Γ.2.2.2.1 0)]) (c_paramOf Γ x42 a4 X) ka_X11_paramOf kv_X11_paramOf oR rfl k2044 rfl rfl rfl rfl ⟨Nat.le_of_ble_eq_true rfl, Nat.le_of_ble_eq_true rfl⟩ (Nat.le_of_ble_eq_true rfl) dX11_judgeOne_338 (fun x43 X44 => ?_)
  refine T.aload_n dX11_judgeOne_341 rfl 1 rfl ?_
  refine cR68 k1406 dX11_judgeOne_342 ?_
  refine T.iload_n dX11_judgeOne_345 rfl 3 rfl ?_
  refine alR21 dX11_judgeOne_346 (fun x45 => ?_)
  refine T.iload dX11_judgeOne_347 0 rfl ?_
  refine T.callV_v 0 (As1 := [.int a1, .int x43, .int x45, .int b0]) (rest := []) (c_must Γ a1 x43 x45 b0 X44) ka_X11_must kv_X11_must oR rfl k2020 rfl rfl rfl rfl ⟨Nat.le_of_ble_eq_true rfl, Nat.le_of_ble_eq_true rfl⟩ (Nat.le_of_ble_eq_true rfl) dX11_judgeOne_349 (fun _ X46 => ?_)
  refine T.goto (pc1 := 427) dX11_judgeOne_352 (by decide) ?_
  exact T.ret_v rfl dX11_judgeOne_427
noncomputable def f_judgeOne (p1 : Int32) (p2 : Int32) (X : St) : Option (Int32 × St) :=
  chk (inR p1 24000) (letV (X.1 40 (ix p1)) fun x1 =>
  if x1.toInt = 1 then
    bnd (f_push (0 : Int32) X) fun _ X3 =>
    some (0, X3)
  else if x1.toInt = 2 then
    bnd (f_push (1 : Int32) X) fun _ X5 =>
    some (0, X5)
  else if x1.toInt = 3 then
    chk (inR p2 3100) (letV (X.1 26 (ix p2)) fun x7 =>
    chk (inR x7 60) (letV (X.1 59 (ix x7)) fun x8 =>
    bnd (f_push x8 X) fun _ X9 =>
    some (0, X9)))
  else if x1.toInt = 4 then
    chk (inR p2 3100) (letV (X.1 26 (ix p2)) fun x11 =>
    bnd (f_functionOf x11 X) fun x12 X13 =>
    bnd (f_push x12 X13) fun _ X14 =>
    some (0, X14))
  else if x1.toInt = 5 then
    chk (inR p2 3100) (letV (X.1 21 (ix p2)) fun x16 =>
    letV (X.1 0 29) fun x17 =>
    bnd (f_must p1 (0 : Int32) x16 x17 X) fun _ X18 =>
    some (0, X18))
  else if x1.toInt = 6 then
    chk (inR p2 3100) (letV (X.1 21 (ix p2)) fun x20 =>
    letV (X.1 0 29) fun x21 =>
    bnd (f_must p1 (1 : Int32) x20 x21 X) fun _ X22 =>
    some (0, X22))
  else if x1.toInt = 7 then
    bnd (f_judgeCallee p1 p2 X) fun _ X24 =>
    some (0, X24)
  else if x1.toInt = 8 then
    chk (inR p2 3100) (letV (X.1 22 (ix p2)) fun x26 =>
    bnd (f_judgeRow p1 x26 X) fun _ X27 =>
    some (0, X27))
  else if x1.toInt = 9 then
    chk (inR p2 3100) (letV (X.1 21 (ix p2)) fun x29 =>
    bnd (f_judgeRow p1 x29 X) fun _ X30 =>
    some (0, X30))
  else if x1.toInt = 10 then
    chk (inR p2 3100) (letV (X.1 51 (ix p2)) fun x32 =>
    chk (inR p1 24000) (letV (X.1 42 (ix p1)) fun x33 =>
    letV (x33 / (8 : Int32)) fun x34 =>
    chk (inR x32 3100) (letV (X.1 23 (ix x32)) fun x36 =>
    chk (inR x36 3100) (letV (X.1 20 (ix x36)) fun x37 =>
    if x37.toInt = 3 then
      chk (inR x32 3100) (letV (X.1 23 (ix x32)) fun x47 =>
      chk (inR x47 3100) (letV (X.1 26 (ix x47)) fun x48 =>
      f_judgeOne_317 p1 p2 x34 x48 X))
    else
      letV (X.1 0 29) fun x38 =>
      f_judgeOne_317 p1 p2 x34 x38 X))))
  else if x1.toInt = 11 then
    letV (X.1 0 30) fun x50 =>
    letV (x50 - (3 : Int32)) fun x51 =>
    chk (inR x51 3200) (letV (X.1 58 (ix x51)) fun x52 =>
    bnd (f_elementOf x52 X) fun x53 X54 =>
    chk (inR p2 3100) (letV (X54.1 25 (ix p2)) fun x55 =>
    chk (inR x55 3100) (letV (X54.1 21 (ix x55)) fun x56 =>
    letV (X54.1 0 29) fun x57 =>
    bnd (f_must p1 x53 x56 x57 X54) fun _ X58 =>
    some (0, X58))))
  else if x1.toInt = 30 then
    bnd (f_ownKindOf p2 X) fun x60 X61 =>
    chk (inR p2 41) (letV (X61.1 18 (ix p2)) fun x62 =>
    chk (inR x62 3100) (letV (X61.1 21 (ix x62)) fun x63 =>
    letV (X61.1 0 29) fun x64 =>
    bnd (f_must p1 x60 x63 x64 X61) fun _ X65 =>
    some (0, X65)))
  else bnd (f_judgeMore p1 p2 X) fun _ X66 =>
  some (0, X66))
set_option maxHeartbeats 4000000 in
set_option maxRecDepth 100000 in
theorem c_judgeOne (Γ : Gx) (p1 : Int32) (p2 : Int32) (X : St) : TMV YR Γ yX11_judgeOne cX11_judgeOne 6 "BlameCourtModel" none R_judgeOne [.ref (Γ.2.2.2.1 0), .int p1, .int p2] X (f_judgeOne p1 p2 X) := by
  refine TMV.of (by decide) (Nat.le_of_ble_eq_true rfl) rfl ?_
  show T YR Γ cX11_judgeOne 6 "BlameCourtModel" none R_judgeOne _ qV 0 [(0, .ref (Γ.2.2.2.1 0)), (1, .int p1), (2, .int p2)] [] X (f_judgeOne p1 p2 X)
  unfold f_judgeOne
  refine T.aload_n dX11_judgeOne_0 rfl 0 rfl ?_
  refine cR87 k1432 dX11_judgeOne_1 ?_
  refine T.iload_n dX11_judgeOne_4 rfl 1 rfl ?_
  refine alR40 dX11_judgeOne_5 (fun x1 => ?_)
  refine T.ite (fun s2 => ?_) (fun s2 => ?_)
  · refine T.tbl (pc1 := 140) dX11_judgeOne_6 (by decide) (off := 134) (by rw [s2]; rfl) (by decide) ?_
    refine T.aload_n dX11_judgeOne_140 rfl 0 rfl ?_
    refine T.iconst (w := 0) dX11_judgeOne_141 (by decide) ?_
    refine T.callV_v 0 (As1 := [.int 0]) (rest := []) (c_push Γ (0 : Int32) X) ka_X11_push kv_X11_push oR rfl k2012 rfl rfl rfl rfl ⟨Nat.le_of_ble_eq_true rfl, Nat.le_of_ble_eq_true rfl⟩ (Nat.le_of_ble_eq_true rfl) dX11_judgeOne_142 (fun _ X3 => ?_)
    refine T.goto (pc1 := 427) dX11_judgeOne_145 (by decide) ?_
    exact T.ret_v rfl dX11_judgeOne_427
  refine T.ite (fun s4 => ?_) (fun s4 => ?_)
  · refine T.tbl (pc1 := 148) dX11_judgeOne_6 (by decide) (off := 142) (by rw [s4]; rfl) (by decide) ?_
    refine T.aload_n dX11_judgeOne_148 rfl 0 rfl ?_
    refine T.iconst (w := 1) dX11_judgeOne_149 (by decide) ?_
    refine T.callV_v 0 (As1 := [.int 1]) (rest := []) (c_push Γ (1 : Int32) X) ka_X11_push kv_X11_push oR rfl k2012 rfl rfl rfl rfl ⟨Nat.le_of_ble_eq_true rfl, Nat.le_of_ble_eq_true rfl⟩ (Nat.le_of_ble_eq_true rfl) dX11_judgeOne_150 (fun _ X5 => ?_)
    refine T.goto (pc1 := 427) dX11_judgeOne_153 (by decide) ?_
    exact T.ret_v rfl dX11_judgeOne_427
  refine T.ite (fun s6 => ?_) (fun s6 => ?_)
  · refine T.tbl (pc1 := 156) dX11_judgeOne_6 (by decide) (off := 150) (by rw [s6]; rfl) (by decide) ?_
    refine T.aload_n dX11_judgeOne_156 rfl 0 rfl ?_
    refine T.aload_n dX11_judgeOne_157 rfl 0 rfl ?_
    refine cR106 k1455 dX11_judgeOne_158 ?_
    refine T.aload_n dX11_judgeOne_161 rfl 0 rfl ?_
    refine cR73 k1411 dX11_judgeOne_162 ?_
    refine T.iload_n dX11_judgeOne_165 rfl 2 rfl ?_
    refine alR26 dX11_judgeOne_166 (fun x7 => ?_)
    refine alR59 dX11_judgeOne_167 (fun x8 => ?_)
    refine T.callV_v 0 (As1 := [.int x8]) (rest := []) (c_push Γ x8 X) ka_X11_push kv_X11_push oR rfl k2012 rfl rfl rfl rfl ⟨Nat.le_of_ble_eq_true rfl, Nat.le_of_ble_eq_true rfl⟩ (Nat.le_of_ble_eq_true rfl) dX11_judgeOne_168 (fun _ X9 => ?_)
    refine T.goto (pc1 := 427) dX11_judgeOne_171 (by decide) ?_
    exact T.ret_v rfl dX11_judgeOne_427
  refine T.ite (fun s10 => ?_) (fun s10 => ?_)
  · refine T.tbl (pc1 := 174) dX11_judgeOne_6 (by decide) (off := 168) (by rw [s10]; rfl) (by decide) ?_
    refine T.aload_n dX11_judgeOne_174 rfl 0 rfl ?_
    refine T.aload_n dX11_judgeOne_175 rfl 0 rfl ?_
    refine T.aload_n dX11_judgeOne_176 rfl 0 rfl ?_
    refine cR73 k1411 dX11_judgeOne_177 ?_
    refine T.iload_n dX11_judgeOne_180 rfl 2 rfl ?_
    refine alR26 dX11_judgeOne_181 (fun x11 => ?_)
    refine T.callV_i 0 (As1 := [.int x11]) (rest := [.ref (Γ.2.2.2.1 0)]) (c_functionOf Γ x11 X) ka_X11_functionOf kv_X11_functionOf oR rfl k2016 rfl rfl rfl rfl ⟨Nat.le_of_ble_eq_true rfl, Nat.le_of_ble_eq_true rfl⟩ (Nat.le_of_ble_eq_true rfl) dX11_judgeOne_182 (fun x12 X13 => ?_)
    refine T.callV_v 0 (As1 := [.int x12]) (rest := []) (c_push Γ x12 X13) ka_X11_push kv_X11_push oR rfl k2012 rfl rfl rfl rfl ⟨Nat.le_of_ble_eq_true rfl, Nat.le_of_ble_eq_true rfl⟩ (Nat.le_of_ble_eq_true rfl) dX11_judgeOne_185 (fun _ X14 => ?_)
    refine T.goto (pc1 := 427) dX11_judgeOne_188 (by decide) ?_
    exact T.ret_v rfl dX11_judgeOne_427
  refine T.ite (fun s15 => ?_) (fun s15 => ?_)
  · refine T.tbl (pc1 := 191) dX11_judgeOne_6 (by decide) (off := 185) (by rw [s15]; rfl) (by decide) ?_
    refine T.aload_n dX11_judgeOne_191 rfl 0 rfl ?_
    refine T.iload_n dX11_judgeOne_192 rfl 1 rfl ?_
    refine T.iconst (w := 0) dX11_judgeOne_193 (by decide) ?_
    refine T.aload_n dX11_judgeOne_194 rfl 0 rfl ?_
    refine cR68 k1406 dX11_judgeOne_195 ?_
    refine T.iload_n dX11_judgeOne_198 rfl 2 rfl ?_
    refine alR21 dX11_judgeOne_199 (fun x16 => ?_)
    refine T.aload_n dX11_judgeOne_200 rfl 0 rfl ?_
    refine gR29 k1452 dX11_judgeOne_201 (fun x17 => ?_)
    refine T.callV_v 0 (As1 := [.int p1, .int 0, .int x16, .int x17]) (rest := []) (c_must Γ p1 (0 : Int32) x16 x17 X) ka_X11_must kv_X11_must oR rfl k2020 rfl rfl rfl rfl ⟨Nat.le_of_ble_eq_true rfl, Nat.le_of_ble_eq_true rfl⟩ (Nat.le_of_ble_eq_true rfl) dX11_judgeOne_204 (fun _ X18 => ?_)
    refine T.goto (pc1 := 427) dX11_judgeOne_207 (by decide) ?_
    exact T.ret_v rfl dX11_judgeOne_427
  refine T.ite (fun s19 => ?_) (fun s19 => ?_)
  · refine T.tbl (pc1 := 210) dX11_judgeOne_6 (by decide) (off := 204) (by rw [s19]; rfl) (by decide) ?_
    refine T.aload_n dX11_judgeOne_210 rfl 0 rfl ?_
    refine T.iload_n dX11_judgeOne_211 rfl 1 rfl ?_
    refine T.iconst (w := 1) dX11_judgeOne_212 (by decide) ?_
    refine T.aload_n dX11_judgeOne_213 rfl 0 rfl ?_
    refine cR68 k1406 dX11_judgeOne_214 ?_
    refine T.iload_n dX11_judgeOne_217 rfl 2 rfl ?_
    refine alR21 dX11_judgeOne_218 (fun x20 => ?_)
    refine T.aload_n dX11_judgeOne_219 rfl 0 rfl ?_
    refine gR29 k1452 dX11_judgeOne_220 (fun x21 => ?_)
    refine T.callV_v 0 (As1 := [.int p1, .int 1, .int x20, .int x21]) (rest := []) (c_must Γ p1 (1 : Int32) x20 x21 X) ka_X11_must kv_X11_must oR rfl k2020 rfl rfl rfl rfl ⟨Nat.le_of_ble_eq_true rfl, Nat.le_of_ble_eq_true rfl⟩ (Nat.le_of_ble_eq_true rfl) dX11_judgeOne_223 (fun _ X22 => ?_)
    refine T.goto (pc1 := 427) dX11_judgeOne_226 (by decide) ?_
    exact T.ret_v rfl dX11_judgeOne_427
  refine T.ite (fun s23 => ?_) (fun s23 => ?_)
  · refine T.tbl (pc1 := 229) dX11_judgeOne_6 (by decide) (off := 223) (by rw [s23]; rfl) (by decide) ?_
    refine T.aload_n dX11_judgeOne_229 rfl 0 rfl ?_
    refine T.iload_n dX11_judgeOne_230 rfl 1 rfl ?_
    refine T.iload_n dX11_judgeOne_231 rfl 2 rfl ?_
    refine T.callV_v 0 (As1 := [.int p1, .int p2]) (rest := []) (c_judgeCallee Γ p1 p2 X) ka_X11_judgeCallee kv_X11_judgeCallee oR rfl k2032 rfl rfl rfl rfl ⟨Nat.le_of_ble_eq_true rfl, Nat.le_of_ble_eq_true rfl⟩ (Nat.le_of_ble_eq_true rfl) dX11_judgeOne_232 (fun _ X24 => ?_)
    refine T.goto (pc1 := 427) dX11_judgeOne_235 (by decide) ?_
    exact T.ret_v rfl dX11_judgeOne_427
  refine T.ite (fun s25 => ?_) (fun s25 => ?_)
  · refine T.tbl (pc1 := 238) dX11_judgeOne_6 (by decide) (off := 232) (by rw [s25]; rfl) (by decide) ?_
    refine T.aload_n dX11_judgeOne_238 rfl 0 rfl ?_
    refine T.iload_n dX11_judgeOne_239 rfl 1 rfl ?_
    refine T.aload_n dX11_judgeOne_240 rfl 0 rfl ?_
    refine cR69 k1407 dX11_judgeOne_241 ?_
    refine T.iload_n dX11_judgeOne_244 rfl 2 rfl ?_
    refine alR22 dX11_judgeOne_245 (fun x26 => ?_)
    refine T.callV_v 0 (As1 := [.int p1, .int x26]) (rest := []) (c_judgeRow Γ p1 x26 X) ka_X11_judgeRow kv_X11_judgeRow oR rfl k2040 rfl rfl rfl rfl ⟨Nat.le_of_ble_eq_true rfl, Nat.le_of_ble_eq_true rfl⟩ (Nat.le_of_ble_eq_true rfl) dX11_judgeOne_246 (fun _ X27 => ?_)
    refine T.goto (pc1 := 427) dX11_judgeOne_249 (by decide) ?_
    exact T.ret_v rfl dX11_judgeOne_427
  refine T.ite (fun s28 => ?_) (fun s28 => ?_)
  · refine T.tbl (pc1 := 252) dX11_judgeOne_6 (by decide) (off := 246) (by rw [s28]; rfl) (by decide) ?_
    refine T.aload_n dX11_judgeOne_252 rfl 0 rfl ?_
    refine T.iload_n dX11_judgeOne_253 rfl 1 rfl ?_
    refine T.aload_n dX11_judgeOne_254 rfl 0 rfl ?_
    refine cR68 k1406 dX11_judgeOne_255 ?_
    refine T.iload_n dX11_judgeOne_258 rfl 2 rfl ?_
    refine alR21 dX11_judgeOne_259 (fun x29 => ?_)
    refine T.callV_v 0 (As1 := [.int p1, .int x29]) (rest := []) (c_judgeRow Γ p1 x29 X) ka_X11_judgeRow kv_X11_judgeRow oR rfl k2040 rfl rfl rfl rfl ⟨Nat.le_of_ble_eq_true rfl, Nat.le_of_ble_eq_true rfl⟩ (Nat.le_of_ble_eq_true rfl) dX11_judgeOne_260 (fun _ X30 => ?_)
    refine T.goto (pc1 := 427) dX11_judgeOne_263 (by decide) ?_
    exact T.ret_v rfl dX11_judgeOne_427
  refine T.ite (fun s31 => ?_) (fun s31 => ?_)
  · refine T.tbl (pc1 := 266) dX11_judgeOne_6 (by decide) (off := 260) (by rw [s31]; rfl) (by decide) ?_
    refine T.aload_n dX11_judgeOne_266 rfl 0 rfl ?_
    refine cR98 k1444 dX11_judgeOne_267 ?_
    refine T.iload_n dX11_judgeOne_270 rfl 2 rfl ?_
    refine alR51 dX11_judgeOne_271 (fun x32 => ?_)
    refine T.istore_n (lv1 := [(3, .int x32), (0, .ref (Γ.2.2.2.1 0)), (1, .int p1), (2, .int p2)]) dX11_judgeOne_272 rfl (by decide) rfl ?_
    refine T.aload_n dX11_judgeOne_273 rfl 1 rfl ?_
    refine cR89 k1434 dX11_judgeOne_274 ?_
    refine T.iload_n dX11_judgeOne_277 rfl 2 rfl ?_
    refine alR42 dX11_judgeOne_278 (fun x33 => ?_)
    refine T.bipush (w := 8) dX11_judgeOne_279 (by decide) ?_
    refine T.idiv dX11_judgeOne_281 (by decide) (fun x34 => ?_)
    refine T.istore (lv1 := [(4, .int x34), (3, .int x32), (0, .ref (Γ.2.2.2.1 0)), (1, .int p1), (2, .int p2)]) dX11_judgeOne_282 (by decide) rfl ?_
    refine T.aload_n dX11_judgeOne_284 rfl 2 rfl ?_
    refine cR67 k1405 dX11_judgeOne_285 ?_
    refine T.aload_n dX11_judgeOne_288 rfl 2 rfl ?_
    refine cR70 k1408 dX11_judgeOne_289 ?_
    refine T.iload_n dX11_judgeOne_292 rfl 1 rfl ?_
    refine alR23 dX11_judgeOne_293 (fun x36 => ?_)
    refine alR20 dX11_judgeOne_294 (fun x37 => ?_)
    refine T.iconst (w := 3) dX11_judgeOne_295 (by decide) ?_
    refine T.icmp_ne (pc1 := 313) dX11_judgeOne_296 (by decide) rfl ?_ ?_
    · refine T.aload_n dX11_judgeOne_313 rfl 2 rfl ?_
      refine gR29 k1452 dX11_judgeOne_314 (fun x38 => ?_)
      refine T.sub [2, 3, 4, 0] rfl ?_
      exact c_judgeOne_317 Γ _ p1 p2 x34 x38 X
    · refine T.aload_n dX11_judgeOne_299 rfl 2 rfl ?_
      refine cR73 k1411 dX11_judgeOne_300 ?_
      refine T.aload_n dX11_judgeOne_303 rfl 2 rfl ?_
      refine cR70 k1408 dX11_judgeOne_304 ?_
      refine T.iload_n dX11_judgeOne_307 rfl 1 rfl ?_
      refine alR23 dX11_judgeOne_308 (fun x47 => ?_)
      refine alR26 dX11_judgeOne_309 (fun x48 => ?_)
      refine T.goto (pc1 := 317) dX11_judgeOne_310 (by decide) ?_
      refine T.sub [2, 3, 4, 0] rfl ?_
      exact c_judgeOne_317 Γ _ p1 p2 x34 x48 X
  refine T.ite (fun s49 => ?_) (fun s49 => ?_)
  · refine T.tbl (pc1 := 355) dX11_judgeOne_6 (by decide) (off := 349) (by rw [s49]; rfl) (by decide) ?_
    refine T.aload_n dX11_judgeOne_355 rfl 0 rfl ?_
    refine T.iload_n dX11_judgeOne_356 rfl 1 rfl ?_
    refine T.aload_n dX11_judgeOne_357 rfl 0 rfl ?_
    refine T.aload_n dX11_judgeOne_358 rfl 0 rfl ?_
    refine cR105 k1454 dX11_judgeOne_359 ?_
    refine T.aload_n dX11_judgeOne_362 rfl 0 rfl ?_
    refine gR30 k1453 dX11_judgeOne_363 (fun x50 => ?_)
    refine T.iconst (w := 3) dX11_judgeOne_366 (by decide) ?_
    refine T.isub dX11_judgeOne_367 (fun x51 => ?_)
    refine alR58 dX11_judgeOne_368 (fun x52 => ?_)
    refine T.callV_i 0 (As1 := [.int x52]) (rest := [.int p1, .ref (Γ.2.2.2.1 0)]) (c_elementOf Γ x52 X) ka_X11_elementOf kv_X11_elementOf oR rfl k2048 rfl rfl rfl rfl ⟨Nat.le_of_ble_eq_true rfl, Nat.le_of_ble_eq_true rfl⟩ (Nat.le_of_ble_eq_true rfl) dX11_judgeOne_369 (fun x53 X54 => ?_)
    refine T.aload_n dX11_judgeOne_372 rfl 0 rfl ?_
    refine cR68 k1406 dX11_judgeOne_373 ?_
    refine T.aload_n dX11_judgeOne_376 rfl 0 rfl ?_
    refine cR72 k1410 dX11_judgeOne_377 ?_
    refine T.iload_n dX11_judgeOne_380 rfl 2 rfl ?_
    refine alR25 dX11_judgeOne_381 (fun x55 => ?_)
    refine alR21 dX11_judgeOne_382 (fun x56 => ?_)
    refine T.aload_n dX11_judgeOne_383 rfl 0 rfl ?_
    refine gR29 k1452 dX11_judgeOne_384 (fun x57 => ?_)
    refine T.callV_v 0 (As1 := [.int p1, .int x53, .int x56, .int x57]) (rest := []) (c_must Γ p1 x53 x56 x57 X54) ka_X11_must kv_X11_must oR rfl k2020 rfl rfl rfl rfl ⟨Nat.le_of_ble_eq_true rfl, Nat.le_of_ble_eq_true rfl⟩ (Nat.le_of_ble_eq_true rfl) dX11_judgeOne_387 (fun _ X58 => ?_)
    refine T.goto (pc1 := 427) dX11_judgeOne_390 (by decide) ?_
    exact T.ret_v rfl dX11_judgeOne_427
  refine T.ite (fun s59 => ?_) (fun s59 => ?_)
  · refine T.tbl (pc1 := 393) dX11_judgeOne_6 (by decide) (off := 387) (by rw [s59]; rfl) (by decide) ?_
    refine T.aload_n dX11_judgeOne_393 rfl 0 rfl ?_
    refine T.iload_n dX11_judgeOne_394 rfl 1 rfl ?_
    refine T.aload_n dX11_judgeOne_395 rfl 0 rfl ?_
    refine T.iload_n dX11_judgeOne_396 rfl 2 rfl ?_
    refine T.callV_i 0 (As1 := [.int p2]) (rest := [.int p1, .ref (Γ.2.2.2.1 0)]) (c_ownKindOf Γ p2 X) ka_X11_ownKindOf kv_X11_ownKindOf oR rfl k2000 rfl rfl rfl rfl ⟨Nat.le_of_ble_eq_true rfl, Nat.le_of_ble_eq_true rfl⟩ (Nat.le_of_ble_eq_true rfl) dX11_judgeOne_397 (fun x60 X61 => ?_)
    refine T.aload_n dX11_judgeOne_400 rfl 0 rfl ?_
    refine cR68 k1406 dX11_judgeOne_401 ?_
    refine T.aload_n dX11_judgeOne_404 rfl 0 rfl ?_
    refine cR65 k1402 dX11_judgeOne_405 ?_
    refine T.iload_n dX11_judgeOne_408 rfl 2 rfl ?_
    refine alR18 dX11_judgeOne_409 (fun x62 => ?_)
    refine alR21 dX11_judgeOne_410 (fun x63 => ?_)
    refine T.aload_n dX11_judgeOne_411 rfl 0 rfl ?_
    refine gR29 k1452 dX11_judgeOne_412 (fun x64 => ?_)
    refine T.callV_v 0 (As1 := [.int p1, .int x60, .int x63, .int x64]) (rest := []) (c_must Γ p1 x60 x63 x64 X61) ka_X11_must kv_X11_must oR rfl k2020 rfl rfl rfl rfl ⟨Nat.le_of_ble_eq_true rfl, Nat.le_of_ble_eq_true rfl⟩ (Nat.le_of_ble_eq_true rfl) dX11_judgeOne_415 (fun _ X65 => ?_)
    refine T.goto (pc1 := 427) dX11_judgeOne_418 (by decide) ?_
    exact T.ret_v rfl dX11_judgeOne_427
  refine T.tbl (pc1 := 421) dX11_judgeOne_6 (by decide) (off := 415) (tbl_d [1, 2, 3, 4, 5, 6, 7, 8, 9, 10, 11, 30] (by intro q; simp only [List.mem_cons, List.not_mem_nil, or_false] at q; omega) (by decide)) (by decide) ?_
  refine T.aload_n dX11_judgeOne_421 rfl 0 rfl ?_
  refine T.iload_n dX11_judgeOne_422 rfl 1 rfl ?_
  refine T.iload_n dX11_judgeOne_423 rfl 2 rfl ?_
  refine T.callV_v 0 (As1 := [.int p1, .int p2]) (rest := []) (c_judgeMore Γ p1 p2 X) ka_X11_judgeMore kv_X11_judgeMore oR rfl k2052 rfl rfl rfl rfl ⟨Nat.le_of_ble_eq_true rfl, Nat.le_of_ble_eq_true rfl⟩ (Nat.le_of_ble_eq_true rfl) dX11_judgeOne_424 (fun _ X66 => ?_)
  exact T.ret_v rfl dX11_judgeOne_427
abbrev R_judges : Room := { frames := 26, cells := 0, slots := 0, locals := 390 }
noncomputable def f_judges_210 (X : St) : Option (Int32 × St) :=
  bnd (f_isWell X) fun x10 X11 =>
  chk (x10.toInt = 0 ∨ x10.toInt = 1) (letV (wI X11 0 4 x10) fun X12 =>
  some (0, X12))
set_option maxHeartbeats 4000000 in
set_option maxRecDepth 100000 in
theorem c_judges_210 (Γ : Gx) (As : List Value) (X : St) : T YR Γ cX11_judges 4 "BlameCourtModel" none R_judges As qV 210 [(0, .ref (Γ.2.2.2.1 0))] [] X (f_judges_210 X) := by
  unfold f_judges_210
  refine T.aload_n dX11_judges_210 rfl 0 rfl ?_
  refine T.aload_n dX11_judges_211 rfl 0 rfl ?_
  refine T.callV_i 0 (As1 := []) (rest := [.ref (Γ.2.2.2.1 0)]) (c_isWell Γ X) ka_X11_isWell kv_X11_isWell oR rfl k1800 rfl rfl rfl rfl ⟨Nat.le_of_ble_eq_true rfl, Nat.le_of_ble_eq_true rfl⟩ (Nat.le_of_ble_eq_true rfl) dX11_judges_212 (fun x10 X11 => ?_)
  refine T.ck (fun h13 => pR4 k1372 h13 dX11_judges_215 (fun X12 => ?_))
  exact T.ret_v rfl dX11_judges_218
noncomputable def f_judges_204 (r37 : Int32 → St → Option (Int32 × St)) (a1 : Int32) (X : St) : Option (Int32 × St) :=
  letV (a1 + Int32.ofInt (1)) fun x27 =>
  r37 x27 X
set_option maxHeartbeats 4000000 in
set_option maxRecDepth 100000 in
theorem c_judges_204 (Γ : Gx) (As : List Value) (r37 : Int32 → St → Option (Int32 × St)) (hr37 : ∀ (a1 : Int32) (X : St), T YR Γ cX11_judges 4 "BlameCourtModel" none R_judges As qV 37 [(0, .ref (Γ.2.2.2.1 0)), (1, .int a1)] [] X (r37 a1 X)) (a1 : Int32) (X : St) : T YR Γ cX11_judges 4 "BlameCourtModel" none R_judges As qV 204 [(0, .ref (Γ.2.2.2.1 0)), (1, .int a1)] [] X (f_judges_204 r37 a1 X) := by
  unfold f_judges_204
  refine T.iinc dX11_judges_204 1 rfl (by decide) (lvf := fun x27 => [(1, .int x27), (0, .ref (Γ.2.2.2.1 0))]) (fun _ => rfl) (fun x27 => ?_)
  refine T.goto (pc1 := 37) dX11_judges_207 (by decide) ?_
  refine T.sub [1, 0] rfl ?_
  exact hr37 x27 X
noncomputable def f_judges_175_s (r37 : Int32 → St → Option (Int32 × St)) (r175 : Int32 → Int32 → Int32 → St → Option (Int32 × St)) (a1 : Int32) (a2 : Int32) (a3 : Int32) (X : St) : Option (Int32 × St) :=
  if a2.toInt ≤ a3.toInt then
    f_judges_204 r37 a1 X
  else
    bnd (f_isWell X) fun x28 X29 =>
    if x28.toInt = 0 then
      f_judges_204 r37 a1 X29
    else
      chk (inR a3 24000) (letV (X29.1 41 (ix a3)) fun x30 =>
      bnd (f_judgeOne a3 x30 X29) fun _ X31 =>
      letV (a3 + Int32.ofInt (1)) fun x32 =>
      r175 a1 a2 x32 X31)
noncomputable def f_judges_175 (r37 : Int32 → St → Option (Int32 × St)) (n : Nat) : Int32 → Int32 → Int32 → St → Option (Int32 × St) := lp (fun _ _ _ _ => none) (f_judges_175_s r37) n
set_option maxHeartbeats 4000000 in
set_option maxRecDepth 100000 in
theorem c_judges_175 (Γ : Gx) (As : List Value) (r37 : Int32 → St → Option (Int32 × St)) (hr37 : ∀ (a1 : Int32) (X : St), T YR Γ cX11_judges 4 "BlameCourtModel" none R_judges As qV 37 [(0, .ref (Γ.2.2.2.1 0)), (1, .int a1)] [] X (r37 a1 X)) (n : Nat) : ∀ (a1 : Int32) (a2 : Int32) (a3 : Int32) (X : St), T YR Γ cX11_judges 4 "BlameCourtModel" none R_judges As qV 175 [(0, .ref (Γ.2.2.2.1 0)), (1, .int a1), (2, .int a2), (3, .int a3)] [] X (f_judges_175 r37 n a1 a2 a3 X) := by
  unfold f_judges_175
  refine lp_ind (P := fun (r175 : Int32 → Int32 → Int32 → St → Option (Int32 × St)) => ∀ (a1 : Int32) (a2 : Int32) (a3 : Int32) (X : St), T YR Γ cX11_judges 4 "BlameCourtModel" none R_judges As qV 175 [(0, .ref (Γ.2.2.2.1 0)), (1, .int a1), (2, .int a2), (3, .int a3)] [] X (r175 a1 a2 a3 X)) (fun _ _ _ _ => T.no) ?_ n
  intro r175 hr175 a1 a2 a3 X
  unfold f_judges_175_s
  refine T.iload_n dX11_judges_175 rfl 3 rfl ?_
  refine T.iload_n dX11_judges_176 rfl 2 rfl ?_
  refine T.icmp_ge (pc1 := 204) dX11_judges_177 (by decide) rfl ?_ ?_
  · refine T.sub [0, 1] rfl ?_
    exact c_judges_204 Γ _ r37 hr37 a1 X
  · refine T.aload_n dX11_judges_180 rfl 0 rfl ?_
    refine T.callV_i 0 (As1 := []) (rest := []) (c_isWell Γ X) ka_X11_isWell kv_X11_isWell oR rfl k1800 rfl rfl rfl rfl ⟨Nat.le_of_ble_eq_true rfl, Nat.le_of_ble_eq_true rfl⟩ (Nat.le_of_ble_eq_true rfl) dX11_judges_181 (fun x28 X29 => ?_)
    refine T.if_eq (pc1 := 204) dX11_judges_184 (by decide) ?_ ?_
    · refine T.sub [0, 1] rfl ?_
      exact c_judges_204 Γ _ r37 hr37 a1 X29
    · refine T.aload_n dX11_judges_187 rfl 0 rfl ?_
      refine T.iload_n dX11_judges_188 rfl 3 rfl ?_
      refine T.aload_n dX11_judges_189 rfl 0 rfl ?_
      refine cR88 k1433 dX11_judges_190 ?_
      refine T.iload_n dX11_judges_193 rfl 3 rfl ?_
      refine alR41 dX11_judges_194 (fun x30 => ?_)
      refine T.callV_v 0 (As1 := [.int a3, .int x30]) (rest := []) (c_judgeOne Γ a3 x30 X29) ka_X11_judgeOne kv_X11_judgeOne oR rfl k2008 rfl rfl rfl rfl ⟨Nat.le_of_ble_eq_true rfl, Nat.le_of_ble_eq_true rfl⟩ (Nat.le_of_ble_eq_true rfl) dX11_judges_195 (fun _ X31 => ?_)
      refine T.iinc dX11_judges_198 3 rfl (by decide) (lvf := fun x32 => [(3, .int x32), (0, .ref (Γ.2.2.2.1 0)), (1, .int a1), (2, .int a2)]) (fun _ => rfl) (fun x32 => ?_)
      refine T.goto (pc1 := 175) dX11_judges_201 (by decide) ?_
      refine T.sub [1, 2, 3, 0] rfl ?_
      exact hr175 a1 a2 x32 X31
noncomputable def f_judges_167 (r37 : Int32 → St → Option (Int32 × St)) (a1 : Int32) (b0 : Int32) (X : St) : Option (Int32 × St) :=
  chk (inR a1 41) (letV (X.1 44 (ix a1)) fun x26 =>
  f_judges_175 r37 BIG a1 b0 x26 X)
set_option maxHeartbeats 4000000 in
set_option maxRecDepth 100000 in
theorem c_judges_167 (Γ : Gx) (As : List Value) (r37 : Int32 → St → Option (Int32 × St)) (hr37 : ∀ (a1 : Int32) (X : St), T YR Γ cX11_judges 4 "BlameCourtModel" none R_judges As qV 37 [(0, .ref (Γ.2.2.2.1 0)), (1, .int a1)] [] X (r37 a1 X)) (a1 : Int32) (b0 : Int32) (X : St) : T YR Γ cX11_judges 4 "BlameCourtModel" none R_judges As qV 167 [(0, .ref (Γ.2.2.2.1 0)), (1, .int a1)] [.int b0] X (f_judges_167 r37 a1 b0 X) := by
  unfold f_judges_167
  refine T.istore_n (lv1 := [(2, .int b0), (0, .ref (Γ.2.2.2.1 0)), (1, .int a1)]) dX11_judges_167 rfl (by decide) rfl ?_
  refine T.aload_n dX11_judges_168 rfl 1 rfl ?_
  refine cR91 k1436 dX11_judges_169 ?_
  refine T.iload_n dX11_judges_172 rfl 2 rfl ?_
  refine alR44 dX11_judges_173 (fun x26 => ?_)
  refine T.istore_n (lv1 := [(3, .int x26), (2, .int b0), (0, .ref (Γ.2.2.2.1 0)), (1, .int a1)]) dX11_judges_174 rfl (by decide) rfl ?_
  refine T.sub [2, 3, 1, 0] rfl ?_
  exact c_judges_175 Γ _ r37 hr37 BIG a1 b0 x26 X
noncomputable def f_judges_135 (r37 : Int32 → St → Option (Int32 × St)) (r80 : Int32 → Int32 → St → Option (Int32 × St)) (a1 : Int32) (a2 : Int32) (b0 : Int32) (b1 : Int32) (X : St) : Option (Int32 × St) :=
  chk (inR b1 41) (letV (wI X 57 (ix b1) (vp_nar .boolean b0)) fun X39 =>
  letV (a2 + Int32.ofInt (1)) fun x40 =>
  r80 a1 x40 X39)
set_option maxHeartbeats 4000000 in
set_option maxRecDepth 100000 in
theorem c_judges_135 (Γ : Gx) (As : List Value) (r37 : Int32 → St → Option (Int32 × St)) (hr37 : ∀ (a1 : Int32) (X : St), T YR Γ cX11_judges 4 "BlameCourtModel" none R_judges As qV 37 [(0, .ref (Γ.2.2.2.1 0)), (1, .int a1)] [] X (r37 a1 X)) (r80 : Int32 → Int32 → St → Option (Int32 × St)) (hr80 : ∀ (a1 : Int32) (a2 : Int32) (X : St), T YR Γ cX11_judges 4 "BlameCourtModel" none R_judges As qV 80 [(0, .ref (Γ.2.2.2.1 0)), (1, .int a1), (2, .int a2)] [] X (r80 a1 a2 X)) (a1 : Int32) (a2 : Int32) (b0 : Int32) (b1 : Int32) (X : St) : T YR Γ cX11_judges 4 "BlameCourtModel" none R_judges As qV 135 [(0, .ref (Γ.2.2.2.1 0)), (1, .int a1), (2, .int a2)] [.int b0, .int b1, .ref (Γ.2.2.2.1 57)] X (f_judges_135 r37 r80 a1 a2 b0 b1 X) := by
  unfold f_judges_135
  refine asR57 dX11_judges_135 (fun X39 => ?_)
  refine T.iinc dX11_judges_136 2 rfl (by decide) (lvf := fun x40 => [(2, .int x40), (0, .ref (Γ.2.2.2.1 0)), (1, .int a1)]) (fun _ => rfl) (fun x40 => ?_)
  refine T.goto (pc1 := 80) dX11_judges_139 (by decide) ?_
  refine T.sub [1, 2, 0] rfl ?_
  exact hr80 a1 x40 X39
noncomputable def f_judges_130 (r37 : Int32 → St → Option (Int32 × St)) (r80 : Int32 → Int32 → St → Option (Int32 × St)) (a1 : Int32) (a2 : Int32) (b0 : Int32) (X : St) : Option (Int32 × St) :=
  f_judges_135 r37 r80 a1 a2 (1 : Int32) b0 X
set_option maxHeartbeats 4000000 in
set_option maxRecDepth 100000 in
theorem c_judges_130 (Γ : Gx) (As : List Value) (r37 : Int32 → St → Option (Int32 × St)) (hr37 : ∀ (a1 : Int32) (X : St), T YR Γ cX11_judges 4 "BlameCourtModel" none R_judges As qV 37 [(0, .ref (Γ.2.2.2.1 0)), (1, .int a1)] [] X (r37 a1 X)) (r80 : Int32 → Int32 → St → Option (Int32 × St)) (hr80 : ∀ (a1 : Int32) (a2 : Int32) (X : St), T YR Γ cX11_judges 4 "BlameCourtModel" none R_judges As qV 80 [(0, .ref (Γ.2.2.2.1 0)), (1, .int a1), (2, .int a2)] [] X (r80 a1 a2 X)) (a1 : Int32) (a2 : Int32) (b0 : Int32) (X : St) : T YR Γ cX11_judges 4 "BlameCourtModel" none R_judges As qV 130 [(0, .ref (Γ.2.2.2.1 0)), (1, .int a1), (2, .int a2)] [.int b0, .ref (Γ.2.2.2.1 57)] X (f_judges_130 r37 r80 a1 a2 b0 X) := by
  unfold f_judges_130
  refine T.iconst (w := 1) dX11_judges_130 (by decide) ?_
  refine T.goto (pc1 := 135) dX11_judges_131 (by decide) ?_
  exact c_judges_135 Γ _ r37 hr37 r80 hr80 a1 a2 (1 : Int32) b0 X
noncomputable def f_judges_80_s (r37 : Int32 → St → Option (Int32 × St)) (r80 : Int32 → Int32 → St → Option (Int32 × St)) (a1 : Int32) (a2 : Int32) (X : St) : Option (Int32 × St) :=
  chk (inR a1 41) (letV (X.1 15 (ix a1)) fun x22 =>
  if x22.toInt ≤ a2.toInt then
    letV (a1 + (1 : Int32)) fun x23 =>
    letV (X.1 0 18) fun x24 =>
    if x24.toInt ≤ x23.toInt then
      letV (X.1 0 26) fun x25 =>
      f_judges_167 r37 a1 x25 X
    else
      letV (a1 + (1 : Int32)) fun x33 =>
      chk (inR x33 41) (letV (X.1 44 (ix x33)) fun x34 =>
      f_judges_167 r37 a1 x34 X)
  else
    bnd (f_paramKindOf a1 a2 X) fun x35 X36 =>
    chk (inR a2 60) (letV (wI X36 59 (ix a2) x35) fun X37 =>
    chk (inR a1 41) (letV (X37.1 57 (ix a1)) fun x38 =>
    if x38.toInt = 0 then
      chk (inR a2 60) (letV (X37.1 59 (ix a2)) fun x41 =>
      chk (inR x41 6000) (letV (X37.1 8 (ix x41)) fun x42 =>
      if x42.toInt = 0 then
        f_judges_135 r37 r80 a1 a2 (0 : Int32) a1 X37
      else
        f_judges_130 r37 r80 a1 a2 a1 X37))
    else
      f_judges_130 r37 r80 a1 a2 a1 X37)))
noncomputable def f_judges_80 (r37 : Int32 → St → Option (Int32 × St)) (n : Nat) : Int32 → Int32 → St → Option (Int32 × St) := lp (fun _ _ _ => none) (f_judges_80_s r37) n
set_option maxHeartbeats 4000000 in
set_option maxRecDepth 100000 in
theorem c_judges_80 (Γ : Gx) (As : List Value) (r37 : Int32 → St → Option (Int32 × St)) (hr37 : ∀ (a1 : Int32) (X : St), T YR Γ cX11_judges 4 "BlameCourtModel" none R_judges As qV 37 [(0, .ref (Γ.2.2.2.1 0)), (1, .int a1)] [] X (r37 a1 X)) (n : Nat) : ∀ (a1 : Int32) (a2 : Int32) (X : St), T YR Γ cX11_judges 4 "BlameCourtModel" none R_judges As qV 80 [(0, .ref (Γ.2.2.2.1 0)), (1, .int a1), (2, .int a2)] [] X (f_judges_80 r37 n a1 a2 X) := by
  unfold f_judges_80
  refine lp_ind (P := fun (r80 : Int32 → Int32 → St → Option (Int32 × St)) => ∀ (a1 : Int32) (a2 : Int32) (X : St), T YR Γ cX11_judges 4 "BlameCourtModel" none R_judges As qV 80 [(0, .ref (Γ.2.2.2.1 0)), (1, .int a1), (2, .int a2)] [] X (r80 a1 a2 X)) (fun _ _ _ => T.no) ?_ n
  intro r80 hr80 a1 a2 X
  unfold f_judges_80_s
  refine T.iload_n dX11_judges_80 rfl 2 rfl ?_
  refine T.aload_n dX11_judges_81 rfl 0 rfl ?_
  refine cR62 k1399 dX11_judges_82 ?_
  refine T.iload_n dX11_judges_85 rfl 1 rfl ?_
  refine alR15 dX11_judges_86 (fun x22 => ?_)
  refine T.icmp_ge (pc1 := 142) dX11_judges_87 (by decide) rfl ?_ ?_
  · refine T.iload_n dX11_judges_142 rfl 1 rfl ?_
    refine T.iconst (w := 1) dX11_judges_143 (by decide) ?_
    refine T.iadd dX11_judges_144 (fun x23 => ?_)
    refine T.aload_n dX11_judges_145 rfl 0 rfl ?_
    refine gR18 k1394 dX11_judges_146 (fun x24 => ?_)
    refine T.icmp_ge (pc1 := 163) dX11_judges_149 (by decide) rfl ?_ ?_
    · refine T.aload_n dX11_judges_163 rfl 0 rfl ?_
      refine gR26 k1431 dX11_judges_164 (fun x25 => ?_)
      refine T.sub [0, 1] rfl ?_
      exact c_judges_167 Γ _ r37 hr37 a1 x25 X
    · refine T.aload_n dX11_judges_152 rfl 0 rfl ?_
      refine cR91 k1436 dX11_judges_153 ?_
      refine T.iload_n dX11_judges_156 rfl 1 rfl ?_
      refine T.iconst (w := 1) dX11_judges_157 (by decide) ?_
      refine T.iadd dX11_judges_158 (fun x33 => ?_)
      refine alR44 dX11_judges_159 (fun x34 => ?_)
      refine T.goto (pc1 := 167) dX11_judges_160 (by decide) ?_
      refine T.sub [0, 1] rfl ?_
      exact c_judges_167 Γ _ r37 hr37 a1 x34 X
  · refine T.aload_n dX11_judges_90 rfl 0 rfl ?_
    refine cR106 k1455 dX11_judges_91 ?_
    refine T.iload_n dX11_judges_94 rfl 2 rfl ?_
    refine T.aload_n dX11_judges_95 rfl 0 rfl ?_
    refine T.iload_n dX11_judges_96 rfl 1 rfl ?_
    refine T.iload_n dX11_judges_97 rfl 2 rfl ?_
    refine T.callV_i 0 (As1 := [.int a1, .int a2]) (rest := [.int a2, .ref (Γ.2.2.2.1 59)]) (c_paramKindOf Γ a1 a2 X) ka_X11_paramKindOf kv_X11_paramKindOf oR rfl k2004 rfl rfl rfl rfl ⟨Nat.le_of_ble_eq_true rfl, Nat.le_of_ble_eq_true rfl⟩ (Nat.le_of_ble_eq_true rfl) dX11_judges_98 (fun x35 X36 => ?_)
    refine asR59 dX11_judges_101 (fun X37 => ?_)
    refine T.aload_n dX11_judges_102 rfl 0 rfl ?_
    refine cR104 k1451 dX11_judges_103 ?_
    refine T.iload_n dX11_judges_106 rfl 1 rfl ?_
    refine T.aload_n dX11_judges_107 rfl 0 rfl ?_
    refine cR104 k1451 dX11_judges_108 ?_
    refine T.iload_n dX11_judges_111 rfl 1 rfl ?_
    refine alR57 dX11_judges_112 (fun x38 => ?_)
    refine T.if_ne (pc1 := 130) dX11_judges_113 (by decide) ?_ ?_
    · exact c_judges_130 Γ _ r37 hr37 r80 hr80 a1 a2 a1 X37
    · refine T.aload_n dX11_judges_116 rfl 0 rfl ?_
      refine cR55 k1388 dX11_judges_117 ?_
      refine T.aload_n dX11_judges_120 rfl 0 rfl ?_
      refine cR106 k1455 dX11_judges_121 ?_
      refine T.iload_n dX11_judges_124 rfl 2 rfl ?_
      refine alR59 dX11_judges_125 (fun x41 => ?_)
      refine alR8 dX11_judges_126 (fun x42 => ?_)
      refine T.if_eq (pc1 := 134) dX11_judges_127 (by decide) ?_ ?_
      · refine T.iconst (w := 0) dX11_judges_134 (by decide) ?_
        exact c_judges_135 Γ _ r37 hr37 r80 hr80 a1 a2 (0 : Int32) a1 X37
      · exact c_judges_130 Γ _ r37 hr37 r80 hr80 a1 a2 a1 X37
noncomputable def f_judges_37_s (r37 : Int32 → St → Option (Int32 × St)) (a1 : Int32) (X : St) : Option (Int32 × St) :=
  letV (X.1 0 18) fun x9 =>
  if x9.toInt ≤ a1.toInt then
    f_judges_210 X
  else
    bnd (f_isWell X) fun x14 X15 =>
    if x14.toInt = 0 then
      f_judges_210 X15
    else
      letV (wI X15 0 29 a1) fun X16 =>
      letV (wI X16 0 30 ((0 : Int32))) fun X17 =>
      bnd (f_ownKindOf a1 X17) fun x18 X19 =>
      chk (inR x18 6000) (letV (X19.1 8 (ix x18)) fun x20 =>
      chk (inR a1 41) (letV (wI X19 57 (ix a1) (vp_nar .boolean x20)) fun X21 =>
      f_judges_80 r37 BIG a1 (0 : Int32) X21))
noncomputable def f_judges_37 (n : Nat) : Int32 → St → Option (Int32 × St) := lp (fun _ _ => none) (f_judges_37_s) n
set_option maxHeartbeats 4000000 in
set_option maxRecDepth 100000 in
theorem c_judges_37 (Γ : Gx) (As : List Value) (n : Nat) : ∀ (a1 : Int32) (X : St), T YR Γ cX11_judges 4 "BlameCourtModel" none R_judges As qV 37 [(0, .ref (Γ.2.2.2.1 0)), (1, .int a1)] [] X (f_judges_37 n a1 X) := by
  unfold f_judges_37
  refine lp_ind (P := fun (r37 : Int32 → St → Option (Int32 × St)) => ∀ (a1 : Int32) (X : St), T YR Γ cX11_judges 4 "BlameCourtModel" none R_judges As qV 37 [(0, .ref (Γ.2.2.2.1 0)), (1, .int a1)] [] X (r37 a1 X)) (fun _ _ => T.no) ?_ n
  intro r37 hr37 a1 X
  unfold f_judges_37_s
  refine T.iload_n dX11_judges_37 rfl 1 rfl ?_
  refine T.aload_n dX11_judges_38 rfl 0 rfl ?_
  refine gR18 k1394 dX11_judges_39 (fun x9 => ?_)
  refine T.icmp_ge (pc1 := 210) dX11_judges_42 (by decide) rfl ?_ ?_
  · refine T.sub [0] rfl ?_
    exact c_judges_210 Γ _ X
  · refine T.aload_n dX11_judges_45 rfl 0 rfl ?_
    refine T.callV_i 0 (As1 := []) (rest := []) (c_isWell Γ X) ka_X11_isWell kv_X11_isWell oR rfl k1800 rfl rfl rfl rfl ⟨Nat.le_of_ble_eq_true rfl, Nat.le_of_ble_eq_true rfl⟩ (Nat.le_of_ble_eq_true rfl) dX11_judges_46 (fun x14 X15 => ?_)
    refine T.if_eq (pc1 := 210) dX11_judges_49 (by decide) ?_ ?_
    · refine T.sub [0] rfl ?_
      exact c_judges_210 Γ _ X15
    · refine T.aload_n dX11_judges_52 rfl 0 rfl ?_
      refine T.iload_n dX11_judges_53 rfl 1 rfl ?_
      refine pR29 k1452 dX11_judges_54 (fun X16 => ?_)
      refine T.aload_n dX11_judges_57 rfl 0 rfl ?_
      refine T.iconst (w := 0) dX11_judges_58 (by decide) ?_
      refine pR30 k1453 dX11_judges_59 (fun X17 => ?_)
      refine T.aload_n dX11_judges_62 rfl 0 rfl ?_
      refine cR104 k1451 dX11_judges_63 ?_
      refine T.iload_n dX11_judges_66 rfl 1 rfl ?_
      refine T.aload_n dX11_judges_67 rfl 0 rfl ?_
      refine cR55 k1388 dX11_judges_68 ?_
      refine T.aload_n dX11_judges_71 rfl 0 rfl ?_
      refine T.iload_n dX11_judges_72 rfl 1 rfl ?_
      refine T.callV_i 0 (As1 := [.int a1]) (rest := [.ref (Γ.2.2.2.1 8), .int a1, .ref (Γ.2.2.2.1 57)]) (c_ownKindOf Γ a1 X17) ka_X11_ownKindOf kv_X11_ownKindOf oR rfl k2000 rfl rfl rfl rfl ⟨Nat.le_of_ble_eq_true rfl, Nat.le_of_ble_eq_true rfl⟩ (Nat.le_of_ble_eq_true rfl) dX11_judges_73 (fun x18 X19 => ?_)
      refine alR8 dX11_judges_76 (fun x20 => ?_)
      refine asR57 dX11_judges_77 (fun X21 => ?_)
      refine T.iconst (w := 0) dX11_judges_78 (by decide) ?_
      refine T.istore_n (lv1 := [(2, .int 0), (0, .ref (Γ.2.2.2.1 0)), (1, .int a1)]) dX11_judges_79 rfl (by decide) rfl ?_
      refine T.sub [1, 2, 0] rfl ?_
      exact c_judges_80 Γ _ r37 hr37 BIG a1 (0 : Int32) X21
noncomputable def f_judges (X : St) : Option (Int32 × St) :=
  letV (X.1 0 14) fun x1 =>
  letV (wI X 0 13 x1) fun X2 =>
  letV (X2.1 0 16) fun x3 =>
  letV (wI X2 0 15 x3) fun X4 =>
  letV (wI X4 0 9 ((0 : Int32))) fun X5 =>
  letV (wI X5 0 10 ((-1 : Int32))) fun X6 =>
  letV (wI X6 0 28 ((0 : Int32))) fun X7 =>
  bnd (f_compiles X7) fun _ X8 =>
  f_judges_37 BIG (0 : Int32) X8
set_option maxHeartbeats 4000000 in
set_option maxRecDepth 100000 in
theorem c_judges (Γ : Gx) (X : St) : TMV YR Γ yX11_judges cX11_judges 4 "BlameCourtModel" none R_judges [.ref (Γ.2.2.2.1 0)] X (f_judges X) := by
  refine TMV.of (by decide) (Nat.le_of_ble_eq_true rfl) rfl ?_
  show T YR Γ cX11_judges 4 "BlameCourtModel" none R_judges _ qV 0 [(0, .ref (Γ.2.2.2.1 0))] [] X (f_judges X)
  unfold f_judges
  refine T.aload_n dX11_judges_0 rfl 0 rfl ?_
  refine T.aload_n dX11_judges_1 rfl 0 rfl ?_
  refine gR14 k1383 dX11_judges_2 (fun x1 => ?_)
  refine pR13 k1382 dX11_judges_5 (fun X2 => ?_)
  refine T.aload_n dX11_judges_8 rfl 0 rfl ?_
  refine T.aload_n dX11_judges_9 rfl 0 rfl ?_
  refine gR16 k1390 dX11_judges_10 (fun x3 => ?_)
  refine pR15 k1389 dX11_judges_13 (fun X4 => ?_)
  refine T.aload_n dX11_judges_16 rfl 0 rfl ?_
  refine T.iconst (w := 0) dX11_judges_17 (by decide) ?_
  refine pR9 k1378 dX11_judges_18 (fun X5 => ?_)
  refine T.aload_n dX11_judges_21 rfl 0 rfl ?_
  refine T.iconst (w := (-1)) dX11_judges_22 (by decide) ?_
  refine pR10 k1379 dX11_judges_23 (fun X6 => ?_)
  refine T.aload_n dX11_judges_26 rfl 0 rfl ?_
  refine T.iconst (w := 0) dX11_judges_27 (by decide) ?_
  refine pR28 k1445 dX11_judges_28 (fun X7 => ?_)
  refine T.aload_n dX11_judges_31 rfl 0 rfl ?_
  refine T.callV_v 0 (As1 := []) (rest := []) (c_compiles Γ X7) ka_X11_compiles kv_X11_compiles oR rfl k1972 rfl rfl rfl rfl ⟨Nat.le_of_ble_eq_true rfl, Nat.le_of_ble_eq_true rfl⟩ (Nat.le_of_ble_eq_true rfl) dX11_judges_32 (fun _ X8 => ?_)
  refine T.iconst (w := 0) dX11_judges_35 (by decide) ?_
  refine T.istore_n (lv1 := [(1, .int 0), (0, .ref (Γ.2.2.2.1 0))]) dX11_judges_36 rfl (by decide) rfl ?_
  refine T.sub [1, 0] rfl ?_
  exact c_judges_37 Γ _ BIG (0 : Int32) X8
abbrev R_read : Room := { frames := 58, cells := 0, slots := 0, locals := 870 }
noncomputable def f_read_169_s (r169 : Int32 → Int32 → St → Option (Int32 × St)) (a1 : Int32) (a2 : Int32) (X : St) : Option (Int32 × St) :=
  letV (X.1 0 1) fun x16 =>
  if x16.toInt ≤ a2.toInt then
    bnd (f_reads X) fun _ X17 =>
    if a1.toInt = 0 then
      some ((-1), X17)
    else
      bnd (f_judges X17) fun _ X18 =>
      some ((-1), X18)
  else
    chk (inR a2 3000) (letV (X.1 3 (ix a2)) fun x19 =>
    chk (inR a2 3000) (letV (wI X 2 (ix a2) (vp_nar .byte x19)) fun X20 =>
    letV (a2 + Int32.ofInt (1)) fun x21 =>
    r169 a1 x21 X20))
noncomputable def f_read_169 (n : Nat) : Int32 → Int32 → St → Option (Int32 × St) := lp (fun _ _ _ => none) (f_read_169_s) n
set_option maxHeartbeats 4000000 in
set_option maxRecDepth 100000 in
theorem c_read_169 (Γ : Gx) (As : List Value) (n : Nat) : ∀ (a1 : Int32) (a2 : Int32) (X : St), T YR Γ cX11_read 3 "BlameCourtModel" (some .int) R_read As qI 169 [(0, .ref (Γ.2.2.2.1 0)), (1, .int a1), (2, .int a2)] [] X (f_read_169 n a1 a2 X) := by
  unfold f_read_169
  refine lp_ind (P := fun (r169 : Int32 → Int32 → St → Option (Int32 × St)) => ∀ (a1 : Int32) (a2 : Int32) (X : St), T YR Γ cX11_read 3 "BlameCourtModel" (some .int) R_read As qI 169 [(0, .ref (Γ.2.2.2.1 0)), (1, .int a1), (2, .int a2)] [] X (r169 a1 a2 X)) (fun _ _ _ => T.no) ?_ n
  intro r169 hr169 a1 a2 X
  unfold f_read_169_s
  refine T.iload_n dX11_read_169 rfl 2 rfl ?_
  refine T.aload_n dX11_read_170 rfl 0 rfl ?_
  refine gR1 k1368 dX11_read_171 (fun x16 => ?_)
  refine T.icmp_ge (pc1 := 195) dX11_read_174 (by decide) rfl ?_ ?_
  · refine T.aload_n dX11_read_195 rfl 0 rfl ?_
    refine T.callV_v 0 (As1 := []) (rest := []) (c_reads Γ X) ka_X11_reads kv_X11_reads oR rfl k1772 rfl rfl rfl rfl ⟨Nat.le_of_ble_eq_true rfl, Nat.le_of_ble_eq_true rfl⟩ (Nat.le_of_ble_eq_true rfl) dX11_read_196 (fun _ X17 => ?_)
    refine T.iload_n dX11_read_199 rfl 1 rfl ?_
    refine T.if_eq (pc1 := 207) dX11_read_200 (by decide) ?_ ?_
    · refine T.iconst (w := (-1)) dX11_read_207 (by decide) ?_
      exact T.ret_i rfl dX11_read_208
    · refine T.aload_n dX11_read_203 rfl 0 rfl ?_
      refine T.callV_v 0 (As1 := []) (rest := []) (c_judges Γ X17) ka_X11_judges kv_X11_judges oR rfl k1968 rfl rfl rfl rfl ⟨Nat.le_of_ble_eq_true rfl, Nat.le_of_ble_eq_true rfl⟩ (Nat.le_of_ble_eq_true rfl) dX11_read_204 (fun _ X18 => ?_)
      refine T.iconst (w := (-1)) dX11_read_207 (by decide) ?_
      exact T.ret_i rfl dX11_read_208
  · refine T.aload_n dX11_read_177 rfl 0 rfl ?_
    refine cR49 k1367 dX11_read_178 ?_
    refine T.iload_n dX11_read_181 rfl 2 rfl ?_
    refine T.aload_n dX11_read_182 rfl 0 rfl ?_
    refine cR50 k1369 dX11_read_183 ?_
    refine T.iload_n dX11_read_186 rfl 2 rfl ?_
    refine alR3 dX11_read_187 (fun x19 => ?_)
    refine asR2 dX11_read_188 (fun X20 => ?_)
    refine T.iinc dX11_read_189 2 rfl (by decide) (lvf := fun x21 => [(2, .int x21), (0, .ref (Γ.2.2.2.1 0)), (1, .int a1)]) (fun _ => rfl) (fun x21 => ?_)
    refine T.goto (pc1 := 169) dX11_read_192 (by decide) ?_
    refine T.sub [1, 2, 0] rfl ?_
    exact hr169 a1 x21 X20
noncomputable def f_read_116_s (r116 : Int32 → St → Option (Int32 × St)) (a2 : Int32) (X : St) : Option (Int32 × St) :=
  letV (X.1 0 18) fun x26 =>
  if x26.toInt ≤ a2.toInt then
    letV (wI X 0 41 ((0 : Int32))) fun X27 =>
    letV (X27.1 0 18) fun x28 =>
    some (x28, X27)
  else
    chk (inR a2 41) (letV (wI X 19 (ix a2) (vp_nar .boolean (1 : Int32))) fun X29 =>
    letV (a2 + Int32.ofInt (1)) fun x30 =>
    r116 x30 X29)
noncomputable def f_read_116 (n : Nat) : Int32 → St → Option (Int32 × St) := lp (fun _ _ => none) (f_read_116_s) n
set_option maxHeartbeats 4000000 in
set_option maxRecDepth 100000 in
theorem c_read_116 (Γ : Gx) (As : List Value) (n : Nat) : ∀ (a2 : Int32) (X : St), T YR Γ cX11_read 3 "BlameCourtModel" (some .int) R_read As qI 116 [(0, .ref (Γ.2.2.2.1 0)), (2, .int a2)] [] X (f_read_116 n a2 X) := by
  unfold f_read_116
  refine lp_ind (P := fun (r116 : Int32 → St → Option (Int32 × St)) => ∀ (a2 : Int32) (X : St), T YR Γ cX11_read 3 "BlameCourtModel" (some .int) R_read As qI 116 [(0, .ref (Γ.2.2.2.1 0)), (2, .int a2)] [] X (r116 a2 X)) (fun _ _ => T.no) ?_ n
  intro r116 hr116 a2 X
  unfold f_read_116_s
  refine T.iload_n dX11_read_116 rfl 1 rfl ?_
  refine T.aload_n dX11_read_117 rfl 0 rfl ?_
  refine gR18 k1394 dX11_read_118 (fun x26 => ?_)
  refine T.icmp_ge (pc1 := 137) dX11_read_121 (by decide) rfl ?_ ?_
  · refine T.aload_n dX11_read_137 rfl 0 rfl ?_
    refine T.iconst (w := 0) dX11_read_138 (by decide) ?_
    refine pR41 k1485 (by decide) dX11_read_139 (fun X27 => ?_)
    refine T.aload_n dX11_read_142 rfl 0 rfl ?_
    refine gR18 k1394 dX11_read_143 (fun x28 => ?_)
    exact T.ret_i rfl dX11_read_146
  · refine T.aload_n dX11_read_124 rfl 0 rfl ?_
    refine cR66 k1403 dX11_read_125 ?_
    refine T.iload_n dX11_read_128 rfl 1 rfl ?_
    refine T.iconst (w := 1) dX11_read_129 (by decide) ?_
    refine asR19 dX11_read_130 (fun X29 => ?_)
    refine T.iinc dX11_read_131 1 rfl (by decide) (lvf := fun x30 => [(2, .int x30), (0, .ref (Γ.2.2.2.1 0))]) (fun _ => rfl) (fun x30 => ?_)
    refine T.goto (pc1 := 116) dX11_read_134 (by decide) ?_
    refine T.sub [1, 0] rfl ?_
    exact hr116 x30 X29
noncomputable def f_read_88_s (r88 : Int32 → St → Option (Int32 × St)) (a2 : Int32) (X : St) : Option (Int32 × St) :=
  letV (X.1 0 1) fun x25 =>
  if x25.toInt ≤ a2.toInt then
    f_read_116 BIG (0 : Int32) X
  else
    chk (inR a2 3000) (letV (X.1 2 (ix a2)) fun x31 =>
    chk (inR a2 3000) (letV (wI X 3 (ix a2) (vp_nar .byte x31)) fun X32 =>
    letV (a2 + Int32.ofInt (1)) fun x33 =>
    r88 x33 X32))
noncomputable def f_read_88 (n : Nat) : Int32 → St → Option (Int32 × St) := lp (fun _ _ => none) (f_read_88_s) n
set_option maxHeartbeats 4000000 in
set_option maxRecDepth 100000 in
theorem c_read_88 (Γ : Gx) (As : List Value) (n : Nat) : ∀ (a2 : Int32) (X : St), T YR Γ cX11_read 3 "BlameCourtModel" (some .int) R_read As qI 88 [(0, .ref (Γ.2.2.2.1 0)), (2, .int a2)] [] X (f_read_88 n a2 X) := by
  unfold f_read_88
  refine lp_ind (P := fun (r88 : Int32 → St → Option (Int32 × St)) => ∀ (a2 : Int32) (X : St), T YR Γ cX11_read 3 "BlameCourtModel" (some .int) R_read As qI 88 [(0, .ref (Γ.2.2.2.1 0)), (2, .int a2)] [] X (r88 a2 X)) (fun _ _ => T.no) ?_ n
  intro r88 hr88 a2 X
  unfold f_read_88_s
  refine T.iload_n dX11_read_88 rfl 1 rfl ?_
  refine T.aload_n dX11_read_89 rfl 0 rfl ?_
  refine gR1 k1368 dX11_read_90 (fun x25 => ?_)
  refine T.icmp_ge (pc1 := 114) dX11_read_93 (by decide) rfl ?_ ?_
  · refine T.iconst (w := 0) dX11_read_114 (by decide) ?_
    refine T.istore_n (lv1 := [(2, .int 0), (0, .ref (Γ.2.2.2.1 0))]) dX11_read_115 rfl (by decide) rfl ?_
    refine T.sub [1, 0] rfl ?_
    exact c_read_116 Γ _ BIG (0 : Int32) X
  · refine T.aload_n dX11_read_96 rfl 0 rfl ?_
    refine cR50 k1369 dX11_read_97 ?_
    refine T.iload_n dX11_read_100 rfl 1 rfl ?_
    refine T.aload_n dX11_read_101 rfl 0 rfl ?_
    refine cR49 k1367 dX11_read_102 ?_
    refine T.iload_n dX11_read_105 rfl 1 rfl ?_
    refine alR2 dX11_read_106 (fun x31 => ?_)
    refine asR3 dX11_read_107 (fun X32 => ?_)
    refine T.iinc dX11_read_108 1 rfl (by decide) (lvf := fun x33 => [(2, .int x33), (0, .ref (Γ.2.2.2.1 0))]) (fun _ => rfl) (fun x33 => ?_)
    refine T.goto (pc1 := 88) dX11_read_111 (by decide) ?_
    refine T.sub [1, 0] rfl ?_
    exact hr88 x33 X32
noncomputable def f_read_10_s (r10 : Int32 → St → Option (Int32 × St)) (a1 : Int32) (X : St) : Option (Int32 × St) :=
  letV (X.1 0 0) fun x3 =>
  if x3.toInt ≤ a1.toInt then
    letV (wI X 0 0 ((0 : Int32))) fun X4 =>
    letV (X4.1 0 4) fun x5 =>
    bnd (f_reads X4) fun _ X6 =>
    letV (X6.1 0 9) fun x7 =>
    letV (wI X6 0 11 x7) fun X8 =>
    letV (X8.1 0 10) fun x9 =>
    letV (wI X8 0 12 x9) fun X10 =>
    letV (X10.1 0 9) fun x11 =>
    if x11.toInt = 0 then
      letV (wI X10 0 3 ((1 : Int32))) fun X22 =>
      letV (X22.1 0 1) fun x23 =>
      letV (wI X22 0 2 x23) fun X24 =>
      f_read_88 BIG (0 : Int32) X24
    else
      letV (wI X10 0 18 ((0 : Int32))) fun X12 =>
      letV (X12.1 0 3) fun x13 =>
      if x13.toInt = 0 then
        some ((-1), X12)
      else
        letV (X12.1 0 2) fun x14 =>
        letV (wI X12 0 1 x14) fun X15 =>
        f_read_169 BIG x5 (0 : Int32) X15
  else
    chk (inR a1 3000) (letV (X.1 1 (ix a1)) fun x34 =>
    chk (inR a1 3000) (letV (wI X 2 (ix a1) (vp_nar .byte x34)) fun X35 =>
    letV (a1 + Int32.ofInt (1)) fun x36 =>
    r10 x36 X35))
noncomputable def f_read_10 (n : Nat) : Int32 → St → Option (Int32 × St) := lp (fun _ _ => none) (f_read_10_s) n
set_option maxHeartbeats 4000000 in
set_option maxRecDepth 100000 in
theorem c_read_10 (Γ : Gx) (As : List Value) (n : Nat) : ∀ (a1 : Int32) (X : St), T YR Γ cX11_read 3 "BlameCourtModel" (some .int) R_read As qI 10 [(0, .ref (Γ.2.2.2.1 0)), (1, .int a1)] [] X (f_read_10 n a1 X) := by
  unfold f_read_10
  refine lp_ind (P := fun (r10 : Int32 → St → Option (Int32 × St)) => ∀ (a1 : Int32) (X : St), T YR Γ cX11_read 3 "BlameCourtModel" (some .int) R_read As qI 10 [(0, .ref (Γ.2.2.2.1 0)), (1, .int a1)] [] X (r10 a1 X)) (fun _ _ => T.no) ?_ n
  intro r10 hr10 a1 X
  unfold f_read_10_s
  refine T.iload_n dX11_read_10 rfl 1 rfl ?_
  refine T.aload_n dX11_read_11 rfl 0 rfl ?_
  refine gR0 k1366 dX11_read_12 (fun x3 => ?_)
  refine T.icmp_ge (pc1 := 36) dX11_read_15 (by decide) rfl ?_ ?_
  · refine T.aload_n dX11_read_36 rfl 0 rfl ?_
    refine T.iconst (w := 0) dX11_read_37 (by decide) ?_
    refine pR0 k1366 dX11_read_38 (fun X4 => ?_)
    refine T.aload_n dX11_read_41 rfl 0 rfl ?_
    refine gR4 k1372 dX11_read_42 (fun x5 => ?_)
    refine T.istore_n (lv1 := [(1, .int x5), (0, .ref (Γ.2.2.2.1 0))]) dX11_read_45 rfl (by decide) rfl ?_
    refine T.aload_n dX11_read_46 rfl 1 rfl ?_
    refine T.callV_v 0 (As1 := []) (rest := []) (c_reads Γ X4) ka_X11_reads kv_X11_reads oR rfl k1772 rfl rfl rfl rfl ⟨Nat.le_of_ble_eq_true rfl, Nat.le_of_ble_eq_true rfl⟩ (Nat.le_of_ble_eq_true rfl) dX11_read_47 (fun _ X6 => ?_)
    refine T.aload_n dX11_read_50 rfl 1 rfl ?_
    refine T.aload_n dX11_read_51 rfl 1 rfl ?_
    refine gR9 k1378 dX11_read_52 (fun x7 => ?_)
    refine pR11 k1380 dX11_read_55 (fun X8 => ?_)
    refine T.aload_n dX11_read_58 rfl 1 rfl ?_
    refine T.aload_n dX11_read_59 rfl 1 rfl ?_
    refine gR10 k1379 dX11_read_60 (fun x9 => ?_)
    refine pR12 k1381 dX11_read_63 (fun X10 => ?_)
    refine T.aload_n dX11_read_66 rfl 1 rfl ?_
    refine gR9 k1378 dX11_read_67 (fun x11 => ?_)
    refine T.if_ne (pc1 := 147) dX11_read_70 (by decide) ?_ ?_
    · refine T.aload_n dX11_read_147 rfl 1 rfl ?_
      refine T.iconst (w := 0) dX11_read_148 (by decide) ?_
      refine pR18 k1394 dX11_read_149 (fun X12 => ?_)
      refine T.aload_n dX11_read_152 rfl 1 rfl ?_
      refine gR3 k1371 dX11_read_153 (fun x13 => ?_)
      refine T.if_eq (pc1 := 207) dX11_read_156 (by decide) ?_ ?_
      · refine T.iconst (w := (-1)) dX11_read_207 (by decide) ?_
        exact T.ret_i rfl dX11_read_208
      · refine T.aload_n dX11_read_159 rfl 1 rfl ?_
        refine T.aload_n dX11_read_160 rfl 1 rfl ?_
        refine gR2 k1370 dX11_read_161 (fun x14 => ?_)
        refine pR1 k1368 dX11_read_164 (fun X15 => ?_)
        refine T.iconst (w := 0) dX11_read_167 (by decide) ?_
        refine T.istore_n (lv1 := [(2, .int 0), (1, .int x5), (0, .ref (Γ.2.2.2.1 0))]) dX11_read_168 rfl (by decide) rfl ?_
        refine T.sub [2, 1, 0] rfl ?_
        exact c_read_169 Γ _ BIG x5 (0 : Int32) X15
    · refine T.aload_n dX11_read_73 rfl 1 rfl ?_
      refine T.iconst (w := 1) dX11_read_74 (by decide) ?_
      refine pR3 k1371 (by decide) dX11_read_75 (fun X22 => ?_)
      refine T.aload_n dX11_read_78 rfl 1 rfl ?_
      refine T.aload_n dX11_read_79 rfl 1 rfl ?_
      refine gR1 k1368 dX11_read_80 (fun x23 => ?_)
      refine pR2 k1370 dX11_read_83 (fun X24 => ?_)
      refine T.iconst (w := 0) dX11_read_86 (by decide) ?_
      refine T.istore_n (lv1 := [(2, .int 0), (1, .int x5), (0, .ref (Γ.2.2.2.1 0))]) dX11_read_87 rfl (by decide) rfl ?_
      refine T.sub [2, 0] rfl ?_
      exact c_read_88 Γ _ BIG (0 : Int32) X24
  · refine T.aload_n dX11_read_18 rfl 0 rfl ?_
    refine cR49 k1367 dX11_read_19 ?_
    refine T.iload_n dX11_read_22 rfl 1 rfl ?_
    refine T.aload_n dX11_read_23 rfl 0 rfl ?_
    refine cR48 k1365 dX11_read_24 ?_
    refine T.iload_n dX11_read_27 rfl 1 rfl ?_
    refine alR1 dX11_read_28 (fun x34 => ?_)
    refine asR2 dX11_read_29 (fun X35 => ?_)
    refine T.iinc dX11_read_30 1 rfl (by decide) (lvf := fun x36 => [(1, .int x36), (0, .ref (Γ.2.2.2.1 0))]) (fun _ => rfl) (fun x36 => ?_)
    refine T.goto (pc1 := 10) dX11_read_33 (by decide) ?_
    refine T.sub [1, 0] rfl ?_
    exact hr10 x36 X35
noncomputable def f_read (X : St) : Option (Int32 × St) :=
  letV (X.1 0 0) fun x1 =>
  letV (wI X 0 1 x1) fun X2 =>
  f_read_10 BIG (0 : Int32) X2
set_option maxHeartbeats 4000000 in
set_option maxRecDepth 100000 in
theorem c_read (Γ : Gx) (X : St) : TMI YR Γ yX11_read cX11_read 3 "BlameCourtModel" (some .int) R_read [.ref (Γ.2.2.2.1 0)] X (f_read X) := by
  refine TMI.of (by decide) (Nat.le_of_ble_eq_true rfl) rfl ?_
  show T YR Γ cX11_read 3 "BlameCourtModel" (some .int) R_read _ qI 0 [(0, .ref (Γ.2.2.2.1 0))] [] X (f_read X)
  unfold f_read
  refine T.aload_n dX11_read_0 rfl 0 rfl ?_
  refine T.aload_n dX11_read_1 rfl 0 rfl ?_
  refine gR0 k1366 dX11_read_2 (fun x1 => ?_)
  refine pR1 k1368 dX11_read_5 (fun X2 => ?_)
  refine T.iconst (w := 0) dX11_read_8 (by decide) ?_
  refine T.istore_n (lv1 := [(1, .int 0), (0, .ref (Γ.2.2.2.1 0))]) dX11_read_9 rfl (by decide) rfl ?_
  refine T.sub [1, 0] rfl ?_
  exact c_read_10 Γ _ BIG (0 : Int32) X2
