theorem dJ7_fill_53178_0 : decode cJ7_fill_53178 0 = .ok (.iconst 0, 1) := by decide +kernel
theorem dJ7_fill_53178_1 : decode cJ7_fill_53178 1 = .ok (.istore_n 2, 1) := by decide +kernel
theorem dJ7_fill_53178_2 : decode cJ7_fill_53178 2 = .ok (.aload_n 0, 1) := by decide +kernel
theorem dJ7_fill_53178_3 : decode cJ7_fill_53178 3 = .ok (.arraylength, 1) := by decide +kernel
theorem dJ7_fill_53178_4 : decode cJ7_fill_53178 4 = .ok (.istore_n 3, 1) := by decide +kernel
theorem dJ7_fill_53178_5 : decode cJ7_fill_53178 5 = .ok (.iload_n 2, 1) := by decide +kernel
theorem dJ7_fill_53178_6 : decode cJ7_fill_53178 6 = .ok (.iload_n 3, 1) := by decide +kernel
theorem dJ7_fill_53178_7 : decode cJ7_fill_53178 7 = .ok (.if_icmp .ge 13, 3) := by decide +kernel
theorem dJ7_fill_53178_10 : decode cJ7_fill_53178 10 = .ok (.aload_n 0, 1) := by decide +kernel
theorem dJ7_fill_53178_11 : decode cJ7_fill_53178 11 = .ok (.iload_n 2, 1) := by decide +kernel
theorem dJ7_fill_53178_12 : decode cJ7_fill_53178 12 = .ok (.iload_n 1, 1) := by decide +kernel
theorem dJ7_fill_53178_13 : decode cJ7_fill_53178 13 = .ok (.iastore, 1) := by decide +kernel
theorem dJ7_fill_53178_14 : decode cJ7_fill_53178 14 = .ok (.iinc 2 1, 3) := by decide +kernel
theorem dJ7_fill_53178_17 : decode cJ7_fill_53178 17 = .ok (.goto (-12), 3) := by decide +kernel
theorem dJ7_fill_53178_20 : decode cJ7_fill_53178 20 = .ok (.return_, 1) := by decide +kernel
theorem dX6_endPart_0 : decode cX6_endPart 0 = .ok (.aload_n 0, 1) := by decide +kernel
theorem dX6_endPart_1 : decode cX6_endPart 1 = .ok (.getfield 18, 3) := by decide +kernel
theorem dX6_endPart_4 : decode cX6_endPart 4 = .ok (.bipush 35, 2) := by decide +kernel
theorem dX6_endPart_6 : decode cX6_endPart 6 = .ok (.iload_n 1, 1) := by decide +kernel
theorem dX6_endPart_7 : decode cX6_endPart 7 = .ok (.aload_n 0, 1) := by decide +kernel
theorem dX6_endPart_8 : decode cX6_endPart 8 = .ok (.iload_n 2, 1) := by decide +kernel
theorem dX6_endPart_9 : decode cX6_endPart 9 = .ok (.invokevirtual 162, 3) := by decide +kernel
theorem dX6_endPart_12 : decode cX6_endPart 12 = .ok (.invokevirtual 166, 3) := by decide +kernel
theorem dX6_endPart_15 : decode cX6_endPart 15 = .ok (.pop, 1) := by decide +kernel
theorem dX6_endPart_16 : decode cX6_endPart 16 = .ok (.aload_n 0, 1) := by decide +kernel
theorem dX6_endPart_17 : decode cX6_endPart 17 = .ok (.getfield 18, 3) := by decide +kernel
theorem dX6_endPart_20 : decode cX6_endPart 20 = .ok (.bipush 17, 2) := by decide +kernel
theorem dX6_endPart_22 : decode cX6_endPart 22 = .ok (.iconst 0, 1) := by decide +kernel
theorem dX6_endPart_23 : decode cX6_endPart 23 = .ok (.aload_n 0, 1) := by decide +kernel
theorem dX6_endPart_24 : decode cX6_endPart 24 = .ok (.iload_n 2, 1) := by decide +kernel
theorem dX6_endPart_25 : decode cX6_endPart 25 = .ok (.invokevirtual 162, 3) := by decide +kernel
theorem dX6_endPart_28 : decode cX6_endPart 28 = .ok (.invokevirtual 166, 3) := by decide +kernel
theorem dX6_endPart_31 : decode cX6_endPart 31 = .ok (.pop, 1) := by decide +kernel
theorem dX6_endPart_32 : decode cX6_endPart 32 = .ok (.aload_n 0, 1) := by decide +kernel
theorem dX6_endPart_33 : decode cX6_endPart 33 = .ok (.bipush 59, 2) := by decide +kernel
theorem dX6_endPart_35 : decode cX6_endPart 35 = .ok (.invokevirtual 147, 3) := by decide +kernel
theorem dX6_endPart_38 : decode cX6_endPart 38 = .ok (.aload_n 0, 1) := by decide +kernel
theorem dX6_endPart_39 : decode cX6_endPart 39 = .ok (.getfield 18, 3) := by decide +kernel
theorem dX6_endPart_42 : decode cX6_endPart 42 = .ok (.iload_n 1, 1) := by decide +kernel
theorem dX6_endPart_43 : decode cX6_endPart 43 = .ok (.iconst 1, 1) := by decide +kernel
theorem dX6_endPart_44 : decode cX6_endPart 44 = .ok (.iadd, 1) := by decide +kernel
theorem dX6_endPart_45 : decode cX6_endPart 45 = .ok (.putfield 99, 3) := by decide +kernel
theorem dX6_endPart_48 : decode cX6_endPart 48 = .ok (.return_, 1) := by decide +kernel
theorem dX6_readInto_0 : decode cX6_readInto 0 = .ok (.aload_n 1, 1) := by decide +kernel
theorem dX6_readInto_1 : decode cX6_readInto 1 = .ok (.ifnull 7, 3) := by decide +kernel
theorem dX6_readInto_4 : decode cX6_readInto 4 = .ok (.aload_n 2, 1) := by decide +kernel
theorem dX6_readInto_5 : decode cX6_readInto 5 = .ok (.ifnonnull 4, 3) := by decide +kernel
theorem dX6_readInto_9 : decode cX6_readInto 9 = .ok (.aload_n 0, 1) := by decide +kernel
theorem dX6_readInto_10 : decode cX6_readInto 10 = .ok (.aload_n 1, 1) := by decide +kernel
theorem dX6_readInto_11 : decode cX6_readInto 11 = .ok (.putfield 18, 3) := by decide +kernel
theorem dX6_readInto_14 : decode cX6_readInto 14 = .ok (.aload_n 0, 1) := by decide +kernel
theorem dX6_readInto_15 : decode cX6_readInto 15 = .ok (.getfield 18, 3) := by decide +kernel
theorem dX6_readInto_18 : decode cX6_readInto 18 = .ok (.invokevirtual 61, 3) := by decide +kernel
theorem dX6_readInto_21 : decode cX6_readInto 21 = .ok (.aload_n 0, 1) := by decide +kernel
theorem dX6_readInto_22 : decode cX6_readInto 22 = .ok (.iconst 0, 1) := by decide +kernel
theorem dX6_readInto_23 : decode cX6_readInto 23 = .ok (.putfield 26, 3) := by decide +kernel
theorem dX6_readInto_26 : decode cX6_readInto 26 = .ok (.aload_n 0, 1) := by decide +kernel
theorem dX6_readInto_27 : decode cX6_readInto 27 = .ok (.iconst (-1), 1) := by decide +kernel
theorem dX6_readInto_28 : decode cX6_readInto 28 = .ok (.putfield 29, 3) := by decide +kernel
theorem dX6_readInto_31 : decode cX6_readInto 31 = .ok (.aload_n 0, 1) := by decide +kernel
theorem dX6_readInto_32 : decode cX6_readInto 32 = .ok (.iconst 0, 1) := by decide +kernel
theorem dX6_readInto_33 : decode cX6_readInto 33 = .ok (.putfield 22, 3) := by decide +kernel
theorem dX6_readInto_36 : decode cX6_readInto 36 = .ok (.aload_n 0, 1) := by decide +kernel
theorem dX6_readInto_37 : decode cX6_readInto 37 = .ok (.iconst 0, 1) := by decide +kernel
theorem dX6_readInto_38 : decode cX6_readInto 38 = .ok (.putfield 52, 3) := by decide +kernel
theorem dX6_readInto_41 : decode cX6_readInto 41 = .ok (.aload_n 0, 1) := by decide +kernel
theorem dX6_readInto_42 : decode cX6_readInto 42 = .ok (.iconst 0, 1) := by decide +kernel
theorem dX6_readInto_43 : decode cX6_readInto 43 = .ok (.putfield 58, 3) := by decide +kernel
theorem dX6_readInto_46 : decode cX6_readInto 46 = .ok (.aload_n 0, 1) := by decide +kernel
theorem dX6_readInto_47 : decode cX6_readInto 47 = .ok (.getfield 14, 3) := by decide +kernel
theorem dX6_readInto_50 : decode cX6_readInto 50 = .ok (.aload_n 2, 1) := by decide +kernel
theorem dX6_readInto_51 : decode cX6_readInto 51 = .ok (.iload_n 3, 1) := by decide +kernel
theorem dX6_readInto_52 : decode cX6_readInto 52 = .ok (.invokevirtual 66, 3) := by decide +kernel
theorem dX6_readInto_55 : decode cX6_readInto 55 = .ok (.iconst 0, 1) := by decide +kernel
theorem dX6_readInto_56 : decode cX6_readInto 56 = .ok (.istore 4, 2) := by decide +kernel
theorem dX6_readInto_58 : decode cX6_readInto 58 = .ok (.iload 4, 2) := by decide +kernel
theorem dX6_readInto_60 : decode cX6_readInto 60 = .ok (.bipush 40, 2) := by decide +kernel
theorem dX6_readInto_62 : decode cX6_readInto 62 = .ok (.if_icmp .gt 65, 3) := by decide +kernel
theorem dX6_readInto_65 : decode cX6_readInto 65 = .ok (.aload_n 0, 1) := by decide +kernel
theorem dX6_readInto_66 : decode cX6_readInto 66 = .ok (.getfield 14, 3) := by decide +kernel
theorem dX6_readInto_69 : decode cX6_readInto 69 = .ok (.getfield 70, 3) := by decide +kernel
theorem dX6_readInto_72 : decode cX6_readInto 72 = .ok (.sipush 261, 3) := by decide +kernel
theorem dX6_readInto_75 : decode cX6_readInto 75 = .ok (.if_icmp .ne 52, 3) := by decide +kernel
theorem dX6_readInto_78 : decode cX6_readInto 78 = .ok (.iload 4, 2) := by decide +kernel
theorem dX6_readInto_80 : decode cX6_readInto 80 = .ok (.bipush 40, 2) := by decide +kernel
theorem dX6_readInto_82 : decode cX6_readInto 82 = .ok (.if_icmp .lt 11, 3) := by decide +kernel
theorem dX6_readInto_85 : decode cX6_readInto 85 = .ok (.aload_n 0, 1) := by decide +kernel
theorem dX6_readInto_86 : decode cX6_readInto 86 = .ok (.iconst 3, 1) := by decide +kernel
theorem dX6_readInto_87 : decode cX6_readInto 87 = .ok (.invokevirtual 75, 3) := by decide +kernel
theorem dX6_readInto_90 : decode cX6_readInto 90 = .ok (.goto 31, 3) := by decide +kernel
theorem dX6_readInto_93 : decode cX6_readInto 93 = .ok (.aload_n 0, 1) := by decide +kernel
theorem dX6_readInto_94 : decode cX6_readInto 94 = .ok (.iload 4, 2) := by decide +kernel
theorem dX6_readInto_96 : decode cX6_readInto 96 = .ok (.invokevirtual 79, 3) := by decide +kernel
theorem dX6_readInto_99 : decode cX6_readInto 99 = .ok (.aload_n 0, 1) := by decide +kernel
theorem dX6_readInto_100 : decode cX6_readInto 100 = .ok (.iload 4, 2) := by decide +kernel
theorem dX6_readInto_102 : decode cX6_readInto 102 = .ok (.invokevirtual 82, 3) := by decide +kernel
theorem dX6_readInto_105 : decode cX6_readInto 105 = .ok (.aload_n 0, 1) := by decide +kernel
theorem dX6_readInto_106 : decode cX6_readInto 106 = .ok (.iload 4, 2) := by decide +kernel
theorem dX6_readInto_108 : decode cX6_readInto 108 = .ok (.invokevirtual 85, 3) := by decide +kernel
theorem dX6_readInto_111 : decode cX6_readInto 111 = .ok (.aload_n 0, 1) := by decide +kernel
theorem dX6_readInto_112 : decode cX6_readInto 112 = .ok (.iload 4, 2) := by decide +kernel
theorem dX6_readInto_114 : decode cX6_readInto 114 = .ok (.aload_n 0, 1) := by decide +kernel
theorem dX6_readInto_115 : decode cX6_readInto 115 = .ok (.invokevirtual 88, 3) := by decide +kernel
theorem dX6_readInto_118 : decode cX6_readInto 118 = .ok (.invokevirtual 92, 3) := by decide +kernel
theorem dX6_readInto_121 : decode cX6_readInto 121 = .ok (.iinc 4 1, 3) := by decide +kernel
theorem dX6_readInto_124 : decode cX6_readInto 124 = .ok (.goto (-66), 3) := by decide +kernel
theorem dX6_readInto_127 : decode cX6_readInto 127 = .ok (.aload_n 0, 1) := by decide +kernel
theorem dX6_readInto_128 : decode cX6_readInto 128 = .ok (.getfield 14, 3) := by decide +kernel
theorem dX6_readInto_131 : decode cX6_readInto 131 = .ok (.getfield 70, 3) := by decide +kernel
theorem dX6_readInto_134 : decode cX6_readInto 134 = .ok (.sipush 257, 3) := by decide +kernel
theorem dX6_readInto_137 : decode cX6_readInto 137 = .ok (.if_icmp .eq 8, 3) := by decide +kernel
theorem dX6_readInto_140 : decode cX6_readInto 140 = .ok (.aload_n 0, 1) := by decide +kernel
theorem dX6_readInto_141 : decode cX6_readInto 141 = .ok (.iconst 1, 1) := by decide +kernel
theorem dX6_readInto_142 : decode cX6_readInto 142 = .ok (.invokevirtual 75, 3) := by decide +kernel
theorem dX6_readInto_145 : decode cX6_readInto 145 = .ok (.aload_n 0, 1) := by decide +kernel
theorem dX6_readInto_146 : decode cX6_readInto 146 = .ok (.getfield 18, 3) := by decide +kernel
theorem dX6_readInto_149 : decode cX6_readInto 149 = .ok (.getfield 96, 3) := by decide +kernel
theorem dX6_readInto_152 : decode cX6_readInto 152 = .ok (.aload_n 0, 1) := by decide +kernel
theorem dX6_readInto_153 : decode cX6_readInto 153 = .ok (.getfield 18, 3) := by decide +kernel
theorem dX6_readInto_156 : decode cX6_readInto 156 = .ok (.getfield 99, 3) := by decide +kernel
theorem dX6_readInto_159 : decode cX6_readInto 159 = .ok (.aload_n 0, 1) := by decide +kernel
theorem dX6_readInto_160 : decode cX6_readInto 160 = .ok (.getfield 18, 3) := by decide +kernel
theorem dX6_readInto_163 : decode cX6_readInto 163 = .ok (.getfield 102, 3) := by decide +kernel
theorem dX6_readInto_166 : decode cX6_readInto 166 = .ok (.iastore, 1) := by decide +kernel
theorem dX6_readInto_167 : decode cX6_readInto 167 = .ok (.aload_n 0, 1) := by decide +kernel
theorem dX6_readInto_168 : decode cX6_readInto 168 = .ok (.getfield 18, 3) := by decide +kernel
theorem dX6_readInto_171 : decode cX6_readInto 171 = .ok (.aload_n 0, 1) := by decide +kernel
theorem dX6_readInto_172 : decode cX6_readInto 172 = .ok (.getfield 18, 3) := by decide +kernel
theorem dX6_readInto_175 : decode cX6_readInto 175 = .ok (.getfield 105, 3) := by decide +kernel
theorem dX6_readInto_178 : decode cX6_readInto 178 = .ok (.getfield 109, 3) := by decide +kernel
theorem dX6_readInto_181 : decode cX6_readInto 181 = .ok (.putfield 114, 3) := by decide +kernel
theorem dX6_readInto_184 : decode cX6_readInto 184 = .ok (.aload_n 0, 1) := by decide +kernel
theorem dX6_readInto_185 : decode cX6_readInto 185 = .ok (.getfield 26, 3) := by decide +kernel
theorem dX6_readInto_188 : decode cX6_readInto 188 = .ok (.ifCond .ne 8, 3) := by decide +kernel
theorem dX6_readInto_191 : decode cX6_readInto 191 = .ok (.aload_n 0, 1) := by decide +kernel
theorem dX6_readInto_192 : decode cX6_readInto 192 = .ok (.iload_n 3, 1) := by decide +kernel
theorem dX6_readInto_193 : decode cX6_readInto 193 = .ok (.invokevirtual 117, 3) := by decide +kernel
theorem dX6_readInto_196 : decode cX6_readInto 196 = .ok (.return_, 1) := by decide +kernel
theorem dX6_resolve_0 : decode cX6_resolve 0 = .ok (.iconst 0, 1) := by decide +kernel
theorem dX6_resolve_1 : decode cX6_resolve 1 = .ok (.istore_n 2, 1) := by decide +kernel
theorem dX6_resolve_2 : decode cX6_resolve 2 = .ok (.iload_n 2, 1) := by decide +kernel
theorem dX6_resolve_3 : decode cX6_resolve 3 = .ok (.aload_n 0, 1) := by decide +kernel
theorem dX6_resolve_4 : decode cX6_resolve 4 = .ok (.getfield 18, 3) := by decide +kernel
theorem dX6_resolve_7 : decode cX6_resolve 7 = .ok (.getfield 99, 3) := by decide +kernel
theorem dX6_resolve_10 : decode cX6_resolve 10 = .ok (.if_icmp .ge 83, 3) := by decide +kernel
theorem dX6_resolve_13 : decode cX6_resolve 13 = .ok (.aload_n 0, 1) := by decide +kernel
theorem dX6_resolve_14 : decode cX6_resolve 14 = .ok (.getfield 26, 3) := by decide +kernel
theorem dX6_resolve_17 : decode cX6_resolve 17 = .ok (.ifCond .ne 76, 3) := by decide +kernel
theorem dX6_resolve_20 : decode cX6_resolve 20 = .ok (.aload_n 0, 1) := by decide +kernel
theorem dX6_resolve_21 : decode cX6_resolve 21 = .ok (.getfield 18, 3) := by decide +kernel
theorem dX6_resolve_24 : decode cX6_resolve 24 = .ok (.aload_n 0, 1) := by decide +kernel
theorem dX6_resolve_25 : decode cX6_resolve 25 = .ok (.getfield 18, 3) := by decide +kernel
theorem dX6_resolve_28 : decode cX6_resolve 28 = .ok (.getfield 135, 3) := by decide +kernel
theorem dX6_resolve_31 : decode cX6_resolve 31 = .ok (.iload_n 2, 1) := by decide +kernel
theorem dX6_resolve_32 : decode cX6_resolve 32 = .ok (.laload, 1) := by decide +kernel
theorem dX6_resolve_33 : decode cX6_resolve 33 = .ok (.invokevirtual 277, 3) := by decide +kernel
theorem dX6_resolve_36 : decode cX6_resolve 36 = .ok (.iload_n 2, 1) := by decide +kernel
theorem dX6_resolve_37 : decode cX6_resolve 37 = .ok (.if_icmp .eq 14, 3) := by decide +kernel
theorem dX6_resolve_40 : decode cX6_resolve 40 = .ok (.aload_n 0, 1) := by decide +kernel
theorem dX6_resolve_41 : decode cX6_resolve 41 = .ok (.iconst 5, 1) := by decide +kernel
theorem dX6_resolve_42 : decode cX6_resolve 42 = .ok (.aload_n 0, 1) := by decide +kernel
theorem dX6_resolve_43 : decode cX6_resolve 43 = .ok (.getfield 32, 3) := by decide +kernel
theorem dX6_resolve_46 : decode cX6_resolve 46 = .ok (.iload_n 2, 1) := by decide +kernel
theorem dX6_resolve_47 : decode cX6_resolve 47 = .ok (.iaload, 1) := by decide +kernel
theorem dX6_resolve_48 : decode cX6_resolve 48 = .ok (.invokevirtual 123, 3) := by decide +kernel
theorem dX6_resolve_51 : decode cX6_resolve 51 = .ok (.aload_n 0, 1) := by decide +kernel
theorem dX6_resolve_52 : decode cX6_resolve 52 = .ok (.getfield 18, 3) := by decide +kernel
theorem dX6_resolve_55 : decode cX6_resolve 55 = .ok (.getfield 96, 3) := by decide +kernel
theorem dX6_resolve_58 : decode cX6_resolve 58 = .ok (.iload_n 2, 1) := by decide +kernel
theorem dX6_resolve_59 : decode cX6_resolve 59 = .ok (.iaload, 1) := by decide +kernel
theorem dX6_resolve_60 : decode cX6_resolve 60 = .ok (.istore_n 3, 1) := by decide +kernel
theorem dX6_resolve_61 : decode cX6_resolve 61 = .ok (.iload_n 3, 1) := by decide +kernel
theorem dX6_resolve_62 : decode cX6_resolve 62 = .ok (.aload_n 0, 1) := by decide +kernel
theorem dX6_resolve_63 : decode cX6_resolve 63 = .ok (.getfield 18, 3) := by decide +kernel
theorem dX6_resolve_66 : decode cX6_resolve 66 = .ok (.getfield 96, 3) := by decide +kernel
theorem dX6_resolve_69 : decode cX6_resolve 69 = .ok (.iload_n 2, 1) := by decide +kernel
theorem dX6_resolve_70 : decode cX6_resolve 70 = .ok (.iconst 1, 1) := by decide +kernel
theorem dX6_resolve_71 : decode cX6_resolve 71 = .ok (.iadd, 1) := by decide +kernel
theorem dX6_resolve_72 : decode cX6_resolve 72 = .ok (.iaload, 1) := by decide +kernel
theorem dX6_resolve_73 : decode cX6_resolve 73 = .ok (.if_icmp .ge 14, 3) := by decide +kernel
theorem dX6_resolve_76 : decode cX6_resolve 76 = .ok (.aload_n 0, 1) := by decide +kernel
theorem dX6_resolve_77 : decode cX6_resolve 77 = .ok (.iload_n 3, 1) := by decide +kernel
theorem dX6_resolve_78 : decode cX6_resolve 78 = .ok (.invokevirtual 280, 3) := by decide +kernel
theorem dX6_resolve_81 : decode cX6_resolve 81 = .ok (.iinc 3 1, 3) := by decide +kernel
theorem dX6_resolve_84 : decode cX6_resolve 84 = .ok (.goto (-23), 3) := by decide +kernel
theorem dX6_resolve_87 : decode cX6_resolve 87 = .ok (.iinc 2 1, 3) := by decide +kernel
theorem dX6_resolve_90 : decode cX6_resolve 90 = .ok (.goto (-88), 3) := by decide +kernel
theorem dX6_resolve_93 : decode cX6_resolve 93 = .ok (.aload_n 0, 1) := by decide +kernel
theorem dX6_resolve_94 : decode cX6_resolve 94 = .ok (.getfield 18, 3) := by decide +kernel
theorem dX6_resolve_97 : decode cX6_resolve 97 = .ok (.aload_n 0, 1) := by decide +kernel
theorem dX6_resolve_98 : decode cX6_resolve 98 = .ok (.getfield 18, 3) := by decide +kernel
theorem dX6_resolve_101 : decode cX6_resolve 101 = .ok (.ldc2_w 283, 3) := by decide +kernel
theorem dX6_resolve_104 : decode cX6_resolve 104 = .ok (.invokevirtual 277, 3) := by decide +kernel
theorem dX6_resolve_107 : decode cX6_resolve 107 = .ok (.putfield 285, 3) := by decide +kernel
theorem dX6_resolve_110 : decode cX6_resolve 110 = .ok (.aload_n 0, 1) := by decide +kernel
theorem dX6_resolve_111 : decode cX6_resolve 111 = .ok (.getfield 18, 3) := by decide +kernel
theorem dX6_resolve_114 : decode cX6_resolve 114 = .ok (.aload_n 0, 1) := by decide +kernel
theorem dX6_resolve_115 : decode cX6_resolve 115 = .ok (.getfield 18, 3) := by decide +kernel
theorem dX6_resolve_118 : decode cX6_resolve 118 = .ok (.getfield 285, 3) := by decide +kernel
theorem dX6_resolve_121 : decode cX6_resolve 121 = .ok (.invokevirtual 288, 3) := by decide +kernel
theorem dX6_resolve_124 : decode cX6_resolve 124 = .ok (.ifCond .eq 10, 3) := by decide +kernel
theorem dX6_resolve_127 : decode cX6_resolve 127 = .ok (.aload_n 0, 1) := by decide +kernel
theorem dX6_resolve_128 : decode cX6_resolve 128 = .ok (.bipush 7, 2) := by decide +kernel
theorem dX6_resolve_130 : decode cX6_resolve 130 = .ok (.iload_n 1, 1) := by decide +kernel
theorem dX6_resolve_131 : decode cX6_resolve 131 = .ok (.invokevirtual 123, 3) := by decide +kernel
theorem dX6_resolve_134 : decode cX6_resolve 134 = .ok (.return_, 1) := by decide +kernel
theorem dX6_resolveAt_0 : decode cX6_resolveAt 0 = .ok (.aload_n 0, 1) := by decide +kernel
theorem dX6_resolveAt_1 : decode cX6_resolveAt 1 = .ok (.getfield 18, 3) := by decide +kernel
theorem dX6_resolveAt_4 : decode cX6_resolveAt 4 = .ok (.getfield 291, 3) := by decide +kernel
theorem dX6_resolveAt_7 : decode cX6_resolveAt 7 = .ok (.iload_n 1, 1) := by decide +kernel
theorem dX6_resolveAt_8 : decode cX6_resolveAt 8 = .ok (.iaload, 1) := by decide +kernel
theorem dX6_resolveAt_9 : decode cX6_resolveAt 9 = .ok (.iconst 4, 1) := by decide +kernel
theorem dX6_resolveAt_10 : decode cX6_resolveAt 10 = .ok (.if_icmp .eq 4, 3) := by decide +kernel
theorem dX6_resolveAt_13 : decode cX6_resolveAt 13 = .ok (.return_, 1) := by decide +kernel
theorem dX6_resolveAt_14 : decode cX6_resolveAt 14 = .ok (.aload_n 0, 1) := by decide +kernel
theorem dX6_resolveAt_15 : decode cX6_resolveAt 15 = .ok (.getfield 14, 3) := by decide +kernel
theorem dX6_resolveAt_18 : decode cX6_resolveAt 18 = .ok (.aload_n 0, 1) := by decide +kernel
theorem dX6_resolveAt_19 : decode cX6_resolveAt 19 = .ok (.getfield 18, 3) := by decide +kernel
theorem dX6_resolveAt_22 : decode cX6_resolveAt 22 = .ok (.getfield 203, 3) := by decide +kernel
theorem dX6_resolveAt_25 : decode cX6_resolveAt 25 = .ok (.iload_n 1, 1) := by decide +kernel
theorem dX6_resolveAt_26 : decode cX6_resolveAt 26 = .ok (.iaload, 1) := by decide +kernel
theorem dX6_resolveAt_27 : decode cX6_resolveAt 27 = .ok (.invokevirtual 294, 3) := by decide +kernel
theorem dX6_resolveAt_30 : decode cX6_resolveAt 30 = .ok (.aload_n 0, 1) := by decide +kernel
theorem dX6_resolveAt_31 : decode cX6_resolveAt 31 = .ok (.getfield 18, 3) := by decide +kernel
theorem dX6_resolveAt_34 : decode cX6_resolveAt 34 = .ok (.aload_n 0, 1) := by decide +kernel
theorem dX6_resolveAt_35 : decode cX6_resolveAt 35 = .ok (.getfield 14, 3) := by decide +kernel
theorem dX6_resolveAt_38 : decode cX6_resolveAt 38 = .ok (.getfield 138, 3) := by decide +kernel
theorem dX6_resolveAt_41 : decode cX6_resolveAt 41 = .ok (.invokevirtual 277, 3) := by decide +kernel
theorem dX6_resolveAt_44 : decode cX6_resolveAt 44 = .ok (.istore_n 2, 1) := by decide +kernel
theorem dX6_resolveAt_45 : decode cX6_resolveAt 45 = .ok (.iload_n 2, 1) := by decide +kernel
theorem dX6_resolveAt_46 : decode cX6_resolveAt 46 = .ok (.iconst (-1), 1) := by decide +kernel
theorem dX6_resolveAt_47 : decode cX6_resolveAt 47 = .ok (.if_icmp .ne 18, 3) := by decide +kernel
theorem dX6_resolveAt_50 : decode cX6_resolveAt 50 = .ok (.aload_n 0, 1) := by decide +kernel
theorem dX6_resolveAt_51 : decode cX6_resolveAt 51 = .ok (.bipush 6, 2) := by decide +kernel
theorem dX6_resolveAt_53 : decode cX6_resolveAt 53 = .ok (.aload_n 0, 1) := by decide +kernel
theorem dX6_resolveAt_54 : decode cX6_resolveAt 54 = .ok (.getfield 18, 3) := by decide +kernel
theorem dX6_resolveAt_57 : decode cX6_resolveAt 57 = .ok (.getfield 203, 3) := by decide +kernel
theorem dX6_resolveAt_60 : decode cX6_resolveAt 60 = .ok (.iload_n 1, 1) := by decide +kernel
theorem dX6_resolveAt_61 : decode cX6_resolveAt 61 = .ok (.iaload, 1) := by decide +kernel
theorem dX6_resolveAt_62 : decode cX6_resolveAt 62 = .ok (.invokevirtual 123, 3) := by decide +kernel
theorem dX6_resolveAt_65 : decode cX6_resolveAt 65 = .ok (.aload_n 0, 1) := by decide +kernel
theorem dX6_resolveAt_66 : decode cX6_resolveAt 66 = .ok (.getfield 18, 3) := by decide +kernel
theorem dX6_resolveAt_69 : decode cX6_resolveAt 69 = .ok (.getfield 205, 3) := by decide +kernel
theorem dX6_resolveAt_72 : decode cX6_resolveAt 72 = .ok (.iload_n 1, 1) := by decide +kernel
theorem dX6_resolveAt_73 : decode cX6_resolveAt 73 = .ok (.iload_n 2, 1) := by decide +kernel
theorem dX6_resolveAt_74 : decode cX6_resolveAt 74 = .ok (.iastore, 1) := by decide +kernel
theorem dX6_resolveAt_75 : decode cX6_resolveAt 75 = .ok (.return_, 1) := by decide +kernel
theorem dX7_ask_0 : decode cX7_ask 0 = .ok (.iload_n 3, 1) := by decide +kernel
theorem dX7_ask_1 : decode cX7_ask 1 = .ok (.istore 8, 2) := by decide +kernel
theorem dX7_ask_3 : decode cX7_ask 3 = .ok (.iload 4, 2) := by decide +kernel
theorem dX7_ask_5 : decode cX7_ask 5 = .ok (.istore 9, 2) := by decide +kernel
theorem dX7_ask_7 : decode cX7_ask 7 = .ok (.iconst 0, 1) := by decide +kernel
theorem dX7_ask_8 : decode cX7_ask 8 = .ok (.istore 10, 2) := by decide +kernel
theorem dX7_ask_10 : decode cX7_ask 10 = .ok (.iload 10, 2) := by decide +kernel
theorem dX7_ask_12 : decode cX7_ask 12 = .ok (.iconst 3, 1) := by decide +kernel
theorem dX7_ask_13 : decode cX7_ask 13 = .ok (.if_icmp .ge 155, 3) := by decide +kernel
theorem dX7_ask_16 : decode cX7_ask 16 = .ok (.aload_n 0, 1) := by decide +kernel
theorem dX7_ask_17 : decode cX7_ask 17 = .ok (.getfield 30, 3) := by decide +kernel
theorem dX7_ask_20 : decode cX7_ask 20 = .ok (.ifCond .eq 148, 3) := by decide +kernel
theorem dX7_ask_23 : decode cX7_ask 23 = .ok (.iload 8, 2) := by decide +kernel
theorem dX7_ask_25 : decode cX7_ask 25 = .ok (.iload 9, 2) := by decide +kernel
theorem dX7_ask_27 : decode cX7_ask 27 = .ok (.if_icmp .eq 141, 3) := by decide +kernel
theorem dX7_ask_30 : decode cX7_ask 30 = .ok (.aload_n 0, 1) := by decide +kernel
theorem dX7_ask_31 : decode cX7_ask 31 = .ok (.iload 5, 2) := by decide +kernel
theorem dX7_ask_33 : decode cX7_ask 33 = .ok (.iload 6, 2) := by decide +kernel
theorem dX7_ask_35 : decode cX7_ask 35 = .ok (.invokevirtual 314, 3) := by decide +kernel
theorem dX7_ask_38 : decode cX7_ask 38 = .ok (.iload 9, 2) := by decide +kernel
theorem dX7_ask_40 : decode cX7_ask 40 = .ok (.iconst 2, 1) := by decide +kernel
theorem dX7_ask_41 : decode cX7_ask 41 = .ok (.if_icmp .ne 25, 3) := by decide +kernel
theorem dX7_ask_44 : decode cX7_ask 44 = .ok (.aload_n 0, 1) := by decide +kernel
theorem dX7_ask_45 : decode cX7_ask 45 = .ok (.getfield 22, 3) := by decide +kernel
theorem dX7_ask_48 : decode cX7_ask 48 = .ok (.getfield 249, 3) := by decide +kernel
theorem dX7_ask_51 : decode cX7_ask 51 = .ok (.iload 8, 2) := by decide +kernel
theorem dX7_ask_53 : decode cX7_ask 53 = .ok (.invokevirtual 316, 3) := by decide +kernel
theorem dX7_ask_56 : decode cX7_ask 56 = .ok (.istore 9, 2) := by decide +kernel
theorem dX7_ask_58 : decode cX7_ask 58 = .ok (.iload 9, 2) := by decide +kernel
theorem dX7_ask_60 : decode cX7_ask 60 = .ok (.iconst 2, 1) := by decide +kernel
theorem dX7_ask_61 : decode cX7_ask 61 = .ok (.if_icmp .ne 101, 3) := by decide +kernel
theorem dX7_ask_64 : decode cX7_ask 64 = .ok (.lload_n 1, 1) := by decide +kernel
theorem dX7_ask_65 : decode cX7_ask 65 = .ok (.lreturn, 1) := by decide +kernel
theorem dX7_ask_66 : decode cX7_ask 66 = .ok (.iload 8, 2) := by decide +kernel
theorem dX7_ask_68 : decode cX7_ask 68 = .ok (.iconst 2, 1) := by decide +kernel
theorem dX7_ask_69 : decode cX7_ask 69 = .ok (.if_icmp .ne 77, 3) := by decide +kernel
theorem dX7_ask_72 : decode cX7_ask 72 = .ok (.aload_n 0, 1) := by decide +kernel
theorem dX7_ask_73 : decode cX7_ask 73 = .ok (.aload_n 0, 1) := by decide +kernel
theorem dX7_ask_74 : decode cX7_ask 74 = .ok (.getfield 18, 3) := by decide +kernel
theorem dX7_ask_77 : decode cX7_ask 77 = .ok (.lload_n 1, 1) := by decide +kernel
theorem dX7_ask_78 : decode cX7_ask 78 = .ok (.invokevirtual 136, 3) := by decide +kernel
theorem dX7_ask_81 : decode cX7_ask 81 = .ok (.aload_n 0, 1) := by decide +kernel
theorem dX7_ask_82 : decode cX7_ask 82 = .ok (.getfield 22, 3) := by decide +kernel
theorem dX7_ask_85 : decode cX7_ask 85 = .ok (.getfield 249, 3) := by decide +kernel
theorem dX7_ask_88 : decode cX7_ask 88 = .ok (.iload 9, 2) := by decide +kernel
theorem dX7_ask_90 : decode cX7_ask 90 = .ok (.invokevirtual 319, 3) := by decide +kernel
theorem dX7_ask_93 : decode cX7_ask 93 = .ok (.aload_n 0, 1) := by decide +kernel
theorem dX7_ask_94 : decode cX7_ask 94 = .ok (.getfield 22, 3) := by decide +kernel
theorem dX7_ask_97 : decode cX7_ask 97 = .ok (.getfield 249, 3) := by decide +kernel
theorem dX7_ask_100 : decode cX7_ask 100 = .ok (.iload 9, 2) := by decide +kernel
theorem dX7_ask_102 : decode cX7_ask 102 = .ok (.invokevirtual 321, 3) := by decide +kernel
theorem dX7_ask_105 : decode cX7_ask 105 = .ok (.invokevirtual 307, 3) := by decide +kernel
theorem dX7_ask_108 : decode cX7_ask 108 = .ok (.ifCond .ne 16, 3) := by decide +kernel
theorem dX7_ask_111 : decode cX7_ask 111 = .ok (.aload_n 0, 1) := by decide +kernel
theorem dX7_ask_112 : decode cX7_ask 112 = .ok (.iload 5, 2) := by decide +kernel
theorem dX7_ask_114 : decode cX7_ask 114 = .ok (.putfield 40, 3) := by decide +kernel
theorem dX7_ask_117 : decode cX7_ask 117 = .ok (.aload_n 0, 1) := by decide +kernel
theorem dX7_ask_118 : decode cX7_ask 118 = .ok (.iconst 3, 1) := by decide +kernel
theorem dX7_ask_119 : decode cX7_ask 119 = .ok (.iload 7, 2) := by decide +kernel
theorem dX7_ask_121 : decode cX7_ask 121 = .ok (.invokevirtual 184, 3) := by decide +kernel
theorem dX7_ask_124 : decode cX7_ask 124 = .ok (.aload_n 0, 1) := by decide +kernel
theorem dX7_ask_125 : decode cX7_ask 125 = .ok (.getfield 22, 3) := by decide +kernel
theorem dX7_ask_128 : decode cX7_ask 128 = .ok (.getfield 249, 3) := by decide +kernel
theorem dX7_ask_131 : decode cX7_ask 131 = .ok (.iload 9, 2) := by decide +kernel
theorem dX7_ask_133 : decode cX7_ask 133 = .ok (.invokevirtual 316, 3) := by decide +kernel
theorem dX7_ask_136 : decode cX7_ask 136 = .ok (.istore 8, 2) := by decide +kernel
theorem dX7_ask_138 : decode cX7_ask 138 = .ok (.iload 8, 2) := by decide +kernel
theorem dX7_ask_140 : decode cX7_ask 140 = .ok (.iconst 2, 1) := by decide +kernel
theorem dX7_ask_141 : decode cX7_ask 141 = .ok (.if_icmp .ne 21, 3) := by decide +kernel
theorem dX7_ask_144 : decode cX7_ask 144 = .ok (.lload_n 1, 1) := by decide +kernel
theorem dX7_ask_145 : decode cX7_ask 145 = .ok (.lreturn, 1) := by decide +kernel
theorem dX7_ask_146 : decode cX7_ask 146 = .ok (.aload_n 0, 1) := by decide +kernel
theorem dX7_ask_147 : decode cX7_ask 147 = .ok (.lload_n 1, 1) := by decide +kernel
theorem dX7_ask_148 : decode cX7_ask 148 = .ok (.iload 8, 2) := by decide +kernel
theorem dX7_ask_150 : decode cX7_ask 150 = .ok (.iload 9, 2) := by decide +kernel
theorem dX7_ask_152 : decode cX7_ask 152 = .ok (.iload 5, 2) := by decide +kernel
theorem dX7_ask_154 : decode cX7_ask 154 = .ok (.iload 6, 2) := by decide +kernel
theorem dX7_ask_156 : decode cX7_ask 156 = .ok (.iload 7, 2) := by decide +kernel
theorem dX7_ask_158 : decode cX7_ask 158 = .ok (.invokevirtual 324, 3) := by decide +kernel
theorem dX7_ask_161 : decode cX7_ask 161 = .ok (.lreturn, 1) := by decide +kernel
theorem dX7_ask_162 : decode cX7_ask 162 = .ok (.iinc 10 1, 3) := by decide +kernel
theorem dX7_ask_165 : decode cX7_ask 165 = .ok (.goto (-155), 3) := by decide +kernel
theorem dX7_ask_168 : decode cX7_ask 168 = .ok (.lload_n 1, 1) := by decide +kernel
theorem dX7_ask_169 : decode cX7_ask 169 = .ok (.lreturn, 1) := by decide +kernel
theorem dX7_askUntold_0 : decode cX7_askUntold 0 = .ok (.iload_n 1, 1) := by decide +kernel
theorem dX7_askUntold_1 : decode cX7_askUntold 1 = .ok (.invokestatic 304, 3) := by decide +kernel
theorem dX7_askUntold_4 : decode cX7_askUntold 4 = .ok (.istore 4, 2) := by decide +kernel
theorem dX7_askUntold_6 : decode cX7_askUntold 6 = .ok (.iload 4, 2) := by decide +kernel
theorem dX7_askUntold_8 : decode cX7_askUntold 8 = .ok (.iconst (-1), 1) := by decide +kernel
theorem dX7_askUntold_9 : decode cX7_askUntold 9 = .ok (.if_icmp .eq 37, 3) := by decide +kernel
theorem dX7_askUntold_12 : decode cX7_askUntold 12 = .ok (.aload_n 0, 1) := by decide +kernel
theorem dX7_askUntold_13 : decode cX7_askUntold 13 = .ok (.getfield 66, 3) := by decide +kernel
theorem dX7_askUntold_16 : decode cX7_askUntold 16 = .ok (.ifCond .le 30, 3) := by decide +kernel
theorem dX7_askUntold_19 : decode cX7_askUntold 19 = .ok (.aload_n 0, 1) := by decide +kernel
theorem dX7_askUntold_20 : decode cX7_askUntold 20 = .ok (.aload_n 0, 1) := by decide +kernel
theorem dX7_askUntold_21 : decode cX7_askUntold 21 = .ok (.getfield 63, 3) := by decide +kernel
theorem dX7_askUntold_24 : decode cX7_askUntold 24 = .ok (.aload_n 0, 1) := by decide +kernel
theorem dX7_askUntold_25 : decode cX7_askUntold 25 = .ok (.getfield 66, 3) := by decide +kernel
theorem dX7_askUntold_28 : decode cX7_askUntold 28 = .ok (.iconst 1, 1) := by decide +kernel
theorem dX7_askUntold_29 : decode cX7_askUntold 29 = .ok (.isub, 1) := by decide +kernel
theorem dX7_askUntold_30 : decode cX7_askUntold 30 = .ok (.laload, 1) := by decide +kernel
theorem dX7_askUntold_31 : decode cX7_askUntold 31 = .ok (.iload 4, 2) := by decide +kernel
theorem dX7_askUntold_33 : decode cX7_askUntold 33 = .ok (.iload_n 2, 1) := by decide +kernel
theorem dX7_askUntold_34 : decode cX7_askUntold 34 = .ok (.invokevirtual 307, 3) := by decide +kernel
theorem dX7_askUntold_37 : decode cX7_askUntold 37 = .ok (.ifCond .ne 9, 3) := by decide +kernel
theorem dX7_askUntold_40 : decode cX7_askUntold 40 = .ok (.aload_n 0, 1) := by decide +kernel
theorem dX7_askUntold_41 : decode cX7_askUntold 41 = .ok (.iconst 4, 1) := by decide +kernel
theorem dX7_askUntold_42 : decode cX7_askUntold 42 = .ok (.iload_n 3, 1) := by decide +kernel
theorem dX7_askUntold_43 : decode cX7_askUntold 43 = .ok (.invokevirtual 184, 3) := by decide +kernel
theorem dX7_askUntold_46 : decode cX7_askUntold 46 = .ok (.return_, 1) := by decide +kernel
theorem dX7_count_0 : decode cX7_count 0 = .ok (.iload_n 1, 1) := by decide +kernel
theorem dX7_count_1 : decode cX7_count 1 = .ok (.bipush 40, 2) := by decide +kernel
theorem dX7_count_3 : decode cX7_count 3 = .ok (.imul, 1) := by decide +kernel
theorem dX7_count_4 : decode cX7_count 4 = .ok (.iload_n 2, 1) := by decide +kernel
theorem dX7_count_5 : decode cX7_count 5 = .ok (.iadd, 1) := by decide +kernel
theorem dX7_count_6 : decode cX7_count 6 = .ok (.istore_n 3, 1) := by decide +kernel
theorem dX7_count_7 : decode cX7_count 7 = .ok (.iload_n 3, 1) := by decide +kernel
theorem dX7_count_8 : decode cX7_count 8 = .ok (.ifCond .lt 22, 3) := by decide +kernel
theorem dX7_count_11 : decode cX7_count 11 = .ok (.iload_n 3, 1) := by decide +kernel
theorem dX7_count_12 : decode cX7_count 12 = .ok (.aload_n 0, 1) := by decide +kernel
theorem dX7_count_13 : decode cX7_count 13 = .ok (.getfield 78, 3) := by decide +kernel
theorem dX7_count_16 : decode cX7_count 16 = .ok (.arraylength, 1) := by decide +kernel
theorem dX7_count_17 : decode cX7_count 17 = .ok (.if_icmp .ge 13, 3) := by decide +kernel
theorem dX7_count_20 : decode cX7_count 20 = .ok (.aload_n 0, 1) := by decide +kernel
theorem dX7_count_21 : decode cX7_count 21 = .ok (.getfield 78, 3) := by decide +kernel
theorem dX7_count_24 : decode cX7_count 24 = .ok (.iload_n 3, 1) := by decide +kernel
theorem dX7_count_25 : decode cX7_count 25 = .ok (.dup2, 1) := by decide +kernel
theorem dX7_count_26 : decode cX7_count 26 = .ok (.iaload, 1) := by decide +kernel
theorem dX7_count_27 : decode cX7_count 27 = .ok (.iconst 1, 1) := by decide +kernel
theorem dX7_count_28 : decode cX7_count 28 = .ok (.iadd, 1) := by decide +kernel
theorem dX7_count_29 : decode cX7_count 29 = .ok (.iastore, 1) := by decide +kernel
theorem dX7_count_30 : decode cX7_count 30 = .ok (.return_, 1) := by decide +kernel
theorem dX7_enterPart_0 : decode cX7_enterPart 0 = .ok (.aload_n 0, 1) := by decide +kernel
theorem dX7_enterPart_1 : decode cX7_enterPart 1 = .ok (.getfield 52, 3) := by decide +kernel
theorem dX7_enterPart_4 : decode cX7_enterPart 4 = .ok (.bipush 100, 2) := by decide +kernel
theorem dX7_enterPart_6 : decode cX7_enterPart 6 = .ok (.if_icmp .lt 10, 3) := by decide +kernel
theorem dX7_enterPart_9 : decode cX7_enterPart 9 = .ok (.aload_n 0, 1) := by decide +kernel
theorem dX7_enterPart_10 : decode cX7_enterPart 10 = .ok (.iconst 5, 1) := by decide +kernel
theorem dX7_enterPart_11 : decode cX7_enterPart 11 = .ok (.iload_n 3, 1) := by decide +kernel
theorem dX7_enterPart_12 : decode cX7_enterPart 12 = .ok (.invokevirtual 184, 3) := by decide +kernel
theorem dX7_enterPart_15 : decode cX7_enterPart 15 = .ok (.return_, 1) := by decide +kernel
theorem dX7_enterPart_16 : decode cX7_enterPart 16 = .ok (.aload_n 0, 1) := by decide +kernel
theorem dX7_enterPart_17 : decode cX7_enterPart 17 = .ok (.getfield 55, 3) := by decide +kernel
theorem dX7_enterPart_20 : decode cX7_enterPart 20 = .ok (.aload_n 0, 1) := by decide +kernel
theorem dX7_enterPart_21 : decode cX7_enterPart 21 = .ok (.getfield 52, 3) := by decide +kernel
theorem dX7_enterPart_24 : decode cX7_enterPart 24 = .ok (.aload_n 0, 1) := by decide +kernel
theorem dX7_enterPart_25 : decode cX7_enterPart 25 = .ok (.getfield 49, 3) := by decide +kernel
theorem dX7_enterPart_28 : decode cX7_enterPart 28 = .ok (.iastore, 1) := by decide +kernel
theorem dX7_enterPart_29 : decode cX7_enterPart 29 = .ok (.aload_n 0, 1) := by decide +kernel
theorem dX7_enterPart_30 : decode cX7_enterPart 30 = .ok (.dup, 1) := by decide +kernel
theorem dX7_enterPart_31 : decode cX7_enterPart 31 = .ok (.getfield 52, 3) := by decide +kernel
theorem dX7_enterPart_34 : decode cX7_enterPart 34 = .ok (.iconst 1, 1) := by decide +kernel
theorem dX7_enterPart_35 : decode cX7_enterPart 35 = .ok (.iadd, 1) := by decide +kernel
theorem dX7_enterPart_36 : decode cX7_enterPart 36 = .ok (.putfield 52, 3) := by decide +kernel
theorem dX7_enterPart_39 : decode cX7_enterPart 39 = .ok (.iload_n 2, 1) := by decide +kernel
theorem dX7_enterPart_40 : decode cX7_enterPart 40 = .ok (.iconst 1, 1) := by decide +kernel
theorem dX7_enterPart_41 : decode cX7_enterPart 41 = .ok (.isub, 1) := by decide +kernel
theorem dX7_enterPart_42 : decode cX7_enterPart 42 = .ok (.istore 4, 2) := by decide +kernel
theorem dX7_enterPart_44 : decode cX7_enterPart 44 = .ok (.iload 4, 2) := by decide +kernel
theorem dX7_enterPart_46 : decode cX7_enterPart 46 = .ok (.ifCond .lt 24, 3) := by decide +kernel
theorem dX7_enterPart_49 : decode cX7_enterPart 49 = .ok (.aload_n 0, 1) := by decide +kernel
theorem dX7_enterPart_50 : decode cX7_enterPart 50 = .ok (.getfield 59, 3) := by decide +kernel
theorem dX7_enterPart_53 : decode cX7_enterPart 53 = .ok (.aload_n 0, 1) := by decide +kernel
theorem dX7_enterPart_54 : decode cX7_enterPart 54 = .ok (.iload 4, 2) := by decide +kernel
theorem dX7_enterPart_56 : decode cX7_enterPart 56 = .ok (.invokevirtual 176, 3) := by decide +kernel
theorem dX7_enterPart_59 : decode cX7_enterPart 59 = .ok (.aload_n 0, 1) := by decide +kernel
theorem dX7_enterPart_60 : decode cX7_enterPart 60 = .ok (.invokevirtual 162, 3) := by decide +kernel
theorem dX7_enterPart_63 : decode cX7_enterPart 63 = .ok (.lastore, 1) := by decide +kernel
theorem dX7_enterPart_64 : decode cX7_enterPart 64 = .ok (.iinc 4 (-1), 3) := by decide +kernel
theorem dX7_enterPart_67 : decode cX7_enterPart 67 = .ok (.goto (-23), 3) := by decide +kernel
theorem dX7_enterPart_70 : decode cX7_enterPart 70 = .ok (.aload_n 0, 1) := by decide +kernel
theorem dX7_enterPart_71 : decode cX7_enterPart 71 = .ok (.iload_n 1, 1) := by decide +kernel
theorem dX7_enterPart_72 : decode cX7_enterPart 72 = .ok (.ifCond .lt 26, 3) := by decide +kernel
theorem dX7_enterPart_75 : decode cX7_enterPart 75 = .ok (.iload_n 1, 1) := by decide +kernel
theorem dX7_enterPart_76 : decode cX7_enterPart 76 = .ok (.aload_n 0, 1) := by decide +kernel
theorem dX7_enterPart_77 : decode cX7_enterPart 77 = .ok (.getfield 22, 3) := by decide +kernel
theorem dX7_enterPart_80 : decode cX7_enterPart 80 = .ok (.getfield 278, 3) := by decide +kernel
theorem dX7_enterPart_83 : decode cX7_enterPart 83 = .ok (.if_icmp .ge 15, 3) := by decide +kernel
theorem dX7_enterPart_86 : decode cX7_enterPart 86 = .ok (.aload_n 0, 1) := by decide +kernel
theorem dX7_enterPart_87 : decode cX7_enterPart 87 = .ok (.getfield 22, 3) := by decide +kernel
theorem dX7_enterPart_90 : decode cX7_enterPart 90 = .ok (.getfield 281, 3) := by decide +kernel
theorem dX7_enterPart_93 : decode cX7_enterPart 93 = .ok (.iload_n 1, 1) := by decide +kernel
theorem dX7_enterPart_94 : decode cX7_enterPart 94 = .ok (.iaload, 1) := by decide +kernel
theorem dX7_enterPart_95 : decode cX7_enterPart 95 = .ok (.goto 4, 3) := by decide +kernel
theorem dX7_enterPart_98 : decode cX7_enterPart 98 = .ok (.iconst (-1), 1) := by decide +kernel
theorem dX7_enterPart_99 : decode cX7_enterPart 99 = .ok (.putfield 49, 3) := by decide +kernel
theorem dX7_enterPart_102 : decode cX7_enterPart 102 = .ok (.return_, 1) := by decide +kernel
theorem dX7_failWith_0 : decode cX7_failWith 0 = .ok (.aload_n 0, 1) := by decide +kernel
theorem dX7_failWith_1 : decode cX7_failWith 1 = .ok (.getfield 30, 3) := by decide +kernel
theorem dX7_failWith_4 : decode cX7_failWith 4 = .ok (.ifCond .eq 18, 3) := by decide +kernel
theorem dX7_failWith_7 : decode cX7_failWith 7 = .ok (.aload_n 0, 1) := by decide +kernel
theorem dX7_failWith_8 : decode cX7_failWith 8 = .ok (.iconst 0, 1) := by decide +kernel
theorem dX7_failWith_9 : decode cX7_failWith 9 = .ok (.putfield 30, 3) := by decide +kernel
theorem dX7_failWith_12 : decode cX7_failWith 12 = .ok (.aload_n 0, 1) := by decide +kernel
theorem dX7_failWith_13 : decode cX7_failWith 13 = .ok (.iload_n 1, 1) := by decide +kernel
theorem dX7_failWith_14 : decode cX7_failWith 14 = .ok (.putfield 33, 3) := by decide +kernel
theorem dX7_failWith_17 : decode cX7_failWith 17 = .ok (.aload_n 0, 1) := by decide +kernel
theorem dX7_failWith_18 : decode cX7_failWith 18 = .ok (.iload_n 2, 1) := by decide +kernel
theorem dX7_failWith_19 : decode cX7_failWith 19 = .ok (.putfield 37, 3) := by decide +kernel
theorem dX7_failWith_22 : decode cX7_failWith 22 = .ok (.return_, 1) := by decide +kernel
theorem dX7_isSuch_0 : decode cX7_isSuch 0 = .ok (.lload_n 1, 1) := by decide +kernel
theorem dX7_isSuch_1 : decode cX7_isSuch 1 = .ok (.invokestatic 140, 3) := by decide +kernel
theorem dX7_isSuch_4 : decode cX7_isSuch 4 = .ok (.iload_n 3, 1) := by decide +kernel
theorem dX7_isSuch_5 : decode cX7_isSuch 5 = .ok (.if_icmp .ne 28, 3) := by decide +kernel
theorem dX7_isSuch_8 : decode cX7_isSuch 8 = .ok (.iload_n 3, 1) := by decide +kernel
theorem dX7_isSuch_9 : decode cX7_isSuch 9 = .ok (.iconst 4, 1) := by decide +kernel
theorem dX7_isSuch_10 : decode cX7_isSuch 10 = .ok (.if_icmp .ne 19, 3) := by decide +kernel
theorem dX7_isSuch_13 : decode cX7_isSuch 13 = .ok (.aload_n 0, 1) := by decide +kernel
theorem dX7_isSuch_14 : decode cX7_isSuch 14 = .ok (.getfield 22, 3) := by decide +kernel
theorem dX7_isSuch_17 : decode cX7_isSuch 17 = .ok (.lload_n 1, 1) := by decide +kernel
theorem dX7_isSuch_18 : decode cX7_isSuch 18 = .ok (.invokestatic 159, 3) := by decide +kernel
theorem dX7_isSuch_21 : decode cX7_isSuch 21 = .ok (.invokevirtual 311, 3) := by decide +kernel
theorem dX7_isSuch_24 : decode cX7_isSuch 24 = .ok (.iload 4, 2) := by decide +kernel
theorem dX7_isSuch_26 : decode cX7_isSuch 26 = .ok (.if_icmp .ne 7, 3) := by decide +kernel
theorem dX7_isSuch_29 : decode cX7_isSuch 29 = .ok (.iconst 1, 1) := by decide +kernel
theorem dX7_isSuch_30 : decode cX7_isSuch 30 = .ok (.goto 4, 3) := by decide +kernel
theorem dX7_isSuch_33 : decode cX7_isSuch 33 = .ok (.iconst 0, 1) := by decide +kernel
theorem dX7_isSuch_34 : decode cX7_isSuch 34 = .ok (.ireturn, 1) := by decide +kernel
theorem dX7_pop_0 : decode cX7_pop 0 = .ok (.aload_n 0, 1) := by decide +kernel
theorem dX7_pop_1 : decode cX7_pop 1 = .ok (.getfield 66, 3) := by decide +kernel
theorem dX7_pop_4 : decode cX7_pop 4 = .ok (.ifCond .gt 5, 3) := by decide +kernel
theorem dX7_pop_7 : decode cX7_pop 7 = .ok (.lconst 0, 1) := by decide +kernel
theorem dX7_pop_8 : decode cX7_pop 8 = .ok (.lreturn, 1) := by decide +kernel
theorem dX7_pop_9 : decode cX7_pop 9 = .ok (.aload_n 0, 1) := by decide +kernel
theorem dX7_pop_10 : decode cX7_pop 10 = .ok (.dup, 1) := by decide +kernel
theorem dX7_pop_11 : decode cX7_pop 11 = .ok (.getfield 66, 3) := by decide +kernel
theorem dX7_pop_14 : decode cX7_pop 14 = .ok (.iconst 1, 1) := by decide +kernel
theorem dX7_pop_15 : decode cX7_pop 15 = .ok (.isub, 1) := by decide +kernel
theorem dX7_pop_16 : decode cX7_pop 16 = .ok (.putfield 66, 3) := by decide +kernel
theorem dX7_pop_19 : decode cX7_pop 19 = .ok (.aload_n 0, 1) := by decide +kernel
theorem dX7_pop_20 : decode cX7_pop 20 = .ok (.getfield 63, 3) := by decide +kernel
theorem dX7_pop_23 : decode cX7_pop 23 = .ok (.aload_n 0, 1) := by decide +kernel
theorem dX7_pop_24 : decode cX7_pop 24 = .ok (.getfield 66, 3) := by decide +kernel
theorem dX7_pop_27 : decode cX7_pop 27 = .ok (.laload, 1) := by decide +kernel
theorem dX7_pop_28 : decode cX7_pop 28 = .ok (.lreturn, 1) := by decide +kernel
theorem dX7_popContent_0 : decode cX7_popContent 0 = .ok (.aload_n 0, 1) := by decide +kernel
theorem dX7_popContent_1 : decode cX7_popContent 1 = .ok (.invokevirtual 162, 3) := by decide +kernel
theorem dX7_popContent_4 : decode cX7_popContent 4 = .ok (.invokestatic 159, 3) := by decide +kernel
theorem dX7_popContent_7 : decode cX7_popContent 7 = .ok (.ireturn, 1) := by decide +kernel
theorem dX7_push_0 : decode cX7_push 0 = .ok (.aload_n 0, 1) := by decide +kernel
theorem dX7_push_1 : decode cX7_push 1 = .ok (.getfield 66, 3) := by decide +kernel
theorem dX7_push_4 : decode cX7_push 4 = .ok (.sipush 20002, 3) := by decide +kernel
theorem dX7_push_7 : decode cX7_push 7 = .ok (.if_icmp .ge 23, 3) := by decide +kernel
theorem dX7_push_10 : decode cX7_push 10 = .ok (.aload_n 0, 1) := by decide +kernel
theorem dX7_push_11 : decode cX7_push 11 = .ok (.getfield 63, 3) := by decide +kernel
theorem dX7_push_14 : decode cX7_push 14 = .ok (.aload_n 0, 1) := by decide +kernel
theorem dX7_push_15 : decode cX7_push 15 = .ok (.getfield 66, 3) := by decide +kernel
theorem dX7_push_18 : decode cX7_push 18 = .ok (.lload_n 1, 1) := by decide +kernel
theorem dX7_push_19 : decode cX7_push 19 = .ok (.lastore, 1) := by decide +kernel
theorem dX7_push_20 : decode cX7_push 20 = .ok (.aload_n 0, 1) := by decide +kernel
theorem dX7_push_21 : decode cX7_push 21 = .ok (.dup, 1) := by decide +kernel
theorem dX7_push_22 : decode cX7_push 22 = .ok (.getfield 66, 3) := by decide +kernel
theorem dX7_push_25 : decode cX7_push 25 = .ok (.iconst 1, 1) := by decide +kernel
theorem dX7_push_26 : decode cX7_push 26 = .ok (.iadd, 1) := by decide +kernel
theorem dX7_push_27 : decode cX7_push 27 = .ok (.putfield 66, 3) := by decide +kernel
theorem dX7_push_30 : decode cX7_push 30 = .ok (.return_, 1) := by decide +kernel
theorem dX7_pushNumber_0 : decode cX7_pushNumber 0 = .ok (.aload_n 0, 1) := by decide +kernel
theorem dX7_pushNumber_1 : decode cX7_pushNumber 1 = .ok (.iconst 0, 1) := by decide +kernel
theorem dX7_pushNumber_2 : decode cX7_pushNumber 2 = .ok (.iload_n 1, 1) := by decide +kernel
theorem dX7_pushNumber_3 : decode cX7_pushNumber 3 = .ok (.invokestatic 95, 3) := by decide +kernel
theorem dX7_pushNumber_6 : decode cX7_pushNumber 6 = .ok (.invokevirtual 99, 3) := by decide +kernel
theorem dX7_pushNumber_9 : decode cX7_pushNumber 9 = .ok (.return_, 1) := by decide +kernel
theorem dX7_pushTruth_0 : decode cX7_pushTruth 0 = .ok (.aload_n 0, 1) := by decide +kernel
theorem dX7_pushTruth_1 : decode cX7_pushTruth 1 = .ok (.iconst 1, 1) := by decide +kernel
theorem dX7_pushTruth_2 : decode cX7_pushTruth 2 = .ok (.iload_n 1, 1) := by decide +kernel
theorem dX7_pushTruth_3 : decode cX7_pushTruth 3 = .ok (.ifCond .eq 7, 3) := by decide +kernel
theorem dX7_pushTruth_6 : decode cX7_pushTruth 6 = .ok (.iconst 1, 1) := by decide +kernel
theorem dX7_pushTruth_7 : decode cX7_pushTruth 7 = .ok (.goto 4, 3) := by decide +kernel
theorem dX7_pushTruth_10 : decode cX7_pushTruth 10 = .ok (.iconst 0, 1) := by decide +kernel
theorem dX7_pushTruth_11 : decode cX7_pushTruth 11 = .ok (.invokestatic 95, 3) := by decide +kernel
theorem dX7_pushTruth_14 : decode cX7_pushTruth 14 = .ok (.invokevirtual 99, 3) := by decide +kernel
theorem dX7_pushTruth_17 : decode cX7_pushTruth 17 = .ok (.return_, 1) := by decide +kernel
theorem dX7_slotAt_0 : decode cX7_slotAt 0 = .ok (.aload_n 0, 1) := by decide +kernel
theorem dX7_slotAt_1 : decode cX7_slotAt 1 = .ok (.getfield 52, 3) := by decide +kernel
theorem dX7_slotAt_4 : decode cX7_slotAt 4 = .ok (.iconst 1, 1) := by decide +kernel
theorem dX7_slotAt_5 : decode cX7_slotAt 5 = .ok (.isub, 1) := by decide +kernel
theorem dX7_slotAt_6 : decode cX7_slotAt 6 = .ok (.bipush 44, 2) := by decide +kernel
theorem dX7_slotAt_8 : decode cX7_slotAt 8 = .ok (.imul, 1) := by decide +kernel
theorem dX7_slotAt_9 : decode cX7_slotAt 9 = .ok (.iload_n 1, 1) := by decide +kernel
theorem dX7_slotAt_10 : decode cX7_slotAt 10 = .ok (.iadd, 1) := by decide +kernel
theorem dX7_slotAt_11 : decode cX7_slotAt 11 = .ok (.istore_n 2, 1) := by decide +kernel
theorem dX7_slotAt_12 : decode cX7_slotAt 12 = .ok (.iload_n 2, 1) := by decide +kernel
theorem dX7_slotAt_13 : decode cX7_slotAt 13 = .ok (.ifCond .lt 16, 3) := by decide +kernel
theorem dX7_slotAt_16 : decode cX7_slotAt 16 = .ok (.iload_n 2, 1) := by decide +kernel
theorem dX7_slotAt_17 : decode cX7_slotAt 17 = .ok (.aload_n 0, 1) := by decide +kernel
theorem dX7_slotAt_18 : decode cX7_slotAt 18 = .ok (.getfield 59, 3) := by decide +kernel
theorem dX7_slotAt_21 : decode cX7_slotAt 21 = .ok (.arraylength, 1) := by decide +kernel
theorem dX7_slotAt_22 : decode cX7_slotAt 22 = .ok (.if_icmp .ge 7, 3) := by decide +kernel
theorem dX7_slotAt_25 : decode cX7_slotAt 25 = .ok (.iload_n 2, 1) := by decide +kernel
theorem dX7_slotAt_26 : decode cX7_slotAt 26 = .ok (.goto 4, 3) := by decide +kernel
theorem dX7_slotAt_29 : decode cX7_slotAt 29 = .ok (.iconst 0, 1) := by decide +kernel
theorem dX7_slotAt_30 : decode cX7_slotAt 30 = .ok (.ireturn, 1) := by decide +kernel
theorem dX7_sortAskedBy_0 : decode cX7_sortAskedBy 0 = .ok (.iload_n 0, 1) := by decide +kernel
theorem dX7_sortAskedBy_1 : decode cX7_sortAskedBy 1 = .ok (.tableswitch 43 27 31 #[35, 37, 39, 41, 41], 35) := by decide +kernel
theorem dX7_sortAskedBy_36 : decode cX7_sortAskedBy 36 = .ok (.iconst 0, 1) := by decide +kernel
theorem dX7_sortAskedBy_37 : decode cX7_sortAskedBy 37 = .ok (.ireturn, 1) := by decide +kernel
theorem dX7_sortAskedBy_38 : decode cX7_sortAskedBy 38 = .ok (.iconst 1, 1) := by decide +kernel
theorem dX7_sortAskedBy_39 : decode cX7_sortAskedBy 39 = .ok (.ireturn, 1) := by decide +kernel
theorem dX7_sortAskedBy_40 : decode cX7_sortAskedBy 40 = .ok (.iconst 3, 1) := by decide +kernel
theorem dX7_sortAskedBy_41 : decode cX7_sortAskedBy 41 = .ok (.ireturn, 1) := by decide +kernel
theorem dX7_sortAskedBy_42 : decode cX7_sortAskedBy 42 = .ok (.iconst 4, 1) := by decide +kernel
theorem dX7_sortAskedBy_43 : decode cX7_sortAskedBy 43 = .ok (.ireturn, 1) := by decide +kernel
theorem dX7_sortAskedBy_44 : decode cX7_sortAskedBy 44 = .ok (.iconst (-1), 1) := by decide +kernel
theorem dX7_sortAskedBy_45 : decode cX7_sortAskedBy 45 = .ok (.ireturn, 1) := by decide +kernel
theorem dX7_workAsking_0 : decode cX7_workAsking 0 = .ok (.aload_n 0, 1) := by decide +kernel
theorem dX7_workAsking_1 : decode cX7_workAsking 1 = .ok (.getfield 26, 3) := by decide +kernel
theorem dX7_workAsking_4 : decode cX7_workAsking 4 = .ok (.ifCond .ne 35, 3) := by decide +kernel
theorem dX7_workAsking_7 : decode cX7_workAsking 7 = .ok (.aload_n 0, 1) := by decide +kernel
theorem dX7_workAsking_8 : decode cX7_workAsking 8 = .ok (.aload_n 0, 1) := by decide +kernel
theorem dX7_workAsking_9 : decode cX7_workAsking 9 = .ok (.getfield 22, 3) := by decide +kernel
theorem dX7_workAsking_12 : decode cX7_workAsking 12 = .ok (.getfield 111, 3) := by decide +kernel
theorem dX7_workAsking_15 : decode cX7_workAsking 15 = .ok (.iload_n 1, 1) := by decide +kernel
theorem dX7_workAsking_16 : decode cX7_workAsking 16 = .ok (.iaload, 1) := by decide +kernel
theorem dX7_workAsking_17 : decode cX7_workAsking 17 = .ok (.aload_n 0, 1) := by decide +kernel
theorem dX7_workAsking_18 : decode cX7_workAsking 18 = .ok (.getfield 22, 3) := by decide +kernel
theorem dX7_workAsking_21 : decode cX7_workAsking 21 = .ok (.getfield 127, 3) := by decide +kernel
theorem dX7_workAsking_24 : decode cX7_workAsking 24 = .ok (.iload_n 1, 1) := by decide +kernel
theorem dX7_workAsking_25 : decode cX7_workAsking 25 = .ok (.iaload, 1) := by decide +kernel
theorem dX7_workAsking_26 : decode cX7_workAsking 26 = .ok (.aload_n 0, 1) := by decide +kernel
theorem dX7_workAsking_27 : decode cX7_workAsking 27 = .ok (.getfield 22, 3) := by decide +kernel
theorem dX7_workAsking_30 : decode cX7_workAsking 30 = .ok (.getfield 120, 3) := by decide +kernel
theorem dX7_workAsking_33 : decode cX7_workAsking 33 = .ok (.iload_n 1, 1) := by decide +kernel
theorem dX7_workAsking_34 : decode cX7_workAsking 34 = .ok (.iaload, 1) := by decide +kernel
theorem dX7_workAsking_35 : decode cX7_workAsking 35 = .ok (.invokevirtual 288, 3) := by decide +kernel
theorem dX7_workAsking_38 : decode cX7_workAsking 38 = .ok (.return_, 1) := by decide +kernel
theorem dX7_workAsking_39 : decode cX7_workAsking 39 = .ok (.aload_n 0, 1) := by decide +kernel
theorem dX7_workAsking_40 : decode cX7_workAsking 40 = .ok (.getfield 22, 3) := by decide +kernel
theorem dX7_workAsking_43 : decode cX7_workAsking 43 = .ok (.getfield 291, 3) := by decide +kernel
theorem dX7_workAsking_46 : decode cX7_workAsking 46 = .ok (.iload_n 1, 1) := by decide +kernel
theorem dX7_workAsking_47 : decode cX7_workAsking 47 = .ok (.iaload, 1) := by decide +kernel
theorem dX7_workAsking_48 : decode cX7_workAsking 48 = .ok (.istore_n 2, 1) := by decide +kernel
theorem dX7_workAsking_49 : decode cX7_workAsking 49 = .ok (.iload_n 2, 1) := by decide +kernel
theorem dX7_workAsking_50 : decode cX7_workAsking 50 = .ok (.ifCond .lt 71, 3) := by decide +kernel
theorem dX7_workAsking_53 : decode cX7_workAsking 53 = .ok (.iload_n 2, 1) := by decide +kernel
theorem dX7_workAsking_54 : decode cX7_workAsking 54 = .ok (.aload_n 0, 1) := by decide +kernel
theorem dX7_workAsking_55 : decode cX7_workAsking 55 = .ok (.getfield 9, 3) := by decide +kernel
theorem dX7_workAsking_58 : decode cX7_workAsking 58 = .ok (.getfield 294, 3) := by decide +kernel
theorem dX7_workAsking_61 : decode cX7_workAsking 61 = .ok (.if_icmp .ge 60, 3) := by decide +kernel
theorem dX7_workAsking_64 : decode cX7_workAsking 64 = .ok (.aload_n 0, 1) := by decide +kernel
theorem dX7_workAsking_65 : decode cX7_workAsking 65 = .ok (.aload_n 0, 1) := by decide +kernel
theorem dX7_workAsking_66 : decode cX7_workAsking 66 = .ok (.aload_n 0, 1) := by decide +kernel
theorem dX7_workAsking_67 : decode cX7_workAsking 67 = .ok (.invokevirtual 162, 3) := by decide +kernel
theorem dX7_workAsking_70 : decode cX7_workAsking 70 = .ok (.aload_n 0, 1) := by decide +kernel
theorem dX7_workAsking_71 : decode cX7_workAsking 71 = .ok (.getfield 9, 3) := by decide +kernel
theorem dX7_workAsking_74 : decode cX7_workAsking 74 = .ok (.getfield 299, 3) := by decide +kernel
theorem dX7_workAsking_77 : decode cX7_workAsking 77 = .ok (.iload_n 2, 1) := by decide +kernel
theorem dX7_workAsking_78 : decode cX7_workAsking 78 = .ok (.iaload, 1) := by decide +kernel
theorem dX7_workAsking_79 : decode cX7_workAsking 79 = .ok (.aload_n 0, 1) := by decide +kernel
theorem dX7_workAsking_80 : decode cX7_workAsking 80 = .ok (.getfield 9, 3) := by decide +kernel
theorem dX7_workAsking_83 : decode cX7_workAsking 83 = .ok (.getfield 300, 3) := by decide +kernel
theorem dX7_workAsking_86 : decode cX7_workAsking 86 = .ok (.iload_n 2, 1) := by decide +kernel
theorem dX7_workAsking_87 : decode cX7_workAsking 87 = .ok (.iaload, 1) := by decide +kernel
theorem dX7_workAsking_88 : decode cX7_workAsking 88 = .ok (.aload_n 0, 1) := by decide +kernel
theorem dX7_workAsking_89 : decode cX7_workAsking 89 = .ok (.getfield 9, 3) := by decide +kernel
theorem dX7_workAsking_92 : decode cX7_workAsking 92 = .ok (.getfield 301, 3) := by decide +kernel
theorem dX7_workAsking_95 : decode cX7_workAsking 95 = .ok (.iload_n 2, 1) := by decide +kernel
theorem dX7_workAsking_96 : decode cX7_workAsking 96 = .ok (.iaload, 1) := by decide +kernel
theorem dX7_workAsking_97 : decode cX7_workAsking 97 = .ok (.aload_n 0, 1) := by decide +kernel
theorem dX7_workAsking_98 : decode cX7_workAsking 98 = .ok (.getfield 9, 3) := by decide +kernel
theorem dX7_workAsking_101 : decode cX7_workAsking 101 = .ok (.getfield 302, 3) := by decide +kernel
theorem dX7_workAsking_104 : decode cX7_workAsking 104 = .ok (.iload_n 2, 1) := by decide +kernel
theorem dX7_workAsking_105 : decode cX7_workAsking 105 = .ok (.iaload, 1) := by decide +kernel
theorem dX7_workAsking_106 : decode cX7_workAsking 106 = .ok (.aload_n 0, 1) := by decide +kernel
theorem dX7_workAsking_107 : decode cX7_workAsking 107 = .ok (.getfield 9, 3) := by decide +kernel
theorem dX7_workAsking_110 : decode cX7_workAsking 110 = .ok (.getfield 303, 3) := by decide +kernel
theorem dX7_workAsking_113 : decode cX7_workAsking 113 = .ok (.iload_n 2, 1) := by decide +kernel
theorem dX7_workAsking_114 : decode cX7_workAsking 114 = .ok (.iaload, 1) := by decide +kernel
theorem dX7_workAsking_115 : decode cX7_workAsking 115 = .ok (.invokevirtual 271, 3) := by decide +kernel
theorem dX7_workAsking_118 : decode cX7_workAsking 118 = .ok (.invokevirtual 99, 3) := by decide +kernel
theorem dX7_workAsking_121 : decode cX7_workAsking 121 = .ok (.return_, 1) := by decide +kernel
theorem dX7_wrap_0 : decode cX7_wrap 0 = .ok (.aload_n 0, 1) := by decide +kernel
theorem dX7_wrap_1 : decode cX7_wrap 1 = .ok (.getfield 18, 3) := by decide +kernel
theorem dX7_wrap_4 : decode cX7_wrap 4 = .ok (.lload_n 1, 1) := by decide +kernel
theorem dX7_wrap_5 : decode cX7_wrap 5 = .ok (.invokevirtual 243, 3) := by decide +kernel
theorem dX7_wrap_8 : decode cX7_wrap 8 = .ok (.istore 8, 2) := by decide +kernel
theorem dX7_wrap_10 : decode cX7_wrap 10 = .ok (.iload 8, 2) := by decide +kernel
theorem dX7_wrap_12 : decode cX7_wrap 12 = .ok (.iconst (-1), 1) := by decide +kernel
theorem dX7_wrap_13 : decode cX7_wrap 13 = .ok (.if_icmp .ne 7, 3) := by decide +kernel
theorem dX7_wrap_16 : decode cX7_wrap 16 = .ok (.iconst 0, 1) := by decide +kernel
theorem dX7_wrap_17 : decode cX7_wrap 17 = .ok (.goto 13, 3) := by decide +kernel
theorem dX7_wrap_20 : decode cX7_wrap 20 = .ok (.aload_n 0, 1) := by decide +kernel
theorem dX7_wrap_21 : decode cX7_wrap 21 = .ok (.getfield 18, 3) := by decide +kernel
theorem dX7_wrap_24 : decode cX7_wrap 24 = .ok (.getfield 327, 3) := by decide +kernel
theorem dX7_wrap_27 : decode cX7_wrap 27 = .ok (.iload 8, 2) := by decide +kernel
theorem dX7_wrap_29 : decode cX7_wrap 29 = .ok (.iaload, 1) := by decide +kernel
theorem dX7_wrap_30 : decode cX7_wrap 30 = .ok (.istore 9, 2) := by decide +kernel
theorem dX7_wrap_32 : decode cX7_wrap 32 = .ok (.iload 9, 2) := by decide +kernel
theorem dX7_wrap_34 : decode cX7_wrap 34 = .ok (.bipush 20, 2) := by decide +kernel
theorem dX7_wrap_36 : decode cX7_wrap 36 = .ok (.if_icmp .ge 14, 3) := by decide +kernel
theorem dX7_wrap_39 : decode cX7_wrap 39 = .ok (.aload_n 0, 1) := by decide +kernel
theorem dX7_wrap_40 : decode cX7_wrap 40 = .ok (.getfield 18, 3) := by decide +kernel
theorem dX7_wrap_43 : decode cX7_wrap 43 = .ok (.iconst 0, 1) := by decide +kernel
theorem dX7_wrap_44 : decode cX7_wrap 44 = .ok (.invokevirtual 214, 3) := by decide +kernel
theorem dX7_wrap_47 : decode cX7_wrap 47 = .ok (.ifCond .ne 13, 3) := by decide +kernel
theorem dX7_wrap_50 : decode cX7_wrap 50 = .ok (.aload_n 0, 1) := by decide +kernel
theorem dX7_wrap_51 : decode cX7_wrap 51 = .ok (.bipush 6, 2) := by decide +kernel
theorem dX7_wrap_53 : decode cX7_wrap 53 = .ok (.iload 7, 2) := by decide +kernel
theorem dX7_wrap_55 : decode cX7_wrap 55 = .ok (.invokevirtual 184, 3) := by decide +kernel
theorem dX7_wrap_58 : decode cX7_wrap 58 = .ok (.lload_n 1, 1) := by decide +kernel
theorem dX7_wrap_59 : decode cX7_wrap 59 = .ok (.lreturn, 1) := by decide +kernel
theorem dX7_wrap_60 : decode cX7_wrap 60 = .ok (.aload_n 0, 1) := by decide +kernel
theorem dX7_wrap_61 : decode cX7_wrap 61 = .ok (.getfield 18, 3) := by decide +kernel
theorem dX7_wrap_64 : decode cX7_wrap 64 = .ok (.getfield 150, 3) := by decide +kernel
theorem dX7_wrap_67 : decode cX7_wrap 67 = .ok (.istore 10, 2) := by decide +kernel
theorem dX7_wrap_69 : decode cX7_wrap 69 = .ok (.aload_n 0, 1) := by decide +kernel
theorem dX7_wrap_70 : decode cX7_wrap 70 = .ok (.getfield 18, 3) := by decide +kernel
theorem dX7_wrap_73 : decode cX7_wrap 73 = .ok (.dup, 1) := by decide +kernel
theorem dX7_wrap_74 : decode cX7_wrap 74 = .ok (.getfield 150, 3) := by decide +kernel
theorem dX7_wrap_77 : decode cX7_wrap 77 = .ok (.iconst 1, 1) := by decide +kernel
theorem dX7_wrap_78 : decode cX7_wrap 78 = .ok (.iadd, 1) := by decide +kernel
theorem dX7_wrap_79 : decode cX7_wrap 79 = .ok (.putfield 150, 3) := by decide +kernel
theorem dX7_wrap_82 : decode cX7_wrap 82 = .ok (.aload_n 0, 1) := by decide +kernel
theorem dX7_wrap_83 : decode cX7_wrap 83 = .ok (.getfield 18, 3) := by decide +kernel
theorem dX7_wrap_86 : decode cX7_wrap 86 = .ok (.getfield 327, 3) := by decide +kernel
theorem dX7_wrap_89 : decode cX7_wrap 89 = .ok (.iload 10, 2) := by decide +kernel
theorem dX7_wrap_91 : decode cX7_wrap 91 = .ok (.iload 9, 2) := by decide +kernel
theorem dX7_wrap_93 : decode cX7_wrap 93 = .ok (.iconst 1, 1) := by decide +kernel
theorem dX7_wrap_94 : decode cX7_wrap 94 = .ok (.iadd, 1) := by decide +kernel
theorem dX7_wrap_95 : decode cX7_wrap 95 = .ok (.iastore, 1) := by decide +kernel
theorem dX7_wrap_96 : decode cX7_wrap 96 = .ok (.aload_n 0, 1) := by decide +kernel
theorem dX7_wrap_97 : decode cX7_wrap 97 = .ok (.getfield 18, 3) := by decide +kernel
theorem dX7_wrap_100 : decode cX7_wrap 100 = .ok (.getfield 246, 3) := by decide +kernel
theorem dX7_wrap_103 : decode cX7_wrap 103 = .ok (.iload 10, 2) := by decide +kernel
theorem dX7_wrap_105 : decode cX7_wrap 105 = .ok (.lload_n 1, 1) := by decide +kernel
theorem dX7_wrap_106 : decode cX7_wrap 106 = .ok (.lastore, 1) := by decide +kernel
theorem dX7_wrap_107 : decode cX7_wrap 107 = .ok (.aload_n 0, 1) := by decide +kernel
theorem dX7_wrap_108 : decode cX7_wrap 108 = .ok (.getfield 18, 3) := by decide +kernel
theorem dX7_wrap_111 : decode cX7_wrap 111 = .ok (.getfield 253, 3) := by decide +kernel
theorem dX7_wrap_114 : decode cX7_wrap 114 = .ok (.iload 10, 2) := by decide +kernel
theorem dX7_wrap_116 : decode cX7_wrap 116 = .ok (.iload_n 3, 1) := by decide +kernel
theorem dX7_wrap_117 : decode cX7_wrap 117 = .ok (.iastore, 1) := by decide +kernel
theorem dX7_wrap_118 : decode cX7_wrap 118 = .ok (.aload_n 0, 1) := by decide +kernel
theorem dX7_wrap_119 : decode cX7_wrap 119 = .ok (.getfield 18, 3) := by decide +kernel
theorem dX7_wrap_122 : decode cX7_wrap 122 = .ok (.getfield 261, 3) := by decide +kernel
theorem dX7_wrap_125 : decode cX7_wrap 125 = .ok (.iload 10, 2) := by decide +kernel
theorem dX7_wrap_127 : decode cX7_wrap 127 = .ok (.iload 4, 2) := by decide +kernel
theorem dX7_wrap_129 : decode cX7_wrap 129 = .ok (.iastore, 1) := by decide +kernel
theorem dX7_wrap_130 : decode cX7_wrap 130 = .ok (.aload_n 0, 1) := by decide +kernel
theorem dX7_wrap_131 : decode cX7_wrap 131 = .ok (.getfield 18, 3) := by decide +kernel
theorem dX7_wrap_134 : decode cX7_wrap 134 = .ok (.getfield 264, 3) := by decide +kernel
theorem dX7_wrap_137 : decode cX7_wrap 137 = .ok (.iload 10, 2) := by decide +kernel
theorem dX7_wrap_139 : decode cX7_wrap 139 = .ok (.iload 5, 2) := by decide +kernel
theorem dX7_wrap_141 : decode cX7_wrap 141 = .ok (.iastore, 1) := by decide +kernel
theorem dX7_wrap_142 : decode cX7_wrap 142 = .ok (.aload_n 0, 1) := by decide +kernel
theorem dX7_wrap_143 : decode cX7_wrap 143 = .ok (.getfield 18, 3) := by decide +kernel
theorem dX7_wrap_146 : decode cX7_wrap 146 = .ok (.getfield 267, 3) := by decide +kernel
theorem dX7_wrap_149 : decode cX7_wrap 149 = .ok (.iload 10, 2) := by decide +kernel
theorem dX7_wrap_151 : decode cX7_wrap 151 = .ok (.iload 6, 2) := by decide +kernel
theorem dX7_wrap_153 : decode cX7_wrap 153 = .ok (.iastore, 1) := by decide +kernel
theorem dX7_wrap_154 : decode cX7_wrap 154 = .ok (.aload_n 0, 1) := by decide +kernel
theorem dX7_wrap_155 : decode cX7_wrap 155 = .ok (.getfield 18, 3) := by decide +kernel
theorem dX7_wrap_158 : decode cX7_wrap 158 = .ok (.getfield 270, 3) := by decide +kernel
theorem dX7_wrap_161 : decode cX7_wrap 161 = .ok (.iload 10, 2) := by decide +kernel
theorem dX7_wrap_163 : decode cX7_wrap 163 = .ok (.iload 7, 2) := by decide +kernel
theorem dX7_wrap_165 : decode cX7_wrap 165 = .ok (.iastore, 1) := by decide +kernel
theorem dX7_wrap_166 : decode cX7_wrap 166 = .ok (.iconst 2, 1) := by decide +kernel
theorem dX7_wrap_167 : decode cX7_wrap 167 = .ok (.iload 10, 2) := by decide +kernel
theorem dX7_wrap_169 : decode cX7_wrap 169 = .ok (.invokestatic 95, 3) := by decide +kernel
theorem dX7_wrap_172 : decode cX7_wrap 172 = .ok (.lreturn, 1) := by decide +kernel
theorem k221 : Cond.static yJ7_fill_53178 ∈ gtb := gtm (in_tables_1_1 (List.mem_of_getElem? (i := 35) rfl)) rfl
theorem k258 : Cond.fieldLink "BlameCourt$Reade\x72" 109 "BlameCourt$Kinds" "count" "I" ∈ gtb := gtm (in_tables_1_1 (List.mem_of_getElem? (i := 72) rfl)) rfl
theorem k283 : Cond.fieldLink "BlameCourt$Running" 249 "BlameCourt$Program" "kinds" "LBlameCourt$Kinds;" ∈ gtb := gtm (in_tables_1_1 (List.mem_of_getElem? (i := 97) rfl)) rfl
theorem k286 : Cond.fieldLink "BlameCourt$Reade\x72" 99 "BlameCourt$Program" "parts" "I" ∈ gtb := gtm (in_tables_1_1 (List.mem_of_getElem? (i := 100) rfl)) rfl
theorem k288 : Cond.fieldLink "BlameCourt$Running" 278 "BlameCourt$Program" "parts" "I" ∈ gtb := gtm (in_tables_1_1 (List.mem_of_getElem? (i := 102) rfl)) rfl
theorem k291 : Cond.fieldLink "BlameCourt$Reade\x72" 285 "BlameCourt$Program" "mainPart" "I" ∈ gtb := gtm (in_tables_1_1 (List.mem_of_getElem? (i := 105) rfl)) rfl
theorem k316 : Cond.fieldLink "BlameCourt$Running" 281 "BlameCourt$Program" "entry" "[I" ∈ gtb := gtm (in_tables_1_1 (List.mem_of_getElem? (i := 130) rfl)) rfl
theorem k319 : Cond.fieldLink "BlameCourt$Reade\x72" 114 "BlameCourt$Program" "textKinds" "I" ∈ gtb := gtm (in_tables_1_1 (List.mem_of_getElem? (i := 133) rfl)) rfl
theorem k321 : Cond.fieldLink "BlameCourt$Running" 111 "BlameCourt$Program" "op" "[I" ∈ gtb := gtm (in_tables_1_1 (List.mem_of_getElem? (i := 135) rfl)) rfl
theorem k323 : Cond.fieldLink "BlameCourt$Reade\x72" 291 "BlameCourt$Program" "op" "[I" ∈ gtb := gtm (in_tables_1_1 (List.mem_of_getElem? (i := 137) rfl)) rfl
theorem k325 : Cond.fieldLink "BlameCourt$Running" 127 "BlameCourt$Program" "x" "[I" ∈ gtb := gtm (in_tables_1_1 (List.mem_of_getElem? (i := 139) rfl)) rfl
theorem k330 : Cond.fieldLink "BlameCourt$Running" 291 "BlameCourt$Program" "y" "[I" ∈ gtb := gtm (in_tables_1_1 (List.mem_of_getElem? (i := 144) rfl)) rfl
theorem k332 : Cond.fieldLink "BlameCourt$Running" 120 "BlameCourt$Program" "place" "[I" ∈ gtb := gtm (in_tables_1_1 (List.mem_of_getElem? (i := 146) rfl)) rfl
theorem k469 : Cond.fieldLink "BlameCourt$Running" 303 "BlameCourt$Guards" "place" "[I" ∈ gtb := gtm (in_tables_1_2 (List.mem_of_getElem? (i := 43) rfl)) rfl
theorem k472 : Cond.fieldLink "BlameCourt$Running" 301 "BlameCourt$Guards" "give\x72" "[I" ∈ gtb := gtm (in_tables_1_2 (List.mem_of_getElem? (i := 46) rfl)) rfl
theorem k475 : Cond.fieldLink "BlameCourt$Running" 302 "BlameCourt$Guards" "take\x72" "[I" ∈ gtb := gtm (in_tables_1_2 (List.mem_of_getElem? (i := 49) rfl)) rfl
theorem k478 : Cond.fieldLink "BlameCourt$Running" 299 "BlameCourt$Guards" "from" "[I" ∈ gtb := gtm (in_tables_1_2 (List.mem_of_getElem? (i := 52) rfl)) rfl
theorem k481 : Cond.fieldLink "BlameCourt$Running" 300 "BlameCourt$Guards" "to" "[I" ∈ gtb := gtm (in_tables_1_2 (List.mem_of_getElem? (i := 55) rfl)) rfl
theorem k485 : Cond.fieldLink "BlameCourt$Running" 294 "BlameCourt$Guards" "count" "I" ∈ gtb := gtm (in_tables_1_2 (List.mem_of_getElem? (i := 59) rfl)) rfl
theorem k570 : Cond.fieldLink "BlameCourt$Running" 150 "BlameCourt$Heap" "wrappings" "I" ∈ gtb := gtm (in_tables_1_2 (List.mem_of_getElem? (i := 144) rfl)) rfl
theorem k575 : Cond.fieldLink "BlameCourt$Running" 246 "BlameCourt$Heap" "within" "[J" ∈ gtb := gtm (in_tables_1_2 (List.mem_of_getElem? (i := 149) rfl)) rfl
theorem k577 : Cond.fieldLink "BlameCourt$Running" 253 "BlameCourt$Heap" "from" "[I" ∈ gtb := gtm (in_tables_1_2 (List.mem_of_getElem? (i := 151) rfl)) rfl
theorem k579 : Cond.fieldLink "BlameCourt$Running" 261 "BlameCourt$Heap" "to" "[I" ∈ gtb := gtm (in_tables_1_2 (List.mem_of_getElem? (i := 153) rfl)) rfl
theorem k581 : Cond.fieldLink "BlameCourt$Running" 264 "BlameCourt$Heap" "give\x72" "[I" ∈ gtb := gtm (in_tables_1_2 (List.mem_of_getElem? (i := 155) rfl)) rfl
theorem k583 : Cond.fieldLink "BlameCourt$Running" 267 "BlameCourt$Heap" "take\x72" "[I" ∈ gtb := gtm (in_tables_1_2 (List.mem_of_getElem? (i := 157) rfl)) rfl
theorem k585 : Cond.fieldLink "BlameCourt$Running" 270 "BlameCourt$Heap" "place" "[I" ∈ gtb := gtm (in_tables_1_2 (List.mem_of_getElem? (i := 159) rfl)) rfl
theorem k587 : Cond.fieldLink "BlameCourt$Running" 327 "BlameCourt$Heap" "around" "[I" ∈ gtb := gtm (in_tables_1_2 (List.mem_of_getElem? (i := 161) rfl)) rfl
theorem k615 : Cond.fieldLink "BlameCourt$Running" 9 "BlameCourt$Running" "guards" "LBlameCourt$Guards;" ∈ gtb := gtm (in_tables_1_2 (List.mem_of_getElem? (i := 189) rfl)) rfl
theorem k616 : Cond.fieldLink "BlameCourt$Running" 18 "BlameCourt$Running" "heap" "LBlameCourt$Heap;" ∈ gtb := gtm (in_tables_1_2 (List.mem_of_getElem? (i := 190) rfl)) rfl
theorem k617 : Cond.fieldLink "BlameCourt$Running" 22 "BlameCourt$Running" "program" "LBlameCourt$Program;" ∈ gtb := gtm (in_tables_1_2 (List.mem_of_getElem? (i := 191) rfl)) rfl
theorem k618 : Cond.fieldLink "BlameCourt$Running" 26 "BlameCourt$Running" "guarded" "Z" ∈ gtb := gtm (in_tables_1_2 (List.mem_of_getElem? (i := 192) rfl)) rfl
theorem k619 : Cond.fieldLink "BlameCourt$Running" 30 "BlameCourt$Running" "going" "Z" ∈ gtb := gtm (in_tables_1_2 (List.mem_of_getElem? (i := 193) rfl)) rfl
theorem k620 : Cond.fieldLink "BlameCourt$Running" 33 "BlameCourt$Running" "ended" "I" ∈ gtb := gtm (in_tables_1_2 (List.mem_of_getElem? (i := 194) rfl)) rfl
theorem k621 : Cond.fieldLink "BlameCourt$Running" 37 "BlameCourt$Running" "endPlace" "I" ∈ gtb := gtm (in_tables_1_2 (List.mem_of_getElem? (i := 195) rfl)) rfl
theorem k622 : Cond.fieldLink "BlameCourt$Running" 40 "BlameCourt$Running" "blamed" "I" ∈ gtb := gtm (in_tables_1_2 (List.mem_of_getElem? (i := 196) rfl)) rfl
theorem k625 : Cond.fieldLink "BlameCourt$Running" 49 "BlameCourt$Running" "pc" "I" ∈ gtb := gtm (in_tables_1_2 (List.mem_of_getElem? (i := 199) rfl)) rfl
theorem k626 : Cond.fieldLink "BlameCourt$Running" 52 "BlameCourt$Running" "calls" "I" ∈ gtb := gtm (in_tables_1_2 (List.mem_of_getElem? (i := 200) rfl)) rfl
theorem k627 : Cond.fieldLink "BlameCourt$Running" 55 "BlameCourt$Running" "returnTo" "[I" ∈ gtb := gtm (in_tables_1_2 (List.mem_of_getElem? (i := 201) rfl)) rfl
theorem k628 : Cond.fieldLink "BlameCourt$Running" 59 "BlameCourt$Running" "local" "[J" ∈ gtb := gtm (in_tables_1_2 (List.mem_of_getElem? (i := 202) rfl)) rfl
theorem k629 : Cond.fieldLink "BlameCourt$Running" 63 "BlameCourt$Running" "stack" "[J" ∈ gtb := gtm (in_tables_1_2 (List.mem_of_getElem? (i := 203) rfl)) rfl
theorem k630 : Cond.fieldLink "BlameCourt$Running" 66 "BlameCourt$Running" "top" "I" ∈ gtb := gtm (in_tables_1_2 (List.mem_of_getElem? (i := 204) rfl)) rfl
theorem k636 : Cond.fieldLink "BlameCourt$Running" 78 "BlameCourt$Running" "askings" "[I" ∈ gtb := gtm (in_tables_1_2 (List.mem_of_getElem? (i := 210) rfl)) rfl
theorem k739 : Cond.methodLink "BlameCourt$Reade\x72" 61 yX5_clear ∈ gtb := gtm (in_tables_1_3 (List.mem_of_getElem? (i := 73) rfl)) rfl
theorem k751 : Cond.methodLink "BlameCourt$Reade\x72" 66 yX9_begin ∈ gtb := gtm (in_tables_1_3 (List.mem_of_getElem? (i := 85) rfl)) rfl
theorem k812 : Cond.methodLink "BlameCourt$Reade\x72" 79 yX6_takePartName ∈ gtb := gtm (in_tables_1_3 (List.mem_of_getElem? (i := 146) rfl)) rfl
theorem k821 : Cond.methodLink "BlameCourt$Reade\x72" 82 yX6_takeParams ∈ gtb := gtm (in_tables_1_3 (List.mem_of_getElem? (i := 155) rfl)) rfl
theorem k859 : Cond.methodLink "BlameCourt$Reade\x72" 85 yX6_takeOwnKind ∈ gtb := gtm (in_tables_1_3 (List.mem_of_getElem? (i := 193) rfl)) rfl
theorem k958 : Cond.methodLink "BlameCourt$Reade\x72" 92 yX6_endPart ∈ gtb := gtm (in_tables_1_4 (List.mem_of_getElem? (i := 52) rfl)) rfl
theorem k962 : Cond.methodLink "BlameCourt$Reade\x72" 117 yX6_resolve ∈ gtb := gtm (in_tables_1_4 (List.mem_of_getElem? (i := 56) rfl)) rfl
theorem k966 : Cond.methodLink "BlameCourt$Reade\x72" 277 yX5_partOfName ∈ gtb := gtm (in_tables_1_4 (List.mem_of_getElem? (i := 60) rfl)) rfl
theorem k970 : Cond.methodLink "BlameCourt$Reade\x72" 280 yX6_resolveAt ∈ gtb := gtm (in_tables_1_4 (List.mem_of_getElem? (i := 64) rfl)) rfl
theorem k974 : Cond.methodLink "BlameCourt$Reade\x72" 294 yX9_goTo ∈ gtb := gtm (in_tables_1_4 (List.mem_of_getElem? (i := 68) rfl)) rfl
theorem k975 : Cond.constantLong "BlameCourt$Reade\x72" 283 1835100526 ∈ gtb := gtm (in_tables_1_4 (List.mem_of_getElem? (i := 69) rfl)) rfl
theorem k976 : Cond.methodLink "BlameCourt$Reade\x72" 288 yX5_paramsOf ∈ gtb := gtm (in_tables_1_4 (List.mem_of_getElem? (i := 70) rfl)) rfl
theorem k1141 : Cond.methodLink "BlameCourt$Running" 95 yX1_valueOf ∈ gtb := gtm (in_tables_1_4 (List.mem_of_getElem? (i := 235) rfl)) rfl
theorem k1145 : Cond.methodLink "BlameCourt$Running" 99 yX7_push ∈ gtb := gtm (in_tables_1_4 (List.mem_of_getElem? (i := 239) rfl)) rfl
theorem k1153 : Cond.methodLink "BlameCourt$Running" 184 yX7_failWith ∈ gtb := gtm (in_tables_1_5 (List.mem_of_getElem? (i := 7) rfl)) rfl
theorem k1157 : Cond.methodLink "BlameCourt$Running" 176 yX7_slotAt ∈ gtb := gtm (in_tables_1_5 (List.mem_of_getElem? (i := 11) rfl)) rfl
theorem k1161 : Cond.methodLink "BlameCourt$Running" 162 yX7_pop ∈ gtb := gtm (in_tables_1_5 (List.mem_of_getElem? (i := 15) rfl)) rfl
theorem k1170 : Cond.methodLink "BlameCourt$Running" 288 yX7_askUntold ∈ gtb := gtm (in_tables_1_5 (List.mem_of_getElem? (i := 24) rfl)) rfl
theorem k1174 : Cond.methodLink "BlameCourt$Running" 304 yX7_sortAskedBy ∈ gtb := gtm (in_tables_1_5 (List.mem_of_getElem? (i := 28) rfl)) rfl
theorem k1175 : Cond.static yX7_sortAskedBy ∈ gtb := gtm (in_tables_1_5 (List.mem_of_getElem? (i := 29) rfl)) rfl
theorem k1177 : Cond.methodLink "BlameCourt$Running" 307 yX7_isSuch ∈ gtb := gtm (in_tables_1_5 (List.mem_of_getElem? (i := 31) rfl)) rfl
theorem k1181 : Cond.methodLink "BlameCourt$Running" 140 yX1_sortOf ∈ gtb := gtm (in_tables_1_5 (List.mem_of_getElem? (i := 35) rfl)) rfl
theorem k1184 : Cond.methodLink "BlameCourt$Running" 159 yX1_contentOf ∈ gtb := gtm (in_tables_1_5 (List.mem_of_getElem? (i := 38) rfl)) rfl
theorem k1187 : Cond.methodLink "BlameCourt$Running" 311 yX5_paramsOf ∈ gtb := gtm (in_tables_1_5 (List.mem_of_getElem? (i := 41) rfl)) rfl
theorem k1188 : Cond.methodLink "BlameCourt$Running" 271 yX7_ask ∈ gtb := gtm (in_tables_1_5 (List.mem_of_getElem? (i := 42) rfl)) rfl
theorem k1192 : Cond.methodLink "BlameCourt$Running" 314 yX7_count ∈ gtb := gtm (in_tables_1_5 (List.mem_of_getElem? (i := 46) rfl)) rfl
theorem k1196 : Cond.methodLink "BlameCourt$Running" 316 yX3_withAnys ∈ gtb := gtm (in_tables_1_5 (List.mem_of_getElem? (i := 50) rfl)) rfl
theorem k1200 : Cond.methodLink "BlameCourt$Running" 136 yX1_core ∈ gtb := gtm (in_tables_1_5 (List.mem_of_getElem? (i := 54) rfl)) rfl
theorem k1209 : Cond.methodLink "BlameCourt$Running" 319 yX3_sortOf ∈ gtb := gtm (in_tables_1_5 (List.mem_of_getElem? (i := 63) rfl)) rfl
theorem k1210 : Cond.methodLink "BlameCourt$Running" 321 yX3_takenBy ∈ gtb := gtm (in_tables_1_5 (List.mem_of_getElem? (i := 64) rfl)) rfl
theorem k1211 : Cond.methodLink "BlameCourt$Running" 324 yX7_wrap ∈ gtb := gtm (in_tables_1_5 (List.mem_of_getElem? (i := 65) rfl)) rfl
theorem k1215 : Cond.methodLink "BlameCourt$Running" 243 yX1_wrappingOf ∈ gtb := gtm (in_tables_1_5 (List.mem_of_getElem? (i := 69) rfl)) rfl
theorem k1216 : Cond.methodLink "BlameCourt$Running" 214 yX1_hasRoom ∈ gtb := gtm (in_tables_1_5 (List.mem_of_getElem? (i := 70) rfl)) rfl
theorem k961 : Cond.code yX6_endPart cX6_endPart 3 none ∈ gtb := gtm (in_tables_1_4 (List.mem_of_getElem? (i := 55) rfl)) rfl
theorem ka_X6_endPart : KA yX6_endPart cX6_endPart 3 none 2 := ⟨k961, k191, by decide, by decide, by decide +kernel⟩
theorem k960 : Cond.instanceMethod yX6_endPart ∈ gtb := gtm (in_tables_1_4 (List.mem_of_getElem? (i := 54) rfl)) rfl
theorem k43 : Cond.selects "BlameCourt$Reade\x72" yX6_endPart yX6_endPart ∈ gtb := gtm (in_lw_privs_3 (q := (yX6_endPart, 14)) (List.mem_of_getElem? (i := 11) rfl)) rfl
theorem kv_X6_endPart : KV yX6_endPart := ⟨k960, k43⟩
theorem k738 : Cond.code yX6_readInto cX6_readInto 5 none ∈ gtb := gtm (in_tables_1_3 (List.mem_of_getElem? (i := 72) rfl)) rfl
theorem ka_X6_readInto : KA yX6_readInto cX6_readInto 5 none 3 := ⟨k738, k191, by decide, by decide, by decide +kernel⟩
theorem k736 : Cond.instanceMethod yX6_readInto ∈ gtb := gtm (in_tables_1_3 (List.mem_of_getElem? (i := 70) rfl)) rfl
theorem k737 : Cond.selects "BlameCourt$Reade\x72" yX6_readInto yX6_readInto ∈ gtb := gtm (in_tables_1_3 (List.mem_of_getElem? (i := 71) rfl)) rfl
theorem kv_X6_readInto : KV yX6_readInto := ⟨k736, k737⟩
theorem k965 : Cond.code yX6_resolve cX6_resolve 4 none ∈ gtb := gtm (in_tables_1_4 (List.mem_of_getElem? (i := 59) rfl)) rfl
theorem ka_X6_resolve : KA yX6_resolve cX6_resolve 4 none 1 := ⟨k965, k191, by decide, by decide, by decide +kernel⟩
theorem k964 : Cond.instanceMethod yX6_resolve ∈ gtb := gtm (in_tables_1_4 (List.mem_of_getElem? (i := 58) rfl)) rfl
theorem k44 : Cond.selects "BlameCourt$Reade\x72" yX6_resolve yX6_resolve ∈ gtb := gtm (in_lw_privs_3 (q := (yX6_resolve, 14)) (List.mem_of_getElem? (i := 12) rfl)) rfl
theorem kv_X6_resolve : KV yX6_resolve := ⟨k964, k44⟩
theorem k973 : Cond.code yX6_resolveAt cX6_resolveAt 3 none ∈ gtb := gtm (in_tables_1_4 (List.mem_of_getElem? (i := 67) rfl)) rfl
theorem ka_X6_resolveAt : KA yX6_resolveAt cX6_resolveAt 3 none 1 := ⟨k973, k191, by decide, by decide, by decide +kernel⟩
theorem k972 : Cond.instanceMethod yX6_resolveAt ∈ gtb := gtm (in_tables_1_4 (List.mem_of_getElem? (i := 66) rfl)) rfl
theorem k45 : Cond.selects "BlameCourt$Reade\x72" yX6_resolveAt yX6_resolveAt ∈ gtb := gtm (in_lw_privs_3 (q := (yX6_resolveAt, 14)) (List.mem_of_getElem? (i := 13) rfl)) rfl
theorem kv_X6_resolveAt : KV yX6_resolveAt := ⟨k972, k45⟩
theorem k1191 : Cond.code yX7_ask cX7_ask 11 (some .long) ∈ gtb := gtm (in_tables_1_5 (List.mem_of_getElem? (i := 45) rfl)) rfl
theorem k195 : Cond.initialized "BlameCourt$Running" ∈ gtb := gtm (in_tables_1_1 (List.mem_of_getElem? (i := 9) rfl)) rfl
theorem ka_X7_ask : KA yX7_ask cX7_ask 11 (some .long) 6 := ⟨k1191, k195, by decide, by decide, by decide +kernel⟩
theorem k1190 : Cond.instanceMethod yX7_ask ∈ gtb := gtm (in_tables_1_5 (List.mem_of_getElem? (i := 44) rfl)) rfl
theorem k74 : Cond.selects "BlameCourt$Running" yX7_ask yX7_ask ∈ gtb := gtm (in_lw_privs_5 (q := (yX7_ask, 20)) (List.mem_of_getElem? (i := 10) rfl)) rfl
theorem kv_X7_ask : KV yX7_ask := ⟨k1190, k74⟩
theorem k1173 : Cond.code yX7_askUntold cX7_askUntold 5 none ∈ gtb := gtm (in_tables_1_5 (List.mem_of_getElem? (i := 27) rfl)) rfl
theorem ka_X7_askUntold : KA yX7_askUntold cX7_askUntold 5 none 3 := ⟨k1173, k195, by decide, by decide, by decide +kernel⟩
theorem k1172 : Cond.instanceMethod yX7_askUntold ∈ gtb := gtm (in_tables_1_5 (List.mem_of_getElem? (i := 26) rfl)) rfl
theorem k72 : Cond.selects "BlameCourt$Running" yX7_askUntold yX7_askUntold ∈ gtb := gtm (in_lw_privs_5 (q := (yX7_askUntold, 20)) (List.mem_of_getElem? (i := 8) rfl)) rfl
theorem kv_X7_askUntold : KV yX7_askUntold := ⟨k1172, k72⟩
theorem k1195 : Cond.code yX7_count cX7_count 4 none ∈ gtb := gtm (in_tables_1_5 (List.mem_of_getElem? (i := 49) rfl)) rfl
theorem ka_X7_count : KA yX7_count cX7_count 4 none 2 := ⟨k1195, k195, by decide, by decide, by decide +kernel⟩
theorem k1194 : Cond.instanceMethod yX7_count ∈ gtb := gtm (in_tables_1_5 (List.mem_of_getElem? (i := 48) rfl)) rfl
theorem k75 : Cond.selects "BlameCourt$Running" yX7_count yX7_count ∈ gtb := gtm (in_lw_privs_5 (q := (yX7_count, 20)) (List.mem_of_getElem? (i := 11) rfl)) rfl
theorem kv_X7_count : KV yX7_count := ⟨k1194, k75⟩
theorem k1152 : Cond.code yX7_enterPart cX7_enterPart 5 none ∈ gtb := gtm (in_tables_1_5 (List.mem_of_getElem? (i := 6) rfl)) rfl
theorem ka_X7_enterPart : KA yX7_enterPart cX7_enterPart 5 none 3 := ⟨k1152, k195, by decide, by decide, by decide +kernel⟩
theorem k1151 : Cond.instanceMethod yX7_enterPart ∈ gtb := gtm (in_tables_1_5 (List.mem_of_getElem? (i := 5) rfl)) rfl
theorem k67 : Cond.selects "BlameCourt$Running" yX7_enterPart yX7_enterPart ∈ gtb := gtm (in_lw_privs_5 (q := (yX7_enterPart, 20)) (List.mem_of_getElem? (i := 3) rfl)) rfl
theorem kv_X7_enterPart : KV yX7_enterPart := ⟨k1151, k67⟩
theorem k1156 : Cond.code yX7_failWith cX7_failWith 3 none ∈ gtb := gtm (in_tables_1_5 (List.mem_of_getElem? (i := 10) rfl)) rfl
theorem ka_X7_failWith : KA yX7_failWith cX7_failWith 3 none 2 := ⟨k1156, k195, by decide, by decide, by decide +kernel⟩
theorem k1155 : Cond.instanceMethod yX7_failWith ∈ gtb := gtm (in_tables_1_5 (List.mem_of_getElem? (i := 9) rfl)) rfl
theorem k68 : Cond.selects "BlameCourt$Running" yX7_failWith yX7_failWith ∈ gtb := gtm (in_lw_privs_5 (q := (yX7_failWith, 20)) (List.mem_of_getElem? (i := 4) rfl)) rfl
theorem kv_X7_failWith : KV yX7_failWith := ⟨k1155, k68⟩
theorem k1180 : Cond.code yX7_isSuch cX7_isSuch 5 (some .boolean) ∈ gtb := gtm (in_tables_1_5 (List.mem_of_getElem? (i := 34) rfl)) rfl
theorem ka_X7_isSuch : KA yX7_isSuch cX7_isSuch 5 (some .boolean) 3 := ⟨k1180, k195, by decide, by decide, by decide +kernel⟩
theorem k1179 : Cond.instanceMethod yX7_isSuch ∈ gtb := gtm (in_tables_1_5 (List.mem_of_getElem? (i := 33) rfl)) rfl
theorem k73 : Cond.selects "BlameCourt$Running" yX7_isSuch yX7_isSuch ∈ gtb := gtm (in_lw_privs_5 (q := (yX7_isSuch, 20)) (List.mem_of_getElem? (i := 9) rfl)) rfl
theorem kv_X7_isSuch : KV yX7_isSuch := ⟨k1179, k73⟩
theorem k1164 : Cond.code yX7_pop cX7_pop 1 (some .long) ∈ gtb := gtm (in_tables_1_5 (List.mem_of_getElem? (i := 18) rfl)) rfl
theorem ka_X7_pop : KA yX7_pop cX7_pop 1 (some .long) 0 := ⟨k1164, k195, by decide, by decide, by decide +kernel⟩
theorem k1163 : Cond.instanceMethod yX7_pop ∈ gtb := gtm (in_tables_1_5 (List.mem_of_getElem? (i := 17) rfl)) rfl
theorem k70 : Cond.selects "BlameCourt$Running" yX7_pop yX7_pop ∈ gtb := gtm (in_lw_privs_5 (q := (yX7_pop, 20)) (List.mem_of_getElem? (i := 6) rfl)) rfl
theorem kv_X7_pop : KV yX7_pop := ⟨k1163, k70⟩
theorem k1227 : Cond.code yX7_popContent cX7_popContent 1 (some .int) ∈ gtb := gtm (in_tables_1_5 (List.mem_of_getElem? (i := 81) rfl)) rfl
theorem ka_X7_popContent : KA yX7_popContent cX7_popContent 1 (some .int) 0 := ⟨k1227, k195, by decide, by decide, by decide +kernel⟩
theorem k1226 : Cond.instanceMethod yX7_popContent ∈ gtb := gtm (in_tables_1_5 (List.mem_of_getElem? (i := 80) rfl)) rfl
theorem k78 : Cond.selects "BlameCourt$Running" yX7_popContent yX7_popContent ∈ gtb := gtm (in_lw_privs_5 (q := (yX7_popContent, 20)) (List.mem_of_getElem? (i := 14) rfl)) rfl
theorem kv_X7_popContent : KV yX7_popContent := ⟨k1226, k78⟩
theorem k1148 : Cond.code yX7_push cX7_push 3 none ∈ gtb := gtm (in_tables_1_5 (List.mem_of_getElem? (i := 2) rfl)) rfl
theorem ka_X7_push : KA yX7_push cX7_push 3 none 1 := ⟨k1148, k195, by decide, by decide, by decide +kernel⟩
theorem k1147 : Cond.instanceMethod yX7_push ∈ gtb := gtm (in_tables_1_5 (List.mem_of_getElem? (i := 1) rfl)) rfl
theorem k66 : Cond.selects "BlameCourt$Running" yX7_push yX7_push ∈ gtb := gtm (in_lw_privs_5 (q := (yX7_push, 20)) (List.mem_of_getElem? (i := 2) rfl)) rfl
theorem kv_X7_push : KV yX7_push := ⟨k1147, k66⟩
theorem k1231 : Cond.code yX7_pushNumber cX7_pushNumber 2 none ∈ gtb := gtm (in_tables_1_5 (List.mem_of_getElem? (i := 85) rfl)) rfl
theorem ka_X7_pushNumber : KA yX7_pushNumber cX7_pushNumber 2 none 1 := ⟨k1231, k195, by decide, by decide, by decide +kernel⟩
theorem k1230 : Cond.instanceMethod yX7_pushNumber ∈ gtb := gtm (in_tables_1_5 (List.mem_of_getElem? (i := 84) rfl)) rfl
theorem k79 : Cond.selects "BlameCourt$Running" yX7_pushNumber yX7_pushNumber ∈ gtb := gtm (in_lw_privs_5 (q := (yX7_pushNumber, 20)) (List.mem_of_getElem? (i := 15) rfl)) rfl
theorem kv_X7_pushNumber : KV yX7_pushNumber := ⟨k1230, k79⟩
theorem k1235 : Cond.code yX7_pushTruth cX7_pushTruth 2 none ∈ gtb := gtm (in_tables_1_5 (List.mem_of_getElem? (i := 89) rfl)) rfl
theorem ka_X7_pushTruth : KA yX7_pushTruth cX7_pushTruth 2 none 1 := ⟨k1235, k195, by decide, by decide, by decide +kernel⟩
theorem k1234 : Cond.instanceMethod yX7_pushTruth ∈ gtb := gtm (in_tables_1_5 (List.mem_of_getElem? (i := 88) rfl)) rfl
theorem k80 : Cond.selects "BlameCourt$Running" yX7_pushTruth yX7_pushTruth ∈ gtb := gtm (in_lw_privs_6 (q := (yX7_pushTruth, 20)) (List.mem_of_getElem? (i := 0) rfl)) rfl
theorem kv_X7_pushTruth : KV yX7_pushTruth := ⟨k1234, k80⟩
theorem k1160 : Cond.code yX7_slotAt cX7_slotAt 3 (some .int) ∈ gtb := gtm (in_tables_1_5 (List.mem_of_getElem? (i := 14) rfl)) rfl
theorem ka_X7_slotAt : KA yX7_slotAt cX7_slotAt 3 (some .int) 1 := ⟨k1160, k195, by decide, by decide, by decide +kernel⟩
theorem k1159 : Cond.instanceMethod yX7_slotAt ∈ gtb := gtm (in_tables_1_5 (List.mem_of_getElem? (i := 13) rfl)) rfl
theorem k69 : Cond.selects "BlameCourt$Running" yX7_slotAt yX7_slotAt ∈ gtb := gtm (in_lw_privs_5 (q := (yX7_slotAt, 20)) (List.mem_of_getElem? (i := 5) rfl)) rfl
theorem kv_X7_slotAt : KV yX7_slotAt := ⟨k1159, k69⟩
theorem k1176 : Cond.code yX7_sortAskedBy cX7_sortAskedBy 1 (some .int) ∈ gtb := gtm (in_tables_1_5 (List.mem_of_getElem? (i := 30) rfl)) rfl
theorem ka_X7_sortAskedBy : KA yX7_sortAskedBy cX7_sortAskedBy 1 (some .int) 1 := ⟨k1176, k195, by decide, by decide, by decide +kernel⟩
theorem k1169 : Cond.code yX7_workAsking cX7_workAsking 3 none ∈ gtb := gtm (in_tables_1_5 (List.mem_of_getElem? (i := 23) rfl)) rfl
theorem ka_X7_workAsking : KA yX7_workAsking cX7_workAsking 3 none 1 := ⟨k1169, k195, by decide, by decide, by decide +kernel⟩
theorem k1168 : Cond.instanceMethod yX7_workAsking ∈ gtb := gtm (in_tables_1_5 (List.mem_of_getElem? (i := 22) rfl)) rfl
theorem k71 : Cond.selects "BlameCourt$Running" yX7_workAsking yX7_workAsking ∈ gtb := gtm (in_lw_privs_5 (q := (yX7_workAsking, 20)) (List.mem_of_getElem? (i := 7) rfl)) rfl
theorem kv_X7_workAsking : KV yX7_workAsking := ⟨k1168, k71⟩
theorem k1214 : Cond.code yX7_wrap cX7_wrap 11 (some .long) ∈ gtb := gtm (in_tables_1_5 (List.mem_of_getElem? (i := 68) rfl)) rfl
theorem ka_X7_wrap : KA yX7_wrap cX7_wrap 11 (some .long) 6 := ⟨k1214, k195, by decide, by decide, by decide +kernel⟩
theorem k1213 : Cond.instanceMethod yX7_wrap ∈ gtb := gtm (in_tables_1_5 (List.mem_of_getElem? (i := 67) rfl)) rfl
theorem k76 : Cond.selects "BlameCourt$Running" yX7_wrap yX7_wrap ∈ gtb := gtm (in_lw_privs_5 (q := (yX7_wrap, 20)) (List.mem_of_getElem? (i := 12) rfl)) rfl
theorem kv_X7_wrap : KV yX7_wrap := ⟨k1213, k76⟩
theorem k222 : Cond.code yJ7_fill_53178 cJ7_fill_53178 4 none ∈ gtb := gtm (in_tables_1_1 (List.mem_of_getElem? (i := 36) rfl)) rfl
theorem k190 : Cond.initialized "java/util/Arrays" ∈ gtb := gtm (in_tables_1_1 (List.mem_of_getElem? (i := 4) rfl)) rfl
theorem ka_J7_fill_53178 : KA yJ7_fill_53178 cJ7_fill_53178 4 none 2 := ⟨k222, k190, by decide, by decide, by decide +kernel⟩
noncomputable def g_Reader_endPart (p1 : Int32) (p2 : Int32) (X : St) : Option (Int32 × St) :=
  chk (refO YC (X.2.2 46 1) 4 17 = true) (letV (X.2.2 46 1 - 1) fun e1 =>
  bnd (g_Reader_placeOf p2 X) fun x2 X3 =>
  bnd (g_Program_emit e1 (35 : Int32) p1 x2 X3) fun x4 X5 =>
  chk (refO YC (X5.2.2 46 1) 4 17 = true) (letV (X5.2.2 46 1 - 1) fun e6 =>
  bnd (g_Reader_placeOf p2 X5) fun x7 X8 =>
  bnd (g_Program_emit e6 (17 : Int32) (0 : Int32) x7 X8) fun x9 X10 =>
  bnd (g_Reader_want (59 : Int32) X10) fun _ X11 =>
  chk (refO YC (X11.2.2 46 1) 4 17 = true) (letV (X11.2.2 46 1 - 1) fun e12 =>
  letV (p1 + (1 : Int32)) fun x13 =>
  letV (wI X11 e12 1 x13) fun X14 =>
  some (0, X14))))
set_option maxHeartbeats 4000000 in
set_option maxRecDepth 100000 in
theorem k_Reader_endPart (Γ : GxC) (p1 : Int32) (p2 : Int32) (X : St) : TCV YC Γ yX6_endPart cX6_endPart 3 "BlameCourt$Reade\x72" none { frames := 6, cells := 0, slots := 0, locals := 230 } [.ref (Γ.2.2.2.1 46), .int p1, .int p2] X (g_Reader_endPart p1 p2 X) := by
  refine TCV.of (by decide) (Nat.le_of_ble_eq_true rfl) rfl ?_
  show TC YC Γ cX6_endPart 3 "BlameCourt$Reade\x72" none { frames := 6, cells := 0, slots := 0, locals := 230 } _ kV 0 [(0, .ref (Γ.2.2.2.1 46)), (1, .int p1), (2, .int p2)] [] X (g_Reader_endPart p1 p2 X)
  unfold g_Reader_endPart
  refine TC.aload_n dX6_endPart_0 rfl 0 rfl ?_
  refine mC5_1 k417 dX6_endPart_1 (fun e1 he1 => ?_)
  refine TC.bipush (w := 35) dX6_endPart_4 (by decide) ?_
  refine TC.iload_n dX6_endPart_6 rfl 1 rfl ?_
  refine TC.aload_n dX6_endPart_7 rfl 0 rfl ?_
  refine TC.iload_n dX6_endPart_8 rfl 2 rfl ?_
  refine TC.callV_i 46 (As1 := [.int p2]) (rest := [.int p1, .int 35, .ref (Γ.2.2.2.1 e1)]) (k_Reader_placeOf Γ p2 X) ka_X6_placeOf kv_X6_placeOf oC_46 rfl k879 rfl rfl rfl rfl (show 2 + 1 ≤ 6 ∧ 8 + (2 + 11) + 70 ≤ 230 from ⟨by omega, by omega⟩) (Nat.le_of_ble_eq_true rfl) dX6_endPart_9 (fun x2 X3 => ?_)
  refine TC.callV_i e1 (As1 := [.int 35, .int p1, .int x2]) (rest := []) (k_Program_emit Γ e1 he1 (35 : Int32) p1 x2 X3) ka_X5_emit kv_X5_emit he1 rfl k875 rfl rfl rfl rfl (show 2 + 1 ≤ 6 ∧ 8 + (4 + 11) + 70 ≤ 230 from ⟨by omega, by omega⟩) (Nat.le_of_ble_eq_true rfl) dX6_endPart_12 (fun x4 X5 => ?_)
  refine TC.pop dX6_endPart_15 ?_
  refine TC.aload_n dX6_endPart_16 rfl 0 rfl ?_
  refine mC5_1 k417 dX6_endPart_17 (fun e6 he6 => ?_)
  refine TC.bipush (w := 17) dX6_endPart_20 (by decide) ?_
  refine TC.iconst (w := 0) dX6_endPart_22 (by decide) ?_
  refine TC.aload_n dX6_endPart_23 rfl 0 rfl ?_
  refine TC.iload_n dX6_endPart_24 rfl 2 rfl ?_
  refine TC.callV_i 46 (As1 := [.int p2]) (rest := [.int 0, .int 17, .ref (Γ.2.2.2.1 e6)]) (k_Reader_placeOf Γ p2 X5) ka_X6_placeOf kv_X6_placeOf oC_46 rfl k879 rfl rfl rfl rfl (show 2 + 1 ≤ 6 ∧ 8 + (2 + 11) + 70 ≤ 230 from ⟨by omega, by omega⟩) (Nat.le_of_ble_eq_true rfl) dX6_endPart_25 (fun x7 X8 => ?_)
  refine TC.callV_i e6 (As1 := [.int 17, .int 0, .int x7]) (rest := []) (k_Program_emit Γ e6 he6 (17 : Int32) (0 : Int32) x7 X8) ka_X5_emit kv_X5_emit he6 rfl k875 rfl rfl rfl rfl (show 2 + 1 ≤ 6 ∧ 8 + (4 + 11) + 70 ≤ 230 from ⟨by omega, by omega⟩) (Nat.le_of_ble_eq_true rfl) dX6_endPart_28 (fun x9 X10 => ?_)
  refine TC.pop dX6_endPart_31 ?_
  refine TC.aload_n dX6_endPart_32 rfl 0 rfl ?_
  refine TC.bipush (w := 59) dX6_endPart_33 (by decide) ?_
  refine TC.callV_v 46 (As1 := [.int 59]) (rest := []) (k_Reader_want Γ (59 : Int32) X10) ka_X6_want kv_X6_want oC_46 rfl k817 rfl rfl rfl rfl (show 5 + 1 ≤ 6 ∧ 8 + (2 + 11) + 190 ≤ 230 from ⟨by omega, by omega⟩) (Nat.le_of_ble_eq_true rfl) dX6_endPart_35 (fun _ X11 => ?_)
  refine TC.aload_n dX6_endPart_38 rfl 0 rfl ?_
  refine mC5_1 k417 dX6_endPart_39 (fun e12 he12 => ?_)
  refine TC.iload_n dX6_endPart_42 rfl 1 rfl ?_
  refine TC.iconst (w := 1) dX6_endPart_43 (by decide) ?_
  refine TC.iadd dX6_endPart_44 (fun x13 => ?_)
  refine pC4_1 e12 he12 k286 dX6_endPart_45 (fun X14 => ?_)
  exact TC.ret_v rfl dX6_endPart_48
noncomputable def g_Reader_resolveAt_65 (a_1 : Int32) (a_2 : Int32) (X : St) : Option (Int32 × St) :=
  chk (refO YC (X.2.2 46 1) 4 17 = true) (letV (X.2.2 46 1 - 1) fun e12 =>
  letV (kY YC e12 14 - 3) fun e13 =>
  chk (inR a_1 9080) (letV (wI X e13 (ix a_1) a_2) fun X14 =>
  some (0, X14)))
set_option maxHeartbeats 4000000 in
set_option maxRecDepth 100000 in
theorem k_Reader_resolveAt_65 (Γ : GxC) (As : List Value) (a_1 : Int32) (a_2 : Int32) (X : St) : TC YC Γ cX6_resolveAt 3 "BlameCourt$Reade\x72" none { frames := 6, cells := 0, slots := 0, locals := 230 } As kV 65 [(0, .ref (Γ.2.2.2.1 46)), (1, .int a_1), (2, .int a_2)] [] X (g_Reader_resolveAt_65 a_1 a_2 X) := by
  unfold g_Reader_resolveAt_65
  refine TC.aload_n dX6_resolveAt_65 rfl 0 rfl ?_
  refine mC5_1 k417 dX6_resolveAt_66 (fun e12 he12 => ?_)
  refine vC4_14 e12 he12 k327 dX6_resolveAt_69 (fun e13 he13 => ?_)
  refine TC.iload_n dX6_resolveAt_72 rfl 1 rfl ?_
  refine TC.iload_n dX6_resolveAt_73 rfl 2 rfl ?_
  refine TC.iast e13 he13 dX6_resolveAt_74 (fun X14 => ?_)
  exact TC.ret_v rfl dX6_resolveAt_75
noncomputable def g_Reader_resolveAt (p1 : Int32) (X : St) : Option (Int32 × St) :=
  chk (refO YC (X.2.2 46 1) 4 17 = true) (letV (X.2.2 46 1 - 1) fun e1 =>
  letV (kY YC e1 13 - 3) fun e2 =>
  chk (inR p1 9080) (letV (X.1 e2 (ix p1)) fun x3 =>
  if x3.toInt = 4 then
    chk (refO YC (X.2.2 46 1) 4 17 = true) (letV (X.2.2 46 1 - 1) fun e4 =>
    letV (kY YC e4 16 - 3) fun e5 =>
    chk (inR p1 9080) (letV (X.1 e5 (ix p1)) fun x6 =>
    bnd (g_Tokens_goTo x6 X) fun _ X7 =>
    chk (refO YC (X7.2.2 46 1) 4 17 = true) (letV (X7.2.2 46 1 - 1) fun e8 =>
    letV (X7.2.1 47 5) fun y9 =>
    bnd (g_Program_partOfName e8 y9 X7) fun x10 X11 =>
    if x10.toInt = -1 then
      chk (refO YC (X11.2.2 46 1) 4 17 = true) (letV (X11.2.2 46 1 - 1) fun e15 =>
      letV (kY YC e15 16 - 3) fun e16 =>
      chk (inR p1 9080) (letV (X11.1 e16 (ix p1)) fun x17 =>
      bnd (g_Reader_refuseAt (6 : Int32) x17 X11) fun _ X18 =>
      g_Reader_resolveAt_65 p1 x10 X18))
    else
      g_Reader_resolveAt_65 p1 x10 X11)))
  else
    some (0, X)))
set_option maxHeartbeats 4000000 in
set_option maxRecDepth 100000 in
theorem k_Reader_resolveAt (Γ : GxC) (p1 : Int32) (X : St) : TCV YC Γ yX6_resolveAt cX6_resolveAt 3 "BlameCourt$Reade\x72" none { frames := 6, cells := 0, slots := 0, locals := 230 } [.ref (Γ.2.2.2.1 46), .int p1] X (g_Reader_resolveAt p1 X) := by
  refine TCV.of (by decide) (Nat.le_of_ble_eq_true rfl) rfl ?_
  show TC YC Γ cX6_resolveAt 3 "BlameCourt$Reade\x72" none { frames := 6, cells := 0, slots := 0, locals := 230 } _ kV 0 [(0, .ref (Γ.2.2.2.1 46)), (1, .int p1)] [] X (g_Reader_resolveAt p1 X)
  unfold g_Reader_resolveAt
  refine TC.aload_n dX6_resolveAt_0 rfl 0 rfl ?_
  refine mC5_1 k417 dX6_resolveAt_1 (fun e1 he1 => ?_)
  refine vC4_13 e1 he1 k323 dX6_resolveAt_4 (fun e2 he2 => ?_)
  refine TC.iload_n dX6_resolveAt_7 rfl 1 rfl ?_
  refine TC.iald e2 he2 dX6_resolveAt_8 (fun x3 => ?_)
  refine TC.iconst (w := 4) dX6_resolveAt_9 (by decide) ?_
  refine TC.icmp_eq (pc1 := 14) dX6_resolveAt_10 (by decide) rfl ?_ ?_
  · refine TC.aload_n dX6_resolveAt_14 rfl 0 rfl ?_
    refine cC5_0 k416 dX6_resolveAt_15 ?_
    refine TC.aload_n dX6_resolveAt_18 rfl 0 rfl ?_
    refine mC5_1 k417 dX6_resolveAt_19 (fun e4 he4 => ?_)
    refine vC4_16 e4 he4 k334 dX6_resolveAt_22 (fun e5 he5 => ?_)
    refine TC.iload_n dX6_resolveAt_25 rfl 1 rfl ?_
    refine TC.iald e5 he5 dX6_resolveAt_26 (fun x6 => ?_)
    refine TC.callV_v 47 (As1 := [.int x6]) (rest := []) (k_Tokens_goTo Γ x6 X) ka_X9_goTo kv_X9_goTo oC_47 rfl k974 rfl rfl rfl rfl (show 5 + 1 ≤ 6 ∧ 8 + (2 + 11) + 190 ≤ 230 from ⟨by omega, by omega⟩) (Nat.le_of_ble_eq_true rfl) dX6_resolveAt_27 (fun _ X7 => ?_)
    refine TC.aload_n dX6_resolveAt_30 rfl 0 rfl ?_
    refine mC5_1 k417 dX6_resolveAt_31 (fun e8 he8 => ?_)
    refine TC.aload_n dX6_resolveAt_34 rfl 0 rfl ?_
    refine cC5_0 k416 dX6_resolveAt_35 ?_
    refine gC7_5 k394 dX6_resolveAt_38 (fun y9 => ?_)
    refine TC.callV_i e8 (As1 := [.long y9]) (rest := []) (k_Program_partOfName Γ e8 he8 y9 X7) ka_X5_partOfName kv_X5_partOfName he8 rfl k966 rfl rfl rfl rfl (show 2 + 1 ≤ 6 ∧ 8 + (4 + 11) + 70 ≤ 230 from ⟨by omega, by omega⟩) (Nat.le_of_ble_eq_true rfl) dX6_resolveAt_41 (fun x10 X11 => ?_)
    refine TC.istore_n (lv1 := [(2, .int x10), (0, .ref (Γ.2.2.2.1 46)), (1, .int p1)]) dX6_resolveAt_44 rfl (by decide) rfl ?_
    refine TC.iload_n dX6_resolveAt_45 rfl 0 rfl ?_
    refine TC.iconst (w := (-1)) dX6_resolveAt_46 (by decide) ?_
    refine TC.icmp_ne (pc1 := 65) dX6_resolveAt_47 (by decide) rfl ?_ ?_
    · refine TC.sub [1, 2, 0] rfl ?_
      exact k_Reader_resolveAt_65 Γ _ p1 x10 X11
    · refine TC.aload_n dX6_resolveAt_50 rfl 1 rfl ?_
      refine TC.bipush (w := 6) dX6_resolveAt_51 (by decide) ?_
      refine TC.aload_n dX6_resolveAt_53 rfl 1 rfl ?_
      refine mC5_1 k417 dX6_resolveAt_54 (fun e15 he15 => ?_)
      refine vC4_16 e15 he15 k334 dX6_resolveAt_57 (fun e16 he16 => ?_)
      refine TC.iload_n dX6_resolveAt_60 rfl 2 rfl ?_
      refine TC.iald e16 he16 dX6_resolveAt_61 (fun x17 => ?_)
      refine TC.callV_v 46 (As1 := [.int 6, .int x17]) (rest := []) (k_Reader_refuseAt Γ (6 : Int32) x17 X11) ka_X6_refuseAt kv_X6_refuseAt oC_46 rfl k804 rfl rfl rfl rfl (show 2 + 1 ≤ 6 ∧ 8 + (3 + 11) + 70 ≤ 230 from ⟨by omega, by omega⟩) (Nat.le_of_ble_eq_true rfl) dX6_resolveAt_62 (fun _ X18 => ?_)
      refine TC.sub [1, 2, 0] rfl ?_
      exact k_Reader_resolveAt_65 Γ _ p1 x10 X18
  · exact TC.ret_v rfl dX6_resolveAt_13
noncomputable def g_Reader_resolve_93 (a_1 : Int32) (X : St) : Option (Int32 × St) :=
  chk (refO YC (X.2.2 46 1) 4 17 = true) (letV (X.2.2 46 1 - 1) fun e3 =>
  chk (refO YC (X.2.2 46 1) 4 17 = true) (letV (X.2.2 46 1 - 1) fun e4 =>
  bnd (g_Program_partOfName e4 (1835100526 : Int64) X) fun x5 X6 =>
  letV (wI X6 e3 2 x5) fun X7 =>
  chk (refO YC (X7.2.2 46 1) 4 17 = true) (letV (X7.2.2 46 1 - 1) fun e8 =>
  chk (refO YC (X7.2.2 46 1) 4 17 = true) (letV (X7.2.2 46 1 - 1) fun e9 =>
  letV (X7.1 e9 2) fun x10 =>
  bnd (g_Program_paramsOf e8 x10 X7) fun x11 X12 =>
  if x11.toInt = 0 then
    some (0, X12)
  else
    bnd (g_Reader_refuseAt (7 : Int32) a_1 X12) fun _ X13 =>
    some (0, X13)))))
set_option maxHeartbeats 4000000 in
set_option maxRecDepth 100000 in
theorem k_Reader_resolve_93 (Γ : GxC) (As : List Value) (a_1 : Int32) (X : St) : TC YC Γ cX6_resolve 4 "BlameCourt$Reade\x72" none { frames := 7, cells := 0, slots := 0, locals := 270 } As kV 93 [(0, .ref (Γ.2.2.2.1 46)), (1, .int a_1)] [] X (g_Reader_resolve_93 a_1 X) := by
  unfold g_Reader_resolve_93
  refine TC.aload_n dX6_resolve_93 rfl 0 rfl ?_
  refine mC5_1 k417 dX6_resolve_94 (fun e3 he3 => ?_)
  refine TC.aload_n dX6_resolve_97 rfl 0 rfl ?_
  refine mC5_1 k417 dX6_resolve_98 (fun e4 he4 => ?_)
  refine TC.ldc2 (w := 1835100526) dX6_resolve_101 k975 ?_
  refine TC.callV_i e4 (As1 := [.long 1835100526]) (rest := [.ref (Γ.2.2.2.1 e3)]) (k_Program_partOfName Γ e4 he4 (1835100526 : Int64) X) ka_X5_partOfName kv_X5_partOfName he4 rfl k966 rfl rfl rfl rfl (show 2 + 1 ≤ 7 ∧ 8 + (4 + 11) + 70 ≤ 270 from ⟨by omega, by omega⟩) (Nat.le_of_ble_eq_true rfl) dX6_resolve_104 (fun x5 X6 => ?_)
  refine pC4_2 e3 he3 k291 dX6_resolve_107 (fun X7 => ?_)
  refine TC.aload_n dX6_resolve_110 rfl 0 rfl ?_
  refine mC5_1 k417 dX6_resolve_111 (fun e8 he8 => ?_)
  refine TC.aload_n dX6_resolve_114 rfl 0 rfl ?_
  refine mC5_1 k417 dX6_resolve_115 (fun e9 he9 => ?_)
  refine gC4_2 e9 he9 k291 dX6_resolve_118 (fun x10 => ?_)
  refine TC.callV_i e8 (As1 := [.int x10]) (rest := []) (k_Program_paramsOf Γ e8 he8 x10 X7) ka_X5_paramsOf kv_X5_paramsOf he8 rfl k976 rfl rfl rfl rfl (show 2 + 1 ≤ 7 ∧ 8 + (2 + 11) + 70 ≤ 270 from ⟨by omega, by omega⟩) (Nat.le_of_ble_eq_true rfl) dX6_resolve_121 (fun x11 X12 => ?_)
  refine TC.if_eq (pc1 := 134) dX6_resolve_124 (by decide) ?_ ?_
  · exact TC.ret_v rfl dX6_resolve_134
  · refine TC.aload_n dX6_resolve_127 rfl 0 rfl ?_
    refine TC.bipush (w := 7) dX6_resolve_128 (by decide) ?_
    refine TC.iload_n dX6_resolve_130 rfl 1 rfl ?_
    refine TC.callV_v 46 (As1 := [.int 7, .int a_1]) (rest := []) (k_Reader_refuseAt Γ (7 : Int32) a_1 X12) ka_X6_refuseAt kv_X6_refuseAt oC_46 rfl k804 rfl rfl rfl rfl (show 2 + 1 ≤ 7 ∧ 8 + (3 + 11) + 70 ≤ 270 from ⟨by omega, by omega⟩) (Nat.le_of_ble_eq_true rfl) dX6_resolve_131 (fun _ X13 => ?_)
    exact TC.ret_v rfl dX6_resolve_134
noncomputable def g_Reader_resolve_61_s (r2 : Int32 → Int32 → St → Option (Int32 × St)) (r61 : Int32 → Int32 → Int32 → St → Option (Int32 × St)) (a_1 : Int32) (a_2 : Int32) (a_3 : Int32) (X : St) : Option (Int32 × St) :=
  chk (refO YC (X.2.2 46 1) 4 17 = true) (letV (X.2.2 46 1 - 1) fun e24 =>
  letV (kY YC e24 4 - 3) fun e25 =>
  letV (a_2 + (1 : Int32)) fun x26 =>
  chk (inR x26 41) (letV (X.1 e25 (ix x26)) fun x27 =>
  if x27.toInt ≤ a_3.toInt then
    letV (a_2 + Int32.ofInt (1)) fun x28 =>
    r2 a_1 x28 X
  else
    bnd (g_Reader_resolveAt a_3 X) fun _ X29 =>
    letV (a_3 + Int32.ofInt (1)) fun x30 =>
    r61 a_1 a_2 x30 X29))
noncomputable def g_Reader_resolve_61 (r2 : Int32 → Int32 → St → Option (Int32 × St)) (n : Nat) : Int32 → Int32 → Int32 → St → Option (Int32 × St) := lp (fun _ _ _ _ => none) (g_Reader_resolve_61_s r2) n
set_option maxHeartbeats 4000000 in
set_option maxRecDepth 100000 in
theorem k_Reader_resolve_61 (Γ : GxC) (As : List Value) (r2 : Int32 → Int32 → St → Option (Int32 × St)) (hr2 : ∀ (a_1 : Int32) (a_2 : Int32) (X : St), TC YC Γ cX6_resolve 4 "BlameCourt$Reade\x72" none { frames := 7, cells := 0, slots := 0, locals := 270 } As kV 2 [(0, .ref (Γ.2.2.2.1 46)), (1, .int a_1), (2, .int a_2)] [] X (r2 a_1 a_2 X)) (n : Nat) : ∀ (a_1 : Int32) (a_2 : Int32) (a_3 : Int32) (X : St), TC YC Γ cX6_resolve 4 "BlameCourt$Reade\x72" none { frames := 7, cells := 0, slots := 0, locals := 270 } As kV 61 [(0, .ref (Γ.2.2.2.1 46)), (1, .int a_1), (2, .int a_2), (3, .int a_3)] [] X (g_Reader_resolve_61 r2 n a_1 a_2 a_3 X) := by
  unfold g_Reader_resolve_61
  refine lp_ind (P := fun (r61 : Int32 → Int32 → Int32 → St → Option (Int32 × St)) => ∀ (a_1 : Int32) (a_2 : Int32) (a_3 : Int32) (X : St), TC YC Γ cX6_resolve 4 "BlameCourt$Reade\x72" none { frames := 7, cells := 0, slots := 0, locals := 270 } As kV 61 [(0, .ref (Γ.2.2.2.1 46)), (1, .int a_1), (2, .int a_2), (3, .int a_3)] [] X (r61 a_1 a_2 a_3 X)) (fun _ _ _ _ => TC.no) ?_ n
  intro r61 hr61 a_1 a_2 a_3 X
  unfold g_Reader_resolve_61_s
  refine TC.iload_n dX6_resolve_61 rfl 3 rfl ?_
  refine TC.aload_n dX6_resolve_62 rfl 0 rfl ?_
  refine mC5_1 k417 dX6_resolve_63 (fun e24 he24 => ?_)
  refine vC4_4 e24 he24 k314 dX6_resolve_66 (fun e25 he25 => ?_)
  refine TC.iload_n dX6_resolve_69 rfl 2 rfl ?_
  refine TC.iconst (w := 1) dX6_resolve_70 (by decide) ?_
  refine TC.iadd dX6_resolve_71 (fun x26 => ?_)
  refine TC.iald e25 he25 dX6_resolve_72 (fun x27 => ?_)
  refine TC.icmp_ge (pc1 := 87) dX6_resolve_73 (by decide) rfl ?_ ?_
  · refine TC.iinc dX6_resolve_87 2 rfl (by decide) (lvf := fun x28 => [(2, .int x28), (0, .ref (Γ.2.2.2.1 46)), (1, .int a_1), (3, .int a_3)]) (fun _ => rfl) (fun x28 => ?_)
    refine TC.goto (pc1 := 2) dX6_resolve_90 (by decide) ?_
    refine TC.sub [1, 2, 0] rfl ?_
    exact hr2 a_1 x28 X
  · refine TC.aload_n dX6_resolve_76 rfl 0 rfl ?_
    refine TC.iload_n dX6_resolve_77 rfl 3 rfl ?_
    refine TC.callV_v 46 (As1 := [.int a_3]) (rest := []) (k_Reader_resolveAt Γ a_3 X) ka_X6_resolveAt kv_X6_resolveAt oC_46 rfl k970 rfl rfl rfl rfl (show 6 + 1 ≤ 7 ∧ 8 + (3 + 11) + 230 ≤ 270 from ⟨by omega, by omega⟩) (Nat.le_of_ble_eq_true rfl) dX6_resolve_78 (fun _ X29 => ?_)
    refine TC.iinc dX6_resolve_81 3 rfl (by decide) (lvf := fun x30 => [(3, .int x30), (0, .ref (Γ.2.2.2.1 46)), (1, .int a_1), (2, .int a_2)]) (fun _ => rfl) (fun x30 => ?_)
    refine TC.goto (pc1 := 61) dX6_resolve_84 (by decide) ?_
    refine TC.sub [1, 2, 3, 0] rfl ?_
    exact hr61 a_1 a_2 x30 X29
noncomputable def g_Reader_resolve_51 (r2 : Int32 → Int32 → St → Option (Int32 × St)) (a_1 : Int32) (a_2 : Int32) (X : St) : Option (Int32 × St) :=
  chk (refO YC (X.2.2 46 1) 4 17 = true) (letV (X.2.2 46 1 - 1) fun e21 =>
  letV (kY YC e21 4 - 3) fun e22 =>
  chk (inR a_2 41) (letV (X.1 e22 (ix a_2)) fun x23 =>
  g_Reader_resolve_61 r2 BIG a_1 a_2 x23 X))
set_option maxHeartbeats 4000000 in
set_option maxRecDepth 100000 in
theorem k_Reader_resolve_51 (Γ : GxC) (As : List Value) (r2 : Int32 → Int32 → St → Option (Int32 × St)) (hr2 : ∀ (a_1 : Int32) (a_2 : Int32) (X : St), TC YC Γ cX6_resolve 4 "BlameCourt$Reade\x72" none { frames := 7, cells := 0, slots := 0, locals := 270 } As kV 2 [(0, .ref (Γ.2.2.2.1 46)), (1, .int a_1), (2, .int a_2)] [] X (r2 a_1 a_2 X)) (a_1 : Int32) (a_2 : Int32) (X : St) : TC YC Γ cX6_resolve 4 "BlameCourt$Reade\x72" none { frames := 7, cells := 0, slots := 0, locals := 270 } As kV 51 [(0, .ref (Γ.2.2.2.1 46)), (1, .int a_1), (2, .int a_2)] [] X (g_Reader_resolve_51 r2 a_1 a_2 X) := by
  unfold g_Reader_resolve_51
  refine TC.aload_n dX6_resolve_51 rfl 0 rfl ?_
  refine mC5_1 k417 dX6_resolve_52 (fun e21 he21 => ?_)
  refine vC4_4 e21 he21 k314 dX6_resolve_55 (fun e22 he22 => ?_)
  refine TC.iload_n dX6_resolve_58 rfl 2 rfl ?_
  refine TC.iald e22 he22 dX6_resolve_59 (fun x23 => ?_)
  refine TC.istore_n (lv1 := [(3, .int x23), (0, .ref (Γ.2.2.2.1 46)), (1, .int a_1), (2, .int a_2)]) dX6_resolve_60 rfl (by decide) rfl ?_
  refine TC.sub [1, 2, 3, 0] rfl ?_
  exact k_Reader_resolve_61 Γ _ r2 hr2 BIG a_1 a_2 x23 X
noncomputable def g_Reader_resolve_2_s (r2 : Int32 → Int32 → St → Option (Int32 × St)) (a_1 : Int32) (a_2 : Int32) (X : St) : Option (Int32 × St) :=
  chk (refO YC (X.2.2 46 1) 4 17 = true) (letV (X.2.2 46 1 - 1) fun e1 =>
  letV (X.1 e1 1) fun x2 =>
  if x2.toInt ≤ a_2.toInt then
    g_Reader_resolve_93 a_1 X
  else
    letV (X.1 46 3) fun x14 =>
    if x14.toInt = 0 then
      chk (refO YC (X.2.2 46 1) 4 17 = true) (letV (X.2.2 46 1 - 1) fun e15 =>
      chk (refO YC (X.2.2 46 1) 4 17 = true) (letV (X.2.2 46 1 - 1) fun e16 =>
      letV (kY YC e16 7 - 3) fun e17 =>
      chk (inR a_2 40) (letV (X.2.1 e17 (ix a_2)) fun y18 =>
      bnd (g_Program_partOfName e15 y18 X) fun x19 X20 =>
      if x19.toInt = a_2.toInt then
        g_Reader_resolve_51 r2 a_1 a_2 X20
      else
        chk (inR a_2 40) (letV (X20.1 49 (ix a_2)) fun x31 =>
        bnd (g_Reader_refuseAt (5 : Int32) x31 X20) fun _ X32 =>
        g_Reader_resolve_51 r2 a_1 a_2 X32))))
    else
      g_Reader_resolve_93 a_1 X)
noncomputable def g_Reader_resolve_2 (n : Nat) : Int32 → Int32 → St → Option (Int32 × St) := lp (fun _ _ _ => none) (g_Reader_resolve_2_s) n
set_option maxHeartbeats 4000000 in
set_option maxRecDepth 100000 in
theorem k_Reader_resolve_2 (Γ : GxC) (As : List Value) (n : Nat) : ∀ (a_1 : Int32) (a_2 : Int32) (X : St), TC YC Γ cX6_resolve 4 "BlameCourt$Reade\x72" none { frames := 7, cells := 0, slots := 0, locals := 270 } As kV 2 [(0, .ref (Γ.2.2.2.1 46)), (1, .int a_1), (2, .int a_2)] [] X (g_Reader_resolve_2 n a_1 a_2 X) := by
  unfold g_Reader_resolve_2
  refine lp_ind (P := fun (r2 : Int32 → Int32 → St → Option (Int32 × St)) => ∀ (a_1 : Int32) (a_2 : Int32) (X : St), TC YC Γ cX6_resolve 4 "BlameCourt$Reade\x72" none { frames := 7, cells := 0, slots := 0, locals := 270 } As kV 2 [(0, .ref (Γ.2.2.2.1 46)), (1, .int a_1), (2, .int a_2)] [] X (r2 a_1 a_2 X)) (fun _ _ _ => TC.no) ?_ n
  intro r2 hr2 a_1 a_2 X
  unfold g_Reader_resolve_2_s
  refine TC.iload_n dX6_resolve_2 rfl 2 rfl ?_
  refine TC.aload_n dX6_resolve_3 rfl 0 rfl ?_
  refine mC5_1 k417 dX6_resolve_4 (fun e1 he1 => ?_)
  refine gC4_1 e1 he1 k286 dX6_resolve_7 (fun x2 => ?_)
  refine TC.icmp_ge (pc1 := 93) dX6_resolve_10 (by decide) rfl ?_ ?_
  · refine TC.sub [0, 1] rfl ?_
    exact k_Reader_resolve_93 Γ _ a_1 X
  · refine TC.aload_n dX6_resolve_13 rfl 0 rfl ?_
    refine gC5_3 k419 dX6_resolve_14 (fun x14 => ?_)
    refine TC.if_ne (pc1 := 93) dX6_resolve_17 (by decide) ?_ ?_
    · refine TC.sub [0, 1] rfl ?_
      exact k_Reader_resolve_93 Γ _ a_1 X
    · refine TC.aload_n dX6_resolve_20 rfl 0 rfl ?_
      refine mC5_1 k417 dX6_resolve_21 (fun e15 he15 => ?_)
      refine TC.aload_n dX6_resolve_24 rfl 0 rfl ?_
      refine mC5_1 k417 dX6_resolve_25 (fun e16 he16 => ?_)
      refine vC4_7 e16 he16 k293 dX6_resolve_28 (fun e17 he17 => ?_)
      refine TC.iload_n dX6_resolve_31 rfl 2 rfl ?_
      refine TC.lald e17 he17 dX6_resolve_32 (fun y18 => ?_)
      refine TC.callV_i e15 (As1 := [.long y18]) (rest := []) (k_Program_partOfName Γ e15 he15 y18 X) ka_X5_partOfName kv_X5_partOfName he15 rfl k966 rfl rfl rfl rfl (show 2 + 1 ≤ 7 ∧ 8 + (4 + 11) + 70 ≤ 270 from ⟨by omega, by omega⟩) (Nat.le_of_ble_eq_true rfl) dX6_resolve_33 (fun x19 X20 => ?_)
      refine TC.iload_n dX6_resolve_36 rfl 2 rfl ?_
      refine TC.icmp_eq (pc1 := 51) dX6_resolve_37 (by decide) rfl ?_ ?_
      · exact k_Reader_resolve_51 Γ _ r2 hr2 a_1 a_2 X20
      · refine TC.aload_n dX6_resolve_40 rfl 0 rfl ?_
        refine TC.iconst (w := 5) dX6_resolve_41 (by decide) ?_
        refine TC.aload_n dX6_resolve_42 rfl 0 rfl ?_
        refine cC5_7 k423 dX6_resolve_43 ?_
        refine TC.iload_n dX6_resolve_46 rfl 2 rfl ?_
        refine alC49 dX6_resolve_47 (fun x31 => ?_)
        refine TC.callV_v 46 (As1 := [.int 5, .int x31]) (rest := []) (k_Reader_refuseAt Γ (5 : Int32) x31 X20) ka_X6_refuseAt kv_X6_refuseAt oC_46 rfl k804 rfl rfl rfl rfl (show 2 + 1 ≤ 7 ∧ 8 + (3 + 11) + 70 ≤ 270 from ⟨by omega, by omega⟩) (Nat.le_of_ble_eq_true rfl) dX6_resolve_48 (fun _ X32 => ?_)
        exact k_Reader_resolve_51 Γ _ r2 hr2 a_1 a_2 X32
noncomputable def g_Reader_resolve (p1 : Int32) (X : St) : Option (Int32 × St) :=
  g_Reader_resolve_2 BIG p1 (0 : Int32) X
set_option maxHeartbeats 4000000 in
set_option maxRecDepth 100000 in
theorem k_Reader_resolve (Γ : GxC) (p1 : Int32) (X : St) : TCV YC Γ yX6_resolve cX6_resolve 4 "BlameCourt$Reade\x72" none { frames := 7, cells := 0, slots := 0, locals := 270 } [.ref (Γ.2.2.2.1 46), .int p1] X (g_Reader_resolve p1 X) := by
  refine TCV.of (by decide) (Nat.le_of_ble_eq_true rfl) rfl ?_
  show TC YC Γ cX6_resolve 4 "BlameCourt$Reade\x72" none { frames := 7, cells := 0, slots := 0, locals := 270 } _ kV 0 [(0, .ref (Γ.2.2.2.1 46)), (1, .int p1)] [] X (g_Reader_resolve p1 X)
  unfold g_Reader_resolve
  refine TC.iconst (w := 0) dX6_resolve_0 (by decide) ?_
  refine TC.istore_n (lv1 := [(2, .int 0), (0, .ref (Γ.2.2.2.1 46)), (1, .int p1)]) dX6_resolve_1 rfl (by decide) rfl ?_
  refine TC.sub [1, 2, 0] rfl ?_
  exact k_Reader_resolve_2 Γ _ BIG p1 (0 : Int32) X
noncomputable def g_Reader_readInto_145 (a_3 : Int32) (X : St) : Option (Int32 × St) :=
  chk (refO YC (X.2.2 46 1) 4 17 = true) (letV (X.2.2 46 1 - 1) fun e11 =>
  letV (kY YC e11 4 - 3) fun e12 =>
  chk (refO YC (X.2.2 46 1) 4 17 = true) (letV (X.2.2 46 1 - 1) fun e13 =>
  letV (X.1 e13 1) fun x14 =>
  chk (refO YC (X.2.2 46 1) 4 17 = true) (letV (X.2.2 46 1 - 1) fun e15 =>
  letV (X.1 e15 6) fun x16 =>
  chk (inR x14 41) (letV (wI X e12 (ix x14) x16) fun X17 =>
  chk (refO YC (X17.2.2 46 1) 4 17 = true) (letV (X17.2.2 46 1 - 1) fun e18 =>
  chk (refO YC (X17.2.2 46 1) 4 17 = true) (letV (X17.2.2 46 1 - 1) fun e19 =>
  letV (kY YC e19 0 - 3) fun e20 =>
  letV (X17.1 e20 0) fun x21 =>
  letV (wI X17 e18 5 x21) fun X22 =>
  letV (X22.1 46 3) fun x23 =>
  if x23.toInt = 0 then
    bnd (g_Reader_resolve a_3 X22) fun _ X24 =>
    some (0, X24)
  else
    some (0, X22)))))))
set_option maxHeartbeats 4000000 in
set_option maxRecDepth 100000 in
theorem k_Reader_readInto_145 (Γ : GxC) (As : List Value) (a_3 : Int32) (X : St) : TC YC Γ cX6_readInto 5 "BlameCourt$Reade\x72" none { frames := 522, cells := 0, slots := 0, locals := 20870 } As kV 145 [(0, .ref (Γ.2.2.2.1 46)), (3, .int a_3)] [] X (g_Reader_readInto_145 a_3 X) := by
  unfold g_Reader_readInto_145
  refine TC.aload_n dX6_readInto_145 rfl 0 rfl ?_
  refine mC5_1 k417 dX6_readInto_146 (fun e11 he11 => ?_)
  refine vC4_4 e11 he11 k314 dX6_readInto_149 (fun e12 he12 => ?_)
  refine TC.aload_n dX6_readInto_152 rfl 0 rfl ?_
  refine mC5_1 k417 dX6_readInto_153 (fun e13 he13 => ?_)
  refine gC4_1 e13 he13 k286 dX6_readInto_156 (fun x14 => ?_)
  refine TC.aload_n dX6_readInto_159 rfl 0 rfl ?_
  refine mC5_1 k417 dX6_readInto_160 (fun e15 he15 => ?_)
  refine gC4_6 e15 he15 k337 dX6_readInto_163 (fun x16 => ?_)
  refine TC.iast e12 he12 dX6_readInto_166 (fun X17 => ?_)
  refine TC.aload_n dX6_readInto_167 rfl 0 rfl ?_
  refine mC5_1 k417 dX6_readInto_168 (fun e18 he18 => ?_)
  refine TC.aload_n dX6_readInto_171 rfl 0 rfl ?_
  refine mC5_1 k417 dX6_readInto_172 (fun e19 he19 => ?_)
  refine vC4_0 e19 he19 k281 dX6_readInto_175 (fun e20 he20 => ?_)
  refine gC3_0 e20 he20 k258 dX6_readInto_178 (fun x21 => ?_)
  refine pC4_5 e18 he18 k319 dX6_readInto_181 (fun X22 => ?_)
  refine TC.aload_n dX6_readInto_184 rfl 0 rfl ?_
  refine gC5_3 k419 dX6_readInto_185 (fun x23 => ?_)
  refine TC.if_ne (pc1 := 196) dX6_readInto_188 (by decide) ?_ ?_
  · exact TC.ret_v rfl dX6_readInto_196
  · refine TC.aload_n dX6_readInto_191 rfl 0 rfl ?_
    refine TC.iload_n dX6_readInto_192 rfl 1 rfl ?_
    refine TC.callV_v 46 (As1 := [.int a_3]) (rest := []) (k_Reader_resolve Γ a_3 X22) ka_X6_resolve kv_X6_resolve oC_46 rfl k962 rfl rfl rfl rfl (show 7 + 1 ≤ 522 ∧ 8 + (4 + 11) + 270 ≤ 20870 from ⟨by omega, by omega⟩) (Nat.le_of_ble_eq_true rfl) dX6_readInto_193 (fun _ X24 => ?_)
    exact TC.ret_v rfl dX6_readInto_196
noncomputable def g_Reader_readInto_127 (a_3 : Int32) (X : St) : Option (Int32 × St) :=
  letV (X.1 47 3) fun x10 =>
  if x10.toInt = 257 then
    g_Reader_readInto_145 a_3 X
  else
    bnd (g_Reader_refuse (1 : Int32) X) fun _ X25 =>
    g_Reader_readInto_145 a_3 X25
set_option maxHeartbeats 4000000 in
set_option maxRecDepth 100000 in
theorem k_Reader_readInto_127 (Γ : GxC) (As : List Value) (a_3 : Int32) (X : St) : TC YC Γ cX6_readInto 5 "BlameCourt$Reade\x72" none { frames := 522, cells := 0, slots := 0, locals := 20870 } As kV 127 [(0, .ref (Γ.2.2.2.1 46)), (3, .int a_3)] [] X (g_Reader_readInto_127 a_3 X) := by
  unfold g_Reader_readInto_127
  refine TC.aload_n dX6_readInto_127 rfl 0 rfl ?_
  refine cC5_0 k416 dX6_readInto_128 ?_
  refine gC7_3 k390 dX6_readInto_131 (fun x10 => ?_)
  refine TC.sipush (w := 257) dX6_readInto_134 (by decide) ?_
  refine TC.icmp_eq (pc1 := 145) dX6_readInto_137 (by decide) rfl ?_ ?_
  · exact k_Reader_readInto_145 Γ _ a_3 X
  · refine TC.aload_n dX6_readInto_140 rfl 0 rfl ?_
    refine TC.iconst (w := 1) dX6_readInto_141 (by decide) ?_
    refine TC.callV_v 46 (As1 := [.int 1]) (rest := []) (k_Reader_refuse Γ (1 : Int32) X) ka_X6_refuse kv_X6_refuse oC_46 rfl k800 rfl rfl rfl rfl (show 3 + 1 ≤ 522 ∧ 8 + (2 + 11) + 110 ≤ 20870 from ⟨by omega, by omega⟩) (Nat.le_of_ble_eq_true rfl) dX6_readInto_142 (fun _ X25 => ?_)
    exact k_Reader_readInto_145 Γ _ a_3 X25
noncomputable def g_Reader_readInto_121 (r58 : Int32 → Int32 → St → Option (Int32 × St)) (a_3 : Int32) (a_4 : Int32) (X : St) : Option (Int32 × St) :=
  letV (a_4 + Int32.ofInt (1)) fun x33 =>
  r58 a_3 x33 X
set_option maxHeartbeats 4000000 in
set_option maxRecDepth 100000 in
theorem k_Reader_readInto_121 (Γ : GxC) (As : List Value) (r58 : Int32 → Int32 → St → Option (Int32 × St)) (hr58 : ∀ (a_3 : Int32) (a_4 : Int32) (X : St), TC YC Γ cX6_readInto 5 "BlameCourt$Reade\x72" none { frames := 522, cells := 0, slots := 0, locals := 20870 } As kV 58 [(0, .ref (Γ.2.2.2.1 46)), (3, .int a_3), (4, .int a_4)] [] X (r58 a_3 a_4 X)) (a_3 : Int32) (a_4 : Int32) (X : St) : TC YC Γ cX6_readInto 5 "BlameCourt$Reade\x72" none { frames := 522, cells := 0, slots := 0, locals := 20870 } As kV 121 [(0, .ref (Γ.2.2.2.1 46)), (3, .int a_3), (4, .int a_4)] [] X (g_Reader_readInto_121 r58 a_3 a_4 X) := by
  unfold g_Reader_readInto_121
  refine TC.iinc dX6_readInto_121 2 rfl (by decide) (lvf := fun x33 => [(4, .int x33), (0, .ref (Γ.2.2.2.1 46)), (3, .int a_3)]) (fun _ => rfl) (fun x33 => ?_)
  refine TC.goto (pc1 := 58) dX6_readInto_124 (by decide) ?_
  refine TC.sub [1, 2, 0] rfl ?_
  exact hr58 a_3 x33 X
noncomputable def g_Reader_readInto_58_s (r58 : Int32 → Int32 → St → Option (Int32 × St)) (a_3 : Int32) (a_4 : Int32) (X : St) : Option (Int32 × St) :=
  if 40 < a_4.toInt then
    g_Reader_readInto_127 a_3 X
  else
    letV (X.1 47 3) fun x26 =>
    if x26.toInt = 261 then
      if a_4.toInt < 40 then
        bnd (g_Reader_takePartName a_4 X) fun _ X27 =>
        bnd (g_Reader_takeParams a_4 X27) fun _ X28 =>
        bnd (g_Reader_takeOwnKind a_4 X28) fun _ X29 =>
        bnd (g_Reader_takeE X29) fun x30 X31 =>
        bnd (g_Reader_endPart a_4 x30 X31) fun _ X32 =>
        g_Reader_readInto_121 r58 a_3 a_4 X32
      else
        bnd (g_Reader_refuse (3 : Int32) X) fun _ X34 =>
        g_Reader_readInto_121 r58 a_3 a_4 X34
    else
      g_Reader_readInto_127 a_3 X
noncomputable def g_Reader_readInto_58 (n : Nat) : Int32 → Int32 → St → Option (Int32 × St) := lp (fun _ _ _ => none) (g_Reader_readInto_58_s) n
set_option maxHeartbeats 4000000 in
set_option maxRecDepth 100000 in
theorem k_Reader_readInto_58 (Γ : GxC) (As : List Value) (n : Nat) : ∀ (a_3 : Int32) (a_4 : Int32) (X : St), TC YC Γ cX6_readInto 5 "BlameCourt$Reade\x72" none { frames := 522, cells := 0, slots := 0, locals := 20870 } As kV 58 [(0, .ref (Γ.2.2.2.1 46)), (3, .int a_3), (4, .int a_4)] [] X (g_Reader_readInto_58 n a_3 a_4 X) := by
  unfold g_Reader_readInto_58
  refine lp_ind (P := fun (r58 : Int32 → Int32 → St → Option (Int32 × St)) => ∀ (a_3 : Int32) (a_4 : Int32) (X : St), TC YC Γ cX6_readInto 5 "BlameCourt$Reade\x72" none { frames := 522, cells := 0, slots := 0, locals := 20870 } As kV 58 [(0, .ref (Γ.2.2.2.1 46)), (3, .int a_3), (4, .int a_4)] [] X (r58 a_3 a_4 X)) (fun _ _ _ => TC.no) ?_ n
  intro r58 hr58 a_3 a_4 X
  unfold g_Reader_readInto_58_s
  refine TC.iload dX6_readInto_58 2 rfl ?_
  refine TC.bipush (w := 40) dX6_readInto_60 (by decide) ?_
  refine TC.icmp_gt (pc1 := 127) dX6_readInto_62 (by decide) rfl ?_ ?_
  · refine TC.sub [0, 1] rfl ?_
    exact k_Reader_readInto_127 Γ _ a_3 X
  · refine TC.aload_n dX6_readInto_65 rfl 0 rfl ?_
    refine cC5_0 k416 dX6_readInto_66 ?_
    refine gC7_3 k390 dX6_readInto_69 (fun x26 => ?_)
    refine TC.sipush (w := 261) dX6_readInto_72 (by decide) ?_
    refine TC.icmp_ne (pc1 := 127) dX6_readInto_75 (by decide) rfl ?_ ?_
    · refine TC.sub [0, 1] rfl ?_
      exact k_Reader_readInto_127 Γ _ a_3 X
    · refine TC.iload dX6_readInto_78 2 rfl ?_
      refine TC.bipush (w := 40) dX6_readInto_80 (by decide) ?_
      refine TC.icmp_lt (pc1 := 93) dX6_readInto_82 (by decide) rfl ?_ ?_
      · refine TC.aload_n dX6_readInto_93 rfl 0 rfl ?_
        refine TC.iload dX6_readInto_94 2 rfl ?_
        refine TC.callV_v 46 (As1 := [.int a_4]) (rest := []) (k_Reader_takePartName Γ a_4 X) ka_X6_takePartName kv_X6_takePartName oC_46 rfl k812 rfl rfl rfl rfl (show 6 + 1 ≤ 522 ∧ 8 + (2 + 11) + 230 ≤ 20870 from ⟨by omega, by omega⟩) (Nat.le_of_ble_eq_true rfl) dX6_readInto_96 (fun _ X27 => ?_)
        refine TC.aload_n dX6_readInto_99 rfl 0 rfl ?_
        refine TC.iload dX6_readInto_100 2 rfl ?_
        refine TC.callV_v 46 (As1 := [.int a_4]) (rest := []) (k_Reader_takeParams Γ a_4 X27) ka_X6_takeParams kv_X6_takeParams oC_46 rfl k821 rfl rfl rfl rfl (show 200 + 1 ≤ 522 ∧ 8 + (5 + 11) + 7990 ≤ 20870 from ⟨by omega, by omega⟩) (Nat.le_of_ble_eq_true rfl) dX6_readInto_102 (fun _ X28 => ?_)
        refine TC.aload_n dX6_readInto_105 rfl 0 rfl ?_
        refine TC.iload dX6_readInto_106 2 rfl ?_
        refine TC.callV_v 46 (As1 := [.int a_4]) (rest := []) (k_Reader_takeOwnKind Γ a_4 X28) ka_X6_takeOwnKind kv_X6_takeOwnKind oC_46 rfl k859 rfl rfl rfl rfl (show 200 + 1 ≤ 522 ∧ 8 + (2 + 11) + 7990 ≤ 20870 from ⟨by omega, by omega⟩) (Nat.le_of_ble_eq_true rfl) dX6_readInto_108 (fun _ X29 => ?_)
        refine TC.aload_n dX6_readInto_111 rfl 0 rfl ?_
        refine TC.iload dX6_readInto_112 2 rfl ?_
        refine TC.aload_n dX6_readInto_114 rfl 0 rfl ?_
        refine TC.callV_i 46 (As1 := []) (rest := [.int a_4, .ref (Γ.2.2.2.1 46)]) (k_Reader_takeE Γ X29) ka_X6_takeE kv_X6_takeE oC_46 rfl k863 rfl rfl rfl rfl (show 520 + 1 ≤ 522 ∧ 8 + (1 + 11) + 20790 ≤ 20870 from ⟨by omega, by omega⟩) (Nat.le_of_ble_eq_true rfl) dX6_readInto_115 (fun x30 X31 => ?_)
        refine TC.callV_v 46 (As1 := [.int a_4, .int x30]) (rest := []) (k_Reader_endPart Γ a_4 x30 X31) ka_X6_endPart kv_X6_endPart oC_46 rfl k958 rfl rfl rfl rfl (show 6 + 1 ≤ 522 ∧ 8 + (3 + 11) + 230 ≤ 20870 from ⟨by omega, by omega⟩) (Nat.le_of_ble_eq_true rfl) dX6_readInto_118 (fun _ X32 => ?_)
        exact k_Reader_readInto_121 Γ _ r58 hr58 a_3 a_4 X32
      · refine TC.aload_n dX6_readInto_85 rfl 0 rfl ?_
        refine TC.iconst (w := 3) dX6_readInto_86 (by decide) ?_
        refine TC.callV_v 46 (As1 := [.int 3]) (rest := []) (k_Reader_refuse Γ (3 : Int32) X) ka_X6_refuse kv_X6_refuse oC_46 rfl k800 rfl rfl rfl rfl (show 3 + 1 ≤ 522 ∧ 8 + (2 + 11) + 110 ≤ 20870 from ⟨by omega, by omega⟩) (Nat.le_of_ble_eq_true rfl) dX6_readInto_87 (fun _ X34 => ?_)
        refine TC.goto (pc1 := 121) dX6_readInto_90 (by decide) ?_
        exact k_Reader_readInto_121 Γ _ r58 hr58 a_3 a_4 X34
noncomputable def g_Reader_readInto (o1 : Nat) (o2 : Nat) (p3 : Int32) (X : St) : Option (Int32 × St) :=
  letV (wR X 46 1 ((o1 + 1))) fun X1 =>
  chk (refO YC (X1.2.2 46 1) 4 17 = true) (letV (X1.2.2 46 1 - 1) fun e2 =>
  bnd (g_Program_clear e2 X1) fun _ X3 =>
  letV (wI X3 46 3 ((0 : Int32))) fun X4 =>
  letV (wI X4 46 4 ((-1 : Int32))) fun X5 =>
  letV (wI X5 46 2 ((0 : Int32))) fun X6 =>
  letV (wI X6 46 5 ((0 : Int32))) fun X7 =>
  letV (wI X7 46 6 ((0 : Int32))) fun X8 =>
  bnd (g_Tokens_begin o2 p3 X8) fun _ X9 =>
  g_Reader_readInto_58 BIG p3 (0 : Int32) X9)
set_option maxHeartbeats 4000000 in
set_option maxRecDepth 100000 in
theorem k_Reader_readInto (Γ : GxC) (o1 : Nat) (ho1 : isO YC o1 4 17) (o2 : Nat) (ho2 : isA YC o2 1 (zY YC o2) .byte) (p3 : Int32) (X : St) : TCV YC Γ yX6_readInto cX6_readInto 5 "BlameCourt$Reade\x72" none { frames := 522, cells := 0, slots := 0, locals := 20870 } [.ref (Γ.2.2.2.1 46), .ref (Γ.2.2.2.1 o1), .ref (Γ.2.2.2.1 o2), .int p3] X (g_Reader_readInto o1 o2 p3 X) := by
  refine TCV.of (by decide) (Nat.le_of_ble_eq_true rfl) rfl ?_
  show TC YC Γ cX6_readInto 5 "BlameCourt$Reade\x72" none { frames := 522, cells := 0, slots := 0, locals := 20870 } _ kV 0 [(0, .ref (Γ.2.2.2.1 46)), (1, .ref (Γ.2.2.2.1 o1)), (2, .ref (Γ.2.2.2.1 o2)), (3, .int p3)] [] X (g_Reader_readInto o1 o2 p3 X)
  unfold g_Reader_readInto
  refine TC.aload_n dX6_readInto_0 rfl 1 rfl ?_
  refine TC.ifnull dX6_readInto_1 ?_
  refine TC.aload_n dX6_readInto_4 rfl 2 rfl ?_
  refine TC.ifnonnull (pc1 := 9) dX6_readInto_5 (by decide) ?_
  refine TC.aload_n dX6_readInto_9 rfl 0 rfl ?_
  refine TC.aload_n dX6_readInto_10 rfl 1 rfl ?_
  refine pC5_1 k417 dX6_readInto_11 (fun X1 => ?_)
  refine TC.aload_n dX6_readInto_14 rfl 0 rfl ?_
  refine mC5_1 k417 dX6_readInto_15 (fun e2 he2 => ?_)
  refine TC.callV_v e2 (As1 := []) (rest := []) (k_Program_clear Γ e2 he2 X1) ka_X5_clear kv_X5_clear he2 rfl k739 rfl rfl rfl rfl (show 5 + 1 ≤ 522 ∧ 8 + (2 + 11) + 190 ≤ 20870 from ⟨by omega, by omega⟩) (Nat.le_of_ble_eq_true rfl) dX6_readInto_18 (fun _ X3 => ?_)
  refine TC.aload_n dX6_readInto_21 rfl 0 rfl ?_
  refine TC.iconst (w := 0) dX6_readInto_22 (by decide) ?_
  refine pC5_3 k419 dX6_readInto_23 (fun X4 => ?_)
  refine TC.aload_n dX6_readInto_26 rfl 0 rfl ?_
  refine TC.iconst (w := (-1)) dX6_readInto_27 (by decide) ?_
  refine pC5_4 k421 dX6_readInto_28 (fun X5 => ?_)
  refine TC.aload_n dX6_readInto_31 rfl 0 rfl ?_
  refine TC.iconst (w := 0) dX6_readInto_32 (by decide) ?_
  refine pC5_2 k418 dX6_readInto_33 (fun X6 => ?_)
  refine TC.aload_n dX6_readInto_36 rfl 0 rfl ?_
  refine TC.iconst (w := 0) dX6_readInto_37 (by decide) ?_
  refine pC5_5 k429 dX6_readInto_38 (fun X7 => ?_)
  refine TC.aload_n dX6_readInto_41 rfl 0 rfl ?_
  refine TC.iconst (w := 0) dX6_readInto_42 (by decide) ?_
  refine pC5_6 k431 dX6_readInto_43 (fun X8 => ?_)
  refine TC.aload_n dX6_readInto_46 rfl 0 rfl ?_
  refine cC5_0 k416 dX6_readInto_47 ?_
  refine TC.aload_n dX6_readInto_50 rfl 2 rfl ?_
  refine TC.iload_n dX6_readInto_51 rfl 3 rfl ?_
  refine TC.callV_v 47 (As1 := [.ref (Γ.2.2.2.1 o2), .int p3]) (rest := []) (k_Tokens_begin Γ o2 ho2 p3 X8) ka_X9_begin kv_X9_begin oC_47 rfl k751 rfl rfl rfl rfl (show 6 + 1 ≤ 522 ∧ 8 + (3 + 11) + 230 ≤ 20870 from ⟨by omega, by omega⟩) (Nat.le_of_ble_eq_true rfl) dX6_readInto_52 (fun _ X9 => ?_)
  refine TC.iconst (w := 0) dX6_readInto_55 (by decide) ?_
  refine TC.istore (lv1 := [(4, .int 0), (0, .ref (Γ.2.2.2.1 46)), (1, .ref (Γ.2.2.2.1 o1)), (2, .ref (Γ.2.2.2.1 o2)), (3, .int p3)]) dX6_readInto_56 (by decide) rfl ?_
  refine TC.sub [1, 4, 0] rfl ?_
  exact k_Reader_readInto_58 Γ _ BIG p3 (0 : Int32) X9
noncomputable def g_JArrays_fill_5_s (r5 : Nat → Int32 → Int32 → Int32 → St → Option (Int32 × St)) (e_0 : Nat) (a_1 : Int32) (a_2 : Int32) (a_3 : Int32) (X : St) : Option (Int32 × St) :=
  if a_3.toInt ≤ a_2.toInt then
    some (0, X)
  else
    chk (inR a_2 (zY YC e_0)) (letV (wI X e_0 (ix a_2) a_1) fun X2 =>
    letV (a_2 + Int32.ofInt (1)) fun x3 =>
    r5 e_0 a_1 x3 a_3 X2)
noncomputable def g_JArrays_fill_5 (n : Nat) : Nat → Int32 → Int32 → Int32 → St → Option (Int32 × St) := lp (fun _ _ _ _ _ => none) (g_JArrays_fill_5_s) n
set_option maxHeartbeats 4000000 in
set_option maxRecDepth 100000 in
theorem k_JArrays_fill_5 (Γ : GxC) (As : List Value) (n : Nat) : ∀ (e_0 : Nat) (he_0 : isA YC e_0 1 (zY YC e_0) .int) (a_1 : Int32) (a_2 : Int32) (a_3 : Int32) (X : St), TC YC Γ cJ7_fill_53178 4 "java/util/Arrays" none { frames := 2, cells := 0, slots := 0, locals := 70 } As kV 5 [(0, .ref (Γ.2.2.2.1 e_0)), (1, .int a_1), (2, .int a_2), (3, .int a_3)] [] X (g_JArrays_fill_5 n e_0 a_1 a_2 a_3 X) := by
  unfold g_JArrays_fill_5
  refine lp_ind (P := fun (r5 : Nat → Int32 → Int32 → Int32 → St → Option (Int32 × St)) => ∀ (e_0 : Nat) (he_0 : isA YC e_0 1 (zY YC e_0) .int) (a_1 : Int32) (a_2 : Int32) (a_3 : Int32) (X : St), TC YC Γ cJ7_fill_53178 4 "java/util/Arrays" none { frames := 2, cells := 0, slots := 0, locals := 70 } As kV 5 [(0, .ref (Γ.2.2.2.1 e_0)), (1, .int a_1), (2, .int a_2), (3, .int a_3)] [] X (r5 e_0 a_1 a_2 a_3 X)) (fun _ _ _ _ _ _ => TC.no) ?_ n
  intro r5 hr5 e_0 he_0 a_1 a_2 a_3 X
  unfold g_JArrays_fill_5_s
  refine TC.iload_n dJ7_fill_53178_5 rfl 2 rfl ?_
  refine TC.iload_n dJ7_fill_53178_6 rfl 3 rfl ?_
  refine TC.icmp_ge (pc1 := 20) dJ7_fill_53178_7 (by decide) rfl ?_ ?_
  · exact TC.ret_v rfl dJ7_fill_53178_20
  · refine TC.aload_n dJ7_fill_53178_10 rfl 0 rfl ?_
    refine TC.iload_n dJ7_fill_53178_11 rfl 2 rfl ?_
    refine TC.iload_n dJ7_fill_53178_12 rfl 1 rfl ?_
    refine TC.iast e_0 he_0 dJ7_fill_53178_13 (fun X2 => ?_)
    refine TC.iinc dJ7_fill_53178_14 2 rfl (by decide) (lvf := fun x3 => [(2, .int x3), (0, .ref (Γ.2.2.2.1 e_0)), (1, .int a_1), (3, .int a_3)]) (fun _ => rfl) (fun x3 => ?_)
    refine TC.goto (pc1 := 5) dJ7_fill_53178_17 (by decide) ?_
    refine TC.sub [1, 2, 0, 3] rfl ?_
    exact hr5 e_0 he_0 a_1 x3 a_3 X2
noncomputable def g_JArrays_fill (o0 : Nat) (p1 : Int32) (X : St) : Option (Int32 × St) :=
  letV (Int32.ofNat (zY YC o0)) fun x1 =>
  g_JArrays_fill_5 BIG o0 p1 (0 : Int32) x1 X
set_option maxHeartbeats 4000000 in
set_option maxRecDepth 100000 in
theorem k_JArrays_fill (Γ : GxC) (o0 : Nat) (ho0 : isA YC o0 1 (zY YC o0) .int) (p1 : Int32) (X : St) : TCV YC Γ yJ7_fill_53178 cJ7_fill_53178 4 "java/util/Arrays" none { frames := 2, cells := 0, slots := 0, locals := 70 } [.ref (Γ.2.2.2.1 o0), .int p1] X (g_JArrays_fill o0 p1 X) := by
  refine TCV.of (by decide) (Nat.le_of_ble_eq_true rfl) rfl ?_
  show TC YC Γ cJ7_fill_53178 4 "java/util/Arrays" none { frames := 2, cells := 0, slots := 0, locals := 70 } _ kV 0 [(0, .ref (Γ.2.2.2.1 o0)), (1, .int p1)] [] X (g_JArrays_fill o0 p1 X)
  unfold g_JArrays_fill
  refine TC.iconst (w := 0) dJ7_fill_53178_0 (by decide) ?_
  refine TC.istore_n (lv1 := [(2, .int 0), (0, .ref (Γ.2.2.2.1 o0)), (1, .int p1)]) dJ7_fill_53178_1 rfl (by decide) rfl ?_
  refine TC.aload_n dJ7_fill_53178_2 rfl 1 rfl ?_
  refine TC.alenV o0 ho0 dJ7_fill_53178_3 (fun x1 => ?_)
  refine TC.istore_n (lv1 := [(3, .int x1), (2, .int 0), (0, .ref (Γ.2.2.2.1 o0)), (1, .int p1)]) dJ7_fill_53178_4 rfl (by decide) rfl ?_
  refine TC.sub [2, 3, 1, 0] rfl ?_
  exact k_JArrays_fill_5 Γ _ BIG o0 ho0 p1 (0 : Int32) x1 X
noncomputable def g_Running_push (q1 : Int64) (X : St) : Option (Int32 × St) :=
  letV (X.1 70 15) fun x1 =>
  if 20002 ≤ x1.toInt then
    some (0, X)
  else
    letV (X.1 70 15) fun x2 =>
    chk (inR x2 20002) (letV (wL X 84 (ix x2) q1) fun X3 =>
    letV (X3.1 70 15) fun x4 =>
    letV (x4 + (1 : Int32)) fun x5 =>
    letV (wI X3 70 15 x5) fun X6 =>
    some (0, X6))
set_option maxHeartbeats 4000000 in
set_option maxRecDepth 100000 in
theorem k_Running_push (Γ : GxC) (q1 : Int64) (X : St) : TCV YC Γ yX7_push cX7_push 3 "BlameCourt$Running" none { frames := 2, cells := 0, slots := 0, locals := 70 } [.ref (Γ.2.2.2.1 70), .long q1] X (g_Running_push q1 X) := by
  refine TCV.of (by decide) (Nat.le_of_ble_eq_true rfl) rfl ?_
  show TC YC Γ cX7_push 3 "BlameCourt$Running" none { frames := 2, cells := 0, slots := 0, locals := 70 } _ kV 0 [(0, .ref (Γ.2.2.2.1 70)), (1, .long q1)] [] X (g_Running_push q1 X)
  unfold g_Running_push
  refine TC.aload_n dX7_push_0 rfl 0 rfl ?_
  refine gC6_15 k630 dX7_push_1 (fun x1 => ?_)
  refine TC.sipush (w := 20002) dX7_push_4 (by decide) ?_
  refine TC.icmp_ge (pc1 := 30) dX7_push_7 (by decide) rfl ?_ ?_
  · exact TC.ret_v rfl dX7_push_30
  · refine TC.aload_n dX7_push_10 rfl 0 rfl ?_
    refine cC6_14 k629 dX7_push_11 ?_
    refine TC.aload_n dX7_push_14 rfl 0 rfl ?_
    refine gC6_15 k630 dX7_push_15 (fun x2 => ?_)
    refine TC.lload_n dX7_push_18 rfl 1 rfl ?_
    refine asC84 dX7_push_19 (fun X3 => ?_)
    refine TC.aload_n dX7_push_20 rfl 0 rfl ?_
    refine TC.dupr dX7_push_21 ?_
    refine gC6_15 k630 dX7_push_22 (fun x4 => ?_)
    refine TC.iconst (w := 1) dX7_push_25 (by decide) ?_
    refine TC.iadd dX7_push_26 (fun x5 => ?_)
    refine pC6_15 k630 dX7_push_27 (fun X6 => ?_)
    exact TC.ret_v rfl dX7_push_30
noncomputable def g_Running_failWith (p1 : Int32) (p2 : Int32) (X : St) : Option (Int32 × St) :=
  letV (X.1 70 4) fun x1 =>
  if x1.toInt = 0 then
    some (0, X)
  else
    letV (wI X 70 4 ((0 : Int32))) fun X2 =>
    letV (wI X2 70 5 p1) fun X3 =>
    letV (wI X3 70 6 p2) fun X4 =>
    some (0, X4)
set_option maxHeartbeats 4000000 in
set_option maxRecDepth 100000 in
theorem k_Running_failWith (Γ : GxC) (p1 : Int32) (p2 : Int32) (X : St) : TCV YC Γ yX7_failWith cX7_failWith 3 "BlameCourt$Running" none { frames := 2, cells := 0, slots := 0, locals := 70 } [.ref (Γ.2.2.2.1 70), .int p1, .int p2] X (g_Running_failWith p1 p2 X) := by
  refine TCV.of (by decide) (Nat.le_of_ble_eq_true rfl) rfl ?_
  show TC YC Γ cX7_failWith 3 "BlameCourt$Running" none { frames := 2, cells := 0, slots := 0, locals := 70 } _ kV 0 [(0, .ref (Γ.2.2.2.1 70)), (1, .int p1), (2, .int p2)] [] X (g_Running_failWith p1 p2 X)
  unfold g_Running_failWith
  refine TC.aload_n dX7_failWith_0 rfl 0 rfl ?_
  refine gC6_4 k619 dX7_failWith_1 (fun x1 => ?_)
  refine TC.if_eq (pc1 := 22) dX7_failWith_4 (by decide) ?_ ?_
  · exact TC.ret_v rfl dX7_failWith_22
  · refine TC.aload_n dX7_failWith_7 rfl 0 rfl ?_
    refine TC.iconst (w := 0) dX7_failWith_8 (by decide) ?_
    refine pC6_4 k619 (by decide) dX7_failWith_9 (fun X2 => ?_)
    refine TC.aload_n dX7_failWith_12 rfl 0 rfl ?_
    refine TC.iload_n dX7_failWith_13 rfl 1 rfl ?_
    refine pC6_5 k620 dX7_failWith_14 (fun X3 => ?_)
    refine TC.aload_n dX7_failWith_17 rfl 0 rfl ?_
    refine TC.iload_n dX7_failWith_18 rfl 2 rfl ?_
    refine pC6_6 k621 dX7_failWith_19 (fun X4 => ?_)
    exact TC.ret_v rfl dX7_failWith_22
noncomputable def g_Running_slotAt (p1 : Int32) (X : St) : Option (Int32 × St) :=
  letV (X.1 70 11) fun x1 =>
  letV (x1 - (1 : Int32)) fun x2 =>
  letV (x2 * (44 : Int32)) fun x3 =>
  letV (x3 + p1) fun x4 =>
  if x4.toInt < 0 then
    some (0, X)
  else
    if 4400 ≤ x4.toInt then
      some (0, X)
    else
      some (x4, X)
set_option maxHeartbeats 4000000 in
set_option maxRecDepth 100000 in
theorem k_Running_slotAt (Γ : GxC) (p1 : Int32) (X : St) : TCI YC Γ yX7_slotAt cX7_slotAt 3 "BlameCourt$Running" (some .int) { frames := 2, cells := 0, slots := 0, locals := 70 } [.ref (Γ.2.2.2.1 70), .int p1] X (g_Running_slotAt p1 X) := by
  refine TCI.of (by decide) (Nat.le_of_ble_eq_true rfl) rfl ?_
  show TC YC Γ cX7_slotAt 3 "BlameCourt$Running" (some .int) { frames := 2, cells := 0, slots := 0, locals := 70 } _ kI 0 [(0, .ref (Γ.2.2.2.1 70)), (1, .int p1)] [] X (g_Running_slotAt p1 X)
  unfold g_Running_slotAt
  refine TC.aload_n dX7_slotAt_0 rfl 0 rfl ?_
  refine gC6_11 k626 dX7_slotAt_1 (fun x1 => ?_)
  refine TC.iconst (w := 1) dX7_slotAt_4 (by decide) ?_
  refine TC.isub dX7_slotAt_5 (fun x2 => ?_)
  refine TC.bipush (w := 44) dX7_slotAt_6 (by decide) ?_
  refine TC.imul dX7_slotAt_8 (fun x3 => ?_)
  refine TC.iload_n dX7_slotAt_9 rfl 1 rfl ?_
  refine TC.iadd dX7_slotAt_10 (fun x4 => ?_)
  refine TC.istore_n (lv1 := [(2, .int x4), (0, .ref (Γ.2.2.2.1 70)), (1, .int p1)]) dX7_slotAt_11 rfl (by decide) rfl ?_
  refine TC.iload_n dX7_slotAt_12 rfl 0 rfl ?_
  refine TC.if_lt (pc1 := 29) dX7_slotAt_13 (by decide) ?_ ?_
  · refine TC.iconst (w := 0) dX7_slotAt_29 (by decide) ?_
    exact TC.ret_i rfl dX7_slotAt_30
  · refine TC.iload_n dX7_slotAt_16 rfl 0 rfl ?_
    refine TC.aload_n dX7_slotAt_17 rfl 1 rfl ?_
    refine cC6_13 k628 dX7_slotAt_18 ?_
    refine TC.alen 83 ⟨rfl, rfl, rfl⟩ (Or.inr rfl) (v := 4400) (by decide) dX7_slotAt_21 ?_
    refine TC.icmp_ge (pc1 := 29) dX7_slotAt_22 (by decide) rfl ?_ ?_
    · refine TC.iconst (w := 0) dX7_slotAt_29 (by decide) ?_
      exact TC.ret_i rfl dX7_slotAt_30
    · refine TC.iload_n dX7_slotAt_25 rfl 0 rfl ?_
      refine TC.goto (pc1 := 30) dX7_slotAt_26 (by decide) ?_
      exact TC.ret_i rfl dX7_slotAt_30
noncomputable def g_Running_pop (X : St) : Option (Int64 × St) :=
  letV (X.1 70 15) fun x1 =>
  if 0 < x1.toInt then
    letV (X.1 70 15) fun x2 =>
    letV (x2 - (1 : Int32)) fun x3 =>
    letV (wI X 70 15 x3) fun X4 =>
    letV (X4.1 70 15) fun x5 =>
    chk (inR x5 20002) (letV (X4.2.1 84 (ix x5)) fun y6 =>
    some (y6, X4))
  else
    some ((0 : Int64), X)
set_option maxHeartbeats 4000000 in
set_option maxRecDepth 100000 in
theorem k_Running_pop (Γ : GxC) (X : St) : TCL YC Γ yX7_pop cX7_pop 1 "BlameCourt$Running" (some .long) { frames := 2, cells := 0, slots := 0, locals := 70 } [.ref (Γ.2.2.2.1 70)] X (g_Running_pop X) := by
  refine TCL.of (by decide) (Nat.le_of_ble_eq_true rfl) rfl ?_
  show TC YC Γ cX7_pop 1 "BlameCourt$Running" (some .long) { frames := 2, cells := 0, slots := 0, locals := 70 } _ kL 0 [(0, .ref (Γ.2.2.2.1 70))] [] X (g_Running_pop X)
  unfold g_Running_pop
  refine TC.aload_n dX7_pop_0 rfl 0 rfl ?_
  refine gC6_15 k630 dX7_pop_1 (fun x1 => ?_)
  refine TC.if_gt (pc1 := 9) dX7_pop_4 (by decide) ?_ ?_
  · refine TC.aload_n dX7_pop_9 rfl 0 rfl ?_
    refine TC.dupr dX7_pop_10 ?_
    refine gC6_15 k630 dX7_pop_11 (fun x2 => ?_)
    refine TC.iconst (w := 1) dX7_pop_14 (by decide) ?_
    refine TC.isub dX7_pop_15 (fun x3 => ?_)
    refine pC6_15 k630 dX7_pop_16 (fun X4 => ?_)
    refine TC.aload_n dX7_pop_19 rfl 0 rfl ?_
    refine cC6_14 k629 dX7_pop_20 ?_
    refine TC.aload_n dX7_pop_23 rfl 0 rfl ?_
    refine gC6_15 k630 dX7_pop_24 (fun x5 => ?_)
    refine alC84 dX7_pop_27 (fun y6 => ?_)
    exact TC.ret_l rfl dX7_pop_28
  · refine TC.lconst (w := 0) dX7_pop_7 (by decide) ?_
    exact TC.ret_l rfl dX7_pop_8
noncomputable def g_Running_enterPart_99 (b_0 : Int32) (X : St) : Option (Int32 × St) :=
  letV (wI X 70 10 b_0) fun X9 =>
  some (0, X9)
set_option maxHeartbeats 4000000 in
set_option maxRecDepth 100000 in
theorem k_Running_enterPart_99 (Γ : GxC) (As : List Value) (b_0 : Int32) (X : St) : TC YC Γ cX7_enterPart 5 "BlameCourt$Running" none { frames := 3, cells := 0, slots := 0, locals := 110 } As kV 99 [] [.int b_0, .ref (Γ.2.2.2.1 70)] X (g_Running_enterPart_99 b_0 X) := by
  unfold g_Running_enterPart_99
  refine pC6_10 k625 dX7_enterPart_99 (fun X9 => ?_)
  exact TC.ret_v rfl dX7_enterPart_102
noncomputable def g_Running_enterPart_98 (X : St) : Option (Int32 × St) :=
  g_Running_enterPart_99 (-1 : Int32) X
set_option maxHeartbeats 4000000 in
set_option maxRecDepth 100000 in
theorem k_Running_enterPart_98 (Γ : GxC) (As : List Value) (X : St) : TC YC Γ cX7_enterPart 5 "BlameCourt$Running" none { frames := 3, cells := 0, slots := 0, locals := 110 } As kV 98 [] [.ref (Γ.2.2.2.1 70)] X (g_Running_enterPart_98 X) := by
  unfold g_Running_enterPart_98
  refine TC.iconst (w := (-1)) dX7_enterPart_98 (by decide) ?_
  exact k_Running_enterPart_99 Γ _ (-1 : Int32) X
noncomputable def g_Running_enterPart_44_s (r44 : Int32 → Int32 → St → Option (Int32 × St)) (a_1 : Int32) (a_4 : Int32) (X : St) : Option (Int32 × St) :=
  if a_4.toInt < 0 then
    if a_1.toInt < 0 then
      g_Running_enterPart_98 X
    else
      chk (refO YC (X.2.2 70 2) 4 17 = true) (letV (X.2.2 70 2 - 1) fun e10 =>
      letV (X.1 e10 1) fun x11 =>
      if x11.toInt ≤ a_1.toInt then
        g_Running_enterPart_98 X
      else
        chk (refO YC (X.2.2 70 2) 4 17 = true) (letV (X.2.2 70 2 - 1) fun e12 =>
        letV (kY YC e12 4 - 3) fun e13 =>
        chk (inR a_1 41) (letV (X.1 e13 (ix a_1)) fun x14 =>
        g_Running_enterPart_99 x14 X)))
  else
    bnd (g_Running_slotAt a_4 X) fun x15 X16 =>
    bnd (g_Running_pop X16) fun y17 X18 =>
    chk (inR x15 4400) (letV (wL X18 83 (ix x15) y17) fun X19 =>
    letV (a_4 + Int32.ofInt (-1)) fun x20 =>
    r44 a_1 x20 X19)
noncomputable def g_Running_enterPart_44 (n : Nat) : Int32 → Int32 → St → Option (Int32 × St) := lp (fun _ _ _ => none) (g_Running_enterPart_44_s) n
set_option maxHeartbeats 4000000 in
set_option maxRecDepth 100000 in
theorem k_Running_enterPart_44 (Γ : GxC) (As : List Value) (n : Nat) : ∀ (a_1 : Int32) (a_4 : Int32) (X : St), TC YC Γ cX7_enterPart 5 "BlameCourt$Running" none { frames := 3, cells := 0, slots := 0, locals := 110 } As kV 44 [(0, .ref (Γ.2.2.2.1 70)), (1, .int a_1), (4, .int a_4)] [] X (g_Running_enterPart_44 n a_1 a_4 X) := by
  unfold g_Running_enterPart_44
  refine lp_ind (P := fun (r44 : Int32 → Int32 → St → Option (Int32 × St)) => ∀ (a_1 : Int32) (a_4 : Int32) (X : St), TC YC Γ cX7_enterPart 5 "BlameCourt$Running" none { frames := 3, cells := 0, slots := 0, locals := 110 } As kV 44 [(0, .ref (Γ.2.2.2.1 70)), (1, .int a_1), (4, .int a_4)] [] X (r44 a_1 a_4 X)) (fun _ _ _ => TC.no) ?_ n
  intro r44 hr44 a_1 a_4 X
  unfold g_Running_enterPart_44_s
  refine TC.iload dX7_enterPart_44 2 rfl ?_
  refine TC.if_lt (pc1 := 70) dX7_enterPart_46 (by decide) ?_ ?_
  · refine TC.aload_n dX7_enterPart_70 rfl 0 rfl ?_
    refine TC.iload_n dX7_enterPart_71 rfl 1 rfl ?_
    refine TC.if_lt (pc1 := 98) dX7_enterPart_72 (by decide) ?_ ?_
    · refine TC.sub [] rfl ?_
      exact k_Running_enterPart_98 Γ _ X
    · refine TC.iload_n dX7_enterPart_75 rfl 1 rfl ?_
      refine TC.aload_n dX7_enterPart_76 rfl 0 rfl ?_
      refine mC6_2 k617 dX7_enterPart_77 (fun e10 he10 => ?_)
      refine gC4_1 e10 he10 k288 dX7_enterPart_80 (fun x11 => ?_)
      refine TC.icmp_ge (pc1 := 98) dX7_enterPart_83 (by decide) rfl ?_ ?_
      · refine TC.sub [] rfl ?_
        exact k_Running_enterPart_98 Γ _ X
      · refine TC.aload_n dX7_enterPart_86 rfl 0 rfl ?_
        refine mC6_2 k617 dX7_enterPart_87 (fun e12 he12 => ?_)
        refine vC4_4 e12 he12 k316 dX7_enterPart_90 (fun e13 he13 => ?_)
        refine TC.iload_n dX7_enterPart_93 rfl 1 rfl ?_
        refine TC.iald e13 he13 dX7_enterPart_94 (fun x14 => ?_)
        refine TC.goto (pc1 := 99) dX7_enterPart_95 (by decide) ?_
        refine TC.sub [] rfl ?_
        exact k_Running_enterPart_99 Γ _ x14 X
  · refine TC.aload_n dX7_enterPart_49 rfl 0 rfl ?_
    refine cC6_13 k628 dX7_enterPart_50 ?_
    refine TC.aload_n dX7_enterPart_53 rfl 0 rfl ?_
    refine TC.iload dX7_enterPart_54 2 rfl ?_
    refine TC.callV_i 70 (As1 := [.int a_4]) (rest := [.ref (Γ.2.2.2.1 83)]) (k_Running_slotAt Γ a_4 X) ka_X7_slotAt kv_X7_slotAt oC_70 rfl k1157 rfl rfl rfl rfl (show 2 + 1 ≤ 3 ∧ 8 + (3 + 11) + 70 ≤ 110 from ⟨by omega, by omega⟩) (Nat.le_of_ble_eq_true rfl) dX7_enterPart_56 (fun x15 X16 => ?_)
    refine TC.aload_n dX7_enterPart_59 rfl 0 rfl ?_
    refine TC.callV_l 70 (As1 := []) (rest := [.int x15, .ref (Γ.2.2.2.1 83)]) (k_Running_pop Γ X16) ka_X7_pop kv_X7_pop oC_70 rfl k1161 rfl rfl rfl rfl (show 2 + 1 ≤ 3 ∧ 8 + (1 + 11) + 70 ≤ 110 from ⟨by omega, by omega⟩) (Nat.le_of_ble_eq_true rfl) dX7_enterPart_60 (fun y17 X18 => ?_)
    refine asC83 dX7_enterPart_63 (fun X19 => ?_)
    refine TC.iinc dX7_enterPart_64 2 rfl (by decide) (lvf := fun x20 => [(4, .int x20), (0, .ref (Γ.2.2.2.1 70)), (1, .int a_1)]) (fun _ => rfl) (fun x20 => ?_)
    refine TC.goto (pc1 := 44) dX7_enterPart_67 (by decide) ?_
    refine TC.sub [1, 2, 0] rfl ?_
    exact hr44 a_1 x20 X19
noncomputable def g_Running_enterPart (p1 : Int32) (p2 : Int32) (p3 : Int32) (X : St) : Option (Int32 × St) :=
  letV (X.1 70 11) fun x1 =>
  if x1.toInt < 100 then
    letV (X.1 70 11) fun x2 =>
    letV (X.1 70 10) fun x3 =>
    chk (inR x2 100) (letV (wI X 82 (ix x2) x3) fun X4 =>
    letV (X4.1 70 11) fun x5 =>
    letV (x5 + (1 : Int32)) fun x6 =>
    letV (wI X4 70 11 x6) fun X7 =>
    letV (p2 - (1 : Int32)) fun x8 =>
    g_Running_enterPart_44 BIG p1 x8 X7)
  else
    bnd (g_Running_failWith (5 : Int32) p3 X) fun _ X21 =>
    some (0, X21)
set_option maxHeartbeats 4000000 in
set_option maxRecDepth 100000 in
theorem k_Running_enterPart (Γ : GxC) (p1 : Int32) (p2 : Int32) (p3 : Int32) (X : St) : TCV YC Γ yX7_enterPart cX7_enterPart 5 "BlameCourt$Running" none { frames := 3, cells := 0, slots := 0, locals := 110 } [.ref (Γ.2.2.2.1 70), .int p1, .int p2, .int p3] X (g_Running_enterPart p1 p2 p3 X) := by
  refine TCV.of (by decide) (Nat.le_of_ble_eq_true rfl) rfl ?_
  show TC YC Γ cX7_enterPart 5 "BlameCourt$Running" none { frames := 3, cells := 0, slots := 0, locals := 110 } _ kV 0 [(0, .ref (Γ.2.2.2.1 70)), (1, .int p1), (2, .int p2), (3, .int p3)] [] X (g_Running_enterPart p1 p2 p3 X)
  unfold g_Running_enterPart
  refine TC.aload_n dX7_enterPart_0 rfl 0 rfl ?_
  refine gC6_11 k626 dX7_enterPart_1 (fun x1 => ?_)
  refine TC.bipush (w := 100) dX7_enterPart_4 (by decide) ?_
  refine TC.icmp_lt (pc1 := 16) dX7_enterPart_6 (by decide) rfl ?_ ?_
  · refine TC.aload_n dX7_enterPart_16 rfl 0 rfl ?_
    refine cC6_12 k627 dX7_enterPart_17 ?_
    refine TC.aload_n dX7_enterPart_20 rfl 0 rfl ?_
    refine gC6_11 k626 dX7_enterPart_21 (fun x2 => ?_)
    refine TC.aload_n dX7_enterPart_24 rfl 0 rfl ?_
    refine gC6_10 k625 dX7_enterPart_25 (fun x3 => ?_)
    refine asC82 dX7_enterPart_28 (fun X4 => ?_)
    refine TC.aload_n dX7_enterPart_29 rfl 0 rfl ?_
    refine TC.dupr dX7_enterPart_30 ?_
    refine gC6_11 k626 dX7_enterPart_31 (fun x5 => ?_)
    refine TC.iconst (w := 1) dX7_enterPart_34 (by decide) ?_
    refine TC.iadd dX7_enterPart_35 (fun x6 => ?_)
    refine pC6_11 k626 dX7_enterPart_36 (fun X7 => ?_)
    refine TC.iload_n dX7_enterPart_39 rfl 2 rfl ?_
    refine TC.iconst (w := 1) dX7_enterPart_40 (by decide) ?_
    refine TC.isub dX7_enterPart_41 (fun x8 => ?_)
    refine TC.istore (lv1 := [(4, .int x8), (0, .ref (Γ.2.2.2.1 70)), (1, .int p1), (2, .int p2), (3, .int p3)]) dX7_enterPart_42 (by decide) rfl ?_
    refine TC.sub [1, 2, 0] rfl ?_
    exact k_Running_enterPart_44 Γ _ BIG p1 x8 X7
  · refine TC.aload_n dX7_enterPart_9 rfl 0 rfl ?_
    refine TC.iconst (w := 5) dX7_enterPart_10 (by decide) ?_
    refine TC.iload_n dX7_enterPart_11 rfl 3 rfl ?_
    refine TC.callV_v 70 (As1 := [.int 5, .int p3]) (rest := []) (k_Running_failWith Γ (5 : Int32) p3 X) ka_X7_failWith kv_X7_failWith oC_70 rfl k1153 rfl rfl rfl rfl (show 2 + 1 ≤ 3 ∧ 8 + (3 + 11) + 70 ≤ 110 from ⟨by omega, by omega⟩) (Nat.le_of_ble_eq_true rfl) dX7_enterPart_12 (fun _ X21 => ?_)
    exact TC.ret_v rfl dX7_enterPart_15
noncomputable def g_Running_sortAskedBy (p0 : Int32) (X : St) : Option (Int32 × St) :=
  if p0.toInt = 27 then
    some (0, X)
  else if p0.toInt = 28 then
    some (1, X)
  else if p0.toInt = 29 then
    some (3, X)
  else if p0.toInt = 30 then
    some (4, X)
  else if p0.toInt = 31 then
    some (4, X)
  else some ((-1), X)
set_option maxHeartbeats 4000000 in
set_option maxRecDepth 100000 in
theorem k_Running_sortAskedBy (Γ : GxC) (p0 : Int32) (X : St) : TCI YC Γ yX7_sortAskedBy cX7_sortAskedBy 1 "BlameCourt$Running" (some .int) { frames := 2, cells := 0, slots := 0, locals := 70 } [.int p0] X (g_Running_sortAskedBy p0 X) := by
  refine TCI.of (by decide) (Nat.le_of_ble_eq_true rfl) rfl ?_
  show TC YC Γ cX7_sortAskedBy 1 "BlameCourt$Running" (some .int) { frames := 2, cells := 0, slots := 0, locals := 70 } _ kI 0 [(0, .int p0)] [] X (g_Running_sortAskedBy p0 X)
  unfold g_Running_sortAskedBy
  refine TC.iload_n dX7_sortAskedBy_0 rfl 0 rfl ?_
  refine TC.ite (fun s1 => ?_) (fun s1 => ?_)
  · refine TC.tbl (pc1 := 36) dX7_sortAskedBy_1 (by decide) (off := 35) (by rw [s1]; rfl) (by decide) ?_
    refine TC.iconst (w := 0) dX7_sortAskedBy_36 (by decide) ?_
    exact TC.ret_i rfl dX7_sortAskedBy_37
  refine TC.ite (fun s2 => ?_) (fun s2 => ?_)
  · refine TC.tbl (pc1 := 38) dX7_sortAskedBy_1 (by decide) (off := 37) (by rw [s2]; rfl) (by decide) ?_
    refine TC.iconst (w := 1) dX7_sortAskedBy_38 (by decide) ?_
    exact TC.ret_i rfl dX7_sortAskedBy_39
  refine TC.ite (fun s3 => ?_) (fun s3 => ?_)
  · refine TC.tbl (pc1 := 40) dX7_sortAskedBy_1 (by decide) (off := 39) (by rw [s3]; rfl) (by decide) ?_
    refine TC.iconst (w := 3) dX7_sortAskedBy_40 (by decide) ?_
    exact TC.ret_i rfl dX7_sortAskedBy_41
  refine TC.ite (fun s4 => ?_) (fun s4 => ?_)
  · refine TC.tbl (pc1 := 42) dX7_sortAskedBy_1 (by decide) (off := 41) (by rw [s4]; rfl) (by decide) ?_
    refine TC.iconst (w := 4) dX7_sortAskedBy_42 (by decide) ?_
    exact TC.ret_i rfl dX7_sortAskedBy_43
  refine TC.ite (fun s5 => ?_) (fun s5 => ?_)
  · refine TC.tbl (pc1 := 42) dX7_sortAskedBy_1 (by decide) (off := 41) (by rw [s5]; rfl) (by decide) ?_
    refine TC.iconst (w := 4) dX7_sortAskedBy_42 (by decide) ?_
    exact TC.ret_i rfl dX7_sortAskedBy_43
  refine TC.tbl (pc1 := 44) dX7_sortAskedBy_1 (by decide) (off := 43) (tbl_d [27, 28, 29, 30, 31] (by intro q; simp only [List.mem_cons, List.not_mem_nil, or_false] at q; omega) (by decide)) (by decide) ?_
  refine TC.iconst (w := (-1)) dX7_sortAskedBy_44 (by decide) ?_
  exact TC.ret_i rfl dX7_sortAskedBy_45
noncomputable def g_Running_isSuch (q1 : Int64) (p3 : Int32) (p4 : Int32) (X : St) : Option (Int32 × St) :=
  bnd (g_Heap_sortOf q1 X) fun x1 X2 =>
  if x1.toInt = p3.toInt then
    if p3.toInt = 4 then
      chk (refO YC (X2.2.2 70 2) 4 17 = true) (letV (X2.2.2 70 2 - 1) fun e3 =>
      bnd (g_Heap_contentOf q1 X2) fun x4 X5 =>
      bnd (g_Program_paramsOf e3 x4 X5) fun x6 X7 =>
      if x6.toInt = p4.toInt then
        some (1, X7)
      else
        some (0, X7))
    else
      some (1, X2)
  else
    some (0, X2)
set_option maxHeartbeats 4000000 in
set_option maxRecDepth 100000 in
theorem k_Running_isSuch (Γ : GxC) (q1 : Int64) (p3 : Int32) (p4 : Int32) (X : St) : TCI YC Γ yX7_isSuch cX7_isSuch 5 "BlameCourt$Running" (some .boolean) { frames := 3, cells := 0, slots := 0, locals := 110 } [.ref (Γ.2.2.2.1 70), .long q1, .int p3, .int p4] X (g_Running_isSuch q1 p3 p4 X) := by
  refine TCI.of (by decide) (Nat.le_of_ble_eq_true rfl) rfl ?_
  show TC YC Γ cX7_isSuch 5 "BlameCourt$Running" (some .boolean) { frames := 3, cells := 0, slots := 0, locals := 110 } _ kI 0 [(0, .ref (Γ.2.2.2.1 70)), (1, .long q1), (3, .int p3), (4, .int p4)] [] X (g_Running_isSuch q1 p3 p4 X)
  unfold g_Running_isSuch
  refine TC.lload_n dX7_isSuch_0 rfl 1 rfl ?_
  refine TC.callS_i (As1 := [.long q1]) (rest := []) (k_Heap_sortOf Γ q1 X) ka_X1_sortOf k1182 k1181 rfl rfl rfl rfl (show 2 + 1 ≤ 3 ∧ 8 + (2 + 11) + 70 ≤ 110 from ⟨by omega, by omega⟩) (Nat.le_of_ble_eq_true rfl) dX7_isSuch_1 (fun x1 X2 => ?_)
  refine TC.iload_n dX7_isSuch_4 rfl 2 rfl ?_
  refine TC.icmp_ne (pc1 := 33) dX7_isSuch_5 (by decide) rfl ?_ ?_
  · refine TC.iconst (w := 0) dX7_isSuch_33 (by decide) ?_
    exact TC.ret_z rfl dX7_isSuch_34 rfl
  · refine TC.iload_n dX7_isSuch_8 rfl 2 rfl ?_
    refine TC.iconst (w := 4) dX7_isSuch_9 (by decide) ?_
    refine TC.icmp_ne (pc1 := 29) dX7_isSuch_10 (by decide) rfl ?_ ?_
    · refine TC.iconst (w := 1) dX7_isSuch_29 (by decide) ?_
      refine TC.goto (pc1 := 34) dX7_isSuch_30 (by decide) ?_
      exact TC.ret_z rfl dX7_isSuch_34 rfl
    · refine TC.aload_n dX7_isSuch_13 rfl 0 rfl ?_
      refine mC6_2 k617 dX7_isSuch_14 (fun e3 he3 => ?_)
      refine TC.lload_n dX7_isSuch_17 rfl 1 rfl ?_
      refine TC.callS_i (As1 := [.long q1]) (rest := [.ref (Γ.2.2.2.1 e3)]) (k_Heap_contentOf Γ q1 X2) ka_X1_contentOf k1185 k1184 rfl rfl rfl rfl (show 2 + 1 ≤ 3 ∧ 8 + (2 + 11) + 70 ≤ 110 from ⟨by omega, by omega⟩) (Nat.le_of_ble_eq_true rfl) dX7_isSuch_18 (fun x4 X5 => ?_)
      refine TC.callV_i e3 (As1 := [.int x4]) (rest := []) (k_Program_paramsOf Γ e3 he3 x4 X5) ka_X5_paramsOf kv_X5_paramsOf he3 rfl k1187 rfl rfl rfl rfl (show 2 + 1 ≤ 3 ∧ 8 + (2 + 11) + 70 ≤ 110 from ⟨by omega, by omega⟩) (Nat.le_of_ble_eq_true rfl) dX7_isSuch_21 (fun x6 X7 => ?_)
      refine TC.iload dX7_isSuch_24 3 rfl ?_
      refine TC.icmp_ne (pc1 := 33) dX7_isSuch_26 (by decide) rfl ?_ ?_
      · refine TC.iconst (w := 0) dX7_isSuch_33 (by decide) ?_
        exact TC.ret_z rfl dX7_isSuch_34 rfl
      · refine TC.iconst (w := 1) dX7_isSuch_29 (by decide) ?_
        refine TC.goto (pc1 := 34) dX7_isSuch_30 (by decide) ?_
        exact TC.ret_z rfl dX7_isSuch_34 rfl
noncomputable def g_Running_askUntold (p1 : Int32) (p2 : Int32) (p3 : Int32) (X : St) : Option (Int32 × St) :=
  bnd (g_Running_sortAskedBy p1 X) fun x1 X2 =>
  if x1.toInt = -1 then
    some (0, X2)
  else
    letV (X2.1 70 15) fun x3 =>
    if x3.toInt ≤ 0 then
      some (0, X2)
    else
      letV (X2.1 70 15) fun x4 =>
      letV (x4 - (1 : Int32)) fun x5 =>
      chk (inR x5 20002) (letV (X2.2.1 84 (ix x5)) fun y6 =>
      bnd (g_Running_isSuch y6 x1 p2 X2) fun x7 X8 =>
      if x7.toInt = 0 then
        bnd (g_Running_failWith (4 : Int32) p3 X8) fun _ X9 =>
        some (0, X9)
      else
        some (0, X8))
set_option maxHeartbeats 4000000 in
set_option maxRecDepth 100000 in
theorem k_Running_askUntold (Γ : GxC) (p1 : Int32) (p2 : Int32) (p3 : Int32) (X : St) : TCV YC Γ yX7_askUntold cX7_askUntold 5 "BlameCourt$Running" none { frames := 4, cells := 0, slots := 0, locals := 150 } [.ref (Γ.2.2.2.1 70), .int p1, .int p2, .int p3] X (g_Running_askUntold p1 p2 p3 X) := by
  refine TCV.of (by decide) (Nat.le_of_ble_eq_true rfl) rfl ?_
  show TC YC Γ cX7_askUntold 5 "BlameCourt$Running" none { frames := 4, cells := 0, slots := 0, locals := 150 } _ kV 0 [(0, .ref (Γ.2.2.2.1 70)), (1, .int p1), (2, .int p2), (3, .int p3)] [] X (g_Running_askUntold p1 p2 p3 X)
  unfold g_Running_askUntold
  refine TC.iload_n dX7_askUntold_0 rfl 1 rfl ?_
  refine TC.callS_i (As1 := [.int p1]) (rest := []) (k_Running_sortAskedBy Γ p1 X) ka_X7_sortAskedBy k1175 k1174 rfl rfl rfl rfl (show 2 + 1 ≤ 4 ∧ 8 + (1 + 11) + 70 ≤ 150 from ⟨by omega, by omega⟩) (Nat.le_of_ble_eq_true rfl) dX7_askUntold_1 (fun x1 X2 => ?_)
  refine TC.istore (lv1 := [(4, .int x1), (0, .ref (Γ.2.2.2.1 70)), (1, .int p1), (2, .int p2), (3, .int p3)]) dX7_askUntold_4 (by decide) rfl ?_
  refine TC.iload dX7_askUntold_6 0 rfl ?_
  refine TC.iconst (w := (-1)) dX7_askUntold_8 (by decide) ?_
  refine TC.icmp_eq (pc1 := 46) dX7_askUntold_9 (by decide) rfl ?_ ?_
  · exact TC.ret_v rfl dX7_askUntold_46
  · refine TC.aload_n dX7_askUntold_12 rfl 1 rfl ?_
    refine gC6_15 k630 dX7_askUntold_13 (fun x3 => ?_)
    refine TC.if_le (pc1 := 46) dX7_askUntold_16 (by decide) ?_ ?_
    · exact TC.ret_v rfl dX7_askUntold_46
    · refine TC.aload_n dX7_askUntold_19 rfl 1 rfl ?_
      refine TC.aload_n dX7_askUntold_20 rfl 1 rfl ?_
      refine cC6_14 k629 dX7_askUntold_21 ?_
      refine TC.aload_n dX7_askUntold_24 rfl 1 rfl ?_
      refine gC6_15 k630 dX7_askUntold_25 (fun x4 => ?_)
      refine TC.iconst (w := 1) dX7_askUntold_28 (by decide) ?_
      refine TC.isub dX7_askUntold_29 (fun x5 => ?_)
      refine alC84 dX7_askUntold_30 (fun y6 => ?_)
      refine TC.iload dX7_askUntold_31 0 rfl ?_
      refine TC.iload_n dX7_askUntold_33 rfl 3 rfl ?_
      refine TC.callV_i 70 (As1 := [.long y6, .int x1, .int p2]) (rest := []) (k_Running_isSuch Γ y6 x1 p2 X2) ka_X7_isSuch kv_X7_isSuch oC_70 rfl k1177 rfl rfl rfl rfl (show 3 + 1 ≤ 4 ∧ 8 + (5 + 11) + 110 ≤ 150 from ⟨by omega, by omega⟩) (Nat.le_of_ble_eq_true rfl) dX7_askUntold_34 (fun x7 X8 => ?_)
      refine TC.if_ne (pc1 := 46) dX7_askUntold_37 (by decide) ?_ ?_
      · exact TC.ret_v rfl dX7_askUntold_46
      · refine TC.aload_n dX7_askUntold_40 rfl 1 rfl ?_
        refine TC.iconst (w := 4) dX7_askUntold_41 (by decide) ?_
        refine TC.iload_n dX7_askUntold_42 rfl 4 rfl ?_
        refine TC.callV_v 70 (As1 := [.int 4, .int p3]) (rest := []) (k_Running_failWith Γ (4 : Int32) p3 X8) ka_X7_failWith kv_X7_failWith oC_70 rfl k1153 rfl rfl rfl rfl (show 2 + 1 ≤ 4 ∧ 8 + (3 + 11) + 70 ≤ 150 from ⟨by omega, by omega⟩) (Nat.le_of_ble_eq_true rfl) dX7_askUntold_43 (fun _ X9 => ?_)
        exact TC.ret_v rfl dX7_askUntold_46
noncomputable def g_Running_count (p1 : Int32) (p2 : Int32) (X : St) : Option (Int32 × St) :=
  letV (p1 * (40 : Int32)) fun x1 =>
  letV (x1 + p2) fun x2 =>
  if x2.toInt < 0 then
    some (0, X)
  else
    if 1600 ≤ x2.toInt then
      some (0, X)
    else
      chk (inR x2 1600) (letV (X.1 87 (ix x2)) fun x3 =>
      letV (x3 + (1 : Int32)) fun x4 =>
      chk (inR x2 1600) (letV (wI X 87 (ix x2) x4) fun X5 =>
      some (0, X5)))
set_option maxHeartbeats 4000000 in
set_option maxRecDepth 100000 in
theorem k_Running_count (Γ : GxC) (p1 : Int32) (p2 : Int32) (X : St) : TCV YC Γ yX7_count cX7_count 4 "BlameCourt$Running" none { frames := 2, cells := 0, slots := 0, locals := 70 } [.ref (Γ.2.2.2.1 70), .int p1, .int p2] X (g_Running_count p1 p2 X) := by
  refine TCV.of (by decide) (Nat.le_of_ble_eq_true rfl) rfl ?_
  show TC YC Γ cX7_count 4 "BlameCourt$Running" none { frames := 2, cells := 0, slots := 0, locals := 70 } _ kV 0 [(0, .ref (Γ.2.2.2.1 70)), (1, .int p1), (2, .int p2)] [] X (g_Running_count p1 p2 X)
  unfold g_Running_count
  refine TC.iload_n dX7_count_0 rfl 1 rfl ?_
  refine TC.bipush (w := 40) dX7_count_1 (by decide) ?_
  refine TC.imul dX7_count_3 (fun x1 => ?_)
  refine TC.iload_n dX7_count_4 rfl 2 rfl ?_
  refine TC.iadd dX7_count_5 (fun x2 => ?_)
  refine TC.istore_n (lv1 := [(3, .int x2), (0, .ref (Γ.2.2.2.1 70)), (1, .int p1), (2, .int p2)]) dX7_count_6 rfl (by decide) rfl ?_
  refine TC.iload_n dX7_count_7 rfl 0 rfl ?_
  refine TC.if_lt (pc1 := 30) dX7_count_8 (by decide) ?_ ?_
  · exact TC.ret_v rfl dX7_count_30
  · refine TC.iload_n dX7_count_11 rfl 0 rfl ?_
    refine TC.aload_n dX7_count_12 rfl 1 rfl ?_
    refine cC6_19 k636 dX7_count_13 ?_
    refine TC.alen 87 ⟨rfl, rfl, rfl⟩ (Or.inl rfl) (v := 1600) (by decide) dX7_count_16 ?_
    refine TC.icmp_ge (pc1 := 30) dX7_count_17 (by decide) rfl ?_ ?_
    · exact TC.ret_v rfl dX7_count_30
    · refine TC.aload_n dX7_count_20 rfl 1 rfl ?_
      refine cC6_19 k636 dX7_count_21 ?_
      refine TC.iload_n dX7_count_24 rfl 0 rfl ?_
      refine TC.dup2 dX7_count_25 ?_
      refine alC87 dX7_count_26 (fun x3 => ?_)
      refine TC.iconst (w := 1) dX7_count_27 (by decide) ?_
      refine TC.iadd dX7_count_28 (fun x4 => ?_)
      refine asC87 dX7_count_29 (fun X5 => ?_)
      exact TC.ret_v rfl dX7_count_30
noncomputable def g_Running_wrap_50 (l_1 : Int64) (a_7 : Int32) (X : St) : Option (Int64 × St) :=
  bnd (g_Running_failWith (6 : Int32) a_7 X) fun _ X4 =>
  some (l_1, X4)
set_option maxHeartbeats 4000000 in
set_option maxRecDepth 100000 in
theorem k_Running_wrap_50 (Γ : GxC) (As : List Value) (l_1 : Int64) (a_7 : Int32) (X : St) : TC YC Γ cX7_wrap 11 "BlameCourt$Running" (some .long) { frames := 3, cells := 0, slots := 0, locals := 110 } As kL 50 [(0, .ref (Γ.2.2.2.1 70)), (1, .long l_1), (7, .int a_7)] [] X (g_Running_wrap_50 l_1 a_7 X) := by
  unfold g_Running_wrap_50
  refine TC.aload_n dX7_wrap_50 rfl 0 rfl ?_
  refine TC.bipush (w := 6) dX7_wrap_51 (by decide) ?_
  refine TC.iload dX7_wrap_53 2 rfl ?_
  refine TC.callV_v 70 (As1 := [.int 6, .int a_7]) (rest := []) (k_Running_failWith Γ (6 : Int32) a_7 X) ka_X7_failWith kv_X7_failWith oC_70 rfl k1153 rfl rfl rfl rfl (show 2 + 1 ≤ 3 ∧ 8 + (3 + 11) + 70 ≤ 110 from ⟨by omega, by omega⟩) (Nat.le_of_ble_eq_true rfl) dX7_wrap_55 (fun _ X4 => ?_)
  refine TC.lload_n dX7_wrap_58 rfl 1 rfl ?_
  exact TC.ret_l rfl dX7_wrap_59
noncomputable def g_Running_wrap_30 (l_1 : Int64) (a_3 : Int32) (a_4 : Int32) (a_5 : Int32) (a_6 : Int32) (a_7 : Int32) (b_0 : Int32) (X : St) : Option (Int64 × St) :=
  if 20 ≤ b_0.toInt then
    g_Running_wrap_50 l_1 a_7 X
  else
    bnd (g_Heap_hasRoom (0 : Int32) X) fun x5 X6 =>
    if x5.toInt = 0 then
      g_Running_wrap_50 l_1 a_7 X6
    else
      letV (X6.1 71 2) fun x7 =>
      letV (X6.1 71 2) fun x8 =>
      letV (x8 + (1 : Int32)) fun x9 =>
      letV (wI X6 71 2 x9) fun X10 =>
      letV (b_0 + (1 : Int32)) fun x11 =>
      chk (inR x7 1000) (letV (wI X10 81 (ix x7) x11) fun X12 =>
      chk (inR x7 1000) (letV (wL X12 75 (ix x7) l_1) fun X13 =>
      chk (inR x7 1000) (letV (wI X13 76 (ix x7) a_3) fun X14 =>
      chk (inR x7 1000) (letV (wI X14 77 (ix x7) a_4) fun X15 =>
      chk (inR x7 1000) (letV (wI X15 78 (ix x7) a_5) fun X16 =>
      chk (inR x7 1000) (letV (wI X16 79 (ix x7) a_6) fun X17 =>
      chk (inR x7 1000) (letV (wI X17 80 (ix x7) a_7) fun X18 =>
      bnd (g_Heap_valueOf (2 : Int32) x7 X18) fun y19 X20 =>
      some (y19, X20))))))))
set_option maxHeartbeats 4000000 in
set_option maxRecDepth 100000 in
theorem k_Running_wrap_30 (Γ : GxC) (As : List Value) (l_1 : Int64) (a_3 : Int32) (a_4 : Int32) (a_5 : Int32) (a_6 : Int32) (a_7 : Int32) (b_0 : Int32) (X : St) : TC YC Γ cX7_wrap 11 "BlameCourt$Running" (some .long) { frames := 3, cells := 0, slots := 0, locals := 110 } As kL 30 [(0, .ref (Γ.2.2.2.1 70)), (1, .long l_1), (3, .int a_3), (4, .int a_4), (5, .int a_5), (6, .int a_6), (7, .int a_7)] [.int b_0] X (g_Running_wrap_30 l_1 a_3 a_4 a_5 a_6 a_7 b_0 X) := by
  unfold g_Running_wrap_30
  refine TC.istore (lv1 := [(9, .int b_0), (0, .ref (Γ.2.2.2.1 70)), (1, .long l_1), (3, .int a_3), (4, .int a_4), (5, .int a_5), (6, .int a_6), (7, .int a_7)]) dX7_wrap_30 (by decide) rfl ?_
  refine TC.iload dX7_wrap_32 0 rfl ?_
  refine TC.bipush (w := 20) dX7_wrap_34 (by decide) ?_
  refine TC.icmp_ge (pc1 := 50) dX7_wrap_36 (by decide) rfl ?_ ?_
  · refine TC.sub [1, 2, 7] rfl ?_
    exact k_Running_wrap_50 Γ _ l_1 a_7 X
  · refine TC.aload_n dX7_wrap_39 rfl 1 rfl ?_
    refine cC6_1 k616 dX7_wrap_40 ?_
    refine TC.iconst (w := 0) dX7_wrap_43 (by decide) ?_
    refine TC.callV_i 71 (As1 := [.int 0]) (rest := []) (k_Heap_hasRoom Γ (0 : Int32) X) ka_X1_hasRoom kv_X1_hasRoom oC_71 rfl k1216 rfl rfl rfl rfl (show 2 + 1 ≤ 3 ∧ 8 + (2 + 11) + 70 ≤ 110 from ⟨by omega, by omega⟩) (Nat.le_of_ble_eq_true rfl) dX7_wrap_44 (fun x5 X6 => ?_)
    refine TC.if_ne (pc1 := 60) dX7_wrap_47 (by decide) ?_ ?_
    · refine TC.aload_n dX7_wrap_60 rfl 1 rfl ?_
      refine cC6_1 k616 dX7_wrap_61 ?_
      refine gC1_2 k570 dX7_wrap_64 (fun x7 => ?_)
      refine TC.istore (lv1 := [(10, .int x7), (9, .int b_0), (0, .ref (Γ.2.2.2.1 70)), (1, .long l_1), (3, .int a_3), (4, .int a_4), (5, .int a_5), (6, .int a_6), (7, .int a_7)]) dX7_wrap_67 (by decide) rfl ?_
      refine TC.aload_n dX7_wrap_69 rfl 2 rfl ?_
      refine cC6_1 k616 dX7_wrap_70 ?_
      refine TC.dupr dX7_wrap_73 ?_
      refine gC1_2 k570 dX7_wrap_74 (fun x8 => ?_)
      refine TC.iconst (w := 1) dX7_wrap_77 (by decide) ?_
      refine TC.iadd dX7_wrap_78 (fun x9 => ?_)
      refine pC1_2 k570 dX7_wrap_79 (fun X10 => ?_)
      refine TC.aload_n dX7_wrap_82 rfl 2 rfl ?_
      refine cC6_1 k616 dX7_wrap_83 ?_
      refine cC1_12 k587 dX7_wrap_86 ?_
      refine TC.iload dX7_wrap_89 0 rfl ?_
      refine TC.iload dX7_wrap_91 1 rfl ?_
      refine TC.iconst (w := 1) dX7_wrap_93 (by decide) ?_
      refine TC.iadd dX7_wrap_94 (fun x11 => ?_)
      refine asC81 dX7_wrap_95 (fun X12 => ?_)
      refine TC.aload_n dX7_wrap_96 rfl 2 rfl ?_
      refine cC6_1 k616 dX7_wrap_97 ?_
      refine cC1_6 k575 dX7_wrap_100 ?_
      refine TC.iload dX7_wrap_103 0 rfl ?_
      refine TC.lload_n dX7_wrap_105 rfl 3 rfl ?_
      refine asC75 dX7_wrap_106 (fun X13 => ?_)
      refine TC.aload_n dX7_wrap_107 rfl 2 rfl ?_
      refine cC6_1 k616 dX7_wrap_108 ?_
      refine cC1_7 k577 dX7_wrap_111 ?_
      refine TC.iload dX7_wrap_114 0 rfl ?_
      refine TC.iload_n dX7_wrap_116 rfl 4 rfl ?_
      refine asC76 dX7_wrap_117 (fun X14 => ?_)
      refine TC.aload_n dX7_wrap_118 rfl 2 rfl ?_
      refine cC6_1 k616 dX7_wrap_119 ?_
      refine cC1_8 k579 dX7_wrap_122 ?_
      refine TC.iload dX7_wrap_125 0 rfl ?_
      refine TC.iload dX7_wrap_127 5 rfl ?_
      refine asC77 dX7_wrap_129 (fun X15 => ?_)
      refine TC.aload_n dX7_wrap_130 rfl 2 rfl ?_
      refine cC6_1 k616 dX7_wrap_131 ?_
      refine cC1_9 k581 dX7_wrap_134 ?_
      refine TC.iload dX7_wrap_137 0 rfl ?_
      refine TC.iload dX7_wrap_139 6 rfl ?_
      refine asC78 dX7_wrap_141 (fun X16 => ?_)
      refine TC.aload_n dX7_wrap_142 rfl 2 rfl ?_
      refine cC6_1 k616 dX7_wrap_143 ?_
      refine cC1_10 k583 dX7_wrap_146 ?_
      refine TC.iload dX7_wrap_149 0 rfl ?_
      refine TC.iload dX7_wrap_151 7 rfl ?_
      refine asC79 dX7_wrap_153 (fun X17 => ?_)
      refine TC.aload_n dX7_wrap_154 rfl 2 rfl ?_
      refine cC6_1 k616 dX7_wrap_155 ?_
      refine cC1_11 k585 dX7_wrap_158 ?_
      refine TC.iload dX7_wrap_161 0 rfl ?_
      refine TC.iload dX7_wrap_163 8 rfl ?_
      refine asC80 dX7_wrap_165 (fun X18 => ?_)
      refine TC.iconst (w := 2) dX7_wrap_166 (by decide) ?_
      refine TC.iload dX7_wrap_167 0 rfl ?_
      refine TC.callS_l (As1 := [.int 2, .int x7]) (rest := []) (k_Heap_valueOf Γ (2 : Int32) x7 X18) ka_X1_valueOf k1142 k1141 rfl rfl rfl rfl (show 2 + 1 ≤ 3 ∧ 8 + (2 + 11) + 70 ≤ 110 from ⟨by omega, by omega⟩) (Nat.le_of_ble_eq_true rfl) dX7_wrap_169 (fun y19 X20 => ?_)
      exact TC.ret_l rfl dX7_wrap_172
    · refine TC.sub [1, 2, 7] rfl ?_
      exact k_Running_wrap_50 Γ _ l_1 a_7 X6
noncomputable def g_Running_wrap (q1 : Int64) (p3 : Int32) (p4 : Int32) (p5 : Int32) (p6 : Int32) (p7 : Int32) (X : St) : Option (Int64 × St) :=
  bnd (g_Heap_wrappingOf q1 X) fun x1 X2 =>
  if x1.toInt = -1 then
    g_Running_wrap_30 q1 p3 p4 p5 p6 p7 (0 : Int32) X2
  else
    chk (inR x1 1000) (letV (X2.1 81 (ix x1)) fun x3 =>
    g_Running_wrap_30 q1 p3 p4 p5 p6 p7 x3 X2)
set_option maxHeartbeats 4000000 in
set_option maxRecDepth 100000 in
theorem k_Running_wrap (Γ : GxC) (q1 : Int64) (p3 : Int32) (p4 : Int32) (p5 : Int32) (p6 : Int32) (p7 : Int32) (X : St) : TCL YC Γ yX7_wrap cX7_wrap 11 "BlameCourt$Running" (some .long) { frames := 3, cells := 0, slots := 0, locals := 110 } [.ref (Γ.2.2.2.1 70), .long q1, .int p3, .int p4, .int p5, .int p6, .int p7] X (g_Running_wrap q1 p3 p4 p5 p6 p7 X) := by
  refine TCL.of (by decide) (Nat.le_of_ble_eq_true rfl) rfl ?_
  show TC YC Γ cX7_wrap 11 "BlameCourt$Running" (some .long) { frames := 3, cells := 0, slots := 0, locals := 110 } _ kL 0 [(0, .ref (Γ.2.2.2.1 70)), (1, .long q1), (3, .int p3), (4, .int p4), (5, .int p5), (6, .int p6), (7, .int p7)] [] X (g_Running_wrap q1 p3 p4 p5 p6 p7 X)
  unfold g_Running_wrap
  refine TC.aload_n dX7_wrap_0 rfl 0 rfl ?_
  refine cC6_1 k616 dX7_wrap_1 ?_
  refine TC.lload_n dX7_wrap_4 rfl 1 rfl ?_
  refine TC.callV_i 71 (As1 := [.long q1]) (rest := []) (k_Heap_wrappingOf Γ q1 X) ka_X1_wrappingOf kv_X1_wrappingOf oC_71 rfl k1215 rfl rfl rfl rfl (show 2 + 1 ≤ 3 ∧ 8 + (4 + 11) + 70 ≤ 110 from ⟨by omega, by omega⟩) (Nat.le_of_ble_eq_true rfl) dX7_wrap_5 (fun x1 X2 => ?_)
  refine TC.istore (lv1 := [(8, .int x1), (0, .ref (Γ.2.2.2.1 70)), (1, .long q1), (3, .int p3), (4, .int p4), (5, .int p5), (6, .int p6), (7, .int p7)]) dX7_wrap_8 (by decide) rfl ?_
  refine TC.iload dX7_wrap_10 0 rfl ?_
  refine TC.iconst (w := (-1)) dX7_wrap_12 (by decide) ?_
  refine TC.icmp_ne (pc1 := 20) dX7_wrap_13 (by decide) rfl ?_ ?_
  · refine TC.aload_n dX7_wrap_20 rfl 1 rfl ?_
    refine cC6_1 k616 dX7_wrap_21 ?_
    refine cC1_12 k587 dX7_wrap_24 ?_
    refine TC.iload dX7_wrap_27 0 rfl ?_
    refine alC81 dX7_wrap_29 (fun x3 => ?_)
    refine TC.sub [1, 2, 3, 4, 5, 6, 7] rfl ?_
    exact k_Running_wrap_30 Γ _ q1 p3 p4 p5 p6 p7 x3 X2
  · refine TC.iconst (w := 0) dX7_wrap_16 (by decide) ?_
    refine TC.goto (pc1 := 30) dX7_wrap_17 (by decide) ?_
    refine TC.sub [1, 2, 3, 4, 5, 6, 7] rfl ?_
    exact k_Running_wrap_30 Γ _ q1 p3 p4 p5 p6 p7 (0 : Int32) X2
noncomputable def g_Running_ask_162 (r10 : Int64 → Int32 → Int32 → Int32 → Int32 → Int32 → Int32 → St → Option (Int64 × St)) (l_1 : Int64) (a_5 : Int32) (a_6 : Int32) (a_7 : Int32) (a_8 : Int32) (a_9 : Int32) (a_10 : Int32) (X : St) : Option (Int64 × St) :=
  letV (a_10 + Int32.ofInt (1)) fun x21 =>
  r10 l_1 a_5 a_6 a_7 a_8 a_9 x21 X
set_option maxHeartbeats 4000000 in
set_option maxRecDepth 100000 in
theorem k_Running_ask_162 (Γ : GxC) (As : List Value) (r10 : Int64 → Int32 → Int32 → Int32 → Int32 → Int32 → Int32 → St → Option (Int64 × St)) (hr10 : ∀ (l_1 : Int64) (a_5 : Int32) (a_6 : Int32) (a_7 : Int32) (a_8 : Int32) (a_9 : Int32) (a_10 : Int32) (X : St), TC YC Γ cX7_ask 11 "BlameCourt$Running" (some .long) { frames := 4, cells := 0, slots := 0, locals := 150 } As kL 10 [(0, .ref (Γ.2.2.2.1 70)), (1, .long l_1), (5, .int a_5), (6, .int a_6), (7, .int a_7), (8, .int a_8), (9, .int a_9), (10, .int a_10)] [] X (r10 l_1 a_5 a_6 a_7 a_8 a_9 a_10 X)) (l_1 : Int64) (a_5 : Int32) (a_6 : Int32) (a_7 : Int32) (a_8 : Int32) (a_9 : Int32) (a_10 : Int32) (X : St) : TC YC Γ cX7_ask 11 "BlameCourt$Running" (some .long) { frames := 4, cells := 0, slots := 0, locals := 150 } As kL 162 [(0, .ref (Γ.2.2.2.1 70)), (1, .long l_1), (5, .int a_5), (6, .int a_6), (7, .int a_7), (8, .int a_8), (9, .int a_9), (10, .int a_10)] [] X (g_Running_ask_162 r10 l_1 a_5 a_6 a_7 a_8 a_9 a_10 X) := by
  unfold g_Running_ask_162
  refine TC.iinc dX7_ask_162 7 rfl (by decide) (lvf := fun x21 => [(10, .int x21), (0, .ref (Γ.2.2.2.1 70)), (1, .long l_1), (5, .int a_5), (6, .int a_6), (7, .int a_7), (8, .int a_8), (9, .int a_9)]) (fun _ => rfl) (fun x21 => ?_)
  refine TC.goto (pc1 := 10) dX7_ask_165 (by decide) ?_
  refine TC.sub [1, 2, 3, 4, 5, 6, 7, 0] rfl ?_
  exact hr10 l_1 a_5 a_6 a_7 a_8 a_9 x21 X
noncomputable def g_Running_ask_124 (r10 : Int64 → Int32 → Int32 → Int32 → Int32 → Int32 → Int32 → St → Option (Int64 × St)) (l_1 : Int64) (a_5 : Int32) (a_6 : Int32) (a_7 : Int32) (a_9 : Int32) (a_10 : Int32) (X : St) : Option (Int64 × St) :=
  chk (refO YC (X.2.2 70 2) 4 17 = true) (letV (X.2.2 70 2 - 1) fun e17 =>
  letV (kY YC e17 0 - 3) fun e18 =>
  bnd (g_Kinds_withAnys e18 a_9 X) fun x19 X20 =>
  if x19.toInt = 2 then
    some (l_1, X20)
  else
    g_Running_ask_162 r10 l_1 a_5 a_6 a_7 x19 a_9 a_10 X20)
set_option maxHeartbeats 4000000 in
set_option maxRecDepth 100000 in
theorem k_Running_ask_124 (Γ : GxC) (As : List Value) (r10 : Int64 → Int32 → Int32 → Int32 → Int32 → Int32 → Int32 → St → Option (Int64 × St)) (hr10 : ∀ (l_1 : Int64) (a_5 : Int32) (a_6 : Int32) (a_7 : Int32) (a_8 : Int32) (a_9 : Int32) (a_10 : Int32) (X : St), TC YC Γ cX7_ask 11 "BlameCourt$Running" (some .long) { frames := 4, cells := 0, slots := 0, locals := 150 } As kL 10 [(0, .ref (Γ.2.2.2.1 70)), (1, .long l_1), (5, .int a_5), (6, .int a_6), (7, .int a_7), (8, .int a_8), (9, .int a_9), (10, .int a_10)] [] X (r10 l_1 a_5 a_6 a_7 a_8 a_9 a_10 X)) (l_1 : Int64) (a_5 : Int32) (a_6 : Int32) (a_7 : Int32) (a_9 : Int32) (a_10 : Int32) (X : St) : TC YC Γ cX7_ask 11 "BlameCourt$Running" (some .long) { frames := 4, cells := 0, slots := 0, locals := 150 } As kL 124 [(0, .ref (Γ.2.2.2.1 70)), (1, .long l_1), (5, .int a_5), (6, .int a_6), (7, .int a_7), (9, .int a_9), (10, .int a_10)] [] X (g_Running_ask_124 r10 l_1 a_5 a_6 a_7 a_9 a_10 X) := by
  unfold g_Running_ask_124
  refine TC.aload_n dX7_ask_124 rfl 0 rfl ?_
  refine mC6_2 k617 dX7_ask_125 (fun e17 he17 => ?_)
  refine vC4_0 e17 he17 k283 dX7_ask_128 (fun e18 he18 => ?_)
  refine TC.iload dX7_ask_131 5 rfl ?_
  refine TC.callV_i e18 (As1 := [.int a_9]) (rest := []) (k_Kinds_withAnys Γ e18 he18 a_9 X) ka_X3_withAnys kv_X3_withAnys he18 rfl k1196 rfl rfl rfl rfl (show 3 + 1 ≤ 4 ∧ 8 + (2 + 11) + 110 ≤ 150 from ⟨by omega, by omega⟩) (Nat.le_of_ble_eq_true rfl) dX7_ask_133 (fun x19 X20 => ?_)
  refine TC.istore (lv1 := [(8, .int x19), (0, .ref (Γ.2.2.2.1 70)), (1, .long l_1), (5, .int a_5), (6, .int a_6), (7, .int a_7), (9, .int a_9), (10, .int a_10)]) dX7_ask_136 (by decide) rfl ?_
  refine TC.iload dX7_ask_138 0 rfl ?_
  refine TC.iconst (w := 2) dX7_ask_140 (by decide) ?_
  refine TC.icmp_ne (pc1 := 162) dX7_ask_141 (by decide) rfl ?_ ?_
  · refine TC.sub [1, 2, 3, 4, 5, 0, 6, 7] rfl ?_
    exact k_Running_ask_162 Γ _ r10 hr10 l_1 a_5 a_6 a_7 x19 a_9 a_10 X20
  · refine TC.lload_n dX7_ask_144 rfl 2 rfl ?_
    exact TC.ret_l rfl dX7_ask_145
noncomputable def g_Running_ask_10_s (r10 : Int64 → Int32 → Int32 → Int32 → Int32 → Int32 → Int32 → St → Option (Int64 × St)) (l_1 : Int64) (a_5 : Int32) (a_6 : Int32) (a_7 : Int32) (a_8 : Int32) (a_9 : Int32) (a_10 : Int32) (X : St) : Option (Int64 × St) :=
  if 3 ≤ a_10.toInt then
    some (l_1, X)
  else
    letV (X.1 70 4) fun x1 =>
    if x1.toInt = 0 then
      some (l_1, X)
    else
      if a_8.toInt = a_9.toInt then
        some (l_1, X)
      else
        bnd (g_Running_count a_5 a_6 X) fun _ X2 =>
        if a_9.toInt = 2 then
          chk (refO YC (X2.2.2 70 2) 4 17 = true) (letV (X2.2.2 70 2 - 1) fun e24 =>
          letV (kY YC e24 0 - 3) fun e25 =>
          bnd (g_Kinds_withAnys e25 a_8 X2) fun x26 X27 =>
          if x26.toInt = 2 then
            some (l_1, X27)
          else
            g_Running_ask_162 r10 l_1 a_5 a_6 a_7 a_8 x26 a_10 X27)
        else
          if a_8.toInt = 2 then
            bnd (g_Heap_core l_1 X2) fun y5 X6 =>
            chk (refO YC (X6.2.2 70 2) 4 17 = true) (letV (X6.2.2 70 2 - 1) fun e7 =>
            letV (kY YC e7 0 - 3) fun e8 =>
            bnd (g_Kinds_sortOf e8 a_9 X6) fun x9 X10 =>
            chk (refO YC (X10.2.2 70 2) 4 17 = true) (letV (X10.2.2 70 2 - 1) fun e11 =>
            letV (kY YC e11 0 - 3) fun e12 =>
            bnd (g_Kinds_takenBy e12 a_9 X10) fun x13 X14 =>
            bnd (g_Running_isSuch y5 x9 x13 X14) fun x15 X16 =>
            if x15.toInt = 0 then
              letV (wI X16 70 7 a_5) fun X22 =>
              bnd (g_Running_failWith (3 : Int32) a_7 X22) fun _ X23 =>
              g_Running_ask_124 r10 l_1 a_5 a_6 a_7 a_9 a_10 X23
            else
              g_Running_ask_124 r10 l_1 a_5 a_6 a_7 a_9 a_10 X16))
          else
            bnd (g_Running_wrap l_1 a_8 a_9 a_5 a_6 a_7 X2) fun y3 X4 =>
            some (y3, X4)
noncomputable def g_Running_ask_10 (n : Nat) : Int64 → Int32 → Int32 → Int32 → Int32 → Int32 → Int32 → St → Option (Int64 × St) := lp (fun _ _ _ _ _ _ _ _ => none) (g_Running_ask_10_s) n
set_option maxHeartbeats 4000000 in
set_option maxRecDepth 100000 in
theorem k_Running_ask_10 (Γ : GxC) (As : List Value) (n : Nat) : ∀ (l_1 : Int64) (a_5 : Int32) (a_6 : Int32) (a_7 : Int32) (a_8 : Int32) (a_9 : Int32) (a_10 : Int32) (X : St), TC YC Γ cX7_ask 11 "BlameCourt$Running" (some .long) { frames := 4, cells := 0, slots := 0, locals := 150 } As kL 10 [(0, .ref (Γ.2.2.2.1 70)), (1, .long l_1), (5, .int a_5), (6, .int a_6), (7, .int a_7), (8, .int a_8), (9, .int a_9), (10, .int a_10)] [] X (g_Running_ask_10 n l_1 a_5 a_6 a_7 a_8 a_9 a_10 X) := by
  unfold g_Running_ask_10
  refine lp_ind (P := fun (r10 : Int64 → Int32 → Int32 → Int32 → Int32 → Int32 → Int32 → St → Option (Int64 × St)) => ∀ (l_1 : Int64) (a_5 : Int32) (a_6 : Int32) (a_7 : Int32) (a_8 : Int32) (a_9 : Int32) (a_10 : Int32) (X : St), TC YC Γ cX7_ask 11 "BlameCourt$Running" (some .long) { frames := 4, cells := 0, slots := 0, locals := 150 } As kL 10 [(0, .ref (Γ.2.2.2.1 70)), (1, .long l_1), (5, .int a_5), (6, .int a_6), (7, .int a_7), (8, .int a_8), (9, .int a_9), (10, .int a_10)] [] X (r10 l_1 a_5 a_6 a_7 a_8 a_9 a_10 X)) (fun _ _ _ _ _ _ _ _ => TC.no) ?_ n
  intro r10 hr10 l_1 a_5 a_6 a_7 a_8 a_9 a_10 X
  unfold g_Running_ask_10_s
  refine TC.iload dX7_ask_10 7 rfl ?_
  refine TC.iconst (w := 3) dX7_ask_12 (by decide) ?_
  refine TC.icmp_ge (pc1 := 168) dX7_ask_13 (by decide) rfl ?_ ?_
  · refine TC.lload_n dX7_ask_168 rfl 1 rfl ?_
    exact TC.ret_l rfl dX7_ask_169
  · refine TC.aload_n dX7_ask_16 rfl 0 rfl ?_
    refine gC6_4 k619 dX7_ask_17 (fun x1 => ?_)
    refine TC.if_eq (pc1 := 168) dX7_ask_20 (by decide) ?_ ?_
    · refine TC.lload_n dX7_ask_168 rfl 1 rfl ?_
      exact TC.ret_l rfl dX7_ask_169
    · refine TC.iload dX7_ask_23 5 rfl ?_
      refine TC.iload dX7_ask_25 6 rfl ?_
      refine TC.icmp_eq (pc1 := 168) dX7_ask_27 (by decide) rfl ?_ ?_
      · refine TC.lload_n dX7_ask_168 rfl 1 rfl ?_
        exact TC.ret_l rfl dX7_ask_169
      · refine TC.aload_n dX7_ask_30 rfl 0 rfl ?_
        refine TC.iload dX7_ask_31 2 rfl ?_
        refine TC.iload dX7_ask_33 3 rfl ?_
        refine TC.callV_v 70 (As1 := [.int a_5, .int a_6]) (rest := []) (k_Running_count Γ a_5 a_6 X) ka_X7_count kv_X7_count oC_70 rfl k1192 rfl rfl rfl rfl (show 2 + 1 ≤ 4 ∧ 8 + (4 + 11) + 70 ≤ 150 from ⟨by omega, by omega⟩) (Nat.le_of_ble_eq_true rfl) dX7_ask_35 (fun _ X2 => ?_)
        refine TC.iload dX7_ask_38 6 rfl ?_
        refine TC.iconst (w := 2) dX7_ask_40 (by decide) ?_
        refine TC.icmp_ne (pc1 := 66) dX7_ask_41 (by decide) rfl ?_ ?_
        · refine TC.iload dX7_ask_66 5 rfl ?_
          refine TC.iconst (w := 2) dX7_ask_68 (by decide) ?_
          refine TC.icmp_ne (pc1 := 146) dX7_ask_69 (by decide) rfl ?_ ?_
          · refine TC.aload_n dX7_ask_146 rfl 0 rfl ?_
            refine TC.lload_n dX7_ask_147 rfl 1 rfl ?_
            refine TC.iload dX7_ask_148 5 rfl ?_
            refine TC.iload dX7_ask_150 6 rfl ?_
            refine TC.iload dX7_ask_152 2 rfl ?_
            refine TC.iload dX7_ask_154 3 rfl ?_
            refine TC.iload dX7_ask_156 4 rfl ?_
            refine TC.callV_l 70 (As1 := [.long l_1, .int a_8, .int a_9, .int a_5, .int a_6, .int a_7]) (rest := []) (k_Running_wrap Γ l_1 a_8 a_9 a_5 a_6 a_7 X2) ka_X7_wrap kv_X7_wrap oC_70 rfl k1211 rfl rfl rfl rfl (show 3 + 1 ≤ 4 ∧ 8 + (11 + 11) + 110 ≤ 150 from ⟨by omega, by omega⟩) (Nat.le_of_ble_eq_true rfl) dX7_ask_158 (fun y3 X4 => ?_)
            exact TC.ret_l rfl dX7_ask_161
          · refine TC.aload_n dX7_ask_72 rfl 0 rfl ?_
            refine TC.aload_n dX7_ask_73 rfl 0 rfl ?_
            refine cC6_1 k616 dX7_ask_74 ?_
            refine TC.lload_n dX7_ask_77 rfl 1 rfl ?_
            refine TC.callV_l 71 (As1 := [.long l_1]) (rest := [.ref (Γ.2.2.2.1 70)]) (k_Heap_core Γ l_1 X2) ka_X1_core kv_X1_core oC_71 rfl k1200 rfl rfl rfl rfl (show 3 + 1 ≤ 4 ∧ 8 + (7 + 11) + 110 ≤ 150 from ⟨by omega, by omega⟩) (Nat.le_of_ble_eq_true rfl) dX7_ask_78 (fun y5 X6 => ?_)
            refine TC.aload_n dX7_ask_81 rfl 0 rfl ?_
            refine mC6_2 k617 dX7_ask_82 (fun e7 he7 => ?_)
            refine vC4_0 e7 he7 k283 dX7_ask_85 (fun e8 he8 => ?_)
            refine TC.iload dX7_ask_88 6 rfl ?_
            refine TC.callV_i e8 (As1 := [.int a_9]) (rest := [.long y5, .ref (Γ.2.2.2.1 70)]) (k_Kinds_sortOf Γ e8 he8 a_9 X6) ka_X3_sortOf kv_X3_sortOf he8 rfl k1209 rfl rfl rfl rfl (show 2 + 1 ≤ 4 ∧ 8 + (2 + 11) + 70 ≤ 150 from ⟨by omega, by omega⟩) (Nat.le_of_ble_eq_true rfl) dX7_ask_90 (fun x9 X10 => ?_)
            refine TC.aload_n dX7_ask_93 rfl 0 rfl ?_
            refine mC6_2 k617 dX7_ask_94 (fun e11 he11 => ?_)
            refine vC4_0 e11 he11 k283 dX7_ask_97 (fun e12 he12 => ?_)
            refine TC.iload dX7_ask_100 6 rfl ?_
            refine TC.callV_i e12 (As1 := [.int a_9]) (rest := [.int x9, .long y5, .ref (Γ.2.2.2.1 70)]) (k_Kinds_takenBy Γ e12 he12 a_9 X10) ka_X3_takenBy kv_X3_takenBy he12 rfl k1210 rfl rfl rfl rfl (show 2 + 1 ≤ 4 ∧ 8 + (2 + 11) + 70 ≤ 150 from ⟨by omega, by omega⟩) (Nat.le_of_ble_eq_true rfl) dX7_ask_102 (fun x13 X14 => ?_)
            refine TC.callV_i 70 (As1 := [.long y5, .int x9, .int x13]) (rest := []) (k_Running_isSuch Γ y5 x9 x13 X14) ka_X7_isSuch kv_X7_isSuch oC_70 rfl k1177 rfl rfl rfl rfl (show 3 + 1 ≤ 4 ∧ 8 + (5 + 11) + 110 ≤ 150 from ⟨by omega, by omega⟩) (Nat.le_of_ble_eq_true rfl) dX7_ask_105 (fun x15 X16 => ?_)
            refine TC.if_ne (pc1 := 124) dX7_ask_108 (by decide) ?_ ?_
            · refine TC.sub [0, 1, 2, 3, 4, 6, 7] rfl ?_
              exact k_Running_ask_124 Γ _ r10 hr10 l_1 a_5 a_6 a_7 a_9 a_10 X16
            · refine TC.aload_n dX7_ask_111 rfl 0 rfl ?_
              refine TC.iload dX7_ask_112 2 rfl ?_
              refine pC6_7 k622 dX7_ask_114 (fun X22 => ?_)
              refine TC.aload_n dX7_ask_117 rfl 0 rfl ?_
              refine TC.iconst (w := 3) dX7_ask_118 (by decide) ?_
              refine TC.iload dX7_ask_119 4 rfl ?_
              refine TC.callV_v 70 (As1 := [.int 3, .int a_7]) (rest := []) (k_Running_failWith Γ (3 : Int32) a_7 X22) ka_X7_failWith kv_X7_failWith oC_70 rfl k1153 rfl rfl rfl rfl (show 2 + 1 ≤ 4 ∧ 8 + (3 + 11) + 70 ≤ 150 from ⟨by omega, by omega⟩) (Nat.le_of_ble_eq_true rfl) dX7_ask_121 (fun _ X23 => ?_)
              refine TC.sub [0, 1, 2, 3, 4, 6, 7] rfl ?_
              exact k_Running_ask_124 Γ _ r10 hr10 l_1 a_5 a_6 a_7 a_9 a_10 X23
        · refine TC.aload_n dX7_ask_44 rfl 0 rfl ?_
          refine mC6_2 k617 dX7_ask_45 (fun e24 he24 => ?_)
          refine vC4_0 e24 he24 k283 dX7_ask_48 (fun e25 he25 => ?_)
          refine TC.iload dX7_ask_51 5 rfl ?_
          refine TC.callV_i e25 (As1 := [.int a_8]) (rest := []) (k_Kinds_withAnys Γ e25 he25 a_8 X2) ka_X3_withAnys kv_X3_withAnys he25 rfl k1196 rfl rfl rfl rfl (show 3 + 1 ≤ 4 ∧ 8 + (2 + 11) + 110 ≤ 150 from ⟨by omega, by omega⟩) (Nat.le_of_ble_eq_true rfl) dX7_ask_53 (fun x26 X27 => ?_)
          refine TC.istore (lv1 := [(9, .int x26), (0, .ref (Γ.2.2.2.1 70)), (1, .long l_1), (5, .int a_5), (6, .int a_6), (7, .int a_7), (8, .int a_8), (10, .int a_10)]) dX7_ask_56 (by decide) rfl ?_
          refine TC.iload dX7_ask_58 0 rfl ?_
          refine TC.iconst (w := 2) dX7_ask_60 (by decide) ?_
          refine TC.icmp_ne (pc1 := 162) dX7_ask_61 (by decide) rfl ?_ ?_
          · refine TC.sub [1, 2, 3, 4, 5, 6, 0, 7] rfl ?_
            exact k_Running_ask_162 Γ _ r10 hr10 l_1 a_5 a_6 a_7 a_8 x26 a_10 X27
          · refine TC.lload_n dX7_ask_64 rfl 2 rfl ?_
            exact TC.ret_l rfl dX7_ask_65
noncomputable def g_Running_ask (q1 : Int64) (p3 : Int32) (p4 : Int32) (p5 : Int32) (p6 : Int32) (p7 : Int32) (X : St) : Option (Int64 × St) :=
  g_Running_ask_10 BIG q1 p5 p6 p7 p3 p4 (0 : Int32) X
set_option maxHeartbeats 4000000 in
set_option maxRecDepth 100000 in
theorem k_Running_ask (Γ : GxC) (q1 : Int64) (p3 : Int32) (p4 : Int32) (p5 : Int32) (p6 : Int32) (p7 : Int32) (X : St) : TCL YC Γ yX7_ask cX7_ask 11 "BlameCourt$Running" (some .long) { frames := 4, cells := 0, slots := 0, locals := 150 } [.ref (Γ.2.2.2.1 70), .long q1, .int p3, .int p4, .int p5, .int p6, .int p7] X (g_Running_ask q1 p3 p4 p5 p6 p7 X) := by
  refine TCL.of (by decide) (Nat.le_of_ble_eq_true rfl) rfl ?_
  show TC YC Γ cX7_ask 11 "BlameCourt$Running" (some .long) { frames := 4, cells := 0, slots := 0, locals := 150 } _ kL 0 [(0, .ref (Γ.2.2.2.1 70)), (1, .long q1), (3, .int p3), (4, .int p4), (5, .int p5), (6, .int p6), (7, .int p7)] [] X (g_Running_ask q1 p3 p4 p5 p6 p7 X)
  unfold g_Running_ask
  refine TC.iload_n dX7_ask_0 rfl 2 rfl ?_
  refine TC.istore (lv1 := [(8, .int p3), (0, .ref (Γ.2.2.2.1 70)), (1, .long q1), (3, .int p3), (4, .int p4), (5, .int p5), (6, .int p6), (7, .int p7)]) dX7_ask_1 (by decide) rfl ?_
  refine TC.iload dX7_ask_3 4 rfl ?_
  refine TC.istore (lv1 := [(9, .int p4), (8, .int p3), (0, .ref (Γ.2.2.2.1 70)), (1, .long q1), (3, .int p3), (4, .int p4), (5, .int p5), (6, .int p6), (7, .int p7)]) dX7_ask_5 (by decide) rfl ?_
  refine TC.iconst (w := 0) dX7_ask_7 (by decide) ?_
  refine TC.istore (lv1 := [(10, .int 0), (9, .int p4), (8, .int p3), (0, .ref (Γ.2.2.2.1 70)), (1, .long q1), (3, .int p3), (4, .int p4), (5, .int p5), (6, .int p6), (7, .int p7)]) dX7_ask_8 (by decide) rfl ?_
  refine TC.sub [3, 4, 7, 8, 9, 2, 1, 0] rfl ?_
  exact k_Running_ask_10 Γ _ BIG q1 p5 p6 p7 p3 p4 (0 : Int32) X
noncomputable def g_Running_workAsking (p1 : Int32) (X : St) : Option (Int32 × St) :=
  letV (X.1 70 3) fun x1 =>
  if x1.toInt = 0 then
    chk (refO YC (X.2.2 70 2) 4 17 = true) (letV (X.2.2 70 2 - 1) fun e16 =>
    letV (kY YC e16 13 - 3) fun e17 =>
    chk (inR p1 9080) (letV (X.1 e17 (ix p1)) fun x18 =>
    chk (refO YC (X.2.2 70 2) 4 17 = true) (letV (X.2.2 70 2 - 1) fun e19 =>
    letV (kY YC e19 14 - 3) fun e20 =>
    chk (inR p1 9080) (letV (X.1 e20 (ix p1)) fun x21 =>
    chk (refO YC (X.2.2 70 2) 4 17 = true) (letV (X.2.2 70 2 - 1) fun e22 =>
    letV (kY YC e22 16 - 3) fun e23 =>
    chk (inR p1 9080) (letV (X.1 e23 (ix p1)) fun x24 =>
    bnd (g_Running_askUntold x18 x21 x24 X) fun _ X25 =>
    some (0, X25)))))))
  else
    chk (refO YC (X.2.2 70 2) 4 17 = true) (letV (X.2.2 70 2 - 1) fun e2 =>
    letV (kY YC e2 15 - 3) fun e3 =>
    chk (inR p1 9080) (letV (X.1 e3 (ix p1)) fun x4 =>
    if x4.toInt < 0 then
      some (0, X)
    else
      chk (X.2.2 70 0 = 56) (
      letV (X.1 55 5) fun x5 =>
      if x5.toInt ≤ x4.toInt then
        some (0, X)
      else
        bnd (g_Running_pop X) fun y6 X7 =>
        chk (X7.2.2 70 0 = 56) (
        chk (inR x4 3000) (letV (X7.1 59 (ix x4)) fun x8 =>
        chk (X7.2.2 70 0 = 56) (
        chk (inR x4 3000) (letV (X7.1 60 (ix x4)) fun x9 =>
        chk (X7.2.2 70 0 = 56) (
        chk (inR x4 3000) (letV (X7.1 57 (ix x4)) fun x10 =>
        chk (X7.2.2 70 0 = 56) (
        chk (inR x4 3000) (letV (X7.1 58 (ix x4)) fun x11 =>
        chk (X7.2.2 70 0 = 56) (
        chk (inR x4 3000) (letV (X7.1 56 (ix x4)) fun x12 =>
        bnd (g_Running_ask y6 x8 x9 x10 x11 x12 X7) fun y13 X14 =>
        bnd (g_Running_push y13 X14) fun _ X15 =>
        some (0, X15))))))))))))))
set_option maxHeartbeats 4000000 in
set_option maxRecDepth 100000 in
theorem k_Running_workAsking (Γ : GxC) (p1 : Int32) (X : St) : TCV YC Γ yX7_workAsking cX7_workAsking 3 "BlameCourt$Running" none { frames := 5, cells := 0, slots := 0, locals := 190 } [.ref (Γ.2.2.2.1 70), .int p1] X (g_Running_workAsking p1 X) := by
  refine TCV.of (by decide) (Nat.le_of_ble_eq_true rfl) rfl ?_
  show TC YC Γ cX7_workAsking 3 "BlameCourt$Running" none { frames := 5, cells := 0, slots := 0, locals := 190 } _ kV 0 [(0, .ref (Γ.2.2.2.1 70)), (1, .int p1)] [] X (g_Running_workAsking p1 X)
  unfold g_Running_workAsking
  refine TC.aload_n dX7_workAsking_0 rfl 0 rfl ?_
  refine gC6_3 k618 dX7_workAsking_1 (fun x1 => ?_)
  refine TC.if_ne (pc1 := 39) dX7_workAsking_4 (by decide) ?_ ?_
  · refine TC.aload_n dX7_workAsking_39 rfl 0 rfl ?_
    refine mC6_2 k617 dX7_workAsking_40 (fun e2 he2 => ?_)
    refine vC4_15 e2 he2 k330 dX7_workAsking_43 (fun e3 he3 => ?_)
    refine TC.iload_n dX7_workAsking_46 rfl 1 rfl ?_
    refine TC.iald e3 he3 dX7_workAsking_47 (fun x4 => ?_)
    refine TC.istore_n (lv1 := [(2, .int x4), (0, .ref (Γ.2.2.2.1 70)), (1, .int p1)]) dX7_workAsking_48 rfl (by decide) rfl ?_
    refine TC.iload_n dX7_workAsking_49 rfl 0 rfl ?_
    refine TC.if_lt (pc1 := 121) dX7_workAsking_50 (by decide) ?_ ?_
    · exact TC.ret_v rfl dX7_workAsking_121
    · refine TC.iload_n dX7_workAsking_53 rfl 0 rfl ?_
      refine TC.aload_n dX7_workAsking_54 rfl 1 rfl ?_
      refine mC6_0 k615 dX7_workAsking_55 ?_
      refine gC0_5 k485 dX7_workAsking_58 (fun x5 => ?_)
      refine TC.icmp_ge (pc1 := 121) dX7_workAsking_61 (by decide) rfl ?_ ?_
      · exact TC.ret_v rfl dX7_workAsking_121
      · refine TC.aload_n dX7_workAsking_64 rfl 1 rfl ?_
        refine TC.aload_n dX7_workAsking_65 rfl 1 rfl ?_
        refine TC.aload_n dX7_workAsking_66 rfl 1 rfl ?_
        refine TC.callV_l 70 (As1 := []) (rest := [.ref (Γ.2.2.2.1 70), .ref (Γ.2.2.2.1 70)]) (k_Running_pop Γ X) ka_X7_pop kv_X7_pop oC_70 rfl k1161 rfl rfl rfl rfl (show 2 + 1 ≤ 5 ∧ 8 + (1 + 11) + 70 ≤ 190 from ⟨by omega, by omega⟩) (Nat.le_of_ble_eq_true rfl) dX7_workAsking_67 (fun y6 X7 => ?_)
        refine TC.aload_n dX7_workAsking_70 rfl 1 rfl ?_
        refine mC6_0 k615 dX7_workAsking_71 ?_
        refine cC0_3 k478 dX7_workAsking_74 ?_
        refine TC.iload_n dX7_workAsking_77 rfl 0 rfl ?_
        refine alC59 dX7_workAsking_78 (fun x8 => ?_)
        refine TC.aload_n dX7_workAsking_79 rfl 1 rfl ?_
        refine mC6_0 k615 dX7_workAsking_80 ?_
        refine cC0_4 k481 dX7_workAsking_83 ?_
        refine TC.iload_n dX7_workAsking_86 rfl 0 rfl ?_
        refine alC60 dX7_workAsking_87 (fun x9 => ?_)
        refine TC.aload_n dX7_workAsking_88 rfl 1 rfl ?_
        refine mC6_0 k615 dX7_workAsking_89 ?_
        refine cC0_1 k472 dX7_workAsking_92 ?_
        refine TC.iload_n dX7_workAsking_95 rfl 0 rfl ?_
        refine alC57 dX7_workAsking_96 (fun x10 => ?_)
        refine TC.aload_n dX7_workAsking_97 rfl 1 rfl ?_
        refine mC6_0 k615 dX7_workAsking_98 ?_
        refine cC0_2 k475 dX7_workAsking_101 ?_
        refine TC.iload_n dX7_workAsking_104 rfl 0 rfl ?_
        refine alC58 dX7_workAsking_105 (fun x11 => ?_)
        refine TC.aload_n dX7_workAsking_106 rfl 1 rfl ?_
        refine mC6_0 k615 dX7_workAsking_107 ?_
        refine cC0_0 k469 dX7_workAsking_110 ?_
        refine TC.iload_n dX7_workAsking_113 rfl 0 rfl ?_
        refine alC56 dX7_workAsking_114 (fun x12 => ?_)
        refine TC.callV_l 70 (As1 := [.long y6, .int x8, .int x9, .int x10, .int x11, .int x12]) (rest := [.ref (Γ.2.2.2.1 70)]) (k_Running_ask Γ y6 x8 x9 x10 x11 x12 X7) ka_X7_ask kv_X7_ask oC_70 rfl k1188 rfl rfl rfl rfl (show 4 + 1 ≤ 5 ∧ 8 + (11 + 11) + 150 ≤ 190 from ⟨by omega, by omega⟩) (Nat.le_of_ble_eq_true rfl) dX7_workAsking_115 (fun y13 X14 => ?_)
        refine TC.callV_v 70 (As1 := [.long y13]) (rest := []) (k_Running_push Γ y13 X14) ka_X7_push kv_X7_push oC_70 rfl k1145 rfl rfl rfl rfl (show 2 + 1 ≤ 5 ∧ 8 + (3 + 11) + 70 ≤ 190 from ⟨by omega, by omega⟩) (Nat.le_of_ble_eq_true rfl) dX7_workAsking_118 (fun _ X15 => ?_)
        exact TC.ret_v rfl dX7_workAsking_121
  · refine TC.aload_n dX7_workAsking_7 rfl 0 rfl ?_
    refine TC.aload_n dX7_workAsking_8 rfl 0 rfl ?_
    refine mC6_2 k617 dX7_workAsking_9 (fun e16 he16 => ?_)
    refine vC4_13 e16 he16 k321 dX7_workAsking_12 (fun e17 he17 => ?_)
    refine TC.iload_n dX7_workAsking_15 rfl 1 rfl ?_
    refine TC.iald e17 he17 dX7_workAsking_16 (fun x18 => ?_)
    refine TC.aload_n dX7_workAsking_17 rfl 0 rfl ?_
    refine mC6_2 k617 dX7_workAsking_18 (fun e19 he19 => ?_)
    refine vC4_14 e19 he19 k325 dX7_workAsking_21 (fun e20 he20 => ?_)
    refine TC.iload_n dX7_workAsking_24 rfl 1 rfl ?_
    refine TC.iald e20 he20 dX7_workAsking_25 (fun x21 => ?_)
    refine TC.aload_n dX7_workAsking_26 rfl 0 rfl ?_
    refine mC6_2 k617 dX7_workAsking_27 (fun e22 he22 => ?_)
    refine vC4_16 e22 he22 k332 dX7_workAsking_30 (fun e23 he23 => ?_)
    refine TC.iload_n dX7_workAsking_33 rfl 1 rfl ?_
    refine TC.iald e23 he23 dX7_workAsking_34 (fun x24 => ?_)
    refine TC.callV_v 70 (As1 := [.int x18, .int x21, .int x24]) (rest := []) (k_Running_askUntold Γ x18 x21 x24 X) ka_X7_askUntold kv_X7_askUntold oC_70 rfl k1170 rfl rfl rfl rfl (show 4 + 1 ≤ 5 ∧ 8 + (5 + 11) + 150 ≤ 190 from ⟨by omega, by omega⟩) (Nat.le_of_ble_eq_true rfl) dX7_workAsking_35 (fun _ X25 => ?_)
    exact TC.ret_v rfl dX7_workAsking_38
noncomputable def g_Running_popContent (X : St) : Option (Int32 × St) :=
  bnd (g_Running_pop X) fun y1 X2 =>
  bnd (g_Heap_contentOf y1 X2) fun x3 X4 =>
  some (x3, X4)
set_option maxHeartbeats 4000000 in
set_option maxRecDepth 100000 in
theorem k_Running_popContent (Γ : GxC) (X : St) : TCI YC Γ yX7_popContent cX7_popContent 1 "BlameCourt$Running" (some .int) { frames := 3, cells := 0, slots := 0, locals := 110 } [.ref (Γ.2.2.2.1 70)] X (g_Running_popContent X) := by
  refine TCI.of (by decide) (Nat.le_of_ble_eq_true rfl) rfl ?_
  show TC YC Γ cX7_popContent 1 "BlameCourt$Running" (some .int) { frames := 3, cells := 0, slots := 0, locals := 110 } _ kI 0 [(0, .ref (Γ.2.2.2.1 70))] [] X (g_Running_popContent X)
  unfold g_Running_popContent
  refine TC.aload_n dX7_popContent_0 rfl 0 rfl ?_
  refine TC.callV_l 70 (As1 := []) (rest := []) (k_Running_pop Γ X) ka_X7_pop kv_X7_pop oC_70 rfl k1161 rfl rfl rfl rfl (show 2 + 1 ≤ 3 ∧ 8 + (1 + 11) + 70 ≤ 110 from ⟨by omega, by omega⟩) (Nat.le_of_ble_eq_true rfl) dX7_popContent_1 (fun y1 X2 => ?_)
  refine TC.callS_i (As1 := [.long y1]) (rest := []) (k_Heap_contentOf Γ y1 X2) ka_X1_contentOf k1185 k1184 rfl rfl rfl rfl (show 2 + 1 ≤ 3 ∧ 8 + (2 + 11) + 70 ≤ 110 from ⟨by omega, by omega⟩) (Nat.le_of_ble_eq_true rfl) dX7_popContent_4 (fun x3 X4 => ?_)
  exact TC.ret_i rfl dX7_popContent_7
noncomputable def g_Running_pushNumber (p1 : Int32) (X : St) : Option (Int32 × St) :=
  bnd (g_Heap_valueOf (0 : Int32) p1 X) fun y1 X2 =>
  bnd (g_Running_push y1 X2) fun _ X3 =>
  some (0, X3)
set_option maxHeartbeats 4000000 in
set_option maxRecDepth 100000 in
theorem k_Running_pushNumber (Γ : GxC) (p1 : Int32) (X : St) : TCV YC Γ yX7_pushNumber cX7_pushNumber 2 "BlameCourt$Running" none { frames := 3, cells := 0, slots := 0, locals := 110 } [.ref (Γ.2.2.2.1 70), .int p1] X (g_Running_pushNumber p1 X) := by
  refine TCV.of (by decide) (Nat.le_of_ble_eq_true rfl) rfl ?_
  show TC YC Γ cX7_pushNumber 2 "BlameCourt$Running" none { frames := 3, cells := 0, slots := 0, locals := 110 } _ kV 0 [(0, .ref (Γ.2.2.2.1 70)), (1, .int p1)] [] X (g_Running_pushNumber p1 X)
  unfold g_Running_pushNumber
  refine TC.aload_n dX7_pushNumber_0 rfl 0 rfl ?_
  refine TC.iconst (w := 0) dX7_pushNumber_1 (by decide) ?_
  refine TC.iload_n dX7_pushNumber_2 rfl 1 rfl ?_
  refine TC.callS_l (As1 := [.int 0, .int p1]) (rest := [.ref (Γ.2.2.2.1 70)]) (k_Heap_valueOf Γ (0 : Int32) p1 X) ka_X1_valueOf k1142 k1141 rfl rfl rfl rfl (show 2 + 1 ≤ 3 ∧ 8 + (2 + 11) + 70 ≤ 110 from ⟨by omega, by omega⟩) (Nat.le_of_ble_eq_true rfl) dX7_pushNumber_3 (fun y1 X2 => ?_)
  refine TC.callV_v 70 (As1 := [.long y1]) (rest := []) (k_Running_push Γ y1 X2) ka_X7_push kv_X7_push oC_70 rfl k1145 rfl rfl rfl rfl (show 2 + 1 ≤ 3 ∧ 8 + (3 + 11) + 70 ≤ 110 from ⟨by omega, by omega⟩) (Nat.le_of_ble_eq_true rfl) dX7_pushNumber_6 (fun _ X3 => ?_)
  exact TC.ret_v rfl dX7_pushNumber_9
noncomputable def g_Running_pushTruth_11 (b_0 : Int32) (b_1 : Int32) (X : St) : Option (Int32 × St) :=
  bnd (g_Heap_valueOf b_1 b_0 X) fun y1 X2 =>
  bnd (g_Running_push y1 X2) fun _ X3 =>
  some (0, X3)
set_option maxHeartbeats 4000000 in
set_option maxRecDepth 100000 in
theorem k_Running_pushTruth_11 (Γ : GxC) (As : List Value) (b_0 : Int32) (b_1 : Int32) (X : St) : TC YC Γ cX7_pushTruth 2 "BlameCourt$Running" none { frames := 3, cells := 0, slots := 0, locals := 110 } As kV 11 [] [.int b_0, .int b_1, .ref (Γ.2.2.2.1 70)] X (g_Running_pushTruth_11 b_0 b_1 X) := by
  unfold g_Running_pushTruth_11
  refine TC.callS_l (As1 := [.int b_1, .int b_0]) (rest := [.ref (Γ.2.2.2.1 70)]) (k_Heap_valueOf Γ b_1 b_0 X) ka_X1_valueOf k1142 k1141 rfl rfl rfl rfl (show 2 + 1 ≤ 3 ∧ 8 + (2 + 11) + 70 ≤ 110 from ⟨by omega, by omega⟩) (Nat.le_of_ble_eq_true rfl) dX7_pushTruth_11 (fun y1 X2 => ?_)
  refine TC.callV_v 70 (As1 := [.long y1]) (rest := []) (k_Running_push Γ y1 X2) ka_X7_push kv_X7_push oC_70 rfl k1145 rfl rfl rfl rfl (show 2 + 1 ≤ 3 ∧ 8 + (3 + 11) + 70 ≤ 110 from ⟨by omega, by omega⟩) (Nat.le_of_ble_eq_true rfl) dX7_pushTruth_14 (fun _ X3 => ?_)
  exact TC.ret_v rfl dX7_pushTruth_17
noncomputable def g_Running_pushTruth (p1 : Int32) (X : St) : Option (Int32 × St) :=
  if p1.toInt = 0 then
    g_Running_pushTruth_11 (0 : Int32) (1 : Int32) X
  else
    g_Running_pushTruth_11 (1 : Int32) (1 : Int32) X
set_option maxHeartbeats 4000000 in
set_option maxRecDepth 100000 in
theorem k_Running_pushTruth (Γ : GxC) (p1 : Int32) (X : St) : TCV YC Γ yX7_pushTruth cX7_pushTruth 2 "BlameCourt$Running" none { frames := 3, cells := 0, slots := 0, locals := 110 } [.ref (Γ.2.2.2.1 70), .int p1] X (g_Running_pushTruth p1 X) := by
  refine TCV.of (by decide) (Nat.le_of_ble_eq_true rfl) rfl ?_
  show TC YC Γ cX7_pushTruth 2 "BlameCourt$Running" none { frames := 3, cells := 0, slots := 0, locals := 110 } _ kV 0 [(0, .ref (Γ.2.2.2.1 70)), (1, .int p1)] [] X (g_Running_pushTruth p1 X)
  unfold g_Running_pushTruth
  refine TC.aload_n dX7_pushTruth_0 rfl 0 rfl ?_
  refine TC.iconst (w := 1) dX7_pushTruth_1 (by decide) ?_
  refine TC.iload_n dX7_pushTruth_2 rfl 1 rfl ?_
  refine TC.if_eq (pc1 := 10) dX7_pushTruth_3 (by decide) ?_ ?_
  · refine TC.iconst (w := 0) dX7_pushTruth_10 (by decide) ?_
    refine TC.sub [] rfl ?_
    exact k_Running_pushTruth_11 Γ _ (0 : Int32) (1 : Int32) X
  · refine TC.iconst (w := 1) dX7_pushTruth_6 (by decide) ?_
    refine TC.goto (pc1 := 11) dX7_pushTruth_7 (by decide) ?_
    refine TC.sub [] rfl ?_
    exact k_Running_pushTruth_11 Γ _ (1 : Int32) (1 : Int32) X
