theorem dX11_begins_0 : decode cX11_begins 0 = .ok (.aload_n 0, 1) := by decide +kernel
theorem dX11_begins_1 : decode cX11_begins 1 = .ok (.getfield 389, 3) := by decide +kernel
theorem dX11_begins_4 : decode cX11_begins 4 = .ok (.iconst 1, 1) := by decide +kernel
theorem dX11_begins_5 : decode cX11_begins 5 = .ok (.isub, 1) := by decide +kernel
theorem dX11_begins_6 : decode cX11_begins 6 = .ok (.istore_n 1, 1) := by decide +kernel
theorem dX11_begins_7 : decode cX11_begins 7 = .ok (.aload_n 0, 1) := by decide +kernel
theorem dX11_begins_8 : decode cX11_begins 8 = .ok (.getfield 122, 3) := by decide +kernel
theorem dX11_begins_11 : decode cX11_begins 11 = .ok (.iload_n 1, 1) := by decide +kernel
theorem dX11_begins_12 : decode cX11_begins 12 = .ok (.iaload, 1) := by decide +kernel
theorem dX11_begins_13 : decode cX11_begins 13 = .ok (.bipush 12, 2) := by decide +kernel
theorem dX11_begins_15 : decode cX11_begins 15 = .ok (.if_icmp .ne 18, 3) := by decide +kernel
theorem dX11_begins_18 : decode cX11_begins 18 = .ok (.aload_n 0, 1) := by decide +kernel
theorem dX11_begins_19 : decode cX11_begins 19 = .ok (.getfield 98, 3) := by decide +kernel
theorem dX11_begins_22 : decode cX11_begins 22 = .ok (.aload_n 0, 1) := by decide +kernel
theorem dX11_begins_23 : decode cX11_begins 23 = .ok (.getfield 125, 3) := by decide +kernel
theorem dX11_begins_26 : decode cX11_begins 26 = .ok (.iload_n 1, 1) := by decide +kernel
theorem dX11_begins_27 : decode cX11_begins 27 = .ok (.iaload, 1) := by decide +kernel
theorem dX11_begins_28 : decode cX11_begins 28 = .ok (.iaload, 1) := by decide +kernel
theorem dX11_begins_29 : decode cX11_begins 29 = .ok (.iconst 4, 1) := by decide +kernel
theorem dX11_begins_30 : decode cX11_begins 30 = .ok (.if_icmp .eq 30, 3) := by decide +kernel
theorem dX11_begins_33 : decode cX11_begins 33 = .ok (.aload_n 0, 1) := by decide +kernel
theorem dX11_begins_34 : decode cX11_begins 34 = .ok (.getfield 122, 3) := by decide +kernel
theorem dX11_begins_37 : decode cX11_begins 37 = .ok (.iload_n 1, 1) := by decide +kernel
theorem dX11_begins_38 : decode cX11_begins 38 = .ok (.iaload, 1) := by decide +kernel
theorem dX11_begins_39 : decode cX11_begins 39 = .ok (.bipush 8, 2) := by decide +kernel
theorem dX11_begins_41 : decode cX11_begins 41 = .ok (.if_icmp .ne 23, 3) := by decide +kernel
theorem dX11_begins_44 : decode cX11_begins 44 = .ok (.aload_n 0, 1) := by decide +kernel
theorem dX11_begins_45 : decode cX11_begins 45 = .ok (.getfield 98, 3) := by decide +kernel
theorem dX11_begins_48 : decode cX11_begins 48 = .ok (.aload_n 0, 1) := by decide +kernel
theorem dX11_begins_49 : decode cX11_begins 49 = .ok (.getfield 125, 3) := by decide +kernel
theorem dX11_begins_52 : decode cX11_begins 52 = .ok (.iload_n 1, 1) := by decide +kernel
theorem dX11_begins_53 : decode cX11_begins 53 = .ok (.iaload, 1) := by decide +kernel
theorem dX11_begins_54 : decode cX11_begins 54 = .ok (.iaload, 1) := by decide +kernel
theorem dX11_begins_55 : decode cX11_begins 55 = .ok (.bipush 20, 2) := by decide +kernel
theorem dX11_begins_57 : decode cX11_begins 57 = .ok (.if_icmp .ne 7, 3) := by decide +kernel
theorem dX11_begins_60 : decode cX11_begins 60 = .ok (.iconst 1, 1) := by decide +kernel
theorem dX11_begins_61 : decode cX11_begins 61 = .ok (.goto 4, 3) := by decide +kernel
theorem dX11_begins_64 : decode cX11_begins 64 = .ok (.iconst 0, 1) := by decide +kernel
theorem dX11_begins_65 : decode cX11_begins 65 = .ok (.istore_n 2, 1) := by decide +kernel
theorem dX11_begins_66 : decode cX11_begins 66 = .ok (.aload_n 0, 1) := by decide +kernel
theorem dX11_begins_67 : decode cX11_begins 67 = .ok (.invokevirtual 439, 3) := by decide +kernel
theorem dX11_begins_70 : decode cX11_begins 70 = .ok (.ifCond .ne 10, 3) := by decide +kernel
theorem dX11_begins_73 : decode cX11_begins 73 = .ok (.aload_n 0, 1) := by decide +kernel
theorem dX11_begins_74 : decode cX11_begins 74 = .ok (.invokevirtual 352, 3) := by decide +kernel
theorem dX11_begins_77 : decode cX11_begins 77 = .ok (.goto 75, 3) := by decide +kernel
theorem dX11_begins_80 : decode cX11_begins 80 = .ok (.iload_n 2, 1) := by decide +kernel
theorem dX11_begins_81 : decode cX11_begins 81 = .ok (.ifCond .eq 15, 3) := by decide +kernel
theorem dX11_begins_84 : decode cX11_begins 84 = .ok (.aload_n 0, 1) := by decide +kernel
theorem dX11_begins_85 : decode cX11_begins 85 = .ok (.iconst 3, 1) := by decide +kernel
theorem dX11_begins_86 : decode cX11_begins 86 = .ok (.aload_n 0, 1) := by decide +kernel
theorem dX11_begins_87 : decode cX11_begins 87 = .ok (.getfield 292, 3) := by decide +kernel
theorem dX11_begins_90 : decode cX11_begins 90 = .ok (.invokevirtual 295, 3) := by decide +kernel
theorem dX11_begins_93 : decode cX11_begins 93 = .ok (.goto 59, 3) := by decide +kernel
theorem dX11_begins_96 : decode cX11_begins 96 = .ok (.aload_n 0, 1) := by decide +kernel
theorem dX11_begins_97 : decode cX11_begins 97 = .ok (.iconst 1, 1) := by decide +kernel
theorem dX11_begins_98 : decode cX11_begins 98 = .ok (.invokevirtual 370, 3) := by decide +kernel
theorem dX11_begins_101 : decode cX11_begins 101 = .ok (.ifCond .eq 10, 3) := by decide +kernel
theorem dX11_begins_104 : decode cX11_begins 104 = .ok (.aload_n 0, 1) := by decide +kernel
theorem dX11_begins_105 : decode cX11_begins 105 = .ok (.invokevirtual 442, 3) := by decide +kernel
theorem dX11_begins_108 : decode cX11_begins 108 = .ok (.goto 44, 3) := by decide +kernel
theorem dX11_begins_111 : decode cX11_begins 111 = .ok (.aload_n 0, 1) := by decide +kernel
theorem dX11_begins_112 : decode cX11_begins 112 = .ok (.iconst 3, 1) := by decide +kernel
theorem dX11_begins_113 : decode cX11_begins 113 = .ok (.invokevirtual 370, 3) := by decide +kernel
theorem dX11_begins_116 : decode cX11_begins 116 = .ok (.ifCond .eq 31, 3) := by decide +kernel
theorem dX11_begins_119 : decode cX11_begins 119 = .ok (.aload_n 0, 1) := by decide +kernel
theorem dX11_begins_120 : decode cX11_begins 120 = .ok (.bipush 16, 2) := by decide +kernel
theorem dX11_begins_122 : decode cX11_begins 122 = .ok (.aload_n 0, 1) := by decide +kernel
theorem dX11_begins_123 : decode cX11_begins 123 = .ok (.getfield 292, 3) := by decide +kernel
theorem dX11_begins_126 : decode cX11_begins 126 = .ok (.invokevirtual 445, 3) := by decide +kernel
theorem dX11_begins_129 : decode cX11_begins 129 = .ok (.istore_n 3, 1) := by decide +kernel
theorem dX11_begins_130 : decode cX11_begins 130 = .ok (.aload_n 0, 1) := by decide +kernel
theorem dX11_begins_131 : decode cX11_begins 131 = .ok (.invokevirtual 358, 3) := by decide +kernel
theorem dX11_begins_134 : decode cX11_begins 134 = .ok (.aload_n 0, 1) := by decide +kernel
theorem dX11_begins_135 : decode cX11_begins 135 = .ok (.invokevirtual 349, 3) := by decide +kernel
theorem dX11_begins_138 : decode cX11_begins 138 = .ok (.aload_n 0, 1) := by decide +kernel
theorem dX11_begins_139 : decode cX11_begins 139 = .ok (.iconst 3, 1) := by decide +kernel
theorem dX11_begins_140 : decode cX11_begins 140 = .ok (.iload_n 3, 1) := by decide +kernel
theorem dX11_begins_141 : decode cX11_begins 141 = .ok (.invokevirtual 395, 3) := by decide +kernel
theorem dX11_begins_144 : decode cX11_begins 144 = .ok (.goto 8, 3) := by decide +kernel
theorem dX11_begins_147 : decode cX11_begins 147 = .ok (.aload_n 0, 1) := by decide +kernel
theorem dX11_begins_148 : decode cX11_begins 148 = .ok (.iconst 1, 1) := by decide +kernel
theorem dX11_begins_149 : decode cX11_begins 149 = .ok (.putfield 398, 3) := by decide +kernel
theorem dX11_begins_152 : decode cX11_begins 152 = .ok (.return_, 1) := by decide +kernel
theorem dX11_beginsLet_0 : decode cX11_beginsLet 0 = .ok (.aload_n 0, 1) := by decide +kernel
theorem dX11_beginsLet_1 : decode cX11_beginsLet 1 = .ok (.bipush 17, 2) := by decide +kernel
theorem dX11_beginsLet_3 : decode cX11_beginsLet 3 = .ok (.aload_n 0, 1) := by decide +kernel
theorem dX11_beginsLet_4 : decode cX11_beginsLet 4 = .ok (.getfield 292, 3) := by decide +kernel
theorem dX11_beginsLet_7 : decode cX11_beginsLet 7 = .ok (.invokevirtual 445, 3) := by decide +kernel
theorem dX11_beginsLet_10 : decode cX11_beginsLet 10 = .ok (.istore_n 1, 1) := by decide +kernel
theorem dX11_beginsLet_11 : decode cX11_beginsLet 11 = .ok (.aload_n 0, 1) := by decide +kernel
theorem dX11_beginsLet_12 : decode cX11_beginsLet 12 = .ok (.invokevirtual 358, 3) := by decide +kernel
theorem dX11_beginsLet_15 : decode cX11_beginsLet 15 = .ok (.aload_n 0, 1) := by decide +kernel
theorem dX11_beginsLet_16 : decode cX11_beginsLet 16 = .ok (.invokevirtual 341, 3) := by decide +kernel
theorem dX11_beginsLet_19 : decode cX11_beginsLet 19 = .ok (.ifCond .ne 4, 3) := by decide +kernel
theorem dX11_beginsLet_22 : decode cX11_beginsLet 22 = .ok (.return_, 1) := by decide +kernel
theorem dX11_beginsLet_23 : decode cX11_beginsLet 23 = .ok (.aload_n 0, 1) := by decide +kernel
theorem dX11_beginsLet_24 : decode cX11_beginsLet 24 = .ok (.invokevirtual 349, 3) := by decide +kernel
theorem dX11_beginsLet_27 : decode cX11_beginsLet 27 = .ok (.aload_n 0, 1) := by decide +kernel
theorem dX11_beginsLet_28 : decode cX11_beginsLet 28 = .ok (.getfield 309, 3) := by decide +kernel
theorem dX11_beginsLet_31 : decode cX11_beginsLet 31 = .ok (.iconst 1, 1) := by decide +kernel
theorem dX11_beginsLet_32 : decode cX11_beginsLet 32 = .ok (.if_icmp .eq 8, 3) := by decide +kernel
theorem dX11_beginsLet_35 : decode cX11_beginsLet 35 = .ok (.aload_n 0, 1) := by decide +kernel
theorem dX11_beginsLet_36 : decode cX11_beginsLet 36 = .ok (.invokevirtual 352, 3) := by decide +kernel
theorem dX11_beginsLet_39 : decode cX11_beginsLet 39 = .ok (.return_, 1) := by decide +kernel
theorem dX11_beginsLet_40 : decode cX11_beginsLet 40 = .ok (.aload_n 0, 1) := by decide +kernel
theorem dX11_beginsLet_41 : decode cX11_beginsLet 41 = .ok (.getfield 104, 3) := by decide +kernel
theorem dX11_beginsLet_44 : decode cX11_beginsLet 44 = .ok (.iload_n 1, 1) := by decide +kernel
theorem dX11_beginsLet_45 : decode cX11_beginsLet 45 = .ok (.aload_n 0, 1) := by decide +kernel
theorem dX11_beginsLet_46 : decode cX11_beginsLet 46 = .ok (.getfield 305, 3) := by decide +kernel
theorem dX11_beginsLet_49 : decode cX11_beginsLet 49 = .ok (.lastore, 1) := by decide +kernel
theorem dX11_beginsLet_50 : decode cX11_beginsLet 50 = .ok (.aload_n 0, 1) := by decide +kernel
theorem dX11_beginsLet_51 : decode cX11_beginsLet 51 = .ok (.invokevirtual 349, 3) := by decide +kernel
theorem dX11_beginsLet_54 : decode cX11_beginsLet 54 = .ok (.aload_n 0, 1) := by decide +kernel
theorem dX11_beginsLet_55 : decode cX11_beginsLet 55 = .ok (.getfield 89, 3) := by decide +kernel
theorem dX11_beginsLet_58 : decode cX11_beginsLet 58 = .ok (.iload_n 1, 1) := by decide +kernel
theorem dX11_beginsLet_59 : decode cX11_beginsLet 59 = .ok (.iconst (-1), 1) := by decide +kernel
theorem dX11_beginsLet_60 : decode cX11_beginsLet 60 = .ok (.iastore, 1) := by decide +kernel
theorem dX11_beginsLet_61 : decode cX11_beginsLet 61 = .ok (.aload_n 0, 1) := by decide +kernel
theorem dX11_beginsLet_62 : decode cX11_beginsLet 62 = .ok (.getfield 92, 3) := by decide +kernel
theorem dX11_beginsLet_65 : decode cX11_beginsLet 65 = .ok (.iload_n 1, 1) := by decide +kernel
theorem dX11_beginsLet_66 : decode cX11_beginsLet 66 = .ok (.iconst (-1), 1) := by decide +kernel
theorem dX11_beginsLet_67 : decode cX11_beginsLet 67 = .ok (.iastore, 1) := by decide +kernel
theorem dX11_beginsLet_68 : decode cX11_beginsLet 68 = .ok (.aload_n 0, 1) := by decide +kernel
theorem dX11_beginsLet_69 : decode cX11_beginsLet 69 = .ok (.bipush 58, 2) := by decide +kernel
theorem dX11_beginsLet_71 : decode cX11_beginsLet 71 = .ok (.invokevirtual 345, 3) := by decide +kernel
theorem dX11_beginsLet_74 : decode cX11_beginsLet 74 = .ok (.ifCond .eq 17, 3) := by decide +kernel
theorem dX11_beginsLet_77 : decode cX11_beginsLet 77 = .ok (.aload_n 0, 1) := by decide +kernel
theorem dX11_beginsLet_78 : decode cX11_beginsLet 78 = .ok (.invokevirtual 349, 3) := by decide +kernel
theorem dX11_beginsLet_81 : decode cX11_beginsLet 81 = .ok (.aload_n 0, 1) := by decide +kernel
theorem dX11_beginsLet_82 : decode cX11_beginsLet 82 = .ok (.getfield 92, 3) := by decide +kernel
theorem dX11_beginsLet_85 : decode cX11_beginsLet 85 = .ok (.iload_n 1, 1) := by decide +kernel
theorem dX11_beginsLet_86 : decode cX11_beginsLet 86 = .ok (.aload_n 0, 1) := by decide +kernel
theorem dX11_beginsLet_87 : decode cX11_beginsLet 87 = .ok (.invokevirtual 449, 3) := by decide +kernel
theorem dX11_beginsLet_90 : decode cX11_beginsLet 90 = .ok (.iastore, 1) := by decide +kernel
theorem dX11_beginsLet_91 : decode cX11_beginsLet 91 = .ok (.aload_n 0, 1) := by decide +kernel
theorem dX11_beginsLet_92 : decode cX11_beginsLet 92 = .ok (.bipush 61, 2) := by decide +kernel
theorem dX11_beginsLet_94 : decode cX11_beginsLet 94 = .ok (.invokevirtual 361, 3) := by decide +kernel
theorem dX11_beginsLet_97 : decode cX11_beginsLet 97 = .ok (.aload_n 0, 1) := by decide +kernel
theorem dX11_beginsLet_98 : decode cX11_beginsLet 98 = .ok (.iconst 1, 1) := by decide +kernel
theorem dX11_beginsLet_99 : decode cX11_beginsLet 99 = .ok (.iload_n 1, 1) := by decide +kernel
theorem dX11_beginsLet_100 : decode cX11_beginsLet 100 = .ok (.invokevirtual 395, 3) := by decide +kernel
theorem dX11_beginsLet_103 : decode cX11_beginsLet 103 = .ok (.return_, 1) := by decide +kernel
theorem dX11_behind_0 : decode cX11_behind 0 = .ok (.aload_n 0, 1) := by decide +kernel
theorem dX11_behind_1 : decode cX11_behind 1 = .ok (.getfield 401, 3) := by decide +kernel
theorem dX11_behind_4 : decode cX11_behind 4 = .ok (.istore_n 1, 1) := by decide +kernel
theorem dX11_behind_5 : decode cX11_behind 5 = .ok (.aload_n 0, 1) := by decide +kernel
theorem dX11_behind_6 : decode cX11_behind 6 = .ok (.getfield 77, 3) := by decide +kernel
theorem dX11_behind_9 : decode cX11_behind 9 = .ok (.iload_n 1, 1) := by decide +kernel
theorem dX11_behind_10 : decode cX11_behind 10 = .ok (.iaload, 1) := by decide +kernel
theorem dX11_behind_11 : decode cX11_behind 11 = .ok (.bipush 11, 2) := by decide +kernel
theorem dX11_behind_13 : decode cX11_behind 13 = .ok (.if_icmp .eq 14, 3) := by decide +kernel
theorem dX11_behind_16 : decode cX11_behind 16 = .ok (.aload_n 0, 1) := by decide +kernel
theorem dX11_behind_17 : decode cX11_behind 17 = .ok (.getfield 77, 3) := by decide +kernel
theorem dX11_behind_20 : decode cX11_behind 20 = .ok (.iload_n 1, 1) := by decide +kernel
theorem dX11_behind_21 : decode cX11_behind 21 = .ok (.iaload, 1) := by decide +kernel
theorem dX11_behind_22 : decode cX11_behind 22 = .ok (.bipush 10, 2) := by decide +kernel
theorem dX11_behind_24 : decode cX11_behind 24 = .ok (.if_icmp .ne 7, 3) := by decide +kernel
theorem dX11_behind_27 : decode cX11_behind 27 = .ok (.iconst 1, 1) := by decide +kernel
theorem dX11_behind_28 : decode cX11_behind 28 = .ok (.goto 4, 3) := by decide +kernel
theorem dX11_behind_31 : decode cX11_behind 31 = .ok (.iconst 0, 1) := by decide +kernel
theorem dX11_behind_32 : decode cX11_behind 32 = .ok (.istore_n 2, 1) := by decide +kernel
theorem dX11_behind_33 : decode cX11_behind 33 = .ok (.aload_n 0, 1) := by decide +kernel
theorem dX11_behind_34 : decode cX11_behind 34 = .ok (.bipush 40, 2) := by decide +kernel
theorem dX11_behind_36 : decode cX11_behind 36 = .ok (.invokevirtual 345, 3) := by decide +kernel
theorem dX11_behind_39 : decode cX11_behind 39 = .ok (.ifCond .ne 12, 3) := by decide +kernel
theorem dX11_behind_42 : decode cX11_behind 42 = .ok (.aload_n 0, 1) := by decide +kernel
theorem dX11_behind_43 : decode cX11_behind 43 = .ok (.bipush 91, 2) := by decide +kernel
theorem dX11_behind_45 : decode cX11_behind 45 = .ok (.invokevirtual 345, 3) := by decide +kernel
theorem dX11_behind_48 : decode cX11_behind 48 = .ok (.ifCond .eq 173, 3) := by decide +kernel
theorem dX11_behind_51 : decode cX11_behind 51 = .ok (.aload_n 0, 1) := by decide +kernel
theorem dX11_behind_52 : decode cX11_behind 52 = .ok (.aload_n 0, 1) := by decide +kernel
theorem dX11_behind_53 : decode cX11_behind 53 = .ok (.getfield 305, 3) := by decide +kernel
theorem dX11_behind_56 : decode cX11_behind 56 = .ok (.ldc2_w 435, 3) := by decide +kernel
theorem dX11_behind_59 : decode cX11_behind 59 = .ok (.lcmp, 1) := by decide +kernel
theorem dX11_behind_60 : decode cX11_behind 60 = .ok (.ifCond .ne 8, 3) := by decide +kernel
theorem dX11_behind_63 : decode cX11_behind 63 = .ok (.bipush 11, 2) := by decide +kernel
theorem dX11_behind_65 : decode cX11_behind 65 = .ok (.goto 5, 3) := by decide +kernel
theorem dX11_behind_68 : decode cX11_behind 68 = .ok (.bipush 10, 2) := by decide +kernel
theorem dX11_behind_70 : decode cX11_behind 70 = .ok (.aload_n 0, 1) := by decide +kernel
theorem dX11_behind_71 : decode cX11_behind 71 = .ok (.getfield 80, 3) := by decide +kernel
theorem dX11_behind_74 : decode cX11_behind 74 = .ok (.iload_n 1, 1) := by decide +kernel
theorem dX11_behind_75 : decode cX11_behind 75 = .ok (.iaload, 1) := by decide +kernel
theorem dX11_behind_76 : decode cX11_behind 76 = .ok (.invokevirtual 445, 3) := by decide +kernel
theorem dX11_behind_79 : decode cX11_behind 79 = .ok (.istore_n 3, 1) := by decide +kernel
theorem dX11_behind_80 : decode cX11_behind 80 = .ok (.aload_n 0, 1) := by decide +kernel
theorem dX11_behind_81 : decode cX11_behind 81 = .ok (.getfield 83, 3) := by decide +kernel
theorem dX11_behind_84 : decode cX11_behind 84 = .ok (.iload_n 3, 1) := by decide +kernel
theorem dX11_behind_85 : decode cX11_behind 85 = .ok (.aload_n 0, 1) := by decide +kernel
theorem dX11_behind_86 : decode cX11_behind 86 = .ok (.getfield 292, 3) := by decide +kernel
theorem dX11_behind_89 : decode cX11_behind 89 = .ok (.iastore, 1) := by decide +kernel
theorem dX11_behind_90 : decode cX11_behind 90 = .ok (.aload_n 0, 1) := by decide +kernel
theorem dX11_behind_91 : decode cX11_behind 91 = .ok (.getfield 86, 3) := by decide +kernel
theorem dX11_behind_94 : decode cX11_behind 94 = .ok (.iload_n 3, 1) := by decide +kernel
theorem dX11_behind_95 : decode cX11_behind 95 = .ok (.iload_n 1, 1) := by decide +kernel
theorem dX11_behind_96 : decode cX11_behind 96 = .ok (.iastore, 1) := by decide +kernel
theorem dX11_behind_97 : decode cX11_behind 97 = .ok (.aload_n 0, 1) := by decide +kernel
theorem dX11_behind_98 : decode cX11_behind 98 = .ok (.getfield 134, 3) := by decide +kernel
theorem dX11_behind_101 : decode cX11_behind 101 = .ok (.iload_n 3, 1) := by decide +kernel
theorem dX11_behind_102 : decode cX11_behind 102 = .ok (.iload_n 2, 1) := by decide +kernel
theorem dX11_behind_103 : decode cX11_behind 103 = .ok (.ifCond .eq 14, 3) := by decide +kernel
theorem dX11_behind_106 : decode cX11_behind 106 = .ok (.aload_n 0, 1) := by decide +kernel
theorem dX11_behind_107 : decode cX11_behind 107 = .ok (.getfield 134, 3) := by decide +kernel
theorem dX11_behind_110 : decode cX11_behind 110 = .ok (.iload_n 1, 1) := by decide +kernel
theorem dX11_behind_111 : decode cX11_behind 111 = .ok (.iaload, 1) := by decide +kernel
theorem dX11_behind_112 : decode cX11_behind 112 = .ok (.iconst 1, 1) := by decide +kernel
theorem dX11_behind_113 : decode cX11_behind 113 = .ok (.iadd, 1) := by decide +kernel
theorem dX11_behind_114 : decode cX11_behind 114 = .ok (.goto 4, 3) := by decide +kernel
theorem dX11_behind_117 : decode cX11_behind 117 = .ok (.iconst 1, 1) := by decide +kernel
theorem dX11_behind_118 : decode cX11_behind 118 = .ok (.iastore, 1) := by decide +kernel
theorem dX11_behind_119 : decode cX11_behind 119 = .ok (.aload_n 0, 1) := by decide +kernel
theorem dX11_behind_120 : decode cX11_behind 120 = .ok (.getfield 134, 3) := by decide +kernel
theorem dX11_behind_123 : decode cX11_behind 123 = .ok (.iload_n 3, 1) := by decide +kernel
theorem dX11_behind_124 : decode cX11_behind 124 = .ok (.iaload, 1) := by decide +kernel
theorem dX11_behind_125 : decode cX11_behind 125 = .ok (.bipush 40, 2) := by decide +kernel
theorem dX11_behind_127 : decode cX11_behind 127 = .ok (.if_icmp .le 12, 3) := by decide +kernel
theorem dX11_behind_130 : decode cX11_behind 130 = .ok (.aload_n 0, 1) := by decide +kernel
theorem dX11_behind_131 : decode cX11_behind 131 = .ok (.iconst 3, 1) := by decide +kernel
theorem dX11_behind_132 : decode cX11_behind 132 = .ok (.aload_n 0, 1) := by decide +kernel
theorem dX11_behind_133 : decode cX11_behind 133 = .ok (.getfield 292, 3) := by decide +kernel
theorem dX11_behind_136 : decode cX11_behind 136 = .ok (.invokevirtual 295, 3) := by decide +kernel
theorem dX11_behind_139 : decode cX11_behind 139 = .ok (.aload_n 0, 1) := by decide +kernel
theorem dX11_behind_140 : decode cX11_behind 140 = .ok (.getfield 77, 3) := by decide +kernel
theorem dX11_behind_143 : decode cX11_behind 143 = .ok (.iload_n 3, 1) := by decide +kernel
theorem dX11_behind_144 : decode cX11_behind 144 = .ok (.iaload, 1) := by decide +kernel
theorem dX11_behind_145 : decode cX11_behind 145 = .ok (.bipush 11, 2) := by decide +kernel
theorem dX11_behind_147 : decode cX11_behind 147 = .ok (.if_icmp .ne 7, 3) := by decide +kernel
theorem dX11_behind_150 : decode cX11_behind 150 = .ok (.iconst 1, 1) := by decide +kernel
theorem dX11_behind_151 : decode cX11_behind 151 = .ok (.goto 4, 3) := by decide +kernel
theorem dX11_behind_154 : decode cX11_behind 154 = .ok (.iconst 0, 1) := by decide +kernel
theorem dX11_behind_155 : decode cX11_behind 155 = .ok (.istore 4, 2) := by decide +kernel
theorem dX11_behind_157 : decode cX11_behind 157 = .ok (.aload_n 0, 1) := by decide +kernel
theorem dX11_behind_158 : decode cX11_behind 158 = .ok (.iload 4, 2) := by decide +kernel
theorem dX11_behind_160 : decode cX11_behind 160 = .ok (.ifCond .eq 8, 3) := by decide +kernel
theorem dX11_behind_163 : decode cX11_behind 163 = .ok (.bipush 40, 2) := by decide +kernel
theorem dX11_behind_165 : decode cX11_behind 165 = .ok (.goto 5, 3) := by decide +kernel
theorem dX11_behind_168 : decode cX11_behind 168 = .ok (.bipush 91, 2) := by decide +kernel
theorem dX11_behind_170 : decode cX11_behind 170 = .ok (.invokevirtual 367, 3) := by decide +kernel
theorem dX11_behind_173 : decode cX11_behind 173 = .ok (.iload 4, 2) := by decide +kernel
theorem dX11_behind_175 : decode cX11_behind 175 = .ok (.ifCond .eq 26, 3) := by decide +kernel
theorem dX11_behind_178 : decode cX11_behind 178 = .ok (.aload_n 0, 1) := by decide +kernel
theorem dX11_behind_179 : decode cX11_behind 179 = .ok (.bipush 41, 2) := by decide +kernel
theorem dX11_behind_181 : decode cX11_behind 181 = .ok (.invokevirtual 345, 3) := by decide +kernel
theorem dX11_behind_184 : decode cX11_behind 184 = .ok (.ifCond .eq 17, 3) := by decide +kernel
theorem dX11_behind_187 : decode cX11_behind 187 = .ok (.aload_n 0, 1) := by decide +kernel
theorem dX11_behind_188 : decode cX11_behind 188 = .ok (.bipush 41, 2) := by decide +kernel
theorem dX11_behind_190 : decode cX11_behind 190 = .ok (.invokevirtual 373, 3) := by decide +kernel
theorem dX11_behind_193 : decode cX11_behind 193 = .ok (.aload_n 0, 1) := by decide +kernel
theorem dX11_behind_194 : decode cX11_behind 194 = .ok (.iload_n 3, 1) := by decide +kernel
theorem dX11_behind_195 : decode cX11_behind 195 = .ok (.invokevirtual 455, 3) := by decide +kernel
theorem dX11_behind_198 : decode cX11_behind 198 = .ok (.goto 20, 3) := by decide +kernel
theorem dX11_behind_201 : decode cX11_behind 201 = .ok (.aload_n 0, 1) := by decide +kernel
theorem dX11_behind_202 : decode cX11_behind 202 = .ok (.iload 4, 2) := by decide +kernel
theorem dX11_behind_204 : decode cX11_behind 204 = .ok (.ifCond .eq 8, 3) := by decide +kernel
theorem dX11_behind_207 : decode cX11_behind 207 = .ok (.bipush 12, 2) := by decide +kernel
theorem dX11_behind_209 : decode cX11_behind 209 = .ok (.goto 5, 3) := by decide +kernel
theorem dX11_behind_212 : decode cX11_behind 212 = .ok (.bipush 13, 2) := by decide +kernel
theorem dX11_behind_214 : decode cX11_behind 214 = .ok (.iload_n 3, 1) := by decide +kernel
theorem dX11_behind_215 : decode cX11_behind 215 = .ok (.invokevirtual 461, 3) := by decide +kernel
theorem dX11_behind_218 : decode cX11_behind 218 = .ok (.goto 75, 3) := by decide +kernel
theorem dX11_behind_221 : decode cX11_behind 221 = .ok (.aload_n 0, 1) := by decide +kernel
theorem dX11_behind_222 : decode cX11_behind 222 = .ok (.invokevirtual 341, 3) := by decide +kernel
theorem dX11_behind_225 : decode cX11_behind 225 = .ok (.ifCond .eq 63, 3) := by decide +kernel
theorem dX11_behind_228 : decode cX11_behind 228 = .ok (.aload_n 0, 1) := by decide +kernel
theorem dX11_behind_229 : decode cX11_behind 229 = .ok (.getfield 309, 3) := by decide +kernel
theorem dX11_behind_232 : decode cX11_behind 232 = .ok (.iconst 4, 1) := by decide +kernel
theorem dX11_behind_233 : decode cX11_behind 233 = .ok (.if_icmp .ne 55, 3) := by decide +kernel
theorem dX11_behind_236 : decode cX11_behind 236 = .ok (.aload_n 0, 1) := by decide +kernel
theorem dX11_behind_237 : decode cX11_behind 237 = .ok (.getfield 305, 3) := by decide +kernel
theorem dX11_behind_240 : decode cX11_behind 240 = .ok (.ldc2_w 339, 3) := by decide +kernel
theorem dX11_behind_243 : decode cX11_behind 243 = .ok (.lcmp, 1) := by decide +kernel
theorem dX11_behind_244 : decode cX11_behind 244 = .ok (.ifCond .ne 44, 3) := by decide +kernel
theorem dX11_behind_247 : decode cX11_behind 247 = .ok (.aload_n 0, 1) := by decide +kernel
theorem dX11_behind_248 : decode cX11_behind 248 = .ok (.getfield 77, 3) := by decide +kernel
theorem dX11_behind_251 : decode cX11_behind 251 = .ok (.iload_n 1, 1) := by decide +kernel
theorem dX11_behind_252 : decode cX11_behind 252 = .ok (.iaload, 1) := by decide +kernel
theorem dX11_behind_253 : decode cX11_behind 253 = .ok (.bipush 10, 2) := by decide +kernel
theorem dX11_behind_255 : decode cX11_behind 255 = .ok (.if_icmp .ne 33, 3) := by decide +kernel
theorem dX11_behind_258 : decode cX11_behind 258 = .ok (.aload_n 0, 1) := by decide +kernel
theorem dX11_behind_259 : decode cX11_behind 259 = .ok (.invokevirtual 358, 3) := by decide +kernel
theorem dX11_behind_262 : decode cX11_behind 262 = .ok (.aload_n 0, 1) := by decide +kernel
theorem dX11_behind_263 : decode cX11_behind 263 = .ok (.invokevirtual 341, 3) := by decide +kernel
theorem dX11_behind_266 : decode cX11_behind 266 = .ok (.ifCond .eq 27, 3) := by decide +kernel
theorem dX11_behind_269 : decode cX11_behind 269 = .ok (.aload_n 0, 1) := by decide +kernel
theorem dX11_behind_270 : decode cX11_behind 270 = .ok (.invokevirtual 349, 3) := by decide +kernel
theorem dX11_behind_273 : decode cX11_behind 273 = .ok (.aload_n 0, 1) := by decide +kernel
theorem dX11_behind_274 : decode cX11_behind 274 = .ok (.bipush 14, 2) := by decide +kernel
theorem dX11_behind_276 : decode cX11_behind 276 = .ok (.iload_n 1, 1) := by decide +kernel
theorem dX11_behind_277 : decode cX11_behind 277 = .ok (.invokevirtual 395, 3) := by decide +kernel
theorem dX11_behind_280 : decode cX11_behind 280 = .ok (.aload_n 0, 1) := by decide +kernel
theorem dX11_behind_281 : decode cX11_behind 281 = .ok (.iconst 0, 1) := by decide +kernel
theorem dX11_behind_282 : decode cX11_behind 282 = .ok (.putfield 398, 3) := by decide +kernel
theorem dX11_behind_285 : decode cX11_behind 285 = .ok (.goto 8, 3) := by decide +kernel
theorem dX11_behind_288 : decode cX11_behind 288 = .ok (.aload_n 0, 1) := by decide +kernel
theorem dX11_behind_289 : decode cX11_behind 289 = .ok (.iconst 3, 1) := by decide +kernel
theorem dX11_behind_290 : decode cX11_behind 290 = .ok (.putfield 398, 3) := by decide +kernel
theorem dX11_behind_293 : decode cX11_behind 293 = .ok (.return_, 1) := by decide +kernel
theorem dX11_done_0 : decode cX11_done 0 = .ok (.aload_n 0, 1) := by decide +kernel
theorem dX11_done_1 : decode cX11_done 1 = .ok (.iload_n 1, 1) := by decide +kernel
theorem dX11_done_2 : decode cX11_done 2 = .ok (.putfield 401, 3) := by decide +kernel
theorem dX11_done_5 : decode cX11_done 5 = .ok (.aload_n 0, 1) := by decide +kernel
theorem dX11_done_6 : decode cX11_done 6 = .ok (.iconst 2, 1) := by decide +kernel
theorem dX11_done_7 : decode cX11_done 7 = .ok (.putfield 398, 3) := by decide +kernel
theorem dX11_done_10 : decode cX11_done 10 = .ok (.return_, 1) := by decide +kernel
theorem dX11_enter_0 : decode cX11_enter 0 = .ok (.aload_n 0, 1) := by decide +kernel
theorem dX11_enter_1 : decode cX11_enter 1 = .ok (.getfield 122, 3) := by decide +kernel
theorem dX11_enter_4 : decode cX11_enter 4 = .ok (.aload_n 0, 1) := by decide +kernel
theorem dX11_enter_5 : decode cX11_enter 5 = .ok (.getfield 389, 3) := by decide +kernel
theorem dX11_enter_8 : decode cX11_enter 8 = .ok (.iload_n 1, 1) := by decide +kernel
theorem dX11_enter_9 : decode cX11_enter 9 = .ok (.iastore, 1) := by decide +kernel
theorem dX11_enter_10 : decode cX11_enter 10 = .ok (.aload_n 0, 1) := by decide +kernel
theorem dX11_enter_11 : decode cX11_enter 11 = .ok (.getfield 125, 3) := by decide +kernel
theorem dX11_enter_14 : decode cX11_enter 14 = .ok (.aload_n 0, 1) := by decide +kernel
theorem dX11_enter_15 : decode cX11_enter 15 = .ok (.getfield 389, 3) := by decide +kernel
theorem dX11_enter_18 : decode cX11_enter 18 = .ok (.iload_n 2, 1) := by decide +kernel
theorem dX11_enter_19 : decode cX11_enter 19 = .ok (.iastore, 1) := by decide +kernel
theorem dX11_enter_20 : decode cX11_enter 20 = .ok (.aload_n 0, 1) := by decide +kernel
theorem dX11_enter_21 : decode cX11_enter 21 = .ok (.getfield 128, 3) := by decide +kernel
theorem dX11_enter_24 : decode cX11_enter 24 = .ok (.aload_n 0, 1) := by decide +kernel
theorem dX11_enter_25 : decode cX11_enter 25 = .ok (.getfield 389, 3) := by decide +kernel
theorem dX11_enter_28 : decode cX11_enter 28 = .ok (.iconst (-1), 1) := by decide +kernel
theorem dX11_enter_29 : decode cX11_enter 29 = .ok (.iastore, 1) := by decide +kernel
theorem dX11_enter_30 : decode cX11_enter 30 = .ok (.aload_n 0, 1) := by decide +kernel
theorem dX11_enter_31 : decode cX11_enter 31 = .ok (.getfield 131, 3) := by decide +kernel
theorem dX11_enter_34 : decode cX11_enter 34 = .ok (.aload_n 0, 1) := by decide +kernel
theorem dX11_enter_35 : decode cX11_enter 35 = .ok (.getfield 389, 3) := by decide +kernel
theorem dX11_enter_38 : decode cX11_enter 38 = .ok (.aload_n 0, 1) := by decide +kernel
theorem dX11_enter_39 : decode cX11_enter 39 = .ok (.getfield 392, 3) := by decide +kernel
theorem dX11_enter_42 : decode cX11_enter 42 = .ok (.iastore, 1) := by decide +kernel
theorem dX11_enter_43 : decode cX11_enter 43 = .ok (.aload_n 0, 1) := by decide +kernel
theorem dX11_enter_44 : decode cX11_enter 44 = .ok (.dup, 1) := by decide +kernel
theorem dX11_enter_45 : decode cX11_enter 45 = .ok (.getfield 389, 3) := by decide +kernel
theorem dX11_enter_48 : decode cX11_enter 48 = .ok (.iconst 1, 1) := by decide +kernel
theorem dX11_enter_49 : decode cX11_enter 49 = .ok (.iadd, 1) := by decide +kernel
theorem dX11_enter_50 : decode cX11_enter 50 = .ok (.putfield 389, 3) := by decide +kernel
theorem dX11_enter_53 : decode cX11_enter 53 = .ok (.return_, 1) := by decide +kernel
theorem dX11_fifth_0 : decode cX11_fifth 0 = .ok (.aload_n 0, 1) := by decide +kernel
theorem dX11_fifth_1 : decode cX11_fifth 1 = .ok (.bipush 91, 2) := by decide +kernel
theorem dX11_fifth_3 : decode cX11_fifth 3 = .ok (.invokevirtual 345, 3) := by decide +kernel
theorem dX11_fifth_6 : decode cX11_fifth 6 = .ok (.ifCond .ne 39, 3) := by decide +kernel
theorem dX11_fifth_9 : decode cX11_fifth 9 = .ok (.aload_n 0, 1) := by decide +kernel
theorem dX11_fifth_10 : decode cX11_fifth 10 = .ok (.bipush 14, 2) := by decide +kernel
theorem dX11_fifth_12 : decode cX11_fifth 12 = .ok (.invokevirtual 370, 3) := by decide +kernel
theorem dX11_fifth_15 : decode cX11_fifth 15 = .ok (.ifCond .ne 30, 3) := by decide +kernel
theorem dX11_fifth_18 : decode cX11_fifth 18 = .ok (.aload_n 0, 1) := by decide +kernel
theorem dX11_fifth_19 : decode cX11_fifth 19 = .ok (.bipush 11, 2) := by decide +kernel
theorem dX11_fifth_21 : decode cX11_fifth 21 = .ok (.invokevirtual 370, 3) := by decide +kernel
theorem dX11_fifth_24 : decode cX11_fifth 24 = .ok (.ifCond .ne 21, 3) := by decide +kernel
theorem dX11_fifth_27 : decode cX11_fifth 27 = .ok (.aload_n 0, 1) := by decide +kernel
theorem dX11_fifth_28 : decode cX11_fifth 28 = .ok (.bipush 12, 2) := by decide +kernel
theorem dX11_fifth_30 : decode cX11_fifth 30 = .ok (.invokevirtual 370, 3) := by decide +kernel
theorem dX11_fifth_33 : decode cX11_fifth 33 = .ok (.ifCond .ne 12, 3) := by decide +kernel
theorem dX11_fifth_36 : decode cX11_fifth 36 = .ok (.aload_n 0, 1) := by decide +kernel
theorem dX11_fifth_37 : decode cX11_fifth 37 = .ok (.bipush 13, 2) := by decide +kernel
theorem dX11_fifth_39 : decode cX11_fifth 39 = .ok (.invokevirtual 370, 3) := by decide +kernel
theorem dX11_fifth_42 : decode cX11_fifth 42 = .ok (.ifCond .eq 7, 3) := by decide +kernel
theorem dX11_fifth_45 : decode cX11_fifth 45 = .ok (.iconst 1, 1) := by decide +kernel
theorem dX11_fifth_46 : decode cX11_fifth 46 = .ok (.goto 4, 3) := by decide +kernel
theorem dX11_fifth_49 : decode cX11_fifth 49 = .ok (.iconst 0, 1) := by decide +kernel
theorem dX11_fifth_50 : decode cX11_fifth 50 = .ok (.istore_n 2, 1) := by decide +kernel
theorem dX11_fifth_51 : decode cX11_fifth 51 = .ok (.iload_n 1, 1) := by decide +kernel
theorem dX11_fifth_52 : decode cX11_fifth 52 = .ok (.iconst 4, 1) := by decide +kernel
theorem dX11_fifth_53 : decode cX11_fifth 53 = .ok (.if_icmp .ne 16, 3) := by decide +kernel
theorem dX11_fifth_56 : decode cX11_fifth 56 = .ok (.iload_n 2, 1) := by decide +kernel
theorem dX11_fifth_57 : decode cX11_fifth 57 = .ok (.ifCond .eq 12, 3) := by decide +kernel
theorem dX11_fifth_60 : decode cX11_fifth 60 = .ok (.aload_n 0, 1) := by decide +kernel
theorem dX11_fifth_61 : decode cX11_fifth 61 = .ok (.iconst 3, 1) := by decide +kernel
theorem dX11_fifth_62 : decode cX11_fifth 62 = .ok (.aload_n 0, 1) := by decide +kernel
theorem dX11_fifth_63 : decode cX11_fifth 63 = .ok (.getfield 292, 3) := by decide +kernel
theorem dX11_fifth_66 : decode cX11_fifth 66 = .ok (.invokevirtual 295, 3) := by decide +kernel
theorem dX11_fifth_69 : decode cX11_fifth 69 = .ok (.return_, 1) := by decide +kernel
theorem dX11_isBeginning_0 : decode cX11_isBeginning 0 = .ok (.aload_n 0, 1) := by decide +kernel
theorem dX11_isBeginning_1 : decode cX11_isBeginning 1 = .ok (.getfield 309, 3) := by decide +kernel
theorem dX11_isBeginning_4 : decode cX11_isBeginning 4 = .ok (.iconst 3, 1) := by decide +kernel
theorem dX11_isBeginning_5 : decode cX11_isBeginning 5 = .ok (.if_icmp .eq 11, 3) := by decide +kernel
theorem dX11_isBeginning_8 : decode cX11_isBeginning 8 = .ok (.aload_n 0, 1) := by decide +kernel
theorem dX11_isBeginning_9 : decode cX11_isBeginning 9 = .ok (.getfield 309, 3) := by decide +kernel
theorem dX11_isBeginning_12 : decode cX11_isBeginning 12 = .ok (.iconst 1, 1) := by decide +kernel
theorem dX11_isBeginning_13 : decode cX11_isBeginning 13 = .ok (.if_icmp .ne 5, 3) := by decide +kernel
theorem dX11_isBeginning_16 : decode cX11_isBeginning 16 = .ok (.iconst 1, 1) := by decide +kernel
theorem dX11_isBeginning_17 : decode cX11_isBeginning 17 = .ok (.ireturn, 1) := by decide +kernel
theorem dX11_isBeginning_18 : decode cX11_isBeginning 18 = .ok (.aload_n 0, 1) := by decide +kernel
theorem dX11_isBeginning_19 : decode cX11_isBeginning 19 = .ok (.getfield 309, 3) := by decide +kernel
theorem dX11_isBeginning_22 : decode cX11_isBeginning 22 = .ok (.iconst 2, 1) := by decide +kernel
theorem dX11_isBeginning_23 : decode cX11_isBeginning 23 = .ok (.if_icmp .ne 84, 3) := by decide +kernel
theorem dX11_isBeginning_26 : decode cX11_isBeginning 26 = .ok (.aload_n 0, 1) := by decide +kernel
theorem dX11_isBeginning_27 : decode cX11_isBeginning 27 = .ok (.getfield 305, 3) := by decide +kernel
theorem dX11_isBeginning_30 : decode cX11_isBeginning 30 = .ok (.lconst 1, 1) := by decide +kernel
theorem dX11_isBeginning_31 : decode cX11_isBeginning 31 = .ok (.lcmp, 1) := by decide +kernel
theorem dX11_isBeginning_32 : decode cX11_isBeginning 32 = .ok (.ifCond .eq 69, 3) := by decide +kernel
theorem dX11_isBeginning_35 : decode cX11_isBeginning 35 = .ok (.aload_n 0, 1) := by decide +kernel
theorem dX11_isBeginning_36 : decode cX11_isBeginning 36 = .ok (.getfield 305, 3) := by decide +kernel
theorem dX11_isBeginning_39 : decode cX11_isBeginning 39 = .ok (.ldc2_w 419, 3) := by decide +kernel
theorem dX11_isBeginning_42 : decode cX11_isBeginning 42 = .ok (.lcmp, 1) := by decide +kernel
theorem dX11_isBeginning_43 : decode cX11_isBeginning 43 = .ok (.ifCond .eq 58, 3) := by decide +kernel
theorem dX11_isBeginning_46 : decode cX11_isBeginning 46 = .ok (.aload_n 0, 1) := by decide +kernel
theorem dX11_isBeginning_47 : decode cX11_isBeginning 47 = .ok (.getfield 305, 3) := by decide +kernel
theorem dX11_isBeginning_50 : decode cX11_isBeginning 50 = .ok (.ldc2_w 421, 3) := by decide +kernel
theorem dX11_isBeginning_53 : decode cX11_isBeginning 53 = .ok (.lcmp, 1) := by decide +kernel
theorem dX11_isBeginning_54 : decode cX11_isBeginning 54 = .ok (.ifCond .eq 47, 3) := by decide +kernel
theorem dX11_isBeginning_57 : decode cX11_isBeginning 57 = .ok (.aload_n 0, 1) := by decide +kernel
theorem dX11_isBeginning_58 : decode cX11_isBeginning 58 = .ok (.getfield 305, 3) := by decide +kernel
theorem dX11_isBeginning_61 : decode cX11_isBeginning 61 = .ok (.ldc2_w 423, 3) := by decide +kernel
theorem dX11_isBeginning_64 : decode cX11_isBeginning 64 = .ok (.lcmp, 1) := by decide +kernel
theorem dX11_isBeginning_65 : decode cX11_isBeginning 65 = .ok (.ifCond .eq 36, 3) := by decide +kernel
theorem dX11_isBeginning_68 : decode cX11_isBeginning 68 = .ok (.aload_n 0, 1) := by decide +kernel
theorem dX11_isBeginning_69 : decode cX11_isBeginning 69 = .ok (.getfield 305, 3) := by decide +kernel
theorem dX11_isBeginning_72 : decode cX11_isBeginning 72 = .ok (.ldc2_w 425, 3) := by decide +kernel
theorem dX11_isBeginning_75 : decode cX11_isBeginning 75 = .ok (.lcmp, 1) := by decide +kernel
theorem dX11_isBeginning_76 : decode cX11_isBeginning 76 = .ok (.ifCond .eq 25, 3) := by decide +kernel
theorem dX11_isBeginning_79 : decode cX11_isBeginning 79 = .ok (.aload_n 0, 1) := by decide +kernel
theorem dX11_isBeginning_80 : decode cX11_isBeginning 80 = .ok (.getfield 305, 3) := by decide +kernel
theorem dX11_isBeginning_83 : decode cX11_isBeginning 83 = .ok (.ldc2_w 427, 3) := by decide +kernel
theorem dX11_isBeginning_86 : decode cX11_isBeginning 86 = .ok (.lcmp, 1) := by decide +kernel
theorem dX11_isBeginning_87 : decode cX11_isBeginning 87 = .ok (.ifCond .eq 14, 3) := by decide +kernel
theorem dX11_isBeginning_90 : decode cX11_isBeginning 90 = .ok (.aload_n 0, 1) := by decide +kernel
theorem dX11_isBeginning_91 : decode cX11_isBeginning 91 = .ok (.getfield 305, 3) := by decide +kernel
theorem dX11_isBeginning_94 : decode cX11_isBeginning 94 = .ok (.ldc2_w 321, 3) := by decide +kernel
theorem dX11_isBeginning_97 : decode cX11_isBeginning 97 = .ok (.lcmp, 1) := by decide +kernel
theorem dX11_isBeginning_98 : decode cX11_isBeginning 98 = .ok (.ifCond .ne 7, 3) := by decide +kernel
theorem dX11_isBeginning_101 : decode cX11_isBeginning 101 = .ok (.iconst 1, 1) := by decide +kernel
theorem dX11_isBeginning_102 : decode cX11_isBeginning 102 = .ok (.goto 4, 3) := by decide +kernel
theorem dX11_isBeginning_105 : decode cX11_isBeginning 105 = .ok (.iconst 0, 1) := by decide +kernel
theorem dX11_isBeginning_106 : decode cX11_isBeginning 106 = .ok (.ireturn, 1) := by decide +kernel
theorem dX11_isBeginning_107 : decode cX11_isBeginning 107 = .ok (.aload_n 0, 1) := by decide +kernel
theorem dX11_isBeginning_108 : decode cX11_isBeginning 108 = .ok (.getfield 309, 3) := by decide +kernel
theorem dX11_isBeginning_111 : decode cX11_isBeginning 111 = .ok (.iconst 4, 1) := by decide +kernel
theorem dX11_isBeginning_112 : decode cX11_isBeginning 112 = .ok (.if_icmp .ne 62, 3) := by decide +kernel
theorem dX11_isBeginning_115 : decode cX11_isBeginning 115 = .ok (.aload_n 0, 1) := by decide +kernel
theorem dX11_isBeginning_116 : decode cX11_isBeginning 116 = .ok (.getfield 305, 3) := by decide +kernel
theorem dX11_isBeginning_119 : decode cX11_isBeginning 119 = .ok (.ldc2_w 429, 3) := by decide +kernel
theorem dX11_isBeginning_122 : decode cX11_isBeginning 122 = .ok (.lcmp, 1) := by decide +kernel
theorem dX11_isBeginning_123 : decode cX11_isBeginning 123 = .ok (.ifCond .eq 47, 3) := by decide +kernel
theorem dX11_isBeginning_126 : decode cX11_isBeginning 126 = .ok (.aload_n 0, 1) := by decide +kernel
theorem dX11_isBeginning_127 : decode cX11_isBeginning 127 = .ok (.getfield 305, 3) := by decide +kernel
theorem dX11_isBeginning_130 : decode cX11_isBeginning 130 = .ok (.ldc2_w 431, 3) := by decide +kernel
theorem dX11_isBeginning_133 : decode cX11_isBeginning 133 = .ok (.lcmp, 1) := by decide +kernel
theorem dX11_isBeginning_134 : decode cX11_isBeginning 134 = .ok (.ifCond .eq 36, 3) := by decide +kernel
theorem dX11_isBeginning_137 : decode cX11_isBeginning 137 = .ok (.aload_n 0, 1) := by decide +kernel
theorem dX11_isBeginning_138 : decode cX11_isBeginning 138 = .ok (.getfield 305, 3) := by decide +kernel
theorem dX11_isBeginning_141 : decode cX11_isBeginning 141 = .ok (.ldc2_w 433, 3) := by decide +kernel
theorem dX11_isBeginning_144 : decode cX11_isBeginning 144 = .ok (.lcmp, 1) := by decide +kernel
theorem dX11_isBeginning_145 : decode cX11_isBeginning 145 = .ok (.ifCond .eq 25, 3) := by decide +kernel
theorem dX11_isBeginning_148 : decode cX11_isBeginning 148 = .ok (.aload_n 0, 1) := by decide +kernel
theorem dX11_isBeginning_149 : decode cX11_isBeginning 149 = .ok (.getfield 305, 3) := by decide +kernel
theorem dX11_isBeginning_152 : decode cX11_isBeginning 152 = .ok (.ldc2_w 435, 3) := by decide +kernel
theorem dX11_isBeginning_155 : decode cX11_isBeginning 155 = .ok (.lcmp, 1) := by decide +kernel
theorem dX11_isBeginning_156 : decode cX11_isBeginning 156 = .ok (.ifCond .eq 14, 3) := by decide +kernel
theorem dX11_isBeginning_159 : decode cX11_isBeginning 159 = .ok (.aload_n 0, 1) := by decide +kernel
theorem dX11_isBeginning_160 : decode cX11_isBeginning 160 = .ok (.getfield 305, 3) := by decide +kernel
theorem dX11_isBeginning_163 : decode cX11_isBeginning 163 = .ok (.ldc2_w 437, 3) := by decide +kernel
theorem dX11_isBeginning_166 : decode cX11_isBeginning 166 = .ok (.lcmp, 1) := by decide +kernel
theorem dX11_isBeginning_167 : decode cX11_isBeginning 167 = .ok (.ifCond .ne 7, 3) := by decide +kernel
theorem dX11_isBeginning_170 : decode cX11_isBeginning 170 = .ok (.iconst 1, 1) := by decide +kernel
theorem dX11_isBeginning_171 : decode cX11_isBeginning 171 = .ok (.goto 4, 3) := by decide +kernel
theorem dX11_isBeginning_174 : decode cX11_isBeginning 174 = .ok (.iconst 0, 1) := by decide +kernel
theorem dX11_isBeginning_175 : decode cX11_isBeginning 175 = .ok (.ireturn, 1) := by decide +kernel
theorem dX11_kind_0 : decode cX11_kind 0 = .ok (.iconst 0, 1) := by decide +kernel
theorem dX11_kind_1 : decode cX11_kind 1 = .ok (.istore_n 1, 1) := by decide +kernel
theorem dX11_kind_2 : decode cX11_kind 2 = .ok (.iconst (-1), 1) := by decide +kernel
theorem dX11_kind_3 : decode cX11_kind 3 = .ok (.istore_n 2, 1) := by decide +kernel
theorem dX11_kind_4 : decode cX11_kind 4 = .ok (.aload_n 0, 1) := by decide +kernel
theorem dX11_kind_5 : decode cX11_kind 5 = .ok (.iconst 0, 1) := by decide +kernel
theorem dX11_kind_6 : decode cX11_kind 6 = .ok (.putfield 364, 3) := by decide +kernel
theorem dX11_kind_9 : decode cX11_kind 9 = .ok (.iconst 0, 1) := by decide +kernel
theorem dX11_kind_10 : decode cX11_kind 10 = .ok (.istore_n 3, 1) := by decide +kernel
theorem dX11_kind_11 : decode cX11_kind 11 = .ok (.aload_n 0, 1) := by decide +kernel
theorem dX11_kind_12 : decode cX11_kind 12 = .ok (.invokevirtual 341, 3) := by decide +kernel
theorem dX11_kind_15 : decode cX11_kind 15 = .ok (.ifCond .eq 331, 3) := by decide +kernel
theorem dX11_kind_18 : decode cX11_kind 18 = .ok (.iload_n 3, 1) := by decide +kernel
theorem dX11_kind_19 : decode cX11_kind 19 = .ok (.ifCond .ne 327, 3) := by decide +kernel
theorem dX11_kind_22 : decode cX11_kind 22 = .ok (.iload_n 2, 1) := by decide +kernel
theorem dX11_kind_23 : decode cX11_kind 23 = .ok (.ifCond .ge 116, 3) := by decide +kernel
theorem dX11_kind_26 : decode cX11_kind 26 = .ok (.aload_n 0, 1) := by decide +kernel
theorem dX11_kind_27 : decode cX11_kind 27 = .ok (.bipush 91, 2) := by decide +kernel
theorem dX11_kind_29 : decode cX11_kind 29 = .ok (.invokevirtual 345, 3) := by decide +kernel
theorem dX11_kind_32 : decode cX11_kind 32 = .ok (.ifCond .eq 22, 3) := by decide +kernel
theorem dX11_kind_35 : decode cX11_kind 35 = .ok (.aload_n 0, 1) := by decide +kernel
theorem dX11_kind_36 : decode cX11_kind 36 = .ok (.bipush 91, 2) := by decide +kernel
theorem dX11_kind_38 : decode cX11_kind 38 = .ok (.invokevirtual 367, 3) := by decide +kernel
theorem dX11_kind_41 : decode cX11_kind 41 = .ok (.aload_n 0, 1) := by decide +kernel
theorem dX11_kind_42 : decode cX11_kind 42 = .ok (.getfield 116, 3) := by decide +kernel
theorem dX11_kind_45 : decode cX11_kind 45 = .ok (.iload_n 1, 1) := by decide +kernel
theorem dX11_kind_46 : decode cX11_kind 46 = .ok (.iconst 0, 1) := by decide +kernel
theorem dX11_kind_47 : decode cX11_kind 47 = .ok (.iastore, 1) := by decide +kernel
theorem dX11_kind_48 : decode cX11_kind 48 = .ok (.iinc 1 1, 3) := by decide +kernel
theorem dX11_kind_51 : decode cX11_kind 51 = .ok (.goto (-40), 3) := by decide +kernel
theorem dX11_kind_54 : decode cX11_kind 54 = .ok (.aload_n 0, 1) := by decide +kernel
theorem dX11_kind_55 : decode cX11_kind 55 = .ok (.bipush 14, 2) := by decide +kernel
theorem dX11_kind_57 : decode cX11_kind 57 = .ok (.invokevirtual 370, 3) := by decide +kernel
theorem dX11_kind_60 : decode cX11_kind 60 = .ok (.ifCond .eq 71, 3) := by decide +kernel
theorem dX11_kind_63 : decode cX11_kind 63 = .ok (.aload_n 0, 1) := by decide +kernel
theorem dX11_kind_64 : decode cX11_kind 64 = .ok (.invokevirtual 358, 3) := by decide +kernel
theorem dX11_kind_67 : decode cX11_kind 67 = .ok (.aload_n 0, 1) := by decide +kernel
theorem dX11_kind_68 : decode cX11_kind 68 = .ok (.invokevirtual 341, 3) := by decide +kernel
theorem dX11_kind_71 : decode cX11_kind 71 = .ok (.ifCond .eq 13, 3) := by decide +kernel
theorem dX11_kind_74 : decode cX11_kind 74 = .ok (.aload_n 0, 1) := by decide +kernel
theorem dX11_kind_75 : decode cX11_kind 75 = .ok (.invokevirtual 349, 3) := by decide +kernel
theorem dX11_kind_78 : decode cX11_kind 78 = .ok (.aload_n 0, 1) := by decide +kernel
theorem dX11_kind_79 : decode cX11_kind 79 = .ok (.bipush 40, 2) := by decide +kernel
theorem dX11_kind_81 : decode cX11_kind 81 = .ok (.invokevirtual 367, 3) := by decide +kernel
theorem dX11_kind_84 : decode cX11_kind 84 = .ok (.aload_n 0, 1) := by decide +kernel
theorem dX11_kind_85 : decode cX11_kind 85 = .ok (.getfield 116, 3) := by decide +kernel
theorem dX11_kind_88 : decode cX11_kind 88 = .ok (.iload_n 1, 1) := by decide +kernel
theorem dX11_kind_89 : decode cX11_kind 89 = .ok (.iconst 1, 1) := by decide +kernel
theorem dX11_kind_90 : decode cX11_kind 90 = .ok (.iastore, 1) := by decide +kernel
theorem dX11_kind_91 : decode cX11_kind 91 = .ok (.aload_n 0, 1) := by decide +kernel
theorem dX11_kind_92 : decode cX11_kind 92 = .ok (.getfield 119, 3) := by decide +kernel
theorem dX11_kind_95 : decode cX11_kind 95 = .ok (.iload_n 1, 1) := by decide +kernel
theorem dX11_kind_96 : decode cX11_kind 96 = .ok (.aload_n 0, 1) := by decide +kernel
theorem dX11_kind_97 : decode cX11_kind 97 = .ok (.getfield 364, 3) := by decide +kernel
theorem dX11_kind_100 : decode cX11_kind 100 = .ok (.iastore, 1) := by decide +kernel
theorem dX11_kind_101 : decode cX11_kind 101 = .ok (.iinc 1 1, 3) := by decide +kernel
theorem dX11_kind_104 : decode cX11_kind 104 = .ok (.aload_n 0, 1) := by decide +kernel
theorem dX11_kind_105 : decode cX11_kind 105 = .ok (.bipush 41, 2) := by decide +kernel
theorem dX11_kind_107 : decode cX11_kind 107 = .ok (.invokevirtual 345, 3) := by decide +kernel
theorem dX11_kind_110 : decode cX11_kind 110 = .ok (.ifCond .eq (-99), 3) := by decide +kernel
theorem dX11_kind_113 : decode cX11_kind 113 = .ok (.aload_n 0, 1) := by decide +kernel
theorem dX11_kind_114 : decode cX11_kind 114 = .ok (.bipush 41, 2) := by decide +kernel
theorem dX11_kind_116 : decode cX11_kind 116 = .ok (.invokevirtual 373, 3) := by decide +kernel
theorem dX11_kind_119 : decode cX11_kind 119 = .ok (.aload_n 0, 1) := by decide +kernel
theorem dX11_kind_120 : decode cX11_kind 120 = .ok (.getfield 116, 3) := by decide +kernel
theorem dX11_kind_123 : decode cX11_kind 123 = .ok (.iload_n 1, 1) := by decide +kernel
theorem dX11_kind_124 : decode cX11_kind 124 = .ok (.iconst 1, 1) := by decide +kernel
theorem dX11_kind_125 : decode cX11_kind 125 = .ok (.isub, 1) := by decide +kernel
theorem dX11_kind_126 : decode cX11_kind 126 = .ok (.iconst 2, 1) := by decide +kernel
theorem dX11_kind_127 : decode cX11_kind 127 = .ok (.iastore, 1) := by decide +kernel
theorem dX11_kind_128 : decode cX11_kind 128 = .ok (.goto (-117), 3) := by decide +kernel
theorem dX11_kind_131 : decode cX11_kind 131 = .ok (.aload_n 0, 1) := by decide +kernel
theorem dX11_kind_132 : decode cX11_kind 132 = .ok (.invokevirtual 376, 3) := by decide +kernel
theorem dX11_kind_135 : decode cX11_kind 135 = .ok (.istore_n 2, 1) := by decide +kernel
theorem dX11_kind_136 : decode cX11_kind 136 = .ok (.goto (-125), 3) := by decide +kernel
theorem dX11_kind_139 : decode cX11_kind 139 = .ok (.iload_n 1, 1) := by decide +kernel
theorem dX11_kind_140 : decode cX11_kind 140 = .ok (.ifCond .ne 8, 3) := by decide +kernel
theorem dX11_kind_143 : decode cX11_kind 143 = .ok (.iconst 1, 1) := by decide +kernel
theorem dX11_kind_144 : decode cX11_kind 144 = .ok (.istore_n 3, 1) := by decide +kernel
theorem dX11_kind_145 : decode cX11_kind 145 = .ok (.goto (-134), 3) := by decide +kernel
theorem dX11_kind_148 : decode cX11_kind 148 = .ok (.iload_n 1, 1) := by decide +kernel
theorem dX11_kind_149 : decode cX11_kind 149 = .ok (.iconst 1, 1) := by decide +kernel
theorem dX11_kind_150 : decode cX11_kind 150 = .ok (.isub, 1) := by decide +kernel
theorem dX11_kind_151 : decode cX11_kind 151 = .ok (.istore 4, 2) := by decide +kernel
theorem dX11_kind_153 : decode cX11_kind 153 = .ok (.aload_n 0, 1) := by decide +kernel
theorem dX11_kind_154 : decode cX11_kind 154 = .ok (.getfield 116, 3) := by decide +kernel
theorem dX11_kind_157 : decode cX11_kind 157 = .ok (.iload 4, 2) := by decide +kernel
theorem dX11_kind_159 : decode cX11_kind 159 = .ok (.iaload, 1) := by decide +kernel
theorem dX11_kind_160 : decode cX11_kind 160 = .ok (.ifCond .ne 32, 3) := by decide +kernel
theorem dX11_kind_163 : decode cX11_kind 163 = .ok (.aload_n 0, 1) := by decide +kernel
theorem dX11_kind_164 : decode cX11_kind 164 = .ok (.bipush 93, 2) := by decide +kernel
theorem dX11_kind_166 : decode cX11_kind 166 = .ok (.invokevirtual 373, 3) := by decide +kernel
theorem dX11_kind_169 : decode cX11_kind 169 = .ok (.aload_n 0, 1) := by decide +kernel
theorem dX11_kind_170 : decode cX11_kind 170 = .ok (.invokevirtual 341, 3) := by decide +kernel
theorem dX11_kind_173 : decode cX11_kind 173 = .ok (.ifCond .eq 11, 3) := by decide +kernel
theorem dX11_kind_176 : decode cX11_kind 176 = .ok (.aload_n 0, 1) := by decide +kernel
theorem dX11_kind_177 : decode cX11_kind 177 = .ok (.iload_n 2, 1) := by decide +kernel
theorem dX11_kind_178 : decode cX11_kind 178 = .ok (.invokevirtual 380, 3) := by decide +kernel
theorem dX11_kind_181 : decode cX11_kind 181 = .ok (.goto 4, 3) := by decide +kernel
theorem dX11_kind_184 : decode cX11_kind 184 = .ok (.iload_n 2, 1) := by decide +kernel
theorem dX11_kind_185 : decode cX11_kind 185 = .ok (.istore_n 2, 1) := by decide +kernel
theorem dX11_kind_186 : decode cX11_kind 186 = .ok (.iinc 1 (-1), 3) := by decide +kernel
theorem dX11_kind_189 : decode cX11_kind 189 = .ok (.goto 154, 3) := by decide +kernel
theorem dX11_kind_192 : decode cX11_kind 192 = .ok (.aload_n 0, 1) := by decide +kernel
theorem dX11_kind_193 : decode cX11_kind 193 = .ok (.getfield 116, 3) := by decide +kernel
theorem dX11_kind_196 : decode cX11_kind 196 = .ok (.iload 4, 2) := by decide +kernel
theorem dX11_kind_198 : decode cX11_kind 198 = .ok (.iaload, 1) := by decide +kernel
theorem dX11_kind_199 : decode cX11_kind 199 = .ok (.iconst 1, 1) := by decide +kernel
theorem dX11_kind_200 : decode cX11_kind 200 = .ok (.if_icmp .ne 74, 3) := by decide +kernel
theorem dX11_kind_203 : decode cX11_kind 203 = .ok (.aload_n 0, 1) := by decide +kernel
theorem dX11_kind_204 : decode cX11_kind 204 = .ok (.getfield 46, 3) := by decide +kernel
theorem dX11_kind_207 : decode cX11_kind 207 = .ok (.aload_n 0, 1) := by decide +kernel
theorem dX11_kind_208 : decode cX11_kind 208 = .ok (.getfield 364, 3) := by decide +kernel
theorem dX11_kind_211 : decode cX11_kind 211 = .ok (.iload_n 2, 1) := by decide +kernel
theorem dX11_kind_212 : decode cX11_kind 212 = .ok (.iastore, 1) := by decide +kernel
theorem dX11_kind_213 : decode cX11_kind 213 = .ok (.aload_n 0, 1) := by decide +kernel
theorem dX11_kind_214 : decode cX11_kind 214 = .ok (.dup, 1) := by decide +kernel
theorem dX11_kind_215 : decode cX11_kind 215 = .ok (.getfield 364, 3) := by decide +kernel
theorem dX11_kind_218 : decode cX11_kind 218 = .ok (.iconst 1, 1) := by decide +kernel
theorem dX11_kind_219 : decode cX11_kind 219 = .ok (.iadd, 1) := by decide +kernel
theorem dX11_kind_220 : decode cX11_kind 220 = .ok (.putfield 364, 3) := by decide +kernel
theorem dX11_kind_223 : decode cX11_kind 223 = .ok (.iconst (-1), 1) := by decide +kernel
theorem dX11_kind_224 : decode cX11_kind 224 = .ok (.istore_n 2, 1) := by decide +kernel
theorem dX11_kind_225 : decode cX11_kind 225 = .ok (.aload_n 0, 1) := by decide +kernel
theorem dX11_kind_226 : decode cX11_kind 226 = .ok (.bipush 44, 2) := by decide +kernel
theorem dX11_kind_228 : decode cX11_kind 228 = .ok (.invokevirtual 345, 3) := by decide +kernel
theorem dX11_kind_231 : decode cX11_kind 231 = .ok (.ifCond .eq 26, 3) := by decide +kernel
theorem dX11_kind_234 : decode cX11_kind 234 = .ok (.aload_n 0, 1) := by decide +kernel
theorem dX11_kind_235 : decode cX11_kind 235 = .ok (.invokevirtual 349, 3) := by decide +kernel
theorem dX11_kind_238 : decode cX11_kind 238 = .ok (.aload_n 0, 1) := by decide +kernel
theorem dX11_kind_239 : decode cX11_kind 239 = .ok (.aload_n 0, 1) := by decide +kernel
theorem dX11_kind_240 : decode cX11_kind 240 = .ok (.getfield 364, 3) := by decide +kernel
theorem dX11_kind_243 : decode cX11_kind 243 = .ok (.aload_n 0, 1) := by decide +kernel
theorem dX11_kind_244 : decode cX11_kind 244 = .ok (.getfield 119, 3) := by decide +kernel
theorem dX11_kind_247 : decode cX11_kind 247 = .ok (.iload 4, 2) := by decide +kernel
theorem dX11_kind_249 : decode cX11_kind 249 = .ok (.iaload, 1) := by decide +kernel
theorem dX11_kind_250 : decode cX11_kind 250 = .ok (.isub, 1) := by decide +kernel
theorem dX11_kind_251 : decode cX11_kind 251 = .ok (.invokevirtual 383, 3) := by decide +kernel
theorem dX11_kind_254 : decode cX11_kind 254 = .ok (.goto 89, 3) := by decide +kernel
theorem dX11_kind_257 : decode cX11_kind 257 = .ok (.aload_n 0, 1) := by decide +kernel
theorem dX11_kind_258 : decode cX11_kind 258 = .ok (.bipush 41, 2) := by decide +kernel
theorem dX11_kind_260 : decode cX11_kind 260 = .ok (.invokevirtual 373, 3) := by decide +kernel
theorem dX11_kind_263 : decode cX11_kind 263 = .ok (.aload_n 0, 1) := by decide +kernel
theorem dX11_kind_264 : decode cX11_kind 264 = .ok (.getfield 116, 3) := by decide +kernel
theorem dX11_kind_267 : decode cX11_kind 267 = .ok (.iload 4, 2) := by decide +kernel
theorem dX11_kind_269 : decode cX11_kind 269 = .ok (.iconst 2, 1) := by decide +kernel
theorem dX11_kind_270 : decode cX11_kind 270 = .ok (.iastore, 1) := by decide +kernel
theorem dX11_kind_271 : decode cX11_kind 271 = .ok (.goto 72, 3) := by decide +kernel
theorem dX11_kind_274 : decode cX11_kind 274 = .ok (.aload_n 0, 1) := by decide +kernel
theorem dX11_kind_275 : decode cX11_kind 275 = .ok (.getfield 46, 3) := by decide +kernel
theorem dX11_kind_278 : decode cX11_kind 278 = .ok (.aload_n 0, 1) := by decide +kernel
theorem dX11_kind_279 : decode cX11_kind 279 = .ok (.getfield 364, 3) := by decide +kernel
theorem dX11_kind_282 : decode cX11_kind 282 = .ok (.iload_n 2, 1) := by decide +kernel
theorem dX11_kind_283 : decode cX11_kind 283 = .ok (.iastore, 1) := by decide +kernel
theorem dX11_kind_284 : decode cX11_kind 284 = .ok (.aload_n 0, 1) := by decide +kernel
theorem dX11_kind_285 : decode cX11_kind 285 = .ok (.dup, 1) := by decide +kernel
theorem dX11_kind_286 : decode cX11_kind 286 = .ok (.getfield 364, 3) := by decide +kernel
theorem dX11_kind_289 : decode cX11_kind 289 = .ok (.iconst 1, 1) := by decide +kernel
theorem dX11_kind_290 : decode cX11_kind 290 = .ok (.iadd, 1) := by decide +kernel
theorem dX11_kind_291 : decode cX11_kind 291 = .ok (.putfield 364, 3) := by decide +kernel
theorem dX11_kind_294 : decode cX11_kind 294 = .ok (.aload_n 0, 1) := by decide +kernel
theorem dX11_kind_295 : decode cX11_kind 295 = .ok (.dup, 1) := by decide +kernel
theorem dX11_kind_296 : decode cX11_kind 296 = .ok (.getfield 355, 3) := by decide +kernel
theorem dX11_kind_299 : decode cX11_kind 299 = .ok (.iconst 1, 1) := by decide +kernel
theorem dX11_kind_300 : decode cX11_kind 300 = .ok (.isub, 1) := by decide +kernel
theorem dX11_kind_301 : decode cX11_kind 301 = .ok (.putfield 355, 3) := by decide +kernel
theorem dX11_kind_304 : decode cX11_kind 304 = .ok (.aload_n 0, 1) := by decide +kernel
theorem dX11_kind_305 : decode cX11_kind 305 = .ok (.iconst 5, 1) := by decide +kernel
theorem dX11_kind_306 : decode cX11_kind 306 = .ok (.aload_n 0, 1) := by decide +kernel
theorem dX11_kind_307 : decode cX11_kind 307 = .ok (.getfield 119, 3) := by decide +kernel
theorem dX11_kind_310 : decode cX11_kind 310 = .ok (.iload 4, 2) := by decide +kernel
theorem dX11_kind_312 : decode cX11_kind 312 = .ok (.iaload, 1) := by decide +kernel
theorem dX11_kind_313 : decode cX11_kind 313 = .ok (.aload_n 0, 1) := by decide +kernel
theorem dX11_kind_314 : decode cX11_kind 314 = .ok (.getfield 364, 3) := by decide +kernel
theorem dX11_kind_317 : decode cX11_kind 317 = .ok (.aload_n 0, 1) := by decide +kernel
theorem dX11_kind_318 : decode cX11_kind 318 = .ok (.getfield 119, 3) := by decide +kernel
theorem dX11_kind_321 : decode cX11_kind 321 = .ok (.iload 4, 2) := by decide +kernel
theorem dX11_kind_323 : decode cX11_kind 323 = .ok (.iaload, 1) := by decide +kernel
theorem dX11_kind_324 : decode cX11_kind 324 = .ok (.isub, 1) := by decide +kernel
theorem dX11_kind_325 : decode cX11_kind 325 = .ok (.invokevirtual 272, 3) := by decide +kernel
theorem dX11_kind_328 : decode cX11_kind 328 = .ok (.istore_n 2, 1) := by decide +kernel
theorem dX11_kind_329 : decode cX11_kind 329 = .ok (.aload_n 0, 1) := by decide +kernel
theorem dX11_kind_330 : decode cX11_kind 330 = .ok (.aload_n 0, 1) := by decide +kernel
theorem dX11_kind_331 : decode cX11_kind 331 = .ok (.getfield 119, 3) := by decide +kernel
theorem dX11_kind_334 : decode cX11_kind 334 = .ok (.iload 4, 2) := by decide +kernel
theorem dX11_kind_336 : decode cX11_kind 336 = .ok (.iaload, 1) := by decide +kernel
theorem dX11_kind_337 : decode cX11_kind 337 = .ok (.putfield 364, 3) := by decide +kernel
theorem dX11_kind_340 : decode cX11_kind 340 = .ok (.iinc 1 (-1), 3) := by decide +kernel
theorem dX11_kind_343 : decode cX11_kind 343 = .ok (.goto (-332), 3) := by decide +kernel
theorem dX11_kind_346 : decode cX11_kind 346 = .ok (.iload_n 2, 1) := by decide +kernel
theorem dX11_kind_347 : decode cX11_kind 347 = .ok (.ifCond .ge 7, 3) := by decide +kernel
theorem dX11_kind_350 : decode cX11_kind 350 = .ok (.iconst 2, 1) := by decide +kernel
theorem dX11_kind_351 : decode cX11_kind 351 = .ok (.goto 4, 3) := by decide +kernel
theorem dX11_kind_354 : decode cX11_kind 354 = .ok (.iload_n 2, 1) := by decide +kernel
theorem dX11_kind_355 : decode cX11_kind 355 = .ok (.ireturn, 1) := by decide +kernel
theorem dX11_make_0 : decode cX11_make 0 = .ok (.aload_n 0, 1) := by decide +kernel
theorem dX11_make_1 : decode cX11_make 1 = .ok (.getfield 386, 3) := by decide +kernel
theorem dX11_make_4 : decode cX11_make 4 = .ok (.istore_n 3, 1) := by decide +kernel
theorem dX11_make_5 : decode cX11_make 5 = .ok (.aload_n 0, 1) := by decide +kernel
theorem dX11_make_6 : decode cX11_make 6 = .ok (.dup, 1) := by decide +kernel
theorem dX11_make_7 : decode cX11_make 7 = .ok (.getfield 386, 3) := by decide +kernel
theorem dX11_make_10 : decode cX11_make 10 = .ok (.iconst 1, 1) := by decide +kernel
theorem dX11_make_11 : decode cX11_make 11 = .ok (.iadd, 1) := by decide +kernel
theorem dX11_make_12 : decode cX11_make 12 = .ok (.putfield 386, 3) := by decide +kernel
theorem dX11_make_15 : decode cX11_make 15 = .ok (.aload_n 0, 1) := by decide +kernel
theorem dX11_make_16 : decode cX11_make 16 = .ok (.getfield 77, 3) := by decide +kernel
theorem dX11_make_19 : decode cX11_make 19 = .ok (.iload_n 3, 1) := by decide +kernel
theorem dX11_make_20 : decode cX11_make 20 = .ok (.iload_n 1, 1) := by decide +kernel
theorem dX11_make_21 : decode cX11_make 21 = .ok (.iastore, 1) := by decide +kernel
theorem dX11_make_22 : decode cX11_make 22 = .ok (.aload_n 0, 1) := by decide +kernel
theorem dX11_make_23 : decode cX11_make 23 = .ok (.getfield 80, 3) := by decide +kernel
theorem dX11_make_26 : decode cX11_make 26 = .ok (.iload_n 3, 1) := by decide +kernel
theorem dX11_make_27 : decode cX11_make 27 = .ok (.iload_n 2, 1) := by decide +kernel
theorem dX11_make_28 : decode cX11_make 28 = .ok (.iastore, 1) := by decide +kernel
theorem dX11_make_29 : decode cX11_make 29 = .ok (.aload_n 0, 1) := by decide +kernel
theorem dX11_make_30 : decode cX11_make 30 = .ok (.getfield 83, 3) := by decide +kernel
theorem dX11_make_33 : decode cX11_make 33 = .ok (.iload_n 3, 1) := by decide +kernel
theorem dX11_make_34 : decode cX11_make 34 = .ok (.iload_n 2, 1) := by decide +kernel
theorem dX11_make_35 : decode cX11_make 35 = .ok (.iastore, 1) := by decide +kernel
theorem dX11_make_36 : decode cX11_make 36 = .ok (.aload_n 0, 1) := by decide +kernel
theorem dX11_make_37 : decode cX11_make 37 = .ok (.getfield 86, 3) := by decide +kernel
theorem dX11_make_40 : decode cX11_make 40 = .ok (.iload_n 3, 1) := by decide +kernel
theorem dX11_make_41 : decode cX11_make 41 = .ok (.iconst (-1), 1) := by decide +kernel
theorem dX11_make_42 : decode cX11_make 42 = .ok (.iastore, 1) := by decide +kernel
theorem dX11_make_43 : decode cX11_make 43 = .ok (.aload_n 0, 1) := by decide +kernel
theorem dX11_make_44 : decode cX11_make 44 = .ok (.getfield 89, 3) := by decide +kernel
theorem dX11_make_47 : decode cX11_make 47 = .ok (.iload_n 3, 1) := by decide +kernel
theorem dX11_make_48 : decode cX11_make 48 = .ok (.iconst (-1), 1) := by decide +kernel
theorem dX11_make_49 : decode cX11_make 49 = .ok (.iastore, 1) := by decide +kernel
theorem dX11_make_50 : decode cX11_make 50 = .ok (.aload_n 0, 1) := by decide +kernel
theorem dX11_make_51 : decode cX11_make 51 = .ok (.getfield 92, 3) := by decide +kernel
theorem dX11_make_54 : decode cX11_make 54 = .ok (.iload_n 3, 1) := by decide +kernel
theorem dX11_make_55 : decode cX11_make 55 = .ok (.iconst (-1), 1) := by decide +kernel
theorem dX11_make_56 : decode cX11_make 56 = .ok (.iastore, 1) := by decide +kernel
theorem dX11_make_57 : decode cX11_make 57 = .ok (.aload_n 0, 1) := by decide +kernel
theorem dX11_make_58 : decode cX11_make 58 = .ok (.getfield 95, 3) := by decide +kernel
theorem dX11_make_61 : decode cX11_make 61 = .ok (.iload_n 3, 1) := by decide +kernel
theorem dX11_make_62 : decode cX11_make 62 = .ok (.iconst 0, 1) := by decide +kernel
theorem dX11_make_63 : decode cX11_make 63 = .ok (.iastore, 1) := by decide +kernel
theorem dX11_make_64 : decode cX11_make 64 = .ok (.aload_n 0, 1) := by decide +kernel
theorem dX11_make_65 : decode cX11_make 65 = .ok (.getfield 98, 3) := by decide +kernel
theorem dX11_make_68 : decode cX11_make 68 = .ok (.iload_n 3, 1) := by decide +kernel
theorem dX11_make_69 : decode cX11_make 69 = .ok (.iconst 0, 1) := by decide +kernel
theorem dX11_make_70 : decode cX11_make 70 = .ok (.iastore, 1) := by decide +kernel
theorem dX11_make_71 : decode cX11_make 71 = .ok (.aload_n 0, 1) := by decide +kernel
theorem dX11_make_72 : decode cX11_make 72 = .ok (.getfield 101, 3) := by decide +kernel
theorem dX11_make_75 : decode cX11_make 75 = .ok (.iload_n 3, 1) := by decide +kernel
theorem dX11_make_76 : decode cX11_make 76 = .ok (.iconst (-1), 1) := by decide +kernel
theorem dX11_make_77 : decode cX11_make 77 = .ok (.iastore, 1) := by decide +kernel
theorem dX11_make_78 : decode cX11_make 78 = .ok (.aload_n 0, 1) := by decide +kernel
theorem dX11_make_79 : decode cX11_make 79 = .ok (.getfield 104, 3) := by decide +kernel
theorem dX11_make_82 : decode cX11_make 82 = .ok (.iload_n 3, 1) := by decide +kernel
theorem dX11_make_83 : decode cX11_make 83 = .ok (.lconst 0, 1) := by decide +kernel
theorem dX11_make_84 : decode cX11_make 84 = .ok (.lastore, 1) := by decide +kernel
theorem dX11_make_85 : decode cX11_make 85 = .ok (.aload_n 0, 1) := by decide +kernel
theorem dX11_make_86 : decode cX11_make 86 = .ok (.getfield 134, 3) := by decide +kernel
theorem dX11_make_89 : decode cX11_make 89 = .ok (.iload_n 3, 1) := by decide +kernel
theorem dX11_make_90 : decode cX11_make 90 = .ok (.iconst 0, 1) := by decide +kernel
theorem dX11_make_91 : decode cX11_make 91 = .ok (.iastore, 1) := by decide +kernel
theorem dX11_make_92 : decode cX11_make 92 = .ok (.iload_n 3, 1) := by decide +kernel
theorem dX11_make_93 : decode cX11_make 93 = .ok (.ireturn, 1) := by decide +kernel
theorem dX11_named_0 : decode cX11_named 0 = .ok (.iconst (-1), 1) := by decide +kernel
theorem dX11_named_1 : decode cX11_named 1 = .ok (.istore_n 2, 1) := by decide +kernel
theorem dX11_named_2 : decode cX11_named 2 = .ok (.iconst 0, 1) := by decide +kernel
theorem dX11_named_3 : decode cX11_named 3 = .ok (.istore_n 3, 1) := by decide +kernel
theorem dX11_named_4 : decode cX11_named 4 = .ok (.iload_n 3, 1) := by decide +kernel
theorem dX11_named_5 : decode cX11_named 5 = .ok (.aload_n 0, 1) := by decide +kernel
theorem dX11_named_6 : decode cX11_named 6 = .ok (.getfield 392, 3) := by decide +kernel
theorem dX11_named_9 : decode cX11_named 9 = .ok (.if_icmp .ge 29, 3) := by decide +kernel
theorem dX11_named_12 : decode cX11_named 12 = .ok (.aload_n 0, 1) := by decide +kernel
theorem dX11_named_13 : decode cX11_named 13 = .ok (.getfield 107, 3) := by decide +kernel
theorem dX11_named_16 : decode cX11_named 16 = .ok (.iload_n 3, 1) := by decide +kernel
theorem dX11_named_17 : decode cX11_named 17 = .ok (.laload, 1) := by decide +kernel
theorem dX11_named_18 : decode cX11_named 18 = .ok (.aload_n 0, 1) := by decide +kernel
theorem dX11_named_19 : decode cX11_named 19 = .ok (.getfield 305, 3) := by decide +kernel
theorem dX11_named_22 : decode cX11_named 22 = .ok (.lcmp, 1) := by decide +kernel
theorem dX11_named_23 : decode cX11_named 23 = .ok (.ifCond .ne 7, 3) := by decide +kernel
theorem dX11_named_26 : decode cX11_named 26 = .ok (.iload_n 3, 1) := by decide +kernel
theorem dX11_named_27 : decode cX11_named 27 = .ok (.goto 4, 3) := by decide +kernel
theorem dX11_named_30 : decode cX11_named 30 = .ok (.iload_n 2, 1) := by decide +kernel
theorem dX11_named_31 : decode cX11_named 31 = .ok (.istore_n 2, 1) := by decide +kernel
theorem dX11_named_32 : decode cX11_named 32 = .ok (.iinc 3 1, 3) := by decide +kernel
theorem dX11_named_35 : decode cX11_named 35 = .ok (.goto (-31), 3) := by decide +kernel
theorem dX11_named_38 : decode cX11_named 38 = .ok (.aload_n 0, 1) := by decide +kernel
theorem dX11_named_39 : decode cX11_named 39 = .ok (.iload_n 2, 1) := by decide +kernel
theorem dX11_named_40 : decode cX11_named 40 = .ok (.ifCond .ge 7, 3) := by decide +kernel
theorem dX11_named_43 : decode cX11_named 43 = .ok (.iconst 3, 1) := by decide +kernel
theorem dX11_named_44 : decode cX11_named 44 = .ok (.goto 4, 3) := by decide +kernel
theorem dX11_named_47 : decode cX11_named 47 = .ok (.iconst 2, 1) := by decide +kernel
theorem dX11_named_48 : decode cX11_named 48 = .ok (.iload_n 1, 1) := by decide +kernel
theorem dX11_named_49 : decode cX11_named 49 = .ok (.invokevirtual 445, 3) := by decide +kernel
theorem dX11_named_52 : decode cX11_named 52 = .ok (.istore_n 3, 1) := by decide +kernel
theorem dX11_named_53 : decode cX11_named 53 = .ok (.aload_n 0, 1) := by decide +kernel
theorem dX11_named_54 : decode cX11_named 54 = .ok (.getfield 95, 3) := by decide +kernel
theorem dX11_named_57 : decode cX11_named 57 = .ok (.iload_n 3, 1) := by decide +kernel
theorem dX11_named_58 : decode cX11_named 58 = .ok (.iload_n 2, 1) := by decide +kernel
theorem dX11_named_59 : decode cX11_named 59 = .ok (.iastore, 1) := by decide +kernel
theorem dX11_named_60 : decode cX11_named 60 = .ok (.aload_n 0, 1) := by decide +kernel
theorem dX11_named_61 : decode cX11_named 61 = .ok (.getfield 104, 3) := by decide +kernel
theorem dX11_named_64 : decode cX11_named 64 = .ok (.iload_n 3, 1) := by decide +kernel
theorem dX11_named_65 : decode cX11_named 65 = .ok (.aload_n 0, 1) := by decide +kernel
theorem dX11_named_66 : decode cX11_named 66 = .ok (.getfield 305, 3) := by decide +kernel
theorem dX11_named_69 : decode cX11_named 69 = .ok (.lastore, 1) := by decide +kernel
theorem dX11_named_70 : decode cX11_named 70 = .ok (.aload_n 0, 1) := by decide +kernel
theorem dX11_named_71 : decode cX11_named 71 = .ok (.invokevirtual 349, 3) := by decide +kernel
theorem dX11_named_74 : decode cX11_named 74 = .ok (.aload_n 0, 1) := by decide +kernel
theorem dX11_named_75 : decode cX11_named 75 = .ok (.iload_n 3, 1) := by decide +kernel
theorem dX11_named_76 : decode cX11_named 76 = .ok (.invokevirtual 455, 3) := by decide +kernel
theorem dX11_named_79 : decode cX11_named 79 = .ok (.return_, 1) := by decide +kernel
theorem dX11_number_0 : decode cX11_number 0 = .ok (.aload_n 0, 1) := by decide +kernel
theorem dX11_number_1 : decode cX11_number 1 = .ok (.getfield 305, 3) := by decide +kernel
theorem dX11_number_4 : decode cX11_number 4 = .ok (.ldc2_w 319, 3) := by decide +kernel
theorem dX11_number_7 : decode cX11_number 7 = .ok (.lcmp, 1) := by decide +kernel
theorem dX11_number_8 : decode cX11_number 8 = .ok (.ifCond .le 10, 3) := by decide +kernel
theorem dX11_number_11 : decode cX11_number 11 = .ok (.aload_n 0, 1) := by decide +kernel
theorem dX11_number_12 : decode cX11_number 12 = .ok (.iconst 4, 1) := by decide +kernel
theorem dX11_number_13 : decode cX11_number 13 = .ok (.iload_n 1, 1) := by decide +kernel
theorem dX11_number_14 : decode cX11_number 14 = .ok (.invokevirtual 295, 3) := by decide +kernel
theorem dX11_number_17 : decode cX11_number 17 = .ok (.return_, 1) := by decide +kernel
theorem dX11_number_18 : decode cX11_number 18 = .ok (.aload_n 0, 1) := by decide +kernel
theorem dX11_number_19 : decode cX11_number 19 = .ok (.iconst 0, 1) := by decide +kernel
theorem dX11_number_20 : decode cX11_number 20 = .ok (.iload_n 1, 1) := by decide +kernel
theorem dX11_number_21 : decode cX11_number 21 = .ok (.invokevirtual 445, 3) := by decide +kernel
theorem dX11_number_24 : decode cX11_number 24 = .ok (.istore_n 2, 1) := by decide +kernel
theorem dX11_number_25 : decode cX11_number 25 = .ok (.aload_n 0, 1) := by decide +kernel
theorem dX11_number_26 : decode cX11_number 26 = .ok (.getfield 95, 3) := by decide +kernel
theorem dX11_number_29 : decode cX11_number 29 = .ok (.iload_n 2, 1) := by decide +kernel
theorem dX11_number_30 : decode cX11_number 30 = .ok (.aload_n 0, 1) := by decide +kernel
theorem dX11_number_31 : decode cX11_number 31 = .ok (.getfield 305, 3) := by decide +kernel
theorem dX11_number_34 : decode cX11_number 34 = .ok (.l2i, 1) := by decide +kernel
theorem dX11_number_35 : decode cX11_number 35 = .ok (.iastore, 1) := by decide +kernel
theorem dX11_number_36 : decode cX11_number 36 = .ok (.aload_n 0, 1) := by decide +kernel
theorem dX11_number_37 : decode cX11_number 37 = .ok (.invokevirtual 349, 3) := by decide +kernel
theorem dX11_number_40 : decode cX11_number 40 = .ok (.aload_n 0, 1) := by decide +kernel
theorem dX11_number_41 : decode cX11_number 41 = .ok (.iload_n 2, 1) := by decide +kernel
theorem dX11_number_42 : decode cX11_number 42 = .ok (.invokevirtual 455, 3) := by decide +kernel
theorem dX11_number_45 : decode cX11_number 45 = .ok (.return_, 1) := by decide +kernel
theorem dX11_opened_0 : decode cX11_opened 0 = .ok (.aload_n 0, 1) := by decide +kernel
theorem dX11_opened_1 : decode cX11_opened 1 = .ok (.invokevirtual 341, 3) := by decide +kernel
theorem dX11_opened_4 : decode cX11_opened 4 = .ok (.ifCond .eq 14, 3) := by decide +kernel
theorem dX11_opened_7 : decode cX11_opened 7 = .ok (.aload_n 0, 1) := by decide +kernel
theorem dX11_opened_8 : decode cX11_opened 8 = .ok (.iload_n 1, 1) := by decide +kernel
theorem dX11_opened_9 : decode cX11_opened 9 = .ok (.iload_n 2, 1) := by decide +kernel
theorem dX11_opened_10 : decode cX11_opened 10 = .ok (.invokevirtual 395, 3) := by decide +kernel
theorem dX11_opened_13 : decode cX11_opened 13 = .ok (.aload_n 0, 1) := by decide +kernel
theorem dX11_opened_14 : decode cX11_opened 14 = .ok (.iconst 0, 1) := by decide +kernel
theorem dX11_opened_15 : decode cX11_opened 15 = .ok (.putfield 398, 3) := by decide +kernel
theorem dX11_opened_18 : decode cX11_opened 18 = .ok (.return_, 1) := by decide +kernel
theorem dX11_operand_0 : decode cX11_operand 0 = .ok (.aload_n 0, 1) := by decide +kernel
theorem dX11_operand_1 : decode cX11_operand 1 = .ok (.getfield 292, 3) := by decide +kernel
theorem dX11_operand_4 : decode cX11_operand 4 = .ok (.istore_n 1, 1) := by decide +kernel
theorem dX11_operand_5 : decode cX11_operand 5 = .ok (.aload_n 0, 1) := by decide +kernel
theorem dX11_operand_6 : decode cX11_operand 6 = .ok (.bipush 45, 2) := by decide +kernel
theorem dX11_operand_8 : decode cX11_operand 8 = .ok (.invokevirtual 345, 3) := by decide +kernel
theorem dX11_operand_11 : decode cX11_operand 11 = .ok (.ifCond .ne 12, 3) := by decide +kernel
theorem dX11_operand_14 : decode cX11_operand 14 = .ok (.aload_n 0, 1) := by decide +kernel
theorem dX11_operand_15 : decode cX11_operand 15 = .ok (.bipush 33, 2) := by decide +kernel
theorem dX11_operand_17 : decode cX11_operand 17 = .ok (.invokevirtual 345, 3) := by decide +kernel
theorem dX11_operand_20 : decode cX11_operand 20 = .ok (.ifCond .eq 52, 3) := by decide +kernel
theorem dX11_operand_23 : decode cX11_operand 23 = .ok (.aload_n 0, 1) := by decide +kernel
theorem dX11_operand_24 : decode cX11_operand 24 = .ok (.aload_n 0, 1) := by decide +kernel
theorem dX11_operand_25 : decode cX11_operand 25 = .ok (.getfield 305, 3) := by decide +kernel
theorem dX11_operand_28 : decode cX11_operand 28 = .ok (.ldc2_w 429, 3) := by decide +kernel
theorem dX11_operand_31 : decode cX11_operand 31 = .ok (.lcmp, 1) := by decide +kernel
theorem dX11_operand_32 : decode cX11_operand 32 = .ok (.ifCond .ne 8, 3) := by decide +kernel
theorem dX11_operand_35 : decode cX11_operand 35 = .ok (.bipush 12, 2) := by decide +kernel
theorem dX11_operand_37 : decode cX11_operand 37 = .ok (.goto 5, 3) := by decide +kernel
theorem dX11_operand_40 : decode cX11_operand 40 = .ok (.bipush 13, 2) := by decide +kernel
theorem dX11_operand_42 : decode cX11_operand 42 = .ok (.iload_n 1, 1) := by decide +kernel
theorem dX11_operand_43 : decode cX11_operand 43 = .ok (.invokevirtual 445, 3) := by decide +kernel
theorem dX11_operand_46 : decode cX11_operand 46 = .ok (.istore_n 2, 1) := by decide +kernel
theorem dX11_operand_47 : decode cX11_operand 47 = .ok (.aload_n 0, 1) := by decide +kernel
theorem dX11_operand_48 : decode cX11_operand 48 = .ok (.invokevirtual 358, 3) := by decide +kernel
theorem dX11_operand_51 : decode cX11_operand 51 = .ok (.aload_n 0, 1) := by decide +kernel
theorem dX11_operand_52 : decode cX11_operand 52 = .ok (.invokevirtual 341, 3) := by decide +kernel
theorem dX11_operand_55 : decode cX11_operand 55 = .ok (.ifCond .eq 14, 3) := by decide +kernel
theorem dX11_operand_58 : decode cX11_operand 58 = .ok (.aload_n 0, 1) := by decide +kernel
theorem dX11_operand_59 : decode cX11_operand 59 = .ok (.invokevirtual 349, 3) := by decide +kernel
theorem dX11_operand_62 : decode cX11_operand 62 = .ok (.aload_n 0, 1) := by decide +kernel
theorem dX11_operand_63 : decode cX11_operand 63 = .ok (.bipush 15, 2) := by decide +kernel
theorem dX11_operand_65 : decode cX11_operand 65 = .ok (.iload_n 2, 1) := by decide +kernel
theorem dX11_operand_66 : decode cX11_operand 66 = .ok (.invokevirtual 395, 3) := by decide +kernel
theorem dX11_operand_69 : decode cX11_operand 69 = .ok (.goto 326, 3) := by decide +kernel
theorem dX11_operand_72 : decode cX11_operand 72 = .ok (.aload_n 0, 1) := by decide +kernel
theorem dX11_operand_73 : decode cX11_operand 73 = .ok (.invokevirtual 341, 3) := by decide +kernel
theorem dX11_operand_76 : decode cX11_operand 76 = .ok (.ifCond .eq 19, 3) := by decide +kernel
theorem dX11_operand_79 : decode cX11_operand 79 = .ok (.aload_n 0, 1) := by decide +kernel
theorem dX11_operand_80 : decode cX11_operand 80 = .ok (.getfield 309, 3) := by decide +kernel
theorem dX11_operand_83 : decode cX11_operand 83 = .ok (.iconst 3, 1) := by decide +kernel
theorem dX11_operand_84 : decode cX11_operand 84 = .ok (.if_icmp .ne 11, 3) := by decide +kernel
theorem dX11_operand_87 : decode cX11_operand 87 = .ok (.aload_n 0, 1) := by decide +kernel
theorem dX11_operand_88 : decode cX11_operand 88 = .ok (.iload_n 1, 1) := by decide +kernel
theorem dX11_operand_89 : decode cX11_operand 89 = .ok (.invokevirtual 452, 3) := by decide +kernel
theorem dX11_operand_92 : decode cX11_operand 92 = .ok (.goto 303, 3) := by decide +kernel
theorem dX11_operand_95 : decode cX11_operand 95 = .ok (.aload_n 0, 1) := by decide +kernel
theorem dX11_operand_96 : decode cX11_operand 96 = .ok (.bipush 6, 2) := by decide +kernel
theorem dX11_operand_98 : decode cX11_operand 98 = .ok (.invokevirtual 370, 3) := by decide +kernel
theorem dX11_operand_101 : decode cX11_operand 101 = .ok (.ifCond .ne 12, 3) := by decide +kernel
theorem dX11_operand_104 : decode cX11_operand 104 = .ok (.aload_n 0, 1) := by decide +kernel
theorem dX11_operand_105 : decode cX11_operand 105 = .ok (.bipush 7, 2) := by decide +kernel
theorem dX11_operand_107 : decode cX11_operand 107 = .ok (.invokevirtual 370, 3) := by decide +kernel
theorem dX11_operand_110 : decode cX11_operand 110 = .ok (.ifCond .eq 44, 3) := by decide +kernel
theorem dX11_operand_113 : decode cX11_operand 113 = .ok (.aload_n 0, 1) := by decide +kernel
theorem dX11_operand_114 : decode cX11_operand 114 = .ok (.iconst 1, 1) := by decide +kernel
theorem dX11_operand_115 : decode cX11_operand 115 = .ok (.iload_n 1, 1) := by decide +kernel
theorem dX11_operand_116 : decode cX11_operand 116 = .ok (.invokevirtual 445, 3) := by decide +kernel
theorem dX11_operand_119 : decode cX11_operand 119 = .ok (.istore_n 2, 1) := by decide +kernel
theorem dX11_operand_120 : decode cX11_operand 120 = .ok (.aload_n 0, 1) := by decide +kernel
theorem dX11_operand_121 : decode cX11_operand 121 = .ok (.getfield 95, 3) := by decide +kernel
theorem dX11_operand_124 : decode cX11_operand 124 = .ok (.iload_n 2, 1) := by decide +kernel
theorem dX11_operand_125 : decode cX11_operand 125 = .ok (.aload_n 0, 1) := by decide +kernel
theorem dX11_operand_126 : decode cX11_operand 126 = .ok (.getfield 305, 3) := by decide +kernel
theorem dX11_operand_129 : decode cX11_operand 129 = .ok (.ldc2_w 421, 3) := by decide +kernel
theorem dX11_operand_132 : decode cX11_operand 132 = .ok (.lcmp, 1) := by decide +kernel
theorem dX11_operand_133 : decode cX11_operand 133 = .ok (.ifCond .ne 7, 3) := by decide +kernel
theorem dX11_operand_136 : decode cX11_operand 136 = .ok (.iconst 1, 1) := by decide +kernel
theorem dX11_operand_137 : decode cX11_operand 137 = .ok (.goto 4, 3) := by decide +kernel
theorem dX11_operand_140 : decode cX11_operand 140 = .ok (.iconst 0, 1) := by decide +kernel
theorem dX11_operand_141 : decode cX11_operand 141 = .ok (.iastore, 1) := by decide +kernel
theorem dX11_operand_142 : decode cX11_operand 142 = .ok (.aload_n 0, 1) := by decide +kernel
theorem dX11_operand_143 : decode cX11_operand 143 = .ok (.invokevirtual 349, 3) := by decide +kernel
theorem dX11_operand_146 : decode cX11_operand 146 = .ok (.aload_n 0, 1) := by decide +kernel
theorem dX11_operand_147 : decode cX11_operand 147 = .ok (.iload_n 2, 1) := by decide +kernel
theorem dX11_operand_148 : decode cX11_operand 148 = .ok (.invokevirtual 455, 3) := by decide +kernel
theorem dX11_operand_151 : decode cX11_operand 151 = .ok (.goto 244, 3) := by decide +kernel
theorem dX11_operand_154 : decode cX11_operand 154 = .ok (.aload_n 0, 1) := by decide +kernel
theorem dX11_operand_155 : decode cX11_operand 155 = .ok (.invokevirtual 341, 3) := by decide +kernel
theorem dX11_operand_158 : decode cX11_operand 158 = .ok (.ifCond .eq 19, 3) := by decide +kernel
theorem dX11_operand_161 : decode cX11_operand 161 = .ok (.aload_n 0, 1) := by decide +kernel
theorem dX11_operand_162 : decode cX11_operand 162 = .ok (.getfield 309, 3) := by decide +kernel
theorem dX11_operand_165 : decode cX11_operand 165 = .ok (.iconst 1, 1) := by decide +kernel
theorem dX11_operand_166 : decode cX11_operand 166 = .ok (.if_icmp .ne 11, 3) := by decide +kernel
theorem dX11_operand_169 : decode cX11_operand 169 = .ok (.aload_n 0, 1) := by decide +kernel
theorem dX11_operand_170 : decode cX11_operand 170 = .ok (.iload_n 1, 1) := by decide +kernel
theorem dX11_operand_171 : decode cX11_operand 171 = .ok (.invokevirtual 458, 3) := by decide +kernel
theorem dX11_operand_174 : decode cX11_operand 174 = .ok (.goto 221, 3) := by decide +kernel
theorem dX11_operand_177 : decode cX11_operand 177 = .ok (.aload_n 0, 1) := by decide +kernel
theorem dX11_operand_178 : decode cX11_operand 178 = .ok (.bipush 91, 2) := by decide +kernel
theorem dX11_operand_180 : decode cX11_operand 180 = .ok (.invokevirtual 345, 3) := by decide +kernel
theorem dX11_operand_183 : decode cX11_operand 183 = .ok (.ifCond .eq 49, 3) := by decide +kernel
theorem dX11_operand_186 : decode cX11_operand 186 = .ok (.aload_n 0, 1) := by decide +kernel
theorem dX11_operand_187 : decode cX11_operand 187 = .ok (.iconst 4, 1) := by decide +kernel
theorem dX11_operand_188 : decode cX11_operand 188 = .ok (.iload_n 1, 1) := by decide +kernel
theorem dX11_operand_189 : decode cX11_operand 189 = .ok (.invokevirtual 445, 3) := by decide +kernel
theorem dX11_operand_192 : decode cX11_operand 192 = .ok (.istore_n 2, 1) := by decide +kernel
theorem dX11_operand_193 : decode cX11_operand 193 = .ok (.aload_n 0, 1) := by decide +kernel
theorem dX11_operand_194 : decode cX11_operand 194 = .ok (.bipush 91, 2) := by decide +kernel
theorem dX11_operand_196 : decode cX11_operand 196 = .ok (.invokevirtual 367, 3) := by decide +kernel
theorem dX11_operand_199 : decode cX11_operand 199 = .ok (.aload_n 0, 1) := by decide +kernel
theorem dX11_operand_200 : decode cX11_operand 200 = .ok (.bipush 93, 2) := by decide +kernel
theorem dX11_operand_202 : decode cX11_operand 202 = .ok (.invokevirtual 345, 3) := by decide +kernel
theorem dX11_operand_205 : decode cX11_operand 205 = .ok (.ifCond .eq 17, 3) := by decide +kernel
theorem dX11_operand_208 : decode cX11_operand 208 = .ok (.aload_n 0, 1) := by decide +kernel
theorem dX11_operand_209 : decode cX11_operand 209 = .ok (.bipush 93, 2) := by decide +kernel
theorem dX11_operand_211 : decode cX11_operand 211 = .ok (.invokevirtual 373, 3) := by decide +kernel
theorem dX11_operand_214 : decode cX11_operand 214 = .ok (.aload_n 0, 1) := by decide +kernel
theorem dX11_operand_215 : decode cX11_operand 215 = .ok (.iload_n 2, 1) := by decide +kernel
theorem dX11_operand_216 : decode cX11_operand 216 = .ok (.invokevirtual 455, 3) := by decide +kernel
theorem dX11_operand_219 : decode cX11_operand 219 = .ok (.goto 10, 3) := by decide +kernel
theorem dX11_operand_222 : decode cX11_operand 222 = .ok (.aload_n 0, 1) := by decide +kernel
theorem dX11_operand_223 : decode cX11_operand 223 = .ok (.bipush 8, 2) := by decide +kernel
theorem dX11_operand_225 : decode cX11_operand 225 = .ok (.iload_n 2, 1) := by decide +kernel
theorem dX11_operand_226 : decode cX11_operand 226 = .ok (.invokevirtual 461, 3) := by decide +kernel
theorem dX11_operand_229 : decode cX11_operand 229 = .ok (.goto 166, 3) := by decide +kernel
theorem dX11_operand_232 : decode cX11_operand 232 = .ok (.aload_n 0, 1) := by decide +kernel
theorem dX11_operand_233 : decode cX11_operand 233 = .ok (.bipush 8, 2) := by decide +kernel
theorem dX11_operand_235 : decode cX11_operand 235 = .ok (.invokevirtual 370, 3) := by decide +kernel
theorem dX11_operand_238 : decode cX11_operand 238 = .ok (.ifCond .ne 21, 3) := by decide +kernel
theorem dX11_operand_241 : decode cX11_operand 241 = .ok (.aload_n 0, 1) := by decide +kernel
theorem dX11_operand_242 : decode cX11_operand 242 = .ok (.bipush 9, 2) := by decide +kernel
theorem dX11_operand_244 : decode cX11_operand 244 = .ok (.invokevirtual 370, 3) := by decide +kernel
theorem dX11_operand_247 : decode cX11_operand 247 = .ok (.ifCond .ne 12, 3) := by decide +kernel
theorem dX11_operand_250 : decode cX11_operand 250 = .ok (.aload_n 0, 1) := by decide +kernel
theorem dX11_operand_251 : decode cX11_operand 251 = .ok (.bipush 10, 2) := by decide +kernel
theorem dX11_operand_253 : decode cX11_operand 253 = .ok (.invokevirtual 370, 3) := by decide +kernel
theorem dX11_operand_256 : decode cX11_operand 256 = .ok (.ifCond .eq 69, 3) := by decide +kernel
theorem dX11_operand_259 : decode cX11_operand 259 = .ok (.aload_n 0, 1) := by decide +kernel
theorem dX11_operand_260 : decode cX11_operand 260 = .ok (.getfield 305, 3) := by decide +kernel
theorem dX11_operand_263 : decode cX11_operand 263 = .ok (.l2i, 1) := by decide +kernel
theorem dX11_operand_264 : decode cX11_operand 264 = .ok (.istore_n 2, 1) := by decide +kernel
theorem dX11_operand_265 : decode cX11_operand 265 = .ok (.aload_n 0, 1) := by decide +kernel
theorem dX11_operand_266 : decode cX11_operand 266 = .ok (.iload_n 2, 1) := by decide +kernel
theorem dX11_operand_267 : decode cX11_operand 267 = .ok (.bipush 8, 2) := by decide +kernel
theorem dX11_operand_269 : decode cX11_operand 269 = .ok (.if_icmp .ne 7, 3) := by decide +kernel
theorem dX11_operand_272 : decode cX11_operand 272 = .ok (.iconst 5, 1) := by decide +kernel
theorem dX11_operand_273 : decode cX11_operand 273 = .ok (.goto 16, 3) := by decide +kernel
theorem dX11_operand_276 : decode cX11_operand 276 = .ok (.iload_n 2, 1) := by decide +kernel
theorem dX11_operand_277 : decode cX11_operand 277 = .ok (.bipush 9, 2) := by decide +kernel
theorem dX11_operand_279 : decode cX11_operand 279 = .ok (.if_icmp .ne 8, 3) := by decide +kernel
theorem dX11_operand_282 : decode cX11_operand 282 = .ok (.bipush 6, 2) := by decide +kernel
theorem dX11_operand_284 : decode cX11_operand 284 = .ok (.goto 5, 3) := by decide +kernel
theorem dX11_operand_287 : decode cX11_operand 287 = .ok (.bipush 7, 2) := by decide +kernel
theorem dX11_operand_289 : decode cX11_operand 289 = .ok (.iload_n 1, 1) := by decide +kernel
theorem dX11_operand_290 : decode cX11_operand 290 = .ok (.invokevirtual 445, 3) := by decide +kernel
theorem dX11_operand_293 : decode cX11_operand 293 = .ok (.istore_n 3, 1) := by decide +kernel
theorem dX11_operand_294 : decode cX11_operand 294 = .ok (.aload_n 0, 1) := by decide +kernel
theorem dX11_operand_295 : decode cX11_operand 295 = .ok (.invokevirtual 349, 3) := by decide +kernel
theorem dX11_operand_298 : decode cX11_operand 298 = .ok (.aload_n 0, 1) := by decide +kernel
theorem dX11_operand_299 : decode cX11_operand 299 = .ok (.bipush 40, 2) := by decide +kernel
theorem dX11_operand_301 : decode cX11_operand 301 = .ok (.invokevirtual 367, 3) := by decide +kernel
theorem dX11_operand_304 : decode cX11_operand 304 = .ok (.aload_n 0, 1) := by decide +kernel
theorem dX11_operand_305 : decode cX11_operand 305 = .ok (.iload_n 2, 1) := by decide +kernel
theorem dX11_operand_306 : decode cX11_operand 306 = .ok (.bipush 8, 2) := by decide +kernel
theorem dX11_operand_308 : decode cX11_operand 308 = .ok (.if_icmp .ne 8, 3) := by decide +kernel
theorem dX11_operand_311 : decode cX11_operand 311 = .ok (.bipush 9, 2) := by decide +kernel
theorem dX11_operand_313 : decode cX11_operand 313 = .ok (.goto 5, 3) := by decide +kernel
theorem dX11_operand_316 : decode cX11_operand 316 = .ok (.bipush 11, 2) := by decide +kernel
theorem dX11_operand_318 : decode cX11_operand 318 = .ok (.iload_n 3, 1) := by decide +kernel
theorem dX11_operand_319 : decode cX11_operand 319 = .ok (.invokevirtual 461, 3) := by decide +kernel
theorem dX11_operand_322 : decode cX11_operand 322 = .ok (.goto 73, 3) := by decide +kernel
theorem dX11_operand_325 : decode cX11_operand 325 = .ok (.aload_n 0, 1) := by decide +kernel
theorem dX11_operand_326 : decode cX11_operand 326 = .ok (.bipush 40, 2) := by decide +kernel
theorem dX11_operand_328 : decode cX11_operand 328 = .ok (.invokevirtual 345, 3) := by decide +kernel
theorem dX11_operand_331 : decode cX11_operand 331 = .ok (.ifCond .eq 27, 3) := by decide +kernel
theorem dX11_operand_334 : decode cX11_operand 334 = .ok (.aload_n 0, 1) := by decide +kernel
theorem dX11_operand_335 : decode cX11_operand 335 = .ok (.bipush 8, 2) := by decide +kernel
theorem dX11_operand_337 : decode cX11_operand 337 = .ok (.iload_n 1, 1) := by decide +kernel
theorem dX11_operand_338 : decode cX11_operand 338 = .ok (.invokevirtual 445, 3) := by decide +kernel
theorem dX11_operand_341 : decode cX11_operand 341 = .ok (.istore_n 2, 1) := by decide +kernel
theorem dX11_operand_342 : decode cX11_operand 342 = .ok (.aload_n 0, 1) := by decide +kernel
theorem dX11_operand_343 : decode cX11_operand 343 = .ok (.bipush 40, 2) := by decide +kernel
theorem dX11_operand_345 : decode cX11_operand 345 = .ok (.invokevirtual 367, 3) := by decide +kernel
theorem dX11_operand_348 : decode cX11_operand 348 = .ok (.aload_n 0, 1) := by decide +kernel
theorem dX11_operand_349 : decode cX11_operand 349 = .ok (.bipush 6, 2) := by decide +kernel
theorem dX11_operand_351 : decode cX11_operand 351 = .ok (.iload_n 2, 1) := by decide +kernel
theorem dX11_operand_352 : decode cX11_operand 352 = .ok (.invokevirtual 461, 3) := by decide +kernel
theorem dX11_operand_355 : decode cX11_operand 355 = .ok (.goto 40, 3) := by decide +kernel
theorem dX11_operand_358 : decode cX11_operand 358 = .ok (.aload_n 0, 1) := by decide +kernel
theorem dX11_operand_359 : decode cX11_operand 359 = .ok (.bipush 123, 2) := by decide +kernel
theorem dX11_operand_361 : decode cX11_operand 361 = .ok (.invokevirtual 345, 3) := by decide +kernel
theorem dX11_operand_364 : decode cX11_operand 364 = .ok (.ifCond .eq 27, 3) := by decide +kernel
theorem dX11_operand_367 : decode cX11_operand 367 = .ok (.aload_n 0, 1) := by decide +kernel
theorem dX11_operand_368 : decode cX11_operand 368 = .ok (.bipush 9, 2) := by decide +kernel
theorem dX11_operand_370 : decode cX11_operand 370 = .ok (.iload_n 1, 1) := by decide +kernel
theorem dX11_operand_371 : decode cX11_operand 371 = .ok (.invokevirtual 445, 3) := by decide +kernel
theorem dX11_operand_374 : decode cX11_operand 374 = .ok (.istore_n 2, 1) := by decide +kernel
theorem dX11_operand_375 : decode cX11_operand 375 = .ok (.aload_n 0, 1) := by decide +kernel
theorem dX11_operand_376 : decode cX11_operand 376 = .ok (.bipush 123, 2) := by decide +kernel
theorem dX11_operand_378 : decode cX11_operand 378 = .ok (.invokevirtual 367, 3) := by decide +kernel
theorem dX11_operand_381 : decode cX11_operand 381 = .ok (.aload_n 0, 1) := by decide +kernel
theorem dX11_operand_382 : decode cX11_operand 382 = .ok (.bipush 7, 2) := by decide +kernel
theorem dX11_operand_384 : decode cX11_operand 384 = .ok (.iload_n 2, 1) := by decide +kernel
theorem dX11_operand_385 : decode cX11_operand 385 = .ok (.invokevirtual 461, 3) := by decide +kernel
theorem dX11_operand_388 : decode cX11_operand 388 = .ok (.goto 7, 3) := by decide +kernel
theorem dX11_operand_391 : decode cX11_operand 391 = .ok (.aload_n 0, 1) := by decide +kernel
theorem dX11_operand_392 : decode cX11_operand 392 = .ok (.invokevirtual 352, 3) := by decide +kernel
theorem dX11_operand_395 : decode cX11_operand 395 = .ok (.return_, 1) := by decide +kernel
theorem k1393 : Cond.fieldLink "BlameCourtModel" 364 "BlameCourtModel" "givens" "I" ∈ gtb := gtm (in_tables_1_6 (List.mem_of_getElem? (i := 7) rfl)) rfl
theorem k1404 : Cond.fieldLink "BlameCourtModel" 386 "BlameCourtModel" "nodes" "I" ∈ gtb := gtm (in_tables_1_6 (List.mem_of_getElem? (i := 18) rfl)) rfl
theorem k1405 : Cond.fieldLink "BlameCourtModel" 77 "BlameCourtModel" "node" "[I" ∈ gtb := gtm (in_tables_1_6 (List.mem_of_getElem? (i := 19) rfl)) rfl
theorem k1406 : Cond.fieldLink "BlameCourtModel" 80 "BlameCourtModel" "first" "[I" ∈ gtb := gtm (in_tables_1_6 (List.mem_of_getElem? (i := 20) rfl)) rfl
theorem k1407 : Cond.fieldLink "BlameCourtModel" 83 "BlameCourtModel" "where" "[I" ∈ gtb := gtm (in_tables_1_6 (List.mem_of_getElem? (i := 21) rfl)) rfl
theorem k1408 : Cond.fieldLink "BlameCourtModel" 86 "BlameCourtModel" "a" "[I" ∈ gtb := gtm (in_tables_1_6 (List.mem_of_getElem? (i := 22) rfl)) rfl
theorem k1409 : Cond.fieldLink "BlameCourtModel" 89 "BlameCourtModel" "b" "[I" ∈ gtb := gtm (in_tables_1_6 (List.mem_of_getElem? (i := 23) rfl)) rfl
theorem k1410 : Cond.fieldLink "BlameCourtModel" 92 "BlameCourtModel" "c" "[I" ∈ gtb := gtm (in_tables_1_6 (List.mem_of_getElem? (i := 24) rfl)) rfl
theorem k1411 : Cond.fieldLink "BlameCourtModel" 95 "BlameCourtModel" "v" "[I" ∈ gtb := gtm (in_tables_1_6 (List.mem_of_getElem? (i := 25) rfl)) rfl
theorem k1412 : Cond.fieldLink "BlameCourtModel" 98 "BlameCourtModel" "many" "[I" ∈ gtb := gtm (in_tables_1_6 (List.mem_of_getElem? (i := 26) rfl)) rfl
theorem k1413 : Cond.fieldLink "BlameCourtModel" 101 "BlameCourtModel" "afte\x72" "[I" ∈ gtb := gtm (in_tables_1_6 (List.mem_of_getElem? (i := 27) rfl)) rfl
theorem k1414 : Cond.fieldLink "BlameCourtModel" 104 "BlameCourtModel" "unknown" "[J" ∈ gtb := gtm (in_tables_1_6 (List.mem_of_getElem? (i := 28) rfl)) rfl
theorem k1415 : Cond.fieldLink "BlameCourtModel" 392 "BlameCourtModel" "scope" "I" ∈ gtb := gtm (in_tables_1_6 (List.mem_of_getElem? (i := 29) rfl)) rfl
theorem k1416 : Cond.fieldLink "BlameCourtModel" 107 "BlameCourtModel" "scopeName" "[J" ∈ gtb := gtm (in_tables_1_6 (List.mem_of_getElem? (i := 30) rfl)) rfl
theorem k1420 : Cond.fieldLink "BlameCourtModel" 116 "BlameCourtModel" "openKind" "[I" ∈ gtb := gtm (in_tables_1_6 (List.mem_of_getElem? (i := 34) rfl)) rfl
theorem k1421 : Cond.fieldLink "BlameCourtModel" 119 "BlameCourtModel" "openFrom" "[I" ∈ gtb := gtm (in_tables_1_6 (List.mem_of_getElem? (i := 35) rfl)) rfl
theorem k1422 : Cond.fieldLink "BlameCourtModel" 389 "BlameCourtModel" "frames" "I" ∈ gtb := gtm (in_tables_1_6 (List.mem_of_getElem? (i := 36) rfl)) rfl
theorem k1423 : Cond.fieldLink "BlameCourtModel" 122 "BlameCourtModel" "frame" "[I" ∈ gtb := gtm (in_tables_1_6 (List.mem_of_getElem? (i := 37) rfl)) rfl
theorem k1424 : Cond.fieldLink "BlameCourtModel" 125 "BlameCourtModel" "frameNode" "[I" ∈ gtb := gtm (in_tables_1_6 (List.mem_of_getElem? (i := 38) rfl)) rfl
theorem k1425 : Cond.fieldLink "BlameCourtModel" 128 "BlameCourtModel" "frameLast" "[I" ∈ gtb := gtm (in_tables_1_6 (List.mem_of_getElem? (i := 39) rfl)) rfl
theorem k1426 : Cond.fieldLink "BlameCourtModel" 131 "BlameCourtModel" "frameScope" "[I" ∈ gtb := gtm (in_tables_1_6 (List.mem_of_getElem? (i := 40) rfl)) rfl
theorem k1427 : Cond.fieldLink "BlameCourtModel" 134 "BlameCourtModel" "chain" "[I" ∈ gtb := gtm (in_tables_1_6 (List.mem_of_getElem? (i := 41) rfl)) rfl
theorem k1428 : Cond.fieldLink "BlameCourtModel" 398 "BlameCourtModel" "mode" "I" ∈ gtb := gtm (in_tables_1_6 (List.mem_of_getElem? (i := 42) rfl)) rfl
theorem k1429 : Cond.fieldLink "BlameCourtModel" 401 "BlameCourtModel" "hand" "I" ∈ gtb := gtm (in_tables_1_6 (List.mem_of_getElem? (i := 43) rfl)) rfl
theorem k1820 : Cond.methodLink "BlameCourtModel" 367 yX11_opens ∈ gtb := gtm (in_tables_1_7 (List.mem_of_getElem? (i := 194) rfl)) rfl
theorem k1832 : Cond.methodLink "BlameCourtModel" 373 yX11_closes ∈ gtb := gtm (in_tables_1_7 (List.mem_of_getElem? (i := 206) rfl)) rfl
theorem k1844 : Cond.methodLink "BlameCourtModel" 449 yX11_kind ∈ gtb := gtm (in_tables_1_7 (List.mem_of_getElem? (i := 218) rfl)) rfl
theorem k1848 : Cond.methodLink "BlameCourtModel" 376 yX11_plainKind ∈ gtb := gtm (in_tables_1_7 (List.mem_of_getElem? (i := 222) rfl)) rfl
theorem k1852 : Cond.methodLink "BlameCourtModel" 380 yX11_rowOf ∈ gtb := gtm (in_tables_1_7 (List.mem_of_getElem? (i := 226) rfl)) rfl
theorem k1856 : Cond.methodLink "BlameCourtModel" 383 yX11_fifth ∈ gtb := gtm (in_tables_1_7 (List.mem_of_getElem? (i := 230) rfl)) rfl
theorem k1864 : Cond.methodLink "BlameCourtModel" 395 yX11_enter ∈ gtb := gtm (in_tables_1_7 (List.mem_of_getElem? (i := 238) rfl)) rfl
theorem k1872 : Cond.methodLink "BlameCourtModel" 439 yX11_isBeginning ∈ gtb := gtm (in_tables_1_8 (List.mem_of_getElem? (i := 6) rfl)) rfl
theorem k1876 : Cond.constantLong "BlameCourtModel" 419 3 ∈ gtb := gtm (in_tables_1_8 (List.mem_of_getElem? (i := 10) rfl)) rfl
theorem k1877 : Cond.constantLong "BlameCourtModel" 421 6 ∈ gtb := gtm (in_tables_1_8 (List.mem_of_getElem? (i := 11) rfl)) rfl
theorem k1878 : Cond.constantLong "BlameCourtModel" 423 7 ∈ gtb := gtm (in_tables_1_8 (List.mem_of_getElem? (i := 12) rfl)) rfl
theorem k1879 : Cond.constantLong "BlameCourtModel" 425 8 ∈ gtb := gtm (in_tables_1_8 (List.mem_of_getElem? (i := 13) rfl)) rfl
theorem k1880 : Cond.constantLong "BlameCourtModel" 427 9 ∈ gtb := gtm (in_tables_1_8 (List.mem_of_getElem? (i := 14) rfl)) rfl
theorem k1881 : Cond.constantLong "BlameCourtModel" 429 45 ∈ gtb := gtm (in_tables_1_8 (List.mem_of_getElem? (i := 15) rfl)) rfl
theorem k1882 : Cond.constantLong "BlameCourtModel" 431 33 ∈ gtb := gtm (in_tables_1_8 (List.mem_of_getElem? (i := 16) rfl)) rfl
theorem k1883 : Cond.constantLong "BlameCourtModel" 433 91 ∈ gtb := gtm (in_tables_1_8 (List.mem_of_getElem? (i := 17) rfl)) rfl
theorem k1884 : Cond.constantLong "BlameCourtModel" 435 40 ∈ gtb := gtm (in_tables_1_8 (List.mem_of_getElem? (i := 18) rfl)) rfl
theorem k1885 : Cond.constantLong "BlameCourtModel" 437 123 ∈ gtb := gtm (in_tables_1_8 (List.mem_of_getElem? (i := 19) rfl)) rfl
theorem k1886 : Cond.methodLink "BlameCourtModel" 442 yX11_beginsLet ∈ gtb := gtm (in_tables_1_8 (List.mem_of_getElem? (i := 20) rfl)) rfl
theorem k1890 : Cond.methodLink "BlameCourtModel" 445 yX11_make ∈ gtb := gtm (in_tables_1_8 (List.mem_of_getElem? (i := 24) rfl)) rfl
theorem k1898 : Cond.methodLink "BlameCourtModel" 452 yX11_number ∈ gtb := gtm (in_tables_1_8 (List.mem_of_getElem? (i := 32) rfl)) rfl
theorem k1902 : Cond.methodLink "BlameCourtModel" 455 yX11_done ∈ gtb := gtm (in_tables_1_8 (List.mem_of_getElem? (i := 36) rfl)) rfl
theorem k1906 : Cond.methodLink "BlameCourtModel" 458 yX11_named ∈ gtb := gtm (in_tables_1_8 (List.mem_of_getElem? (i := 40) rfl)) rfl
theorem k1910 : Cond.methodLink "BlameCourtModel" 461 yX11_opened ∈ gtb := gtm (in_tables_1_8 (List.mem_of_getElem? (i := 44) rfl)) rfl
theorem k1871 : Cond.code yX11_begins cX11_begins 4 none ∈ gtb := gtm (in_tables_1_8 (List.mem_of_getElem? (i := 5) rfl)) rfl
theorem ka_X11_begins : KA yX11_begins cX11_begins 4 none 0 := ⟨k1871, k197, by decide, by decide, by decide +kernel⟩
theorem k1870 : Cond.instanceMethod yX11_begins ∈ gtb := gtm (in_tables_1_8 (List.mem_of_getElem? (i := 4) rfl)) rfl
theorem k119 : Cond.selects "BlameCourtModel" yX11_begins yX11_begins ∈ gtb := gtm (in_lw_privs_8 (q := (yX11_begins, 129)) (List.mem_of_getElem? (i := 7) rfl)) rfl
theorem kv_X11_begins : KV yX11_begins := ⟨k1870, k119⟩
theorem k1889 : Cond.code yX11_beginsLet cX11_beginsLet 2 none ∈ gtb := gtm (in_tables_1_8 (List.mem_of_getElem? (i := 23) rfl)) rfl
theorem ka_X11_beginsLet : KA yX11_beginsLet cX11_beginsLet 2 none 0 := ⟨k1889, k197, by decide, by decide, by decide +kernel⟩
theorem k1888 : Cond.instanceMethod yX11_beginsLet ∈ gtb := gtm (in_tables_1_8 (List.mem_of_getElem? (i := 22) rfl)) rfl
theorem k121 : Cond.selects "BlameCourtModel" yX11_beginsLet yX11_beginsLet ∈ gtb := gtm (in_lw_privs_8 (q := (yX11_beginsLet, 129)) (List.mem_of_getElem? (i := 9) rfl)) rfl
theorem kv_X11_beginsLet : KV yX11_beginsLet := ⟨k1888, k121⟩
theorem k1917 : Cond.code yX11_behind cX11_behind 5 none ∈ gtb := gtm (in_tables_1_8 (List.mem_of_getElem? (i := 51) rfl)) rfl
theorem ka_X11_behind : KA yX11_behind cX11_behind 5 none 0 := ⟨k1917, k197, by decide, by decide, by decide +kernel⟩
theorem k1916 : Cond.instanceMethod yX11_behind ∈ gtb := gtm (in_tables_1_8 (List.mem_of_getElem? (i := 50) rfl)) rfl
theorem k128 : Cond.selects "BlameCourtModel" yX11_behind yX11_behind ∈ gtb := gtm (in_lw_privs_9 (q := (yX11_behind, 129)) (List.mem_of_getElem? (i := 0) rfl)) rfl
theorem kv_X11_behind : KV yX11_behind := ⟨k1916, k128⟩
theorem k1905 : Cond.code yX11_done cX11_done 2 none ∈ gtb := gtm (in_tables_1_8 (List.mem_of_getElem? (i := 39) rfl)) rfl
theorem ka_X11_done : KA yX11_done cX11_done 2 none 1 := ⟨k1905, k197, by decide, by decide, by decide +kernel⟩
theorem k1904 : Cond.instanceMethod yX11_done ∈ gtb := gtm (in_tables_1_8 (List.mem_of_getElem? (i := 38) rfl)) rfl
theorem k125 : Cond.selects "BlameCourtModel" yX11_done yX11_done ∈ gtb := gtm (in_lw_privs_8 (q := (yX11_done, 129)) (List.mem_of_getElem? (i := 13) rfl)) rfl
theorem kv_X11_done : KV yX11_done := ⟨k1904, k125⟩
theorem k1867 : Cond.code yX11_enter cX11_enter 3 none ∈ gtb := gtm (in_tables_1_8 (List.mem_of_getElem? (i := 1) rfl)) rfl
theorem ka_X11_enter : KA yX11_enter cX11_enter 3 none 2 := ⟨k1867, k197, by decide, by decide, by decide +kernel⟩
theorem k1866 : Cond.instanceMethod yX11_enter ∈ gtb := gtm (in_tables_1_8 (List.mem_of_getElem? (i := 0) rfl)) rfl
theorem k118 : Cond.selects "BlameCourtModel" yX11_enter yX11_enter ∈ gtb := gtm (in_lw_privs_8 (q := (yX11_enter, 129)) (List.mem_of_getElem? (i := 6) rfl)) rfl
theorem kv_X11_enter : KV yX11_enter := ⟨k1866, k118⟩
theorem k1859 : Cond.code yX11_fifth cX11_fifth 3 none ∈ gtb := gtm (in_tables_1_7 (List.mem_of_getElem? (i := 233) rfl)) rfl
theorem ka_X11_fifth : KA yX11_fifth cX11_fifth 3 none 1 := ⟨k1859, k197, by decide, by decide, by decide +kernel⟩
theorem k1858 : Cond.instanceMethod yX11_fifth ∈ gtb := gtm (in_tables_1_7 (List.mem_of_getElem? (i := 232) rfl)) rfl
theorem k116 : Cond.selects "BlameCourtModel" yX11_fifth yX11_fifth ∈ gtb := gtm (in_lw_privs_8 (q := (yX11_fifth, 129)) (List.mem_of_getElem? (i := 4) rfl)) rfl
theorem kv_X11_fifth : KV yX11_fifth := ⟨k1858, k116⟩
theorem k1875 : Cond.code yX11_isBeginning cX11_isBeginning 1 (some .boolean) ∈ gtb := gtm (in_tables_1_8 (List.mem_of_getElem? (i := 9) rfl)) rfl
theorem ka_X11_isBeginning : KA yX11_isBeginning cX11_isBeginning 1 (some .boolean) 0 := ⟨k1875, k197, by decide, by decide, by decide +kernel⟩
theorem k1874 : Cond.instanceMethod yX11_isBeginning ∈ gtb := gtm (in_tables_1_8 (List.mem_of_getElem? (i := 8) rfl)) rfl
theorem k120 : Cond.selects "BlameCourtModel" yX11_isBeginning yX11_isBeginning ∈ gtb := gtm (in_lw_privs_8 (q := (yX11_isBeginning, 129)) (List.mem_of_getElem? (i := 8) rfl)) rfl
theorem kv_X11_isBeginning : KV yX11_isBeginning := ⟨k1874, k120⟩
theorem k1847 : Cond.code yX11_kind cX11_kind 5 (some .int) ∈ gtb := gtm (in_tables_1_7 (List.mem_of_getElem? (i := 221) rfl)) rfl
theorem ka_X11_kind : KA yX11_kind cX11_kind 5 (some .int) 0 := ⟨k1847, k197, by decide, by decide, by decide +kernel⟩
theorem k1846 : Cond.instanceMethod yX11_kind ∈ gtb := gtm (in_tables_1_7 (List.mem_of_getElem? (i := 220) rfl)) rfl
theorem k113 : Cond.selects "BlameCourtModel" yX11_kind yX11_kind ∈ gtb := gtm (in_lw_privs_8 (q := (yX11_kind, 129)) (List.mem_of_getElem? (i := 1) rfl)) rfl
theorem kv_X11_kind : KV yX11_kind := ⟨k1846, k113⟩
theorem k1893 : Cond.code yX11_make cX11_make 4 (some .int) ∈ gtb := gtm (in_tables_1_8 (List.mem_of_getElem? (i := 27) rfl)) rfl
theorem ka_X11_make : KA yX11_make cX11_make 4 (some .int) 2 := ⟨k1893, k197, by decide, by decide, by decide +kernel⟩
theorem k1892 : Cond.instanceMethod yX11_make ∈ gtb := gtm (in_tables_1_8 (List.mem_of_getElem? (i := 26) rfl)) rfl
theorem k122 : Cond.selects "BlameCourtModel" yX11_make yX11_make ∈ gtb := gtm (in_lw_privs_8 (q := (yX11_make, 129)) (List.mem_of_getElem? (i := 10) rfl)) rfl
theorem kv_X11_make : KV yX11_make := ⟨k1892, k122⟩
theorem k1909 : Cond.code yX11_named cX11_named 4 none ∈ gtb := gtm (in_tables_1_8 (List.mem_of_getElem? (i := 43) rfl)) rfl
theorem ka_X11_named : KA yX11_named cX11_named 4 none 1 := ⟨k1909, k197, by decide, by decide, by decide +kernel⟩
theorem k1908 : Cond.instanceMethod yX11_named ∈ gtb := gtm (in_tables_1_8 (List.mem_of_getElem? (i := 42) rfl)) rfl
theorem k126 : Cond.selects "BlameCourtModel" yX11_named yX11_named ∈ gtb := gtm (in_lw_privs_8 (q := (yX11_named, 129)) (List.mem_of_getElem? (i := 14) rfl)) rfl
theorem kv_X11_named : KV yX11_named := ⟨k1908, k126⟩
theorem k1901 : Cond.code yX11_number cX11_number 3 none ∈ gtb := gtm (in_tables_1_8 (List.mem_of_getElem? (i := 35) rfl)) rfl
theorem ka_X11_number : KA yX11_number cX11_number 3 none 1 := ⟨k1901, k197, by decide, by decide, by decide +kernel⟩
theorem k1900 : Cond.instanceMethod yX11_number ∈ gtb := gtm (in_tables_1_8 (List.mem_of_getElem? (i := 34) rfl)) rfl
theorem k124 : Cond.selects "BlameCourtModel" yX11_number yX11_number ∈ gtb := gtm (in_lw_privs_8 (q := (yX11_number, 129)) (List.mem_of_getElem? (i := 12) rfl)) rfl
theorem kv_X11_number : KV yX11_number := ⟨k1900, k124⟩
theorem k1913 : Cond.code yX11_opened cX11_opened 3 none ∈ gtb := gtm (in_tables_1_8 (List.mem_of_getElem? (i := 47) rfl)) rfl
theorem ka_X11_opened : KA yX11_opened cX11_opened 3 none 2 := ⟨k1913, k197, by decide, by decide, by decide +kernel⟩
theorem k1912 : Cond.instanceMethod yX11_opened ∈ gtb := gtm (in_tables_1_8 (List.mem_of_getElem? (i := 46) rfl)) rfl
theorem k127 : Cond.selects "BlameCourtModel" yX11_opened yX11_opened ∈ gtb := gtm (in_lw_privs_8 (q := (yX11_opened, 129)) (List.mem_of_getElem? (i := 15) rfl)) rfl
theorem kv_X11_opened : KV yX11_opened := ⟨k1912, k127⟩
theorem k1897 : Cond.code yX11_operand cX11_operand 4 none ∈ gtb := gtm (in_tables_1_8 (List.mem_of_getElem? (i := 31) rfl)) rfl
theorem ka_X11_operand : KA yX11_operand cX11_operand 4 none 0 := ⟨k1897, k197, by decide, by decide, by decide +kernel⟩
theorem k1896 : Cond.instanceMethod yX11_operand ∈ gtb := gtm (in_tables_1_8 (List.mem_of_getElem? (i := 30) rfl)) rfl
theorem k123 : Cond.selects "BlameCourtModel" yX11_operand yX11_operand ∈ gtb := gtm (in_lw_privs_8 (q := (yX11_operand, 129)) (List.mem_of_getElem? (i := 11) rfl)) rfl
theorem kv_X11_operand : KV yX11_operand := ⟨k1896, k123⟩
abbrev R_fifth : Room := { frames := 14, cells := 0, slots := 0, locals := 210 }
noncomputable def f_fifth_50 (a1 : Int32) (b0 : Int32) (X : St) : Option (Int32 × St) :=
  if a1.toInt = 4 then
    if b0.toInt = 0 then
      some (0, X)
    else
      letV (X.1 0 6) fun x3 =>
      bnd (f_fails (3 : Int32) x3 X) fun _ X4 =>
      some (0, X4)
  else
    some (0, X)
set_option maxHeartbeats 4000000 in
set_option maxRecDepth 100000 in
theorem c_fifth_50 (Γ : Gx) (As : List Value) (a1 : Int32) (b0 : Int32) (X : St) : T YR Γ cX11_fifth 3 "BlameCourtModel" none R_fifth As qV 50 [(0, .ref (Γ.2.2.2.1 0)), (1, .int a1)] [.int b0] X (f_fifth_50 a1 b0 X) := by
  unfold f_fifth_50
  refine T.istore_n (lv1 := [(2, .int b0), (0, .ref (Γ.2.2.2.1 0)), (1, .int a1)]) dX11_fifth_50 rfl (by decide) rfl ?_
  refine T.iload_n dX11_fifth_51 rfl 2 rfl ?_
  refine T.iconst (w := 4) dX11_fifth_52 (by decide) ?_
  refine T.icmp_ne (pc1 := 69) dX11_fifth_53 (by decide) rfl ?_ ?_
  · exact T.ret_v rfl dX11_fifth_69
  · refine T.iload_n dX11_fifth_56 rfl 0 rfl ?_
    refine T.if_eq (pc1 := 69) dX11_fifth_57 (by decide) ?_ ?_
    · exact T.ret_v rfl dX11_fifth_69
    · refine T.aload_n dX11_fifth_60 rfl 1 rfl ?_
      refine T.iconst (w := 3) dX11_fifth_61 (by decide) ?_
      refine T.aload_n dX11_fifth_62 rfl 1 rfl ?_
      refine gR6 k1374 dX11_fifth_63 (fun x3 => ?_)
      refine T.callV_v 0 (As1 := [.int 3, .int x3]) (rest := []) (c_fails Γ (3 : Int32) x3 X) ka_X11_fails kv_X11_fails oR rfl k1812 rfl rfl rfl rfl ⟨Nat.le_of_ble_eq_true rfl, Nat.le_of_ble_eq_true rfl⟩ (Nat.le_of_ble_eq_true rfl) dX11_fifth_66 (fun _ X4 => ?_)
      exact T.ret_v rfl dX11_fifth_69
noncomputable def f_fifth_45 (a1 : Int32) (X : St) : Option (Int32 × St) :=
  f_fifth_50 a1 (1 : Int32) X
set_option maxHeartbeats 4000000 in
set_option maxRecDepth 100000 in
theorem c_fifth_45 (Γ : Gx) (As : List Value) (a1 : Int32) (X : St) : T YR Γ cX11_fifth 3 "BlameCourtModel" none R_fifth As qV 45 [(0, .ref (Γ.2.2.2.1 0)), (1, .int a1)] [] X (f_fifth_45 a1 X) := by
  unfold f_fifth_45
  refine T.iconst (w := 1) dX11_fifth_45 (by decide) ?_
  refine T.goto (pc1 := 50) dX11_fifth_46 (by decide) ?_
  exact c_fifth_50 Γ _ a1 (1 : Int32) X
noncomputable def f_fifth (p1 : Int32) (X : St) : Option (Int32 × St) :=
  bnd (f_isSign (91 : Int32) X) fun x1 X2 =>
  if x1.toInt = 0 then
    bnd (f_isWord (14 : Int32) X2) fun x5 X6 =>
    if x5.toInt = 0 then
      bnd (f_isWord (11 : Int32) X6) fun x7 X8 =>
      if x7.toInt = 0 then
        bnd (f_isWord (12 : Int32) X8) fun x9 X10 =>
        if x9.toInt = 0 then
          bnd (f_isWord (13 : Int32) X10) fun x11 X12 =>
          if x11.toInt = 0 then
            f_fifth_50 p1 (0 : Int32) X12
          else
            f_fifth_45 p1 X12
        else
          f_fifth_45 p1 X10
      else
        f_fifth_45 p1 X8
    else
      f_fifth_45 p1 X6
  else
    f_fifth_45 p1 X2
set_option maxHeartbeats 4000000 in
set_option maxRecDepth 100000 in
theorem c_fifth (Γ : Gx) (p1 : Int32) (X : St) : TMV YR Γ yX11_fifth cX11_fifth 3 "BlameCourtModel" none R_fifth [.ref (Γ.2.2.2.1 0), .int p1] X (f_fifth p1 X) := by
  refine TMV.of (by decide) (Nat.le_of_ble_eq_true rfl) rfl ?_
  show T YR Γ cX11_fifth 3 "BlameCourtModel" none R_fifth _ qV 0 [(0, .ref (Γ.2.2.2.1 0)), (1, .int p1)] [] X (f_fifth p1 X)
  unfold f_fifth
  refine T.aload_n dX11_fifth_0 rfl 0 rfl ?_
  refine T.bipush (w := 91) dX11_fifth_1 (by decide) ?_
  refine T.callV_i 0 (As1 := [.int 91]) (rest := []) (c_isSign Γ (91 : Int32) X) ka_X11_isSign kv_X11_isSign oR rfl k1824 rfl rfl rfl rfl ⟨Nat.le_of_ble_eq_true rfl, Nat.le_of_ble_eq_true rfl⟩ (Nat.le_of_ble_eq_true rfl) dX11_fifth_3 (fun x1 X2 => ?_)
  refine T.if_ne (pc1 := 45) dX11_fifth_6 (by decide) ?_ ?_
  · exact c_fifth_45 Γ _ p1 X2
  · refine T.aload_n dX11_fifth_9 rfl 0 rfl ?_
    refine T.bipush (w := 14) dX11_fifth_10 (by decide) ?_
    refine T.callV_i 0 (As1 := [.int 14]) (rest := []) (c_isWord Γ (14 : Int32) X2) ka_X11_isWord kv_X11_isWord oR rfl k1804 rfl rfl rfl rfl ⟨Nat.le_of_ble_eq_true rfl, Nat.le_of_ble_eq_true rfl⟩ (Nat.le_of_ble_eq_true rfl) dX11_fifth_12 (fun x5 X6 => ?_)
    refine T.if_ne (pc1 := 45) dX11_fifth_15 (by decide) ?_ ?_
    · exact c_fifth_45 Γ _ p1 X6
    · refine T.aload_n dX11_fifth_18 rfl 0 rfl ?_
      refine T.bipush (w := 11) dX11_fifth_19 (by decide) ?_
      refine T.callV_i 0 (As1 := [.int 11]) (rest := []) (c_isWord Γ (11 : Int32) X6) ka_X11_isWord kv_X11_isWord oR rfl k1804 rfl rfl rfl rfl ⟨Nat.le_of_ble_eq_true rfl, Nat.le_of_ble_eq_true rfl⟩ (Nat.le_of_ble_eq_true rfl) dX11_fifth_21 (fun x7 X8 => ?_)
      refine T.if_ne (pc1 := 45) dX11_fifth_24 (by decide) ?_ ?_
      · exact c_fifth_45 Γ _ p1 X8
      · refine T.aload_n dX11_fifth_27 rfl 0 rfl ?_
        refine T.bipush (w := 12) dX11_fifth_28 (by decide) ?_
        refine T.callV_i 0 (As1 := [.int 12]) (rest := []) (c_isWord Γ (12 : Int32) X8) ka_X11_isWord kv_X11_isWord oR rfl k1804 rfl rfl rfl rfl ⟨Nat.le_of_ble_eq_true rfl, Nat.le_of_ble_eq_true rfl⟩ (Nat.le_of_ble_eq_true rfl) dX11_fifth_30 (fun x9 X10 => ?_)
        refine T.if_ne (pc1 := 45) dX11_fifth_33 (by decide) ?_ ?_
        · exact c_fifth_45 Γ _ p1 X10
        · refine T.aload_n dX11_fifth_36 rfl 0 rfl ?_
          refine T.bipush (w := 13) dX11_fifth_37 (by decide) ?_
          refine T.callV_i 0 (As1 := [.int 13]) (rest := []) (c_isWord Γ (13 : Int32) X10) ka_X11_isWord kv_X11_isWord oR rfl k1804 rfl rfl rfl rfl ⟨Nat.le_of_ble_eq_true rfl, Nat.le_of_ble_eq_true rfl⟩ (Nat.le_of_ble_eq_true rfl) dX11_fifth_39 (fun x11 X12 => ?_)
          refine T.if_eq (pc1 := 49) dX11_fifth_42 (by decide) ?_ ?_
          · refine T.iconst (w := 0) dX11_fifth_49 (by decide) ?_
            exact c_fifth_50 Γ _ p1 (0 : Int32) X12
          · exact c_fifth_45 Γ _ p1 X12
abbrev R_kind : Room := { frames := 30, cells := 0, slots := 0, locals := 450 }
noncomputable def f_kind_346 (a2 : Int32) (X : St) : Option (Int32 × St) :=
  if 0 ≤ a2.toInt then
    some (a2, X)
  else
    some (2, X)
set_option maxHeartbeats 4000000 in
set_option maxRecDepth 100000 in
theorem c_kind_346 (Γ : Gx) (As : List Value) (a2 : Int32) (X : St) : T YR Γ cX11_kind 5 "BlameCourtModel" (some .int) R_kind As qI 346 [(2, .int a2)] [] X (f_kind_346 a2 X) := by
  unfold f_kind_346
  refine T.iload_n dX11_kind_346 rfl 0 rfl ?_
  refine T.if_ge (pc1 := 354) dX11_kind_347 (by decide) ?_ ?_
  · refine T.iload_n dX11_kind_354 rfl 0 rfl ?_
    exact T.ret_i rfl dX11_kind_355
  · refine T.iconst (w := 2) dX11_kind_350 (by decide) ?_
    refine T.goto (pc1 := 355) dX11_kind_351 (by decide) ?_
    exact T.ret_i rfl dX11_kind_355
noncomputable def f_kind_343 (r11 : Int32 → Int32 → Int32 → St → Option (Int32 × St)) (a1 : Int32) (a2 : Int32) (a3 : Int32) (X : St) : Option (Int32 × St) :=
  r11 a1 a2 a3 X
set_option maxHeartbeats 4000000 in
set_option maxRecDepth 100000 in
theorem c_kind_343 (Γ : Gx) (As : List Value) (r11 : Int32 → Int32 → Int32 → St → Option (Int32 × St)) (hr11 : ∀ (a1 : Int32) (a2 : Int32) (a3 : Int32) (X : St), T YR Γ cX11_kind 5 "BlameCourtModel" (some .int) R_kind As qI 11 [(0, .ref (Γ.2.2.2.1 0)), (1, .int a1), (2, .int a2), (3, .int a3)] [] X (r11 a1 a2 a3 X)) (a1 : Int32) (a2 : Int32) (a3 : Int32) (X : St) : T YR Γ cX11_kind 5 "BlameCourtModel" (some .int) R_kind As qI 343 [(0, .ref (Γ.2.2.2.1 0)), (1, .int a1), (2, .int a2), (3, .int a3)] [] X (f_kind_343 r11 a1 a2 a3 X) := by
  unfold f_kind_343
  refine T.goto (pc1 := 11) dX11_kind_343 (by decide) ?_
  exact hr11 a1 a2 a3 X
noncomputable def f_kind_185 (r11 : Int32 → Int32 → Int32 → St → Option (Int32 × St)) (a1 : Int32) (a3 : Int32) (b0 : Int32) (X : St) : Option (Int32 × St) :=
  letV (a1 + Int32.ofInt (-1)) fun x41 =>
  f_kind_343 r11 x41 b0 a3 X
set_option maxHeartbeats 4000000 in
set_option maxRecDepth 100000 in
theorem c_kind_185 (Γ : Gx) (As : List Value) (r11 : Int32 → Int32 → Int32 → St → Option (Int32 × St)) (hr11 : ∀ (a1 : Int32) (a2 : Int32) (a3 : Int32) (X : St), T YR Γ cX11_kind 5 "BlameCourtModel" (some .int) R_kind As qI 11 [(0, .ref (Γ.2.2.2.1 0)), (1, .int a1), (2, .int a2), (3, .int a3)] [] X (r11 a1 a2 a3 X)) (a1 : Int32) (a3 : Int32) (b0 : Int32) (X : St) : T YR Γ cX11_kind 5 "BlameCourtModel" (some .int) R_kind As qI 185 [(0, .ref (Γ.2.2.2.1 0)), (1, .int a1), (3, .int a3)] [.int b0] X (f_kind_185 r11 a1 a3 b0 X) := by
  unfold f_kind_185
  refine T.istore_n (lv1 := [(2, .int b0), (0, .ref (Γ.2.2.2.1 0)), (1, .int a1), (3, .int a3)]) dX11_kind_185 rfl (by decide) rfl ?_
  refine T.iinc dX11_kind_186 2 rfl (by decide) (lvf := fun x41 => [(1, .int x41), (2, .int b0), (0, .ref (Γ.2.2.2.1 0)), (3, .int a3)]) (fun _ => rfl) (fun x41 => ?_)
  refine T.goto (pc1 := 343) dX11_kind_189 (by decide) ?_
  refine T.sub [2, 0, 1, 3] rfl ?_
  exact c_kind_343 Γ _ r11 hr11 x41 b0 a3 X
noncomputable def f_kind_84 (r11 : Int32 → Int32 → Int32 → St → Option (Int32 × St)) (a1 : Int32) (a2 : Int32) (a3 : Int32) (X : St) : Option (Int32 × St) :=
  chk (inR a1 100) (letV (wI X 33 (ix a1) (1 : Int32)) fun X53 =>
  letV (X53.1 0 17) fun x54 =>
  chk (inR a1 100) (letV (wI X53 34 (ix a1) x54) fun X55 =>
  letV (a1 + Int32.ofInt (1)) fun x56 =>
  bnd (f_isSign (41 : Int32) X55) fun x57 X58 =>
  if x57.toInt = 0 then
    r11 x56 a2 a3 X58
  else
    bnd (f_closes (41 : Int32) X58) fun _ X59 =>
    letV (x56 - (1 : Int32)) fun x60 =>
    chk (inR x60 100) (letV (wI X59 33 (ix x60) (2 : Int32)) fun X61 =>
    r11 x56 a2 a3 X61)))
set_option maxHeartbeats 4000000 in
set_option maxRecDepth 100000 in
theorem c_kind_84 (Γ : Gx) (As : List Value) (r11 : Int32 → Int32 → Int32 → St → Option (Int32 × St)) (hr11 : ∀ (a1 : Int32) (a2 : Int32) (a3 : Int32) (X : St), T YR Γ cX11_kind 5 "BlameCourtModel" (some .int) R_kind As qI 11 [(0, .ref (Γ.2.2.2.1 0)), (1, .int a1), (2, .int a2), (3, .int a3)] [] X (r11 a1 a2 a3 X)) (a1 : Int32) (a2 : Int32) (a3 : Int32) (X : St) : T YR Γ cX11_kind 5 "BlameCourtModel" (some .int) R_kind As qI 84 [(0, .ref (Γ.2.2.2.1 0)), (1, .int a1), (2, .int a2), (3, .int a3)] [] X (f_kind_84 r11 a1 a2 a3 X) := by
  unfold f_kind_84
  refine T.aload_n dX11_kind_84 rfl 0 rfl ?_
  refine cR80 k1420 dX11_kind_85 ?_
  refine T.iload_n dX11_kind_88 rfl 1 rfl ?_
  refine T.iconst (w := 1) dX11_kind_89 (by decide) ?_
  refine asR33 dX11_kind_90 (fun X53 => ?_)
  refine T.aload_n dX11_kind_91 rfl 0 rfl ?_
  refine cR81 k1421 dX11_kind_92 ?_
  refine T.iload_n dX11_kind_95 rfl 1 rfl ?_
  refine T.aload_n dX11_kind_96 rfl 0 rfl ?_
  refine gR17 k1393 dX11_kind_97 (fun x54 => ?_)
  refine asR34 dX11_kind_100 (fun X55 => ?_)
  refine T.iinc dX11_kind_101 1 rfl (by decide) (lvf := fun x56 => [(1, .int x56), (0, .ref (Γ.2.2.2.1 0)), (2, .int a2), (3, .int a3)]) (fun _ => rfl) (fun x56 => ?_)
  refine T.aload_n dX11_kind_104 rfl 1 rfl ?_
  refine T.bipush (w := 41) dX11_kind_105 (by decide) ?_
  refine T.callV_i 0 (As1 := [.int 41]) (rest := []) (c_isSign Γ (41 : Int32) X55) ka_X11_isSign kv_X11_isSign oR rfl k1824 rfl rfl rfl rfl ⟨Nat.le_of_ble_eq_true rfl, Nat.le_of_ble_eq_true rfl⟩ (Nat.le_of_ble_eq_true rfl) dX11_kind_107 (fun x57 X58 => ?_)
  refine T.if_eq (pc1 := 11) dX11_kind_110 (by decide) ?_ ?_
  · refine T.sub [1, 0, 2, 3] rfl ?_
    exact hr11 x56 a2 a3 X58
  · refine T.aload_n dX11_kind_113 rfl 1 rfl ?_
    refine T.bipush (w := 41) dX11_kind_114 (by decide) ?_
    refine T.callV_v 0 (As1 := [.int 41]) (rest := []) (c_closes Γ (41 : Int32) X58) ka_X11_closes kv_X11_closes oR rfl k1832 rfl rfl rfl rfl ⟨Nat.le_of_ble_eq_true rfl, Nat.le_of_ble_eq_true rfl⟩ (Nat.le_of_ble_eq_true rfl) dX11_kind_116 (fun _ X59 => ?_)
    refine T.aload_n dX11_kind_119 rfl 1 rfl ?_
    refine cR80 k1420 dX11_kind_120 ?_
    refine T.iload_n dX11_kind_123 rfl 0 rfl ?_
    refine T.iconst (w := 1) dX11_kind_124 (by decide) ?_
    refine T.isub dX11_kind_125 (fun x60 => ?_)
    refine T.iconst (w := 2) dX11_kind_126 (by decide) ?_
    refine asR33 dX11_kind_127 (fun X61 => ?_)
    refine T.goto (pc1 := 11) dX11_kind_128 (by decide) ?_
    refine T.sub [1, 0, 2, 3] rfl ?_
    exact hr11 x56 a2 a3 X61
noncomputable def f_kind_11_s (r11 : Int32 → Int32 → Int32 → St → Option (Int32 × St)) (a1 : Int32) (a2 : Int32) (a3 : Int32) (X : St) : Option (Int32 × St) :=
  bnd (f_isWell X) fun x2 X3 =>
  if x2.toInt = 0 then
    f_kind_346 a2 X3
  else
    if a3.toInt = 0 then
      if 0 ≤ a2.toInt then
        if a1.toInt = 0 then
          r11 a1 a2 (1 : Int32) X3
        else
          letV (a1 - (1 : Int32)) fun x4 =>
          chk (inR x4 100) (letV (X3.1 33 (ix x4)) fun x5 =>
          if x5.toInt = 0 then
            bnd (f_closes (93 : Int32) X3) fun _ X38 =>
            bnd (f_isWell X38) fun x39 X40 =>
            if x39.toInt = 0 then
              f_kind_185 r11 a1 a3 a2 X40
            else
              bnd (f_rowOf a2 X40) fun x42 X43 =>
              f_kind_185 r11 a1 a3 x42 X43
          else
            chk (inR x4 100) (letV (X3.1 33 (ix x4)) fun x6 =>
            if x6.toInt = 1 then
              letV (X3.1 0 17) fun x24 =>
              chk (inR x24 3100) (letV (wI X3 10 (ix x24) a2) fun X25 =>
              letV (X25.1 0 17) fun x26 =>
              letV (x26 + (1 : Int32)) fun x27 =>
              letV (wI X25 0 17 x27) fun X28 =>
              bnd (f_isSign (44 : Int32) X28) fun x29 X30 =>
              if x29.toInt = 0 then
                bnd (f_closes (41 : Int32) X30) fun _ X31 =>
                chk (inR x4 100) (letV (wI X31 33 (ix x4) (2 : Int32)) fun X32 =>
                f_kind_343 r11 a1 (-1 : Int32) a3 X32)
              else
                bnd (f_next X30) fun _ X33 =>
                letV (X33.1 0 17) fun x34 =>
                chk (inR x4 100) (letV (X33.1 34 (ix x4)) fun x35 =>
                letV (x34 - x35) fun x36 =>
                bnd (f_fifth x36 X33) fun _ X37 =>
                f_kind_343 r11 a1 (-1 : Int32) a3 X37))
            else
              letV (X3.1 0 17) fun x7 =>
              chk (inR x7 3100) (letV (wI X3 10 (ix x7) a2) fun X8 =>
              letV (X8.1 0 17) fun x9 =>
              letV (x9 + (1 : Int32)) fun x10 =>
              letV (wI X8 0 17 x10) fun X11 =>
              letV (X11.1 0 21) fun x12 =>
              letV (x12 - (1 : Int32)) fun x13 =>
              letV (wI X11 0 21 x13) fun X14 =>
              chk (inR x4 100) (letV (X14.1 34 (ix x4)) fun x15 =>
              letV (X14.1 0 17) fun x16 =>
              chk (inR x4 100) (letV (X14.1 34 (ix x4)) fun x17 =>
              letV (x16 - x17) fun x18 =>
              bnd (f_kindOf (5 : Int32) x15 x18 X14) fun x19 X20 =>
              chk (inR x4 100) (letV (X20.1 34 (ix x4)) fun x21 =>
              letV (wI X20 0 17 x21) fun X22 =>
              letV (a1 + Int32.ofInt (-1)) fun x23 =>
              f_kind_343 r11 x23 x19 a3 X22))))))
      else
        bnd (f_isSign (91 : Int32) X3) fun x44 X45 =>
        if x44.toInt = 0 then
          bnd (f_isWord (14 : Int32) X45) fun x46 X47 =>
          if x46.toInt = 0 then
            bnd (f_plainKind X47) fun x48 X49 =>
            r11 a1 x48 a3 X49
          else
            bnd (f_nests X47) fun _ X50 =>
            bnd (f_isWell X50) fun x51 X52 =>
            if x51.toInt = 0 then
              f_kind_84 r11 a1 a2 a3 X52
            else
              bnd (f_next X52) fun _ X62 =>
              bnd (f_opens (40 : Int32) X62) fun _ X63 =>
              f_kind_84 r11 a1 a2 a3 X63
        else
          bnd (f_opens (91 : Int32) X45) fun _ X64 =>
          chk (inR a1 100) (letV (wI X64 33 (ix a1) (0 : Int32)) fun X65 =>
          letV (a1 + Int32.ofInt (1)) fun x66 =>
          r11 x66 a2 a3 X65)
    else
      f_kind_346 a2 X3
noncomputable def f_kind_11 (n : Nat) : Int32 → Int32 → Int32 → St → Option (Int32 × St) := lp (fun _ _ _ _ => none) (f_kind_11_s) n
set_option maxHeartbeats 4000000 in
set_option maxRecDepth 100000 in
theorem c_kind_11 (Γ : Gx) (As : List Value) (n : Nat) : ∀ (a1 : Int32) (a2 : Int32) (a3 : Int32) (X : St), T YR Γ cX11_kind 5 "BlameCourtModel" (some .int) R_kind As qI 11 [(0, .ref (Γ.2.2.2.1 0)), (1, .int a1), (2, .int a2), (3, .int a3)] [] X (f_kind_11 n a1 a2 a3 X) := by
  unfold f_kind_11
  refine lp_ind (P := fun (r11 : Int32 → Int32 → Int32 → St → Option (Int32 × St)) => ∀ (a1 : Int32) (a2 : Int32) (a3 : Int32) (X : St), T YR Γ cX11_kind 5 "BlameCourtModel" (some .int) R_kind As qI 11 [(0, .ref (Γ.2.2.2.1 0)), (1, .int a1), (2, .int a2), (3, .int a3)] [] X (r11 a1 a2 a3 X)) (fun _ _ _ _ => T.no) ?_ n
  intro r11 hr11 a1 a2 a3 X
  unfold f_kind_11_s
  refine T.aload_n dX11_kind_11 rfl 0 rfl ?_
  refine T.callV_i 0 (As1 := []) (rest := []) (c_isWell Γ X) ka_X11_isWell kv_X11_isWell oR rfl k1800 rfl rfl rfl rfl ⟨Nat.le_of_ble_eq_true rfl, Nat.le_of_ble_eq_true rfl⟩ (Nat.le_of_ble_eq_true rfl) dX11_kind_12 (fun x2 X3 => ?_)
  refine T.if_eq (pc1 := 346) dX11_kind_15 (by decide) ?_ ?_
  · refine T.sub [2] rfl ?_
    exact c_kind_346 Γ _ a2 X3
  · refine T.iload_n dX11_kind_18 rfl 3 rfl ?_
    refine T.if_ne (pc1 := 346) dX11_kind_19 (by decide) ?_ ?_
    · refine T.sub [2] rfl ?_
      exact c_kind_346 Γ _ a2 X3
    · refine T.iload_n dX11_kind_22 rfl 2 rfl ?_
      refine T.if_ge (pc1 := 139) dX11_kind_23 (by decide) ?_ ?_
      · refine T.iload_n dX11_kind_139 rfl 1 rfl ?_
        refine T.if_ne (pc1 := 148) dX11_kind_140 (by decide) ?_ ?_
        · refine T.iload_n dX11_kind_148 rfl 1 rfl ?_
          refine T.iconst (w := 1) dX11_kind_149 (by decide) ?_
          refine T.isub dX11_kind_150 (fun x4 => ?_)
          refine T.istore (lv1 := [(4, .int x4), (0, .ref (Γ.2.2.2.1 0)), (1, .int a1), (2, .int a2), (3, .int a3)]) dX11_kind_151 (by decide) rfl ?_
          refine T.aload_n dX11_kind_153 rfl 1 rfl ?_
          refine cR80 k1420 dX11_kind_154 ?_
          refine T.iload dX11_kind_157 0 rfl ?_
          refine alR33 dX11_kind_159 (fun x5 => ?_)
          refine T.if_ne (pc1 := 192) dX11_kind_160 (by decide) ?_ ?_
          · refine T.aload_n dX11_kind_192 rfl 1 rfl ?_
            refine cR80 k1420 dX11_kind_193 ?_
            refine T.iload dX11_kind_196 0 rfl ?_
            refine alR33 dX11_kind_198 (fun x6 => ?_)
            refine T.iconst (w := 1) dX11_kind_199 (by decide) ?_
            refine T.icmp_ne (pc1 := 274) dX11_kind_200 (by decide) rfl ?_ ?_
            · refine T.aload_n dX11_kind_274 rfl 1 rfl ?_
              refine cR57 k1392 dX11_kind_275 ?_
              refine T.aload_n dX11_kind_278 rfl 1 rfl ?_
              refine gR17 k1393 dX11_kind_279 (fun x7 => ?_)
              refine T.iload_n dX11_kind_282 rfl 3 rfl ?_
              refine asR10 dX11_kind_283 (fun X8 => ?_)
              refine T.aload_n dX11_kind_284 rfl 1 rfl ?_
              refine T.dupr dX11_kind_285 ?_
              refine gR17 k1393 dX11_kind_286 (fun x9 => ?_)
              refine T.iconst (w := 1) dX11_kind_289 (by decide) ?_
              refine T.iadd dX11_kind_290 (fun x10 => ?_)
              refine pR17 k1393 dX11_kind_291 (fun X11 => ?_)
              refine T.aload_n dX11_kind_294 rfl 1 rfl ?_
              refine T.dupr dX11_kind_295 ?_
              refine gR21 k1419 dX11_kind_296 (fun x12 => ?_)
              refine T.iconst (w := 1) dX11_kind_299 (by decide) ?_
              refine T.isub dX11_kind_300 (fun x13 => ?_)
              refine pR21 k1419 dX11_kind_301 (fun X14 => ?_)
              refine T.aload_n dX11_kind_304 rfl 1 rfl ?_
              refine T.iconst (w := 5) dX11_kind_305 (by decide) ?_
              refine T.aload_n dX11_kind_306 rfl 1 rfl ?_
              refine cR81 k1421 dX11_kind_307 ?_
              refine T.iload dX11_kind_310 0 rfl ?_
              refine alR34 dX11_kind_312 (fun x15 => ?_)
              refine T.aload_n dX11_kind_313 rfl 1 rfl ?_
              refine gR17 k1393 dX11_kind_314 (fun x16 => ?_)
              refine T.aload_n dX11_kind_317 rfl 1 rfl ?_
              refine cR81 k1421 dX11_kind_318 ?_
              refine T.iload dX11_kind_321 0 rfl ?_
              refine alR34 dX11_kind_323 (fun x17 => ?_)
              refine T.isub dX11_kind_324 (fun x18 => ?_)
              refine T.callV_i 0 (As1 := [.int 5, .int x15, .int x18]) (rest := []) (c_kindOf Γ (5 : Int32) x15 x18 X14) ka_X11_kindOf kv_X11_kindOf oR rfl k1361 rfl rfl rfl rfl ⟨Nat.le_of_ble_eq_true rfl, Nat.le_of_ble_eq_true rfl⟩ (Nat.le_of_ble_eq_true rfl) dX11_kind_325 (fun x19 X20 => ?_)
              refine T.istore_n (lv1 := [(2, .int x19), (4, .int x4), (0, .ref (Γ.2.2.2.1 0)), (1, .int a1), (3, .int a3)]) dX11_kind_328 rfl (by decide) rfl ?_
              refine T.aload_n dX11_kind_329 rfl 2 rfl ?_
              refine T.aload_n dX11_kind_330 rfl 2 rfl ?_
              refine cR81 k1421 dX11_kind_331 ?_
              refine T.iload dX11_kind_334 1 rfl ?_
              refine alR34 dX11_kind_336 (fun x21 => ?_)
              refine pR17 k1393 dX11_kind_337 (fun X22 => ?_)
              refine T.iinc dX11_kind_340 3 rfl (by decide) (lvf := fun x23 => [(1, .int x23), (2, .int x19), (4, .int x4), (0, .ref (Γ.2.2.2.1 0)), (3, .int a3)]) (fun _ => rfl) (fun x23 => ?_)
              refine T.sub [3, 0, 1, 4] rfl ?_
              exact c_kind_343 Γ _ r11 hr11 x23 x19 a3 X22
            · refine T.aload_n dX11_kind_203 rfl 1 rfl ?_
              refine cR57 k1392 dX11_kind_204 ?_
              refine T.aload_n dX11_kind_207 rfl 1 rfl ?_
              refine gR17 k1393 dX11_kind_208 (fun x24 => ?_)
              refine T.iload_n dX11_kind_211 rfl 3 rfl ?_
              refine asR10 dX11_kind_212 (fun X25 => ?_)
              refine T.aload_n dX11_kind_213 rfl 1 rfl ?_
              refine T.dupr dX11_kind_214 ?_
              refine gR17 k1393 dX11_kind_215 (fun x26 => ?_)
              refine T.iconst (w := 1) dX11_kind_218 (by decide) ?_
              refine T.iadd dX11_kind_219 (fun x27 => ?_)
              refine pR17 k1393 dX11_kind_220 (fun X28 => ?_)
              refine T.iconst (w := (-1)) dX11_kind_223 (by decide) ?_
              refine T.istore_n (lv1 := [(2, .int (-1)), (4, .int x4), (0, .ref (Γ.2.2.2.1 0)), (1, .int a1), (3, .int a3)]) dX11_kind_224 rfl (by decide) rfl ?_
              refine T.aload_n dX11_kind_225 rfl 2 rfl ?_
              refine T.bipush (w := 44) dX11_kind_226 (by decide) ?_
              refine T.callV_i 0 (As1 := [.int 44]) (rest := []) (c_isSign Γ (44 : Int32) X28) ka_X11_isSign kv_X11_isSign oR rfl k1824 rfl rfl rfl rfl ⟨Nat.le_of_ble_eq_true rfl, Nat.le_of_ble_eq_true rfl⟩ (Nat.le_of_ble_eq_true rfl) dX11_kind_228 (fun x29 X30 => ?_)
              refine T.if_eq (pc1 := 257) dX11_kind_231 (by decide) ?_ ?_
              · refine T.aload_n dX11_kind_257 rfl 2 rfl ?_
                refine T.bipush (w := 41) dX11_kind_258 (by decide) ?_
                refine T.callV_v 0 (As1 := [.int 41]) (rest := []) (c_closes Γ (41 : Int32) X30) ka_X11_closes kv_X11_closes oR rfl k1832 rfl rfl rfl rfl ⟨Nat.le_of_ble_eq_true rfl, Nat.le_of_ble_eq_true rfl⟩ (Nat.le_of_ble_eq_true rfl) dX11_kind_260 (fun _ X31 => ?_)
                refine T.aload_n dX11_kind_263 rfl 2 rfl ?_
                refine cR80 k1420 dX11_kind_264 ?_
                refine T.iload dX11_kind_267 1 rfl ?_
                refine T.iconst (w := 2) dX11_kind_269 (by decide) ?_
                refine asR33 dX11_kind_270 (fun X32 => ?_)
                refine T.goto (pc1 := 343) dX11_kind_271 (by decide) ?_
                refine T.sub [2, 3, 0, 4] rfl ?_
                exact c_kind_343 Γ _ r11 hr11 a1 (-1 : Int32) a3 X32
              · refine T.aload_n dX11_kind_234 rfl 2 rfl ?_
                refine T.callV_v 0 (As1 := []) (rest := []) (c_next Γ X30) ka_X11_next kv_X11_next oR rfl k1776 rfl rfl rfl rfl ⟨Nat.le_of_ble_eq_true rfl, Nat.le_of_ble_eq_true rfl⟩ (Nat.le_of_ble_eq_true rfl) dX11_kind_235 (fun _ X33 => ?_)
                refine T.aload_n dX11_kind_238 rfl 2 rfl ?_
                refine T.aload_n dX11_kind_239 rfl 2 rfl ?_
                refine gR17 k1393 dX11_kind_240 (fun x34 => ?_)
                refine T.aload_n dX11_kind_243 rfl 2 rfl ?_
                refine cR81 k1421 dX11_kind_244 ?_
                refine T.iload dX11_kind_247 1 rfl ?_
                refine alR34 dX11_kind_249 (fun x35 => ?_)
                refine T.isub dX11_kind_250 (fun x36 => ?_)
                refine T.callV_v 0 (As1 := [.int x36]) (rest := []) (c_fifth Γ x36 X33) ka_X11_fifth kv_X11_fifth oR rfl k1856 rfl rfl rfl rfl ⟨Nat.le_of_ble_eq_true rfl, Nat.le_of_ble_eq_true rfl⟩ (Nat.le_of_ble_eq_true rfl) dX11_kind_251 (fun _ X37 => ?_)
                refine T.goto (pc1 := 343) dX11_kind_254 (by decide) ?_
                refine T.sub [2, 3, 0, 4] rfl ?_
                exact c_kind_343 Γ _ r11 hr11 a1 (-1 : Int32) a3 X37
          · refine T.aload_n dX11_kind_163 rfl 1 rfl ?_
            refine T.bipush (w := 93) dX11_kind_164 (by decide) ?_
            refine T.callV_v 0 (As1 := [.int 93]) (rest := []) (c_closes Γ (93 : Int32) X3) ka_X11_closes kv_X11_closes oR rfl k1832 rfl rfl rfl rfl ⟨Nat.le_of_ble_eq_true rfl, Nat.le_of_ble_eq_true rfl⟩ (Nat.le_of_ble_eq_true rfl) dX11_kind_166 (fun _ X38 => ?_)
            refine T.aload_n dX11_kind_169 rfl 1 rfl ?_
            refine T.callV_i 0 (As1 := []) (rest := []) (c_isWell Γ X38) ka_X11_isWell kv_X11_isWell oR rfl k1800 rfl rfl rfl rfl ⟨Nat.le_of_ble_eq_true rfl, Nat.le_of_ble_eq_true rfl⟩ (Nat.le_of_ble_eq_true rfl) dX11_kind_170 (fun x39 X40 => ?_)
            refine T.if_eq (pc1 := 184) dX11_kind_173 (by decide) ?_ ?_
            · refine T.iload_n dX11_kind_184 rfl 3 rfl ?_
              refine T.sub [1, 2, 4] rfl ?_
              exact c_kind_185 Γ _ r11 hr11 a1 a3 a2 X40
            · refine T.aload_n dX11_kind_176 rfl 1 rfl ?_
              refine T.iload_n dX11_kind_177 rfl 3 rfl ?_
              refine T.callV_i 0 (As1 := [.int a2]) (rest := []) (c_rowOf Γ a2 X40) ka_X11_rowOf kv_X11_rowOf oR rfl k1852 rfl rfl rfl rfl ⟨Nat.le_of_ble_eq_true rfl, Nat.le_of_ble_eq_true rfl⟩ (Nat.le_of_ble_eq_true rfl) dX11_kind_178 (fun x42 X43 => ?_)
              refine T.goto (pc1 := 185) dX11_kind_181 (by decide) ?_
              refine T.sub [1, 2, 4] rfl ?_
              exact c_kind_185 Γ _ r11 hr11 a1 a3 x42 X43
        · refine T.iconst (w := 1) dX11_kind_143 (by decide) ?_
          refine T.istore_n (lv1 := [(3, .int 1), (0, .ref (Γ.2.2.2.1 0)), (1, .int a1), (2, .int a2)]) dX11_kind_144 rfl (by decide) rfl ?_
          refine T.goto (pc1 := 11) dX11_kind_145 (by decide) ?_
          refine T.sub [1, 2, 3, 0] rfl ?_
          exact hr11 a1 a2 (1 : Int32) X3
      · refine T.aload_n dX11_kind_26 rfl 0 rfl ?_
        refine T.bipush (w := 91) dX11_kind_27 (by decide) ?_
        refine T.callV_i 0 (As1 := [.int 91]) (rest := []) (c_isSign Γ (91 : Int32) X3) ka_X11_isSign kv_X11_isSign oR rfl k1824 rfl rfl rfl rfl ⟨Nat.le_of_ble_eq_true rfl, Nat.le_of_ble_eq_true rfl⟩ (Nat.le_of_ble_eq_true rfl) dX11_kind_29 (fun x44 X45 => ?_)
        refine T.if_eq (pc1 := 54) dX11_kind_32 (by decide) ?_ ?_
        · refine T.aload_n dX11_kind_54 rfl 0 rfl ?_
          refine T.bipush (w := 14) dX11_kind_55 (by decide) ?_
          refine T.callV_i 0 (As1 := [.int 14]) (rest := []) (c_isWord Γ (14 : Int32) X45) ka_X11_isWord kv_X11_isWord oR rfl k1804 rfl rfl rfl rfl ⟨Nat.le_of_ble_eq_true rfl, Nat.le_of_ble_eq_true rfl⟩ (Nat.le_of_ble_eq_true rfl) dX11_kind_57 (fun x46 X47 => ?_)
          refine T.if_eq (pc1 := 131) dX11_kind_60 (by decide) ?_ ?_
          · refine T.aload_n dX11_kind_131 rfl 0 rfl ?_
            refine T.callV_i 0 (As1 := []) (rest := []) (c_plainKind Γ X47) ka_X11_plainKind kv_X11_plainKind oR rfl k1848 rfl rfl rfl rfl ⟨Nat.le_of_ble_eq_true rfl, Nat.le_of_ble_eq_true rfl⟩ (Nat.le_of_ble_eq_true rfl) dX11_kind_132 (fun x48 X49 => ?_)
            refine T.istore_n (lv1 := [(2, .int x48), (0, .ref (Γ.2.2.2.1 0)), (1, .int a1), (3, .int a3)]) dX11_kind_135 rfl (by decide) rfl ?_
            refine T.goto (pc1 := 11) dX11_kind_136 (by decide) ?_
            refine T.sub [1, 2, 0, 3] rfl ?_
            exact hr11 a1 x48 a3 X49
          · refine T.aload_n dX11_kind_63 rfl 0 rfl ?_
            refine T.callV_v 0 (As1 := []) (rest := []) (c_nests Γ X47) ka_X11_nests kv_X11_nests oR rfl k1828 rfl rfl rfl rfl ⟨Nat.le_of_ble_eq_true rfl, Nat.le_of_ble_eq_true rfl⟩ (Nat.le_of_ble_eq_true rfl) dX11_kind_64 (fun _ X50 => ?_)
            refine T.aload_n dX11_kind_67 rfl 0 rfl ?_
            refine T.callV_i 0 (As1 := []) (rest := []) (c_isWell Γ X50) ka_X11_isWell kv_X11_isWell oR rfl k1800 rfl rfl rfl rfl ⟨Nat.le_of_ble_eq_true rfl, Nat.le_of_ble_eq_true rfl⟩ (Nat.le_of_ble_eq_true rfl) dX11_kind_68 (fun x51 X52 => ?_)
            refine T.if_eq (pc1 := 84) dX11_kind_71 (by decide) ?_ ?_
            · exact c_kind_84 Γ _ r11 hr11 a1 a2 a3 X52
            · refine T.aload_n dX11_kind_74 rfl 0 rfl ?_
              refine T.callV_v 0 (As1 := []) (rest := []) (c_next Γ X52) ka_X11_next kv_X11_next oR rfl k1776 rfl rfl rfl rfl ⟨Nat.le_of_ble_eq_true rfl, Nat.le_of_ble_eq_true rfl⟩ (Nat.le_of_ble_eq_true rfl) dX11_kind_75 (fun _ X62 => ?_)
              refine T.aload_n dX11_kind_78 rfl 0 rfl ?_
              refine T.bipush (w := 40) dX11_kind_79 (by decide) ?_
              refine T.callV_v 0 (As1 := [.int 40]) (rest := []) (c_opens Γ (40 : Int32) X62) ka_X11_opens kv_X11_opens oR rfl k1820 rfl rfl rfl rfl ⟨Nat.le_of_ble_eq_true rfl, Nat.le_of_ble_eq_true rfl⟩ (Nat.le_of_ble_eq_true rfl) dX11_kind_81 (fun _ X63 => ?_)
              exact c_kind_84 Γ _ r11 hr11 a1 a2 a3 X63
        · refine T.aload_n dX11_kind_35 rfl 0 rfl ?_
          refine T.bipush (w := 91) dX11_kind_36 (by decide) ?_
          refine T.callV_v 0 (As1 := [.int 91]) (rest := []) (c_opens Γ (91 : Int32) X45) ka_X11_opens kv_X11_opens oR rfl k1820 rfl rfl rfl rfl ⟨Nat.le_of_ble_eq_true rfl, Nat.le_of_ble_eq_true rfl⟩ (Nat.le_of_ble_eq_true rfl) dX11_kind_38 (fun _ X64 => ?_)
          refine T.aload_n dX11_kind_41 rfl 0 rfl ?_
          refine cR80 k1420 dX11_kind_42 ?_
          refine T.iload_n dX11_kind_45 rfl 1 rfl ?_
          refine T.iconst (w := 0) dX11_kind_46 (by decide) ?_
          refine asR33 dX11_kind_47 (fun X65 => ?_)
          refine T.iinc dX11_kind_48 1 rfl (by decide) (lvf := fun x66 => [(1, .int x66), (0, .ref (Γ.2.2.2.1 0)), (2, .int a2), (3, .int a3)]) (fun _ => rfl) (fun x66 => ?_)
          refine T.goto (pc1 := 11) dX11_kind_51 (by decide) ?_
          refine T.sub [1, 0, 2, 3] rfl ?_
          exact hr11 x66 a2 a3 X65
noncomputable def f_kind (X : St) : Option (Int32 × St) :=
  letV (wI X 0 17 ((0 : Int32))) fun X1 =>
  f_kind_11 BIG (0 : Int32) (-1 : Int32) (0 : Int32) X1
set_option maxHeartbeats 4000000 in
set_option maxRecDepth 100000 in
theorem c_kind (Γ : Gx) (X : St) : TMI YR Γ yX11_kind cX11_kind 5 "BlameCourtModel" (some .int) R_kind [.ref (Γ.2.2.2.1 0)] X (f_kind X) := by
  refine TMI.of (by decide) (Nat.le_of_ble_eq_true rfl) rfl ?_
  show T YR Γ cX11_kind 5 "BlameCourtModel" (some .int) R_kind _ qI 0 [(0, .ref (Γ.2.2.2.1 0))] [] X (f_kind X)
  unfold f_kind
  refine T.iconst (w := 0) dX11_kind_0 (by decide) ?_
  refine T.istore_n (lv1 := [(1, .int 0), (0, .ref (Γ.2.2.2.1 0))]) dX11_kind_1 rfl (by decide) rfl ?_
  refine T.iconst (w := (-1)) dX11_kind_2 (by decide) ?_
  refine T.istore_n (lv1 := [(2, .int (-1)), (1, .int 0), (0, .ref (Γ.2.2.2.1 0))]) dX11_kind_3 rfl (by decide) rfl ?_
  refine T.aload_n dX11_kind_4 rfl 2 rfl ?_
  refine T.iconst (w := 0) dX11_kind_5 (by decide) ?_
  refine pR17 k1393 dX11_kind_6 (fun X1 => ?_)
  refine T.iconst (w := 0) dX11_kind_9 (by decide) ?_
  refine T.istore_n (lv1 := [(3, .int 0), (2, .int (-1)), (1, .int 0), (0, .ref (Γ.2.2.2.1 0))]) dX11_kind_10 rfl (by decide) rfl ?_
  refine T.sub [3, 2, 1, 0] rfl ?_
  exact c_kind_11 Γ _ BIG (0 : Int32) (-1 : Int32) (0 : Int32) X1
abbrev R_make : Room := { frames := 6, cells := 0, slots := 0, locals := 90 }
noncomputable def f_make (p1 : Int32) (p2 : Int32) (X : St) : Option (Int32 × St) :=
  letV (X.1 0 19) fun x1 =>
  letV (X.1 0 19) fun x2 =>
  letV (x2 + (1 : Int32)) fun x3 =>
  letV (wI X 0 19 x3) fun X4 =>
  chk (inR x1 3100) (letV (wI X4 20 (ix x1) p1) fun X5 =>
  chk (inR x1 3100) (letV (wI X5 21 (ix x1) p2) fun X6 =>
  chk (inR x1 3100) (letV (wI X6 22 (ix x1) p2) fun X7 =>
  chk (inR x1 3100) (letV (wI X7 23 (ix x1) (-1 : Int32)) fun X8 =>
  chk (inR x1 3100) (letV (wI X8 24 (ix x1) (-1 : Int32)) fun X9 =>
  chk (inR x1 3100) (letV (wI X9 25 (ix x1) (-1 : Int32)) fun X10 =>
  chk (inR x1 3100) (letV (wI X10 26 (ix x1) (0 : Int32)) fun X11 =>
  chk (inR x1 3100) (letV (wI X11 27 (ix x1) (0 : Int32)) fun X12 =>
  chk (inR x1 3100) (letV (wI X12 28 (ix x1) (-1 : Int32)) fun X13 =>
  chk (inR x1 3100) (letV (wL X13 29 (ix x1) (0 : Int64)) fun X14 =>
  chk (inR x1 3100) (letV (wI X14 39 (ix x1) (0 : Int32)) fun X15 =>
  some (x1, X15))))))))))))
set_option maxHeartbeats 4000000 in
set_option maxRecDepth 100000 in
theorem c_make (Γ : Gx) (p1 : Int32) (p2 : Int32) (X : St) : TMI YR Γ yX11_make cX11_make 4 "BlameCourtModel" (some .int) R_make [.ref (Γ.2.2.2.1 0), .int p1, .int p2] X (f_make p1 p2 X) := by
  refine TMI.of (by decide) (Nat.le_of_ble_eq_true rfl) rfl ?_
  show T YR Γ cX11_make 4 "BlameCourtModel" (some .int) R_make _ qI 0 [(0, .ref (Γ.2.2.2.1 0)), (1, .int p1), (2, .int p2)] [] X (f_make p1 p2 X)
  unfold f_make
  refine T.aload_n dX11_make_0 rfl 0 rfl ?_
  refine gR19 k1404 dX11_make_1 (fun x1 => ?_)
  refine T.istore_n (lv1 := [(3, .int x1), (0, .ref (Γ.2.2.2.1 0)), (1, .int p1), (2, .int p2)]) dX11_make_4 rfl (by decide) rfl ?_
  refine T.aload_n dX11_make_5 rfl 1 rfl ?_
  refine T.dupr dX11_make_6 ?_
  refine gR19 k1404 dX11_make_7 (fun x2 => ?_)
  refine T.iconst (w := 1) dX11_make_10 (by decide) ?_
  refine T.iadd dX11_make_11 (fun x3 => ?_)
  refine pR19 k1404 dX11_make_12 (fun X4 => ?_)
  refine T.aload_n dX11_make_15 rfl 1 rfl ?_
  refine cR67 k1405 dX11_make_16 ?_
  refine T.iload_n dX11_make_19 rfl 0 rfl ?_
  refine T.iload_n dX11_make_20 rfl 2 rfl ?_
  refine asR20 dX11_make_21 (fun X5 => ?_)
  refine T.aload_n dX11_make_22 rfl 1 rfl ?_
  refine cR68 k1406 dX11_make_23 ?_
  refine T.iload_n dX11_make_26 rfl 0 rfl ?_
  refine T.iload_n dX11_make_27 rfl 3 rfl ?_
  refine asR21 dX11_make_28 (fun X6 => ?_)
  refine T.aload_n dX11_make_29 rfl 1 rfl ?_
  refine cR69 k1407 dX11_make_30 ?_
  refine T.iload_n dX11_make_33 rfl 0 rfl ?_
  refine T.iload_n dX11_make_34 rfl 3 rfl ?_
  refine asR22 dX11_make_35 (fun X7 => ?_)
  refine T.aload_n dX11_make_36 rfl 1 rfl ?_
  refine cR70 k1408 dX11_make_37 ?_
  refine T.iload_n dX11_make_40 rfl 0 rfl ?_
  refine T.iconst (w := (-1)) dX11_make_41 (by decide) ?_
  refine asR23 dX11_make_42 (fun X8 => ?_)
  refine T.aload_n dX11_make_43 rfl 1 rfl ?_
  refine cR71 k1409 dX11_make_44 ?_
  refine T.iload_n dX11_make_47 rfl 0 rfl ?_
  refine T.iconst (w := (-1)) dX11_make_48 (by decide) ?_
  refine asR24 dX11_make_49 (fun X9 => ?_)
  refine T.aload_n dX11_make_50 rfl 1 rfl ?_
  refine cR72 k1410 dX11_make_51 ?_
  refine T.iload_n dX11_make_54 rfl 0 rfl ?_
  refine T.iconst (w := (-1)) dX11_make_55 (by decide) ?_
  refine asR25 dX11_make_56 (fun X10 => ?_)
  refine T.aload_n dX11_make_57 rfl 1 rfl ?_
  refine cR73 k1411 dX11_make_58 ?_
  refine T.iload_n dX11_make_61 rfl 0 rfl ?_
  refine T.iconst (w := 0) dX11_make_62 (by decide) ?_
  refine asR26 dX11_make_63 (fun X11 => ?_)
  refine T.aload_n dX11_make_64 rfl 1 rfl ?_
  refine cR74 k1412 dX11_make_65 ?_
  refine T.iload_n dX11_make_68 rfl 0 rfl ?_
  refine T.iconst (w := 0) dX11_make_69 (by decide) ?_
  refine asR27 dX11_make_70 (fun X12 => ?_)
  refine T.aload_n dX11_make_71 rfl 1 rfl ?_
  refine cR75 k1413 dX11_make_72 ?_
  refine T.iload_n dX11_make_75 rfl 0 rfl ?_
  refine T.iconst (w := (-1)) dX11_make_76 (by decide) ?_
  refine asR28 dX11_make_77 (fun X13 => ?_)
  refine T.aload_n dX11_make_78 rfl 1 rfl ?_
  refine cR76 k1414 dX11_make_79 ?_
  refine T.iload_n dX11_make_82 rfl 0 rfl ?_
  refine T.lconst (w := 0) dX11_make_83 (by decide) ?_
  refine asR29 dX11_make_84 (fun X14 => ?_)
  refine T.aload_n dX11_make_85 rfl 1 rfl ?_
  refine cR86 k1427 dX11_make_86 ?_
  refine T.iload_n dX11_make_89 rfl 0 rfl ?_
  refine T.iconst (w := 0) dX11_make_90 (by decide) ?_
  refine asR39 dX11_make_91 (fun X15 => ?_)
  refine T.iload_n dX11_make_92 rfl 0 rfl ?_
  exact T.ret_i rfl dX11_make_93
abbrev R_enter : Room := { frames := 6, cells := 0, slots := 0, locals := 90 }
noncomputable def f_enter (p1 : Int32) (p2 : Int32) (X : St) : Option (Int32 × St) :=
  letV (X.1 0 22) fun x1 =>
  chk (inR x1 400) (letV (wI X 35 (ix x1) p1) fun X2 =>
  letV (X2.1 0 22) fun x3 =>
  chk (inR x3 400) (letV (wI X2 36 (ix x3) p2) fun X4 =>
  letV (X4.1 0 22) fun x5 =>
  chk (inR x5 400) (letV (wI X4 37 (ix x5) (-1 : Int32)) fun X6 =>
  letV (X6.1 0 22) fun x7 =>
  letV (X6.1 0 20) fun x8 =>
  chk (inR x7 400) (letV (wI X6 38 (ix x7) x8) fun X9 =>
  letV (X9.1 0 22) fun x10 =>
  letV (x10 + (1 : Int32)) fun x11 =>
  letV (wI X9 0 22 x11) fun X12 =>
  some (0, X12)))))
set_option maxHeartbeats 4000000 in
set_option maxRecDepth 100000 in
theorem c_enter (Γ : Gx) (p1 : Int32) (p2 : Int32) (X : St) : TMV YR Γ yX11_enter cX11_enter 3 "BlameCourtModel" none R_enter [.ref (Γ.2.2.2.1 0), .int p1, .int p2] X (f_enter p1 p2 X) := by
  refine TMV.of (by decide) (Nat.le_of_ble_eq_true rfl) rfl ?_
  show T YR Γ cX11_enter 3 "BlameCourtModel" none R_enter _ qV 0 [(0, .ref (Γ.2.2.2.1 0)), (1, .int p1), (2, .int p2)] [] X (f_enter p1 p2 X)
  unfold f_enter
  refine T.aload_n dX11_enter_0 rfl 0 rfl ?_
  refine cR82 k1423 dX11_enter_1 ?_
  refine T.aload_n dX11_enter_4 rfl 0 rfl ?_
  refine gR22 k1422 dX11_enter_5 (fun x1 => ?_)
  refine T.iload_n dX11_enter_8 rfl 1 rfl ?_
  refine asR35 dX11_enter_9 (fun X2 => ?_)
  refine T.aload_n dX11_enter_10 rfl 0 rfl ?_
  refine cR83 k1424 dX11_enter_11 ?_
  refine T.aload_n dX11_enter_14 rfl 0 rfl ?_
  refine gR22 k1422 dX11_enter_15 (fun x3 => ?_)
  refine T.iload_n dX11_enter_18 rfl 2 rfl ?_
  refine asR36 dX11_enter_19 (fun X4 => ?_)
  refine T.aload_n dX11_enter_20 rfl 0 rfl ?_
  refine cR84 k1425 dX11_enter_21 ?_
  refine T.aload_n dX11_enter_24 rfl 0 rfl ?_
  refine gR22 k1422 dX11_enter_25 (fun x5 => ?_)
  refine T.iconst (w := (-1)) dX11_enter_28 (by decide) ?_
  refine asR37 dX11_enter_29 (fun X6 => ?_)
  refine T.aload_n dX11_enter_30 rfl 0 rfl ?_
  refine cR85 k1426 dX11_enter_31 ?_
  refine T.aload_n dX11_enter_34 rfl 0 rfl ?_
  refine gR22 k1422 dX11_enter_35 (fun x7 => ?_)
  refine T.aload_n dX11_enter_38 rfl 0 rfl ?_
  refine gR20 k1415 dX11_enter_39 (fun x8 => ?_)
  refine asR38 dX11_enter_42 (fun X9 => ?_)
  refine T.aload_n dX11_enter_43 rfl 0 rfl ?_
  refine T.dupr dX11_enter_44 ?_
  refine gR22 k1422 dX11_enter_45 (fun x10 => ?_)
  refine T.iconst (w := 1) dX11_enter_48 (by decide) ?_
  refine T.iadd dX11_enter_49 (fun x11 => ?_)
  refine pR22 k1422 dX11_enter_50 (fun X12 => ?_)
  exact T.ret_v rfl dX11_enter_53
abbrev R_isBeginning : Room := { frames := 6, cells := 0, slots := 0, locals := 90 }
noncomputable def f_isBeginning (X : St) : Option (Int32 × St) :=
  letV (X.1 0 7) fun x1 =>
  if x1.toInt = 3 then
    some (1, X)
  else
    letV (X.1 0 7) fun x2 =>
    if x2.toInt = 1 then
      some (1, X)
    else
      letV (X.1 0 7) fun x3 =>
      if x3.toInt = 2 then
        letV (X.2.1 0 47) fun y15 =>
        letV (lg_cmp y15 (1 : Int64)) fun x16 =>
        if x16.toInt = 0 then
          some (1, X)
        else
          letV (X.2.1 0 47) fun y17 =>
          letV (lg_cmp y17 (3 : Int64)) fun x18 =>
          if x18.toInt = 0 then
            some (1, X)
          else
            letV (X.2.1 0 47) fun y19 =>
            letV (lg_cmp y19 (6 : Int64)) fun x20 =>
            if x20.toInt = 0 then
              some (1, X)
            else
              letV (X.2.1 0 47) fun y21 =>
              letV (lg_cmp y21 (7 : Int64)) fun x22 =>
              if x22.toInt = 0 then
                some (1, X)
              else
                letV (X.2.1 0 47) fun y23 =>
                letV (lg_cmp y23 (8 : Int64)) fun x24 =>
                if x24.toInt = 0 then
                  some (1, X)
                else
                  letV (X.2.1 0 47) fun y25 =>
                  letV (lg_cmp y25 (9 : Int64)) fun x26 =>
                  if x26.toInt = 0 then
                    some (1, X)
                  else
                    letV (X.2.1 0 47) fun y27 =>
                    letV (lg_cmp y27 (10 : Int64)) fun x28 =>
                    if x28.toInt = 0 then
                      some (1, X)
                    else
                      some (0, X)
      else
        letV (X.1 0 7) fun x4 =>
        if x4.toInt = 4 then
          letV (X.2.1 0 47) fun y5 =>
          letV (lg_cmp y5 (45 : Int64)) fun x6 =>
          if x6.toInt = 0 then
            some (1, X)
          else
            letV (X.2.1 0 47) fun y7 =>
            letV (lg_cmp y7 (33 : Int64)) fun x8 =>
            if x8.toInt = 0 then
              some (1, X)
            else
              letV (X.2.1 0 47) fun y9 =>
              letV (lg_cmp y9 (91 : Int64)) fun x10 =>
              if x10.toInt = 0 then
                some (1, X)
              else
                letV (X.2.1 0 47) fun y11 =>
                letV (lg_cmp y11 (40 : Int64)) fun x12 =>
                if x12.toInt = 0 then
                  some (1, X)
                else
                  letV (X.2.1 0 47) fun y13 =>
                  letV (lg_cmp y13 (123 : Int64)) fun x14 =>
                  if x14.toInt = 0 then
                    some (1, X)
                  else
                    some (0, X)
        else
          some (0, X)
set_option maxHeartbeats 4000000 in
set_option maxRecDepth 100000 in
theorem c_isBeginning (Γ : Gx) (X : St) : TMI YR Γ yX11_isBeginning cX11_isBeginning 1 "BlameCourtModel" (some .boolean) R_isBeginning [.ref (Γ.2.2.2.1 0)] X (f_isBeginning X) := by
  refine TMI.of (by decide) (Nat.le_of_ble_eq_true rfl) rfl ?_
  show T YR Γ cX11_isBeginning 1 "BlameCourtModel" (some .boolean) R_isBeginning _ qI 0 [(0, .ref (Γ.2.2.2.1 0))] [] X (f_isBeginning X)
  unfold f_isBeginning
  refine T.aload_n dX11_isBeginning_0 rfl 0 rfl ?_
  refine gR7 k1375 dX11_isBeginning_1 (fun x1 => ?_)
  refine T.iconst (w := 3) dX11_isBeginning_4 (by decide) ?_
  refine T.icmp_eq (pc1 := 16) dX11_isBeginning_5 (by decide) rfl ?_ ?_
  · refine T.iconst (w := 1) dX11_isBeginning_16 (by decide) ?_
    exact T.ret_z rfl dX11_isBeginning_17 rfl
  · refine T.aload_n dX11_isBeginning_8 rfl 0 rfl ?_
    refine gR7 k1375 dX11_isBeginning_9 (fun x2 => ?_)
    refine T.iconst (w := 1) dX11_isBeginning_12 (by decide) ?_
    refine T.icmp_ne (pc1 := 18) dX11_isBeginning_13 (by decide) rfl ?_ ?_
    · refine T.aload_n dX11_isBeginning_18 rfl 0 rfl ?_
      refine gR7 k1375 dX11_isBeginning_19 (fun x3 => ?_)
      refine T.iconst (w := 2) dX11_isBeginning_22 (by decide) ?_
      refine T.icmp_ne (pc1 := 107) dX11_isBeginning_23 (by decide) rfl ?_ ?_
      · refine T.aload_n dX11_isBeginning_107 rfl 0 rfl ?_
        refine gR7 k1375 dX11_isBeginning_108 (fun x4 => ?_)
        refine T.iconst (w := 4) dX11_isBeginning_111 (by decide) ?_
        refine T.icmp_ne (pc1 := 174) dX11_isBeginning_112 (by decide) rfl ?_ ?_
        · refine T.iconst (w := 0) dX11_isBeginning_174 (by decide) ?_
          exact T.ret_z rfl dX11_isBeginning_175 rfl
        · refine T.aload_n dX11_isBeginning_115 rfl 0 rfl ?_
          refine gR47 k1376 dX11_isBeginning_116 (fun y5 => ?_)
          refine T.ldc2 (w := 45) dX11_isBeginning_119 k1881 ?_
          refine T.lcmp dX11_isBeginning_122 (fun x6 => ?_)
          refine T.if_eq (pc1 := 170) dX11_isBeginning_123 (by decide) ?_ ?_
          · refine T.iconst (w := 1) dX11_isBeginning_170 (by decide) ?_
            refine T.goto (pc1 := 175) dX11_isBeginning_171 (by decide) ?_
            exact T.ret_z rfl dX11_isBeginning_175 rfl
          · refine T.aload_n dX11_isBeginning_126 rfl 0 rfl ?_
            refine gR47 k1376 dX11_isBeginning_127 (fun y7 => ?_)
            refine T.ldc2 (w := 33) dX11_isBeginning_130 k1882 ?_
            refine T.lcmp dX11_isBeginning_133 (fun x8 => ?_)
            refine T.if_eq (pc1 := 170) dX11_isBeginning_134 (by decide) ?_ ?_
            · refine T.iconst (w := 1) dX11_isBeginning_170 (by decide) ?_
              refine T.goto (pc1 := 175) dX11_isBeginning_171 (by decide) ?_
              exact T.ret_z rfl dX11_isBeginning_175 rfl
            · refine T.aload_n dX11_isBeginning_137 rfl 0 rfl ?_
              refine gR47 k1376 dX11_isBeginning_138 (fun y9 => ?_)
              refine T.ldc2 (w := 91) dX11_isBeginning_141 k1883 ?_
              refine T.lcmp dX11_isBeginning_144 (fun x10 => ?_)
              refine T.if_eq (pc1 := 170) dX11_isBeginning_145 (by decide) ?_ ?_
              · refine T.iconst (w := 1) dX11_isBeginning_170 (by decide) ?_
                refine T.goto (pc1 := 175) dX11_isBeginning_171 (by decide) ?_
                exact T.ret_z rfl dX11_isBeginning_175 rfl
              · refine T.aload_n dX11_isBeginning_148 rfl 0 rfl ?_
                refine gR47 k1376 dX11_isBeginning_149 (fun y11 => ?_)
                refine T.ldc2 (w := 40) dX11_isBeginning_152 k1884 ?_
                refine T.lcmp dX11_isBeginning_155 (fun x12 => ?_)
                refine T.if_eq (pc1 := 170) dX11_isBeginning_156 (by decide) ?_ ?_
                · refine T.iconst (w := 1) dX11_isBeginning_170 (by decide) ?_
                  refine T.goto (pc1 := 175) dX11_isBeginning_171 (by decide) ?_
                  exact T.ret_z rfl dX11_isBeginning_175 rfl
                · refine T.aload_n dX11_isBeginning_159 rfl 0 rfl ?_
                  refine gR47 k1376 dX11_isBeginning_160 (fun y13 => ?_)
                  refine T.ldc2 (w := 123) dX11_isBeginning_163 k1885 ?_
                  refine T.lcmp dX11_isBeginning_166 (fun x14 => ?_)
                  refine T.if_ne (pc1 := 174) dX11_isBeginning_167 (by decide) ?_ ?_
                  · refine T.iconst (w := 0) dX11_isBeginning_174 (by decide) ?_
                    exact T.ret_z rfl dX11_isBeginning_175 rfl
                  · refine T.iconst (w := 1) dX11_isBeginning_170 (by decide) ?_
                    refine T.goto (pc1 := 175) dX11_isBeginning_171 (by decide) ?_
                    exact T.ret_z rfl dX11_isBeginning_175 rfl
      · refine T.aload_n dX11_isBeginning_26 rfl 0 rfl ?_
        refine gR47 k1376 dX11_isBeginning_27 (fun y15 => ?_)
        refine T.lconst (w := 1) dX11_isBeginning_30 (by decide) ?_
        refine T.lcmp dX11_isBeginning_31 (fun x16 => ?_)
        refine T.if_eq (pc1 := 101) dX11_isBeginning_32 (by decide) ?_ ?_
        · refine T.iconst (w := 1) dX11_isBeginning_101 (by decide) ?_
          refine T.goto (pc1 := 106) dX11_isBeginning_102 (by decide) ?_
          exact T.ret_z rfl dX11_isBeginning_106 rfl
        · refine T.aload_n dX11_isBeginning_35 rfl 0 rfl ?_
          refine gR47 k1376 dX11_isBeginning_36 (fun y17 => ?_)
          refine T.ldc2 (w := 3) dX11_isBeginning_39 k1876 ?_
          refine T.lcmp dX11_isBeginning_42 (fun x18 => ?_)
          refine T.if_eq (pc1 := 101) dX11_isBeginning_43 (by decide) ?_ ?_
          · refine T.iconst (w := 1) dX11_isBeginning_101 (by decide) ?_
            refine T.goto (pc1 := 106) dX11_isBeginning_102 (by decide) ?_
            exact T.ret_z rfl dX11_isBeginning_106 rfl
          · refine T.aload_n dX11_isBeginning_46 rfl 0 rfl ?_
            refine gR47 k1376 dX11_isBeginning_47 (fun y19 => ?_)
            refine T.ldc2 (w := 6) dX11_isBeginning_50 k1877 ?_
            refine T.lcmp dX11_isBeginning_53 (fun x20 => ?_)
            refine T.if_eq (pc1 := 101) dX11_isBeginning_54 (by decide) ?_ ?_
            · refine T.iconst (w := 1) dX11_isBeginning_101 (by decide) ?_
              refine T.goto (pc1 := 106) dX11_isBeginning_102 (by decide) ?_
              exact T.ret_z rfl dX11_isBeginning_106 rfl
            · refine T.aload_n dX11_isBeginning_57 rfl 0 rfl ?_
              refine gR47 k1376 dX11_isBeginning_58 (fun y21 => ?_)
              refine T.ldc2 (w := 7) dX11_isBeginning_61 k1878 ?_
              refine T.lcmp dX11_isBeginning_64 (fun x22 => ?_)
              refine T.if_eq (pc1 := 101) dX11_isBeginning_65 (by decide) ?_ ?_
              · refine T.iconst (w := 1) dX11_isBeginning_101 (by decide) ?_
                refine T.goto (pc1 := 106) dX11_isBeginning_102 (by decide) ?_
                exact T.ret_z rfl dX11_isBeginning_106 rfl
              · refine T.aload_n dX11_isBeginning_68 rfl 0 rfl ?_
                refine gR47 k1376 dX11_isBeginning_69 (fun y23 => ?_)
                refine T.ldc2 (w := 8) dX11_isBeginning_72 k1879 ?_
                refine T.lcmp dX11_isBeginning_75 (fun x24 => ?_)
                refine T.if_eq (pc1 := 101) dX11_isBeginning_76 (by decide) ?_ ?_
                · refine T.iconst (w := 1) dX11_isBeginning_101 (by decide) ?_
                  refine T.goto (pc1 := 106) dX11_isBeginning_102 (by decide) ?_
                  exact T.ret_z rfl dX11_isBeginning_106 rfl
                · refine T.aload_n dX11_isBeginning_79 rfl 0 rfl ?_
                  refine gR47 k1376 dX11_isBeginning_80 (fun y25 => ?_)
                  refine T.ldc2 (w := 9) dX11_isBeginning_83 k1880 ?_
                  refine T.lcmp dX11_isBeginning_86 (fun x26 => ?_)
                  refine T.if_eq (pc1 := 101) dX11_isBeginning_87 (by decide) ?_ ?_
                  · refine T.iconst (w := 1) dX11_isBeginning_101 (by decide) ?_
                    refine T.goto (pc1 := 106) dX11_isBeginning_102 (by decide) ?_
                    exact T.ret_z rfl dX11_isBeginning_106 rfl
                  · refine T.aload_n dX11_isBeginning_90 rfl 0 rfl ?_
                    refine gR47 k1376 dX11_isBeginning_91 (fun y27 => ?_)
                    refine T.ldc2 (w := 10) dX11_isBeginning_94 k1793 ?_
                    refine T.lcmp dX11_isBeginning_97 (fun x28 => ?_)
                    refine T.if_ne (pc1 := 105) dX11_isBeginning_98 (by decide) ?_ ?_
                    · refine T.iconst (w := 0) dX11_isBeginning_105 (by decide) ?_
                      exact T.ret_z rfl dX11_isBeginning_106 rfl
                    · refine T.iconst (w := 1) dX11_isBeginning_101 (by decide) ?_
                      refine T.goto (pc1 := 106) dX11_isBeginning_102 (by decide) ?_
                      exact T.ret_z rfl dX11_isBeginning_106 rfl
    · refine T.iconst (w := 1) dX11_isBeginning_16 (by decide) ?_
      exact T.ret_z rfl dX11_isBeginning_17 rfl
abbrev R_beginsLet : Room := { frames := 34, cells := 0, slots := 0, locals := 510 }
noncomputable def f_beginsLet_91 (a1 : Int32) (X : St) : Option (Int32 × St) :=
  bnd (f_takes (61 : Int32) X) fun _ X16 =>
  bnd (f_enter (1 : Int32) a1 X16) fun _ X17 =>
  some (0, X17)
set_option maxHeartbeats 4000000 in
set_option maxRecDepth 100000 in
theorem c_beginsLet_91 (Γ : Gx) (As : List Value) (a1 : Int32) (X : St) : T YR Γ cX11_beginsLet 2 "BlameCourtModel" none R_beginsLet As qV 91 [(0, .ref (Γ.2.2.2.1 0)), (1, .int a1)] [] X (f_beginsLet_91 a1 X) := by
  unfold f_beginsLet_91
  refine T.aload_n dX11_beginsLet_91 rfl 0 rfl ?_
  refine T.bipush (w := 61) dX11_beginsLet_92 (by decide) ?_
  refine T.callV_v 0 (As1 := [.int 61]) (rest := []) (c_takes Γ (61 : Int32) X) ka_X11_takes kv_X11_takes oR rfl k1836 rfl rfl rfl rfl ⟨Nat.le_of_ble_eq_true rfl, Nat.le_of_ble_eq_true rfl⟩ (Nat.le_of_ble_eq_true rfl) dX11_beginsLet_94 (fun _ X16 => ?_)
  refine T.aload_n dX11_beginsLet_97 rfl 0 rfl ?_
  refine T.iconst (w := 1) dX11_beginsLet_98 (by decide) ?_
  refine T.iload_n dX11_beginsLet_99 rfl 1 rfl ?_
  refine T.callV_v 0 (As1 := [.int 1, .int a1]) (rest := []) (c_enter Γ (1 : Int32) a1 X16) ka_X11_enter kv_X11_enter oR rfl k1864 rfl rfl rfl rfl ⟨Nat.le_of_ble_eq_true rfl, Nat.le_of_ble_eq_true rfl⟩ (Nat.le_of_ble_eq_true rfl) dX11_beginsLet_100 (fun _ X17 => ?_)
  exact T.ret_v rfl dX11_beginsLet_103
noncomputable def f_beginsLet (X : St) : Option (Int32 × St) :=
  letV (X.1 0 6) fun x1 =>
  bnd (f_make (17 : Int32) x1 X) fun x2 X3 =>
  bnd (f_nests X3) fun _ X4 =>
  bnd (f_isWell X4) fun x5 X6 =>
  if x5.toInt = 0 then
    some (0, X6)
  else
    bnd (f_next X6) fun _ X7 =>
    letV (X7.1 0 7) fun x8 =>
    if x8.toInt = 1 then
      letV (X7.2.1 0 47) fun y9 =>
      chk (inR x2 3100) (letV (wL X7 29 (ix x2) y9) fun X10 =>
      bnd (f_next X10) fun _ X11 =>
      chk (inR x2 3100) (letV (wI X11 24 (ix x2) (-1 : Int32)) fun X12 =>
      chk (inR x2 3100) (letV (wI X12 25 (ix x2) (-1 : Int32)) fun X13 =>
      bnd (f_isSign (58 : Int32) X13) fun x14 X15 =>
      if x14.toInt = 0 then
        f_beginsLet_91 x2 X15
      else
        bnd (f_next X15) fun _ X18 =>
        bnd (f_kind X18) fun x19 X20 =>
        chk (inR x2 3100) (letV (wI X20 25 (ix x2) x19) fun X21 =>
        f_beginsLet_91 x2 X21))))
    else
      bnd (f_stray X7) fun _ X22 =>
      some (0, X22)
set_option maxHeartbeats 4000000 in
set_option maxRecDepth 100000 in
theorem c_beginsLet (Γ : Gx) (X : St) : TMV YR Γ yX11_beginsLet cX11_beginsLet 2 "BlameCourtModel" none R_beginsLet [.ref (Γ.2.2.2.1 0)] X (f_beginsLet X) := by
  refine TMV.of (by decide) (Nat.le_of_ble_eq_true rfl) rfl ?_
  show T YR Γ cX11_beginsLet 2 "BlameCourtModel" none R_beginsLet _ qV 0 [(0, .ref (Γ.2.2.2.1 0))] [] X (f_beginsLet X)
  unfold f_beginsLet
  refine T.aload_n dX11_beginsLet_0 rfl 0 rfl ?_
  refine T.bipush (w := 17) dX11_beginsLet_1 (by decide) ?_
  refine T.aload_n dX11_beginsLet_3 rfl 0 rfl ?_
  refine gR6 k1374 dX11_beginsLet_4 (fun x1 => ?_)
  refine T.callV_i 0 (As1 := [.int 17, .int x1]) (rest := []) (c_make Γ (17 : Int32) x1 X) ka_X11_make kv_X11_make oR rfl k1890 rfl rfl rfl rfl ⟨Nat.le_of_ble_eq_true rfl, Nat.le_of_ble_eq_true rfl⟩ (Nat.le_of_ble_eq_true rfl) dX11_beginsLet_7 (fun x2 X3 => ?_)
  refine T.istore_n (lv1 := [(1, .int x2), (0, .ref (Γ.2.2.2.1 0))]) dX11_beginsLet_10 rfl (by decide) rfl ?_
  refine T.aload_n dX11_beginsLet_11 rfl 1 rfl ?_
  refine T.callV_v 0 (As1 := []) (rest := []) (c_nests Γ X3) ka_X11_nests kv_X11_nests oR rfl k1828 rfl rfl rfl rfl ⟨Nat.le_of_ble_eq_true rfl, Nat.le_of_ble_eq_true rfl⟩ (Nat.le_of_ble_eq_true rfl) dX11_beginsLet_12 (fun _ X4 => ?_)
  refine T.aload_n dX11_beginsLet_15 rfl 1 rfl ?_
  refine T.callV_i 0 (As1 := []) (rest := []) (c_isWell Γ X4) ka_X11_isWell kv_X11_isWell oR rfl k1800 rfl rfl rfl rfl ⟨Nat.le_of_ble_eq_true rfl, Nat.le_of_ble_eq_true rfl⟩ (Nat.le_of_ble_eq_true rfl) dX11_beginsLet_16 (fun x5 X6 => ?_)
  refine T.if_ne (pc1 := 23) dX11_beginsLet_19 (by decide) ?_ ?_
  · refine T.aload_n dX11_beginsLet_23 rfl 1 rfl ?_
    refine T.callV_v 0 (As1 := []) (rest := []) (c_next Γ X6) ka_X11_next kv_X11_next oR rfl k1776 rfl rfl rfl rfl ⟨Nat.le_of_ble_eq_true rfl, Nat.le_of_ble_eq_true rfl⟩ (Nat.le_of_ble_eq_true rfl) dX11_beginsLet_24 (fun _ X7 => ?_)
    refine T.aload_n dX11_beginsLet_27 rfl 1 rfl ?_
    refine gR7 k1375 dX11_beginsLet_28 (fun x8 => ?_)
    refine T.iconst (w := 1) dX11_beginsLet_31 (by decide) ?_
    refine T.icmp_eq (pc1 := 40) dX11_beginsLet_32 (by decide) rfl ?_ ?_
    · refine T.aload_n dX11_beginsLet_40 rfl 1 rfl ?_
      refine cR76 k1414 dX11_beginsLet_41 ?_
      refine T.iload_n dX11_beginsLet_44 rfl 0 rfl ?_
      refine T.aload_n dX11_beginsLet_45 rfl 1 rfl ?_
      refine gR47 k1376 dX11_beginsLet_46 (fun y9 => ?_)
      refine asR29 dX11_beginsLet_49 (fun X10 => ?_)
      refine T.aload_n dX11_beginsLet_50 rfl 1 rfl ?_
      refine T.callV_v 0 (As1 := []) (rest := []) (c_next Γ X10) ka_X11_next kv_X11_next oR rfl k1776 rfl rfl rfl rfl ⟨Nat.le_of_ble_eq_true rfl, Nat.le_of_ble_eq_true rfl⟩ (Nat.le_of_ble_eq_true rfl) dX11_beginsLet_51 (fun _ X11 => ?_)
      refine T.aload_n dX11_beginsLet_54 rfl 1 rfl ?_
      refine cR71 k1409 dX11_beginsLet_55 ?_
      refine T.iload_n dX11_beginsLet_58 rfl 0 rfl ?_
      refine T.iconst (w := (-1)) dX11_beginsLet_59 (by decide) ?_
      refine asR24 dX11_beginsLet_60 (fun X12 => ?_)
      refine T.aload_n dX11_beginsLet_61 rfl 1 rfl ?_
      refine cR72 k1410 dX11_beginsLet_62 ?_
      refine T.iload_n dX11_beginsLet_65 rfl 0 rfl ?_
      refine T.iconst (w := (-1)) dX11_beginsLet_66 (by decide) ?_
      refine asR25 dX11_beginsLet_67 (fun X13 => ?_)
      refine T.aload_n dX11_beginsLet_68 rfl 1 rfl ?_
      refine T.bipush (w := 58) dX11_beginsLet_69 (by decide) ?_
      refine T.callV_i 0 (As1 := [.int 58]) (rest := []) (c_isSign Γ (58 : Int32) X13) ka_X11_isSign kv_X11_isSign oR rfl k1824 rfl rfl rfl rfl ⟨Nat.le_of_ble_eq_true rfl, Nat.le_of_ble_eq_true rfl⟩ (Nat.le_of_ble_eq_true rfl) dX11_beginsLet_71 (fun x14 X15 => ?_)
      refine T.if_eq (pc1 := 91) dX11_beginsLet_74 (by decide) ?_ ?_
      · refine T.sub [1, 0] rfl ?_
        exact c_beginsLet_91 Γ _ x2 X15
      · refine T.aload_n dX11_beginsLet_77 rfl 1 rfl ?_
        refine T.callV_v 0 (As1 := []) (rest := []) (c_next Γ X15) ka_X11_next kv_X11_next oR rfl k1776 rfl rfl rfl rfl ⟨Nat.le_of_ble_eq_true rfl, Nat.le_of_ble_eq_true rfl⟩ (Nat.le_of_ble_eq_true rfl) dX11_beginsLet_78 (fun _ X18 => ?_)
        refine T.aload_n dX11_beginsLet_81 rfl 1 rfl ?_
        refine cR72 k1410 dX11_beginsLet_82 ?_
        refine T.iload_n dX11_beginsLet_85 rfl 0 rfl ?_
        refine T.aload_n dX11_beginsLet_86 rfl 1 rfl ?_
        refine T.callV_i 0 (As1 := []) (rest := [.int x2, .ref (Γ.2.2.2.1 25)]) (c_kind Γ X18) ka_X11_kind kv_X11_kind oR rfl k1844 rfl rfl rfl rfl ⟨Nat.le_of_ble_eq_true rfl, Nat.le_of_ble_eq_true rfl⟩ (Nat.le_of_ble_eq_true rfl) dX11_beginsLet_87 (fun x19 X20 => ?_)
        refine asR25 dX11_beginsLet_90 (fun X21 => ?_)
        refine T.sub [1, 0] rfl ?_
        exact c_beginsLet_91 Γ _ x2 X21
    · refine T.aload_n dX11_beginsLet_35 rfl 1 rfl ?_
      refine T.callV_v 0 (As1 := []) (rest := []) (c_stray Γ X7) ka_X11_stray kv_X11_stray oR rfl k1808 rfl rfl rfl rfl ⟨Nat.le_of_ble_eq_true rfl, Nat.le_of_ble_eq_true rfl⟩ (Nat.le_of_ble_eq_true rfl) dX11_beginsLet_36 (fun _ X22 => ?_)
      exact T.ret_v rfl dX11_beginsLet_39
  · exact T.ret_v rfl dX11_beginsLet_22
abbrev R_begins : Room := { frames := 38, cells := 0, slots := 0, locals := 570 }
noncomputable def f_begins_65 (b0 : Int32) (X : St) : Option (Int32 × St) :=
  bnd (f_isBeginning X) fun x5 X6 =>
  if x5.toInt = 0 then
    bnd (f_stray X6) fun _ X21 =>
    some (0, X21)
  else
    if b0.toInt = 0 then
      bnd (f_isWord (1 : Int32) X6) fun x7 X8 =>
      if x7.toInt = 0 then
        bnd (f_isWord (3 : Int32) X8) fun x9 X10 =>
        if x9.toInt = 0 then
          letV (wI X10 0 23 ((1 : Int32))) fun X11 =>
          some (0, X11)
        else
          letV (X10.1 0 6) fun x12 =>
          bnd (f_make (16 : Int32) x12 X10) fun x13 X14 =>
          bnd (f_nests X14) fun _ X15 =>
          bnd (f_next X15) fun _ X16 =>
          bnd (f_enter (3 : Int32) x13 X16) fun _ X17 =>
          some (0, X17)
      else
        bnd (f_beginsLet X8) fun _ X18 =>
        some (0, X18)
    else
      letV (X6.1 0 6) fun x19 =>
      bnd (f_fails (3 : Int32) x19 X6) fun _ X20 =>
      some (0, X20)
set_option maxHeartbeats 4000000 in
set_option maxRecDepth 100000 in
theorem c_begins_65 (Γ : Gx) (As : List Value) (b0 : Int32) (X : St) : T YR Γ cX11_begins 4 "BlameCourtModel" none R_begins As qV 65 [(0, .ref (Γ.2.2.2.1 0))] [.int b0] X (f_begins_65 b0 X) := by
  unfold f_begins_65
  refine T.istore_n (lv1 := [(2, .int b0), (0, .ref (Γ.2.2.2.1 0))]) dX11_begins_65 rfl (by decide) rfl ?_
  refine T.aload_n dX11_begins_66 rfl 1 rfl ?_
  refine T.callV_i 0 (As1 := []) (rest := []) (c_isBeginning Γ X) ka_X11_isBeginning kv_X11_isBeginning oR rfl k1872 rfl rfl rfl rfl ⟨Nat.le_of_ble_eq_true rfl, Nat.le_of_ble_eq_true rfl⟩ (Nat.le_of_ble_eq_true rfl) dX11_begins_67 (fun x5 X6 => ?_)
  refine T.if_ne (pc1 := 80) dX11_begins_70 (by decide) ?_ ?_
  · refine T.iload_n dX11_begins_80 rfl 0 rfl ?_
    refine T.if_eq (pc1 := 96) dX11_begins_81 (by decide) ?_ ?_
    · refine T.aload_n dX11_begins_96 rfl 1 rfl ?_
      refine T.iconst (w := 1) dX11_begins_97 (by decide) ?_
      refine T.callV_i 0 (As1 := [.int 1]) (rest := []) (c_isWord Γ (1 : Int32) X6) ka_X11_isWord kv_X11_isWord oR rfl k1804 rfl rfl rfl rfl ⟨Nat.le_of_ble_eq_true rfl, Nat.le_of_ble_eq_true rfl⟩ (Nat.le_of_ble_eq_true rfl) dX11_begins_98 (fun x7 X8 => ?_)
      refine T.if_eq (pc1 := 111) dX11_begins_101 (by decide) ?_ ?_
      · refine T.aload_n dX11_begins_111 rfl 1 rfl ?_
        refine T.iconst (w := 3) dX11_begins_112 (by decide) ?_
        refine T.callV_i 0 (As1 := [.int 3]) (rest := []) (c_isWord Γ (3 : Int32) X8) ka_X11_isWord kv_X11_isWord oR rfl k1804 rfl rfl rfl rfl ⟨Nat.le_of_ble_eq_true rfl, Nat.le_of_ble_eq_true rfl⟩ (Nat.le_of_ble_eq_true rfl) dX11_begins_113 (fun x9 X10 => ?_)
        refine T.if_eq (pc1 := 147) dX11_begins_116 (by decide) ?_ ?_
        · refine T.aload_n dX11_begins_147 rfl 1 rfl ?_
          refine T.iconst (w := 1) dX11_begins_148 (by decide) ?_
          refine pR23 k1428 dX11_begins_149 (fun X11 => ?_)
          exact T.ret_v rfl dX11_begins_152
        · refine T.aload_n dX11_begins_119 rfl 1 rfl ?_
          refine T.bipush (w := 16) dX11_begins_120 (by decide) ?_
          refine T.aload_n dX11_begins_122 rfl 1 rfl ?_
          refine gR6 k1374 dX11_begins_123 (fun x12 => ?_)
          refine T.callV_i 0 (As1 := [.int 16, .int x12]) (rest := []) (c_make Γ (16 : Int32) x12 X10) ka_X11_make kv_X11_make oR rfl k1890 rfl rfl rfl rfl ⟨Nat.le_of_ble_eq_true rfl, Nat.le_of_ble_eq_true rfl⟩ (Nat.le_of_ble_eq_true rfl) dX11_begins_126 (fun x13 X14 => ?_)
          refine T.istore_n (lv1 := [(3, .int x13), (2, .int b0), (0, .ref (Γ.2.2.2.1 0))]) dX11_begins_129 rfl (by decide) rfl ?_
          refine T.aload_n dX11_begins_130 rfl 2 rfl ?_
          refine T.callV_v 0 (As1 := []) (rest := []) (c_nests Γ X14) ka_X11_nests kv_X11_nests oR rfl k1828 rfl rfl rfl rfl ⟨Nat.le_of_ble_eq_true rfl, Nat.le_of_ble_eq_true rfl⟩ (Nat.le_of_ble_eq_true rfl) dX11_begins_131 (fun _ X15 => ?_)
          refine T.aload_n dX11_begins_134 rfl 2 rfl ?_
          refine T.callV_v 0 (As1 := []) (rest := []) (c_next Γ X15) ka_X11_next kv_X11_next oR rfl k1776 rfl rfl rfl rfl ⟨Nat.le_of_ble_eq_true rfl, Nat.le_of_ble_eq_true rfl⟩ (Nat.le_of_ble_eq_true rfl) dX11_begins_135 (fun _ X16 => ?_)
          refine T.aload_n dX11_begins_138 rfl 2 rfl ?_
          refine T.iconst (w := 3) dX11_begins_139 (by decide) ?_
          refine T.iload_n dX11_begins_140 rfl 0 rfl ?_
          refine T.callV_v 0 (As1 := [.int 3, .int x13]) (rest := []) (c_enter Γ (3 : Int32) x13 X16) ka_X11_enter kv_X11_enter oR rfl k1864 rfl rfl rfl rfl ⟨Nat.le_of_ble_eq_true rfl, Nat.le_of_ble_eq_true rfl⟩ (Nat.le_of_ble_eq_true rfl) dX11_begins_141 (fun _ X17 => ?_)
          refine T.goto (pc1 := 152) dX11_begins_144 (by decide) ?_
          exact T.ret_v rfl dX11_begins_152
      · refine T.aload_n dX11_begins_104 rfl 1 rfl ?_
        refine T.callV_v 0 (As1 := []) (rest := []) (c_beginsLet Γ X8) ka_X11_beginsLet kv_X11_beginsLet oR rfl k1886 rfl rfl rfl rfl ⟨Nat.le_of_ble_eq_true rfl, Nat.le_of_ble_eq_true rfl⟩ (Nat.le_of_ble_eq_true rfl) dX11_begins_105 (fun _ X18 => ?_)
        refine T.goto (pc1 := 152) dX11_begins_108 (by decide) ?_
        exact T.ret_v rfl dX11_begins_152
    · refine T.aload_n dX11_begins_84 rfl 1 rfl ?_
      refine T.iconst (w := 3) dX11_begins_85 (by decide) ?_
      refine T.aload_n dX11_begins_86 rfl 1 rfl ?_
      refine gR6 k1374 dX11_begins_87 (fun x19 => ?_)
      refine T.callV_v 0 (As1 := [.int 3, .int x19]) (rest := []) (c_fails Γ (3 : Int32) x19 X6) ka_X11_fails kv_X11_fails oR rfl k1812 rfl rfl rfl rfl ⟨Nat.le_of_ble_eq_true rfl, Nat.le_of_ble_eq_true rfl⟩ (Nat.le_of_ble_eq_true rfl) dX11_begins_90 (fun _ X20 => ?_)
      refine T.goto (pc1 := 152) dX11_begins_93 (by decide) ?_
      exact T.ret_v rfl dX11_begins_152
  · refine T.aload_n dX11_begins_73 rfl 1 rfl ?_
    refine T.callV_v 0 (As1 := []) (rest := []) (c_stray Γ X6) ka_X11_stray kv_X11_stray oR rfl k1808 rfl rfl rfl rfl ⟨Nat.le_of_ble_eq_true rfl, Nat.le_of_ble_eq_true rfl⟩ (Nat.le_of_ble_eq_true rfl) dX11_begins_74 (fun _ X21 => ?_)
    refine T.goto (pc1 := 152) dX11_begins_77 (by decide) ?_
    exact T.ret_v rfl dX11_begins_152
noncomputable def f_begins_64 (X : St) : Option (Int32 × St) :=
  f_begins_65 (0 : Int32) X
set_option maxHeartbeats 4000000 in
set_option maxRecDepth 100000 in
theorem c_begins_64 (Γ : Gx) (As : List Value) (X : St) : T YR Γ cX11_begins 4 "BlameCourtModel" none R_begins As qV 64 [(0, .ref (Γ.2.2.2.1 0))] [] X (f_begins_64 X) := by
  unfold f_begins_64
  refine T.iconst (w := 0) dX11_begins_64 (by decide) ?_
  exact c_begins_65 Γ _ (0 : Int32) X
noncomputable def f_begins_60 (X : St) : Option (Int32 × St) :=
  f_begins_65 (1 : Int32) X
set_option maxHeartbeats 4000000 in
set_option maxRecDepth 100000 in
theorem c_begins_60 (Γ : Gx) (As : List Value) (X : St) : T YR Γ cX11_begins 4 "BlameCourtModel" none R_begins As qV 60 [(0, .ref (Γ.2.2.2.1 0))] [] X (f_begins_60 X) := by
  unfold f_begins_60
  refine T.iconst (w := 1) dX11_begins_60 (by decide) ?_
  refine T.goto (pc1 := 65) dX11_begins_61 (by decide) ?_
  exact c_begins_65 Γ _ (1 : Int32) X
noncomputable def f_begins_33 (a1 : Int32) (X : St) : Option (Int32 × St) :=
  chk (inR a1 400) (letV (X.1 35 (ix a1)) fun x4 =>
  if x4.toInt = 8 then
    chk (inR a1 400) (letV (X.1 36 (ix a1)) fun x22 =>
    chk (inR x22 3100) (letV (X.1 27 (ix x22)) fun x23 =>
    if x23.toInt = 20 then
      f_begins_60 X
    else
      f_begins_64 X))
  else
    f_begins_64 X)
set_option maxHeartbeats 4000000 in
set_option maxRecDepth 100000 in
theorem c_begins_33 (Γ : Gx) (As : List Value) (a1 : Int32) (X : St) : T YR Γ cX11_begins 4 "BlameCourtModel" none R_begins As qV 33 [(0, .ref (Γ.2.2.2.1 0)), (1, .int a1)] [] X (f_begins_33 a1 X) := by
  unfold f_begins_33
  refine T.aload_n dX11_begins_33 rfl 0 rfl ?_
  refine cR82 k1423 dX11_begins_34 ?_
  refine T.iload_n dX11_begins_37 rfl 1 rfl ?_
  refine alR35 dX11_begins_38 (fun x4 => ?_)
  refine T.bipush (w := 8) dX11_begins_39 (by decide) ?_
  refine T.icmp_ne (pc1 := 64) dX11_begins_41 (by decide) rfl ?_ ?_
  · refine T.sub [0] rfl ?_
    exact c_begins_64 Γ _ X
  · refine T.aload_n dX11_begins_44 rfl 0 rfl ?_
    refine cR74 k1412 dX11_begins_45 ?_
    refine T.aload_n dX11_begins_48 rfl 0 rfl ?_
    refine cR83 k1424 dX11_begins_49 ?_
    refine T.iload_n dX11_begins_52 rfl 1 rfl ?_
    refine alR36 dX11_begins_53 (fun x22 => ?_)
    refine alR27 dX11_begins_54 (fun x23 => ?_)
    refine T.bipush (w := 20) dX11_begins_55 (by decide) ?_
    refine T.icmp_ne (pc1 := 64) dX11_begins_57 (by decide) rfl ?_ ?_
    · refine T.sub [0] rfl ?_
      exact c_begins_64 Γ _ X
    · refine T.sub [0] rfl ?_
      exact c_begins_60 Γ _ X
noncomputable def f_begins (X : St) : Option (Int32 × St) :=
  letV (X.1 0 22) fun x1 =>
  letV (x1 - (1 : Int32)) fun x2 =>
  chk (inR x2 400) (letV (X.1 35 (ix x2)) fun x3 =>
  if x3.toInt = 12 then
    chk (inR x2 400) (letV (X.1 36 (ix x2)) fun x24 =>
    chk (inR x24 3100) (letV (X.1 27 (ix x24)) fun x25 =>
    if x25.toInt = 4 then
      f_begins_60 X
    else
      f_begins_33 x2 X))
  else
    f_begins_33 x2 X)
set_option maxHeartbeats 4000000 in
set_option maxRecDepth 100000 in
theorem c_begins (Γ : Gx) (X : St) : TMV YR Γ yX11_begins cX11_begins 4 "BlameCourtModel" none R_begins [.ref (Γ.2.2.2.1 0)] X (f_begins X) := by
  refine TMV.of (by decide) (Nat.le_of_ble_eq_true rfl) rfl ?_
  show T YR Γ cX11_begins 4 "BlameCourtModel" none R_begins _ qV 0 [(0, .ref (Γ.2.2.2.1 0))] [] X (f_begins X)
  unfold f_begins
  refine T.aload_n dX11_begins_0 rfl 0 rfl ?_
  refine gR22 k1422 dX11_begins_1 (fun x1 => ?_)
  refine T.iconst (w := 1) dX11_begins_4 (by decide) ?_
  refine T.isub dX11_begins_5 (fun x2 => ?_)
  refine T.istore_n (lv1 := [(1, .int x2), (0, .ref (Γ.2.2.2.1 0))]) dX11_begins_6 rfl (by decide) rfl ?_
  refine T.aload_n dX11_begins_7 rfl 1 rfl ?_
  refine cR82 k1423 dX11_begins_8 ?_
  refine T.iload_n dX11_begins_11 rfl 0 rfl ?_
  refine alR35 dX11_begins_12 (fun x3 => ?_)
  refine T.bipush (w := 12) dX11_begins_13 (by decide) ?_
  refine T.icmp_ne (pc1 := 33) dX11_begins_15 (by decide) rfl ?_ ?_
  · refine T.sub [1, 0] rfl ?_
    exact c_begins_33 Γ _ x2 X
  · refine T.aload_n dX11_begins_18 rfl 1 rfl ?_
    refine cR74 k1412 dX11_begins_19 ?_
    refine T.aload_n dX11_begins_22 rfl 1 rfl ?_
    refine cR83 k1424 dX11_begins_23 ?_
    refine T.iload_n dX11_begins_26 rfl 0 rfl ?_
    refine alR36 dX11_begins_27 (fun x24 => ?_)
    refine alR27 dX11_begins_28 (fun x25 => ?_)
    refine T.iconst (w := 4) dX11_begins_29 (by decide) ?_
    refine T.icmp_eq (pc1 := 60) dX11_begins_30 (by decide) rfl ?_ ?_
    · refine T.sub [1] rfl ?_
      exact c_begins_60 Γ _ X
    · refine T.sub [1, 0] rfl ?_
      exact c_begins_33 Γ _ x2 X
abbrev R_done : Room := { frames := 6, cells := 0, slots := 0, locals := 90 }
noncomputable def f_done (p1 : Int32) (X : St) : Option (Int32 × St) :=
  letV (wI X 0 24 p1) fun X1 =>
  letV (wI X1 0 23 ((2 : Int32))) fun X2 =>
  some (0, X2)
set_option maxHeartbeats 4000000 in
set_option maxRecDepth 100000 in
theorem c_done (Γ : Gx) (p1 : Int32) (X : St) : TMV YR Γ yX11_done cX11_done 2 "BlameCourtModel" none R_done [.ref (Γ.2.2.2.1 0), .int p1] X (f_done p1 X) := by
  refine TMV.of (by decide) (Nat.le_of_ble_eq_true rfl) rfl ?_
  show T YR Γ cX11_done 2 "BlameCourtModel" none R_done _ qV 0 [(0, .ref (Γ.2.2.2.1 0)), (1, .int p1)] [] X (f_done p1 X)
  unfold f_done
  refine T.aload_n dX11_done_0 rfl 0 rfl ?_
  refine T.iload_n dX11_done_1 rfl 1 rfl ?_
  refine pR24 k1429 dX11_done_2 (fun X1 => ?_)
  refine T.aload_n dX11_done_5 rfl 0 rfl ?_
  refine T.iconst (w := 2) dX11_done_6 (by decide) ?_
  refine pR23 k1428 dX11_done_7 (fun X2 => ?_)
  exact T.ret_v rfl dX11_done_10
abbrev R_number : Room := { frames := 22, cells := 0, slots := 0, locals := 330 }
noncomputable def f_number (p1 : Int32) (X : St) : Option (Int32 × St) :=
  letV (X.2.1 0 47) fun y1 =>
  letV (lg_cmp y1 (2147483647 : Int64)) fun x2 =>
  if x2.toInt ≤ 0 then
    bnd (f_make (0 : Int32) p1 X) fun x3 X4 =>
    letV (X4.2.1 0 47) fun y5 =>
    letV (y5.toInt32) fun x6 =>
    chk (inR x3 3100) (letV (wI X4 26 (ix x3) x6) fun X7 =>
    bnd (f_next X7) fun _ X8 =>
    bnd (f_done x3 X8) fun _ X9 =>
    some (0, X9))
  else
    bnd (f_fails (4 : Int32) p1 X) fun _ X10 =>
    some (0, X10)
set_option maxHeartbeats 4000000 in
set_option maxRecDepth 100000 in
theorem c_number (Γ : Gx) (p1 : Int32) (X : St) : TMV YR Γ yX11_number cX11_number 3 "BlameCourtModel" none R_number [.ref (Γ.2.2.2.1 0), .int p1] X (f_number p1 X) := by
  refine TMV.of (by decide) (Nat.le_of_ble_eq_true rfl) rfl ?_
  show T YR Γ cX11_number 3 "BlameCourtModel" none R_number _ qV 0 [(0, .ref (Γ.2.2.2.1 0)), (1, .int p1)] [] X (f_number p1 X)
  unfold f_number
  refine T.aload_n dX11_number_0 rfl 0 rfl ?_
  refine gR47 k1376 dX11_number_1 (fun y1 => ?_)
  refine T.ldc2 (w := 2147483647) dX11_number_4 k1792 ?_
  refine T.lcmp dX11_number_7 (fun x2 => ?_)
  refine T.if_le (pc1 := 18) dX11_number_8 (by decide) ?_ ?_
  · refine T.aload_n dX11_number_18 rfl 0 rfl ?_
    refine T.iconst (w := 0) dX11_number_19 (by decide) ?_
    refine T.iload_n dX11_number_20 rfl 1 rfl ?_
    refine T.callV_i 0 (As1 := [.int 0, .int p1]) (rest := []) (c_make Γ (0 : Int32) p1 X) ka_X11_make kv_X11_make oR rfl k1890 rfl rfl rfl rfl ⟨Nat.le_of_ble_eq_true rfl, Nat.le_of_ble_eq_true rfl⟩ (Nat.le_of_ble_eq_true rfl) dX11_number_21 (fun x3 X4 => ?_)
    refine T.istore_n (lv1 := [(2, .int x3), (0, .ref (Γ.2.2.2.1 0)), (1, .int p1)]) dX11_number_24 rfl (by decide) rfl ?_
    refine T.aload_n dX11_number_25 rfl 1 rfl ?_
    refine cR73 k1411 dX11_number_26 ?_
    refine T.iload_n dX11_number_29 rfl 0 rfl ?_
    refine T.aload_n dX11_number_30 rfl 1 rfl ?_
    refine gR47 k1376 dX11_number_31 (fun y5 => ?_)
    refine T.l2i dX11_number_34 (fun x6 => ?_)
    refine asR26 dX11_number_35 (fun X7 => ?_)
    refine T.aload_n dX11_number_36 rfl 1 rfl ?_
    refine T.callV_v 0 (As1 := []) (rest := []) (c_next Γ X7) ka_X11_next kv_X11_next oR rfl k1776 rfl rfl rfl rfl ⟨Nat.le_of_ble_eq_true rfl, Nat.le_of_ble_eq_true rfl⟩ (Nat.le_of_ble_eq_true rfl) dX11_number_37 (fun _ X8 => ?_)
    refine T.aload_n dX11_number_40 rfl 1 rfl ?_
    refine T.iload_n dX11_number_41 rfl 0 rfl ?_
    refine T.callV_v 0 (As1 := [.int x3]) (rest := []) (c_done Γ x3 X8) ka_X11_done kv_X11_done oR rfl k1902 rfl rfl rfl rfl ⟨Nat.le_of_ble_eq_true rfl, Nat.le_of_ble_eq_true rfl⟩ (Nat.le_of_ble_eq_true rfl) dX11_number_42 (fun _ X9 => ?_)
    exact T.ret_v rfl dX11_number_45
  · refine T.aload_n dX11_number_11 rfl 0 rfl ?_
    refine T.iconst (w := 4) dX11_number_12 (by decide) ?_
    refine T.iload_n dX11_number_13 rfl 1 rfl ?_
    refine T.callV_v 0 (As1 := [.int 4, .int p1]) (rest := []) (c_fails Γ (4 : Int32) p1 X) ka_X11_fails kv_X11_fails oR rfl k1812 rfl rfl rfl rfl ⟨Nat.le_of_ble_eq_true rfl, Nat.le_of_ble_eq_true rfl⟩ (Nat.le_of_ble_eq_true rfl) dX11_number_14 (fun _ X10 => ?_)
    exact T.ret_v rfl dX11_number_17
abbrev R_named : Room := { frames := 22, cells := 0, slots := 0, locals := 330 }
noncomputable def f_named_48 (a1 : Int32) (a2 : Int32) (b0 : Int32) (X : St) : Option (Int32 × St) :=
  bnd (f_make b0 a1 X) fun x2 X3 =>
  chk (inR x2 3100) (letV (wI X3 26 (ix x2) a2) fun X4 =>
  letV (X4.2.1 0 47) fun y5 =>
  chk (inR x2 3100) (letV (wL X4 29 (ix x2) y5) fun X6 =>
  bnd (f_next X6) fun _ X7 =>
  bnd (f_done x2 X7) fun _ X8 =>
  some (0, X8)))
set_option maxHeartbeats 4000000 in
set_option maxRecDepth 100000 in
theorem c_named_48 (Γ : Gx) (As : List Value) (a1 : Int32) (a2 : Int32) (b0 : Int32) (X : St) : T YR Γ cX11_named 4 "BlameCourtModel" none R_named As qV 48 [(0, .ref (Γ.2.2.2.1 0)), (1, .int a1), (2, .int a2)] [.int b0, .ref (Γ.2.2.2.1 0)] X (f_named_48 a1 a2 b0 X) := by
  unfold f_named_48
  refine T.iload_n dX11_named_48 rfl 1 rfl ?_
  refine T.callV_i 0 (As1 := [.int b0, .int a1]) (rest := []) (c_make Γ b0 a1 X) ka_X11_make kv_X11_make oR rfl k1890 rfl rfl rfl rfl ⟨Nat.le_of_ble_eq_true rfl, Nat.le_of_ble_eq_true rfl⟩ (Nat.le_of_ble_eq_true rfl) dX11_named_49 (fun x2 X3 => ?_)
  refine T.istore_n (lv1 := [(3, .int x2), (0, .ref (Γ.2.2.2.1 0)), (1, .int a1), (2, .int a2)]) dX11_named_52 rfl (by decide) rfl ?_
  refine T.aload_n dX11_named_53 rfl 1 rfl ?_
  refine cR73 k1411 dX11_named_54 ?_
  refine T.iload_n dX11_named_57 rfl 0 rfl ?_
  refine T.iload_n dX11_named_58 rfl 3 rfl ?_
  refine asR26 dX11_named_59 (fun X4 => ?_)
  refine T.aload_n dX11_named_60 rfl 1 rfl ?_
  refine cR76 k1414 dX11_named_61 ?_
  refine T.iload_n dX11_named_64 rfl 0 rfl ?_
  refine T.aload_n dX11_named_65 rfl 1 rfl ?_
  refine gR47 k1376 dX11_named_66 (fun y5 => ?_)
  refine asR29 dX11_named_69 (fun X6 => ?_)
  refine T.aload_n dX11_named_70 rfl 1 rfl ?_
  refine T.callV_v 0 (As1 := []) (rest := []) (c_next Γ X6) ka_X11_next kv_X11_next oR rfl k1776 rfl rfl rfl rfl ⟨Nat.le_of_ble_eq_true rfl, Nat.le_of_ble_eq_true rfl⟩ (Nat.le_of_ble_eq_true rfl) dX11_named_71 (fun _ X7 => ?_)
  refine T.aload_n dX11_named_74 rfl 1 rfl ?_
  refine T.iload_n dX11_named_75 rfl 0 rfl ?_
  refine T.callV_v 0 (As1 := [.int x2]) (rest := []) (c_done Γ x2 X7) ka_X11_done kv_X11_done oR rfl k1902 rfl rfl rfl rfl ⟨Nat.le_of_ble_eq_true rfl, Nat.le_of_ble_eq_true rfl⟩ (Nat.le_of_ble_eq_true rfl) dX11_named_76 (fun _ X8 => ?_)
  exact T.ret_v rfl dX11_named_79
noncomputable def f_named_31 (r4 : Int32 → Int32 → Int32 → St → Option (Int32 × St)) (a1 : Int32) (a3 : Int32) (b0 : Int32) (X : St) : Option (Int32 × St) :=
  letV (a3 + Int32.ofInt (1)) fun x12 =>
  r4 a1 b0 x12 X
set_option maxHeartbeats 4000000 in
set_option maxRecDepth 100000 in
theorem c_named_31 (Γ : Gx) (As : List Value) (r4 : Int32 → Int32 → Int32 → St → Option (Int32 × St)) (hr4 : ∀ (a1 : Int32) (a2 : Int32) (a3 : Int32) (X : St), T YR Γ cX11_named 4 "BlameCourtModel" none R_named As qV 4 [(0, .ref (Γ.2.2.2.1 0)), (1, .int a1), (2, .int a2), (3, .int a3)] [] X (r4 a1 a2 a3 X)) (a1 : Int32) (a3 : Int32) (b0 : Int32) (X : St) : T YR Γ cX11_named 4 "BlameCourtModel" none R_named As qV 31 [(0, .ref (Γ.2.2.2.1 0)), (1, .int a1), (3, .int a3)] [.int b0] X (f_named_31 r4 a1 a3 b0 X) := by
  unfold f_named_31
  refine T.istore_n (lv1 := [(2, .int b0), (0, .ref (Γ.2.2.2.1 0)), (1, .int a1), (3, .int a3)]) dX11_named_31 rfl (by decide) rfl ?_
  refine T.iinc dX11_named_32 3 rfl (by decide) (lvf := fun x12 => [(3, .int x12), (2, .int b0), (0, .ref (Γ.2.2.2.1 0)), (1, .int a1)]) (fun _ => rfl) (fun x12 => ?_)
  refine T.goto (pc1 := 4) dX11_named_35 (by decide) ?_
  refine T.sub [2, 3, 1, 0] rfl ?_
  exact hr4 a1 b0 x12 X
noncomputable def f_named_4_s (r4 : Int32 → Int32 → Int32 → St → Option (Int32 × St)) (a1 : Int32) (a2 : Int32) (a3 : Int32) (X : St) : Option (Int32 × St) :=
  letV (X.1 0 20) fun x1 =>
  if x1.toInt ≤ a3.toInt then
    if 0 ≤ a2.toInt then
      f_named_48 a1 a2 (2 : Int32) X
    else
      f_named_48 a1 a2 (3 : Int32) X
  else
    chk (inR a3 60) (letV (X.2.1 30 (ix a3)) fun y9 =>
    letV (X.2.1 0 47) fun y10 =>
    letV (lg_cmp y9 y10) fun x11 =>
    if x11.toInt = 0 then
      f_named_31 r4 a1 a3 a3 X
    else
      f_named_31 r4 a1 a3 a2 X)
noncomputable def f_named_4 (n : Nat) : Int32 → Int32 → Int32 → St → Option (Int32 × St) := lp (fun _ _ _ _ => none) (f_named_4_s) n
set_option maxHeartbeats 4000000 in
set_option maxRecDepth 100000 in
theorem c_named_4 (Γ : Gx) (As : List Value) (n : Nat) : ∀ (a1 : Int32) (a2 : Int32) (a3 : Int32) (X : St), T YR Γ cX11_named 4 "BlameCourtModel" none R_named As qV 4 [(0, .ref (Γ.2.2.2.1 0)), (1, .int a1), (2, .int a2), (3, .int a3)] [] X (f_named_4 n a1 a2 a3 X) := by
  unfold f_named_4
  refine lp_ind (P := fun (r4 : Int32 → Int32 → Int32 → St → Option (Int32 × St)) => ∀ (a1 : Int32) (a2 : Int32) (a3 : Int32) (X : St), T YR Γ cX11_named 4 "BlameCourtModel" none R_named As qV 4 [(0, .ref (Γ.2.2.2.1 0)), (1, .int a1), (2, .int a2), (3, .int a3)] [] X (r4 a1 a2 a3 X)) (fun _ _ _ _ => T.no) ?_ n
  intro r4 hr4 a1 a2 a3 X
  unfold f_named_4_s
  refine T.iload_n dX11_named_4 rfl 3 rfl ?_
  refine T.aload_n dX11_named_5 rfl 0 rfl ?_
  refine gR20 k1415 dX11_named_6 (fun x1 => ?_)
  refine T.icmp_ge (pc1 := 38) dX11_named_9 (by decide) rfl ?_ ?_
  · refine T.aload_n dX11_named_38 rfl 0 rfl ?_
    refine T.iload_n dX11_named_39 rfl 2 rfl ?_
    refine T.if_ge (pc1 := 47) dX11_named_40 (by decide) ?_ ?_
    · refine T.iconst (w := 2) dX11_named_47 (by decide) ?_
      refine T.sub [0, 1, 2] rfl ?_
      exact c_named_48 Γ _ a1 a2 (2 : Int32) X
    · refine T.iconst (w := 3) dX11_named_43 (by decide) ?_
      refine T.goto (pc1 := 48) dX11_named_44 (by decide) ?_
      refine T.sub [0, 1, 2] rfl ?_
      exact c_named_48 Γ _ a1 a2 (3 : Int32) X
  · refine T.aload_n dX11_named_12 rfl 0 rfl ?_
    refine cR77 k1416 dX11_named_13 ?_
    refine T.iload_n dX11_named_16 rfl 3 rfl ?_
    refine alR30 dX11_named_17 (fun y9 => ?_)
    refine T.aload_n dX11_named_18 rfl 0 rfl ?_
    refine gR47 k1376 dX11_named_19 (fun y10 => ?_)
    refine T.lcmp dX11_named_22 (fun x11 => ?_)
    refine T.if_ne (pc1 := 30) dX11_named_23 (by decide) ?_ ?_
    · refine T.iload_n dX11_named_30 rfl 2 rfl ?_
      refine T.sub [0, 1, 3] rfl ?_
      exact c_named_31 Γ _ r4 hr4 a1 a3 a2 X
    · refine T.iload_n dX11_named_26 rfl 3 rfl ?_
      refine T.goto (pc1 := 31) dX11_named_27 (by decide) ?_
      refine T.sub [0, 1, 3] rfl ?_
      exact c_named_31 Γ _ r4 hr4 a1 a3 a3 X
noncomputable def f_named (p1 : Int32) (X : St) : Option (Int32 × St) :=
  f_named_4 BIG p1 (-1 : Int32) (0 : Int32) X
set_option maxHeartbeats 4000000 in
set_option maxRecDepth 100000 in
theorem c_named (Γ : Gx) (p1 : Int32) (X : St) : TMV YR Γ yX11_named cX11_named 4 "BlameCourtModel" none R_named [.ref (Γ.2.2.2.1 0), .int p1] X (f_named p1 X) := by
  refine TMV.of (by decide) (Nat.le_of_ble_eq_true rfl) rfl ?_
  show T YR Γ cX11_named 4 "BlameCourtModel" none R_named _ qV 0 [(0, .ref (Γ.2.2.2.1 0)), (1, .int p1)] [] X (f_named p1 X)
  unfold f_named
  refine T.iconst (w := (-1)) dX11_named_0 (by decide) ?_
  refine T.istore_n (lv1 := [(2, .int (-1)), (0, .ref (Γ.2.2.2.1 0)), (1, .int p1)]) dX11_named_1 rfl (by decide) rfl ?_
  refine T.iconst (w := 0) dX11_named_2 (by decide) ?_
  refine T.istore_n (lv1 := [(3, .int 0), (2, .int (-1)), (0, .ref (Γ.2.2.2.1 0)), (1, .int p1)]) dX11_named_3 rfl (by decide) rfl ?_
  refine T.sub [2, 3, 1, 0] rfl ?_
  exact c_named_4 Γ _ BIG p1 (-1 : Int32) (0 : Int32) X
abbrev R_opened : Room := { frames := 10, cells := 0, slots := 0, locals := 150 }
noncomputable def f_opened (p1 : Int32) (p2 : Int32) (X : St) : Option (Int32 × St) :=
  bnd (f_isWell X) fun x1 X2 =>
  if x1.toInt = 0 then
    some (0, X2)
  else
    bnd (f_enter p1 p2 X2) fun _ X3 =>
    letV (wI X3 0 23 ((0 : Int32))) fun X4 =>
    some (0, X4)
set_option maxHeartbeats 4000000 in
set_option maxRecDepth 100000 in
theorem c_opened (Γ : Gx) (p1 : Int32) (p2 : Int32) (X : St) : TMV YR Γ yX11_opened cX11_opened 3 "BlameCourtModel" none R_opened [.ref (Γ.2.2.2.1 0), .int p1, .int p2] X (f_opened p1 p2 X) := by
  refine TMV.of (by decide) (Nat.le_of_ble_eq_true rfl) rfl ?_
  show T YR Γ cX11_opened 3 "BlameCourtModel" none R_opened _ qV 0 [(0, .ref (Γ.2.2.2.1 0)), (1, .int p1), (2, .int p2)] [] X (f_opened p1 p2 X)
  unfold f_opened
  refine T.aload_n dX11_opened_0 rfl 0 rfl ?_
  refine T.callV_i 0 (As1 := []) (rest := []) (c_isWell Γ X) ka_X11_isWell kv_X11_isWell oR rfl k1800 rfl rfl rfl rfl ⟨Nat.le_of_ble_eq_true rfl, Nat.le_of_ble_eq_true rfl⟩ (Nat.le_of_ble_eq_true rfl) dX11_opened_1 (fun x1 X2 => ?_)
  refine T.if_eq (pc1 := 18) dX11_opened_4 (by decide) ?_ ?_
  · exact T.ret_v rfl dX11_opened_18
  · refine T.aload_n dX11_opened_7 rfl 0 rfl ?_
    refine T.iload_n dX11_opened_8 rfl 1 rfl ?_
    refine T.iload_n dX11_opened_9 rfl 2 rfl ?_
    refine T.callV_v 0 (As1 := [.int p1, .int p2]) (rest := []) (c_enter Γ p1 p2 X2) ka_X11_enter kv_X11_enter oR rfl k1864 rfl rfl rfl rfl ⟨Nat.le_of_ble_eq_true rfl, Nat.le_of_ble_eq_true rfl⟩ (Nat.le_of_ble_eq_true rfl) dX11_opened_10 (fun _ X3 => ?_)
    refine T.aload_n dX11_opened_13 rfl 0 rfl ?_
    refine T.iconst (w := 0) dX11_opened_14 (by decide) ?_
    refine pR23 k1428 dX11_opened_15 (fun X4 => ?_)
    exact T.ret_v rfl dX11_opened_18
abbrev R_operand : Room := { frames := 30, cells := 0, slots := 0, locals := 450 }
noncomputable def f_operand_42 (a1 : Int32) (b0 : Int32) (X : St) : Option (Int32 × St) :=
  bnd (f_make b0 a1 X) fun x6 X7 =>
  bnd (f_nests X7) fun _ X8 =>
  bnd (f_isWell X8) fun x9 X10 =>
  if x9.toInt = 0 then
    some (0, X10)
  else
    bnd (f_next X10) fun _ X11 =>
    bnd (f_enter (15 : Int32) x6 X11) fun _ X12 =>
    some (0, X12)
set_option maxHeartbeats 4000000 in
set_option maxRecDepth 100000 in
theorem c_operand_42 (Γ : Gx) (As : List Value) (a1 : Int32) (b0 : Int32) (X : St) : T YR Γ cX11_operand 4 "BlameCourtModel" none R_operand As qV 42 [(0, .ref (Γ.2.2.2.1 0)), (1, .int a1)] [.int b0, .ref (Γ.2.2.2.1 0)] X (f_operand_42 a1 b0 X) := by
  unfold f_operand_42
  refine T.iload_n dX11_operand_42 rfl 1 rfl ?_
  refine T.callV_i 0 (As1 := [.int b0, .int a1]) (rest := []) (c_make Γ b0 a1 X) ka_X11_make kv_X11_make oR rfl k1890 rfl rfl rfl rfl ⟨Nat.le_of_ble_eq_true rfl, Nat.le_of_ble_eq_true rfl⟩ (Nat.le_of_ble_eq_true rfl) dX11_operand_43 (fun x6 X7 => ?_)
  refine T.istore_n (lv1 := [(2, .int x6), (0, .ref (Γ.2.2.2.1 0)), (1, .int a1)]) dX11_operand_46 rfl (by decide) rfl ?_
  refine T.aload_n dX11_operand_47 rfl 1 rfl ?_
  refine T.callV_v 0 (As1 := []) (rest := []) (c_nests Γ X7) ka_X11_nests kv_X11_nests oR rfl k1828 rfl rfl rfl rfl ⟨Nat.le_of_ble_eq_true rfl, Nat.le_of_ble_eq_true rfl⟩ (Nat.le_of_ble_eq_true rfl) dX11_operand_48 (fun _ X8 => ?_)
  refine T.aload_n dX11_operand_51 rfl 1 rfl ?_
  refine T.callV_i 0 (As1 := []) (rest := []) (c_isWell Γ X8) ka_X11_isWell kv_X11_isWell oR rfl k1800 rfl rfl rfl rfl ⟨Nat.le_of_ble_eq_true rfl, Nat.le_of_ble_eq_true rfl⟩ (Nat.le_of_ble_eq_true rfl) dX11_operand_52 (fun x9 X10 => ?_)
  refine T.if_eq (pc1 := 69) dX11_operand_55 (by decide) ?_ ?_
  · refine T.goto (pc1 := 395) dX11_operand_69 (by decide) ?_
    exact T.ret_v rfl dX11_operand_395
  · refine T.aload_n dX11_operand_58 rfl 1 rfl ?_
    refine T.callV_v 0 (As1 := []) (rest := []) (c_next Γ X10) ka_X11_next kv_X11_next oR rfl k1776 rfl rfl rfl rfl ⟨Nat.le_of_ble_eq_true rfl, Nat.le_of_ble_eq_true rfl⟩ (Nat.le_of_ble_eq_true rfl) dX11_operand_59 (fun _ X11 => ?_)
    refine T.aload_n dX11_operand_62 rfl 1 rfl ?_
    refine T.bipush (w := 15) dX11_operand_63 (by decide) ?_
    refine T.iload_n dX11_operand_65 rfl 0 rfl ?_
    refine T.callV_v 0 (As1 := [.int 15, .int x6]) (rest := []) (c_enter Γ (15 : Int32) x6 X11) ka_X11_enter kv_X11_enter oR rfl k1864 rfl rfl rfl rfl ⟨Nat.le_of_ble_eq_true rfl, Nat.le_of_ble_eq_true rfl⟩ (Nat.le_of_ble_eq_true rfl) dX11_operand_66 (fun _ X12 => ?_)
    refine T.goto (pc1 := 395) dX11_operand_69 (by decide) ?_
    exact T.ret_v rfl dX11_operand_395
noncomputable def f_operand_23 (a1 : Int32) (X : St) : Option (Int32 × St) :=
  letV (X.2.1 0 47) fun y4 =>
  letV (lg_cmp y4 (45 : Int64)) fun x5 =>
  if x5.toInt = 0 then
    f_operand_42 a1 (12 : Int32) X
  else
    f_operand_42 a1 (13 : Int32) X
set_option maxHeartbeats 4000000 in
set_option maxRecDepth 100000 in
theorem c_operand_23 (Γ : Gx) (As : List Value) (a1 : Int32) (X : St) : T YR Γ cX11_operand 4 "BlameCourtModel" none R_operand As qV 23 [(0, .ref (Γ.2.2.2.1 0)), (1, .int a1)] [] X (f_operand_23 a1 X) := by
  unfold f_operand_23
  refine T.aload_n dX11_operand_23 rfl 0 rfl ?_
  refine T.aload_n dX11_operand_24 rfl 0 rfl ?_
  refine gR47 k1376 dX11_operand_25 (fun y4 => ?_)
  refine T.ldc2 (w := 45) dX11_operand_28 k1881 ?_
  refine T.lcmp dX11_operand_31 (fun x5 => ?_)
  refine T.if_ne (pc1 := 40) dX11_operand_32 (by decide) ?_ ?_
  · refine T.bipush (w := 13) dX11_operand_40 (by decide) ?_
    exact c_operand_42 Γ _ a1 (13 : Int32) X
  · refine T.bipush (w := 12) dX11_operand_35 (by decide) ?_
    refine T.goto (pc1 := 42) dX11_operand_37 (by decide) ?_
    exact c_operand_42 Γ _ a1 (12 : Int32) X
noncomputable def f_operand_141 (a2 : Int32) (b0 : Int32) (b1 : Int32) (X : St) : Option (Int32 × St) :=
  chk (inR b1 3100) (letV (wI X 26 (ix b1) b0) fun X23 =>
  bnd (f_next X23) fun _ X24 =>
  bnd (f_done a2 X24) fun _ X25 =>
  some (0, X25))
set_option maxHeartbeats 4000000 in
set_option maxRecDepth 100000 in
theorem c_operand_141 (Γ : Gx) (As : List Value) (a2 : Int32) (b0 : Int32) (b1 : Int32) (X : St) : T YR Γ cX11_operand 4 "BlameCourtModel" none R_operand As qV 141 [(0, .ref (Γ.2.2.2.1 0)), (2, .int a2)] [.int b0, .int b1, .ref (Γ.2.2.2.1 26)] X (f_operand_141 a2 b0 b1 X) := by
  unfold f_operand_141
  refine asR26 dX11_operand_141 (fun X23 => ?_)
  refine T.aload_n dX11_operand_142 rfl 0 rfl ?_
  refine T.callV_v 0 (As1 := []) (rest := []) (c_next Γ X23) ka_X11_next kv_X11_next oR rfl k1776 rfl rfl rfl rfl ⟨Nat.le_of_ble_eq_true rfl, Nat.le_of_ble_eq_true rfl⟩ (Nat.le_of_ble_eq_true rfl) dX11_operand_143 (fun _ X24 => ?_)
  refine T.aload_n dX11_operand_146 rfl 0 rfl ?_
  refine T.iload_n dX11_operand_147 rfl 1 rfl ?_
  refine T.callV_v 0 (As1 := [.int a2]) (rest := []) (c_done Γ a2 X24) ka_X11_done kv_X11_done oR rfl k1902 rfl rfl rfl rfl ⟨Nat.le_of_ble_eq_true rfl, Nat.le_of_ble_eq_true rfl⟩ (Nat.le_of_ble_eq_true rfl) dX11_operand_148 (fun _ X25 => ?_)
  refine T.goto (pc1 := 395) dX11_operand_151 (by decide) ?_
  exact T.ret_v rfl dX11_operand_395
noncomputable def f_operand_113 (a1 : Int32) (X : St) : Option (Int32 × St) :=
  bnd (f_make (1 : Int32) a1 X) fun x19 X20 =>
  letV (X20.2.1 0 47) fun y21 =>
  letV (lg_cmp y21 (6 : Int64)) fun x22 =>
  if x22.toInt = 0 then
    f_operand_141 x19 (1 : Int32) x19 X20
  else
    f_operand_141 x19 (0 : Int32) x19 X20
set_option maxHeartbeats 4000000 in
set_option maxRecDepth 100000 in
theorem c_operand_113 (Γ : Gx) (As : List Value) (a1 : Int32) (X : St) : T YR Γ cX11_operand 4 "BlameCourtModel" none R_operand As qV 113 [(0, .ref (Γ.2.2.2.1 0)), (1, .int a1)] [] X (f_operand_113 a1 X) := by
  unfold f_operand_113
  refine T.aload_n dX11_operand_113 rfl 0 rfl ?_
  refine T.iconst (w := 1) dX11_operand_114 (by decide) ?_
  refine T.iload_n dX11_operand_115 rfl 1 rfl ?_
  refine T.callV_i 0 (As1 := [.int 1, .int a1]) (rest := []) (c_make Γ (1 : Int32) a1 X) ka_X11_make kv_X11_make oR rfl k1890 rfl rfl rfl rfl ⟨Nat.le_of_ble_eq_true rfl, Nat.le_of_ble_eq_true rfl⟩ (Nat.le_of_ble_eq_true rfl) dX11_operand_116 (fun x19 X20 => ?_)
  refine T.istore_n (lv1 := [(2, .int x19), (0, .ref (Γ.2.2.2.1 0)), (1, .int a1)]) dX11_operand_119 rfl (by decide) rfl ?_
  refine T.aload_n dX11_operand_120 rfl 1 rfl ?_
  refine cR73 k1411 dX11_operand_121 ?_
  refine T.iload_n dX11_operand_124 rfl 0 rfl ?_
  refine T.aload_n dX11_operand_125 rfl 1 rfl ?_
  refine gR47 k1376 dX11_operand_126 (fun y21 => ?_)
  refine T.ldc2 (w := 6) dX11_operand_129 k1877 ?_
  refine T.lcmp dX11_operand_132 (fun x22 => ?_)
  refine T.if_ne (pc1 := 140) dX11_operand_133 (by decide) ?_ ?_
  · refine T.iconst (w := 0) dX11_operand_140 (by decide) ?_
    refine T.sub [1, 0] rfl ?_
    exact c_operand_141 Γ _ x19 (0 : Int32) x19 X20
  · refine T.iconst (w := 1) dX11_operand_136 (by decide) ?_
    refine T.goto (pc1 := 141) dX11_operand_137 (by decide) ?_
    refine T.sub [1, 0] rfl ?_
    exact c_operand_141 Γ _ x19 (1 : Int32) x19 X20
noncomputable def f_operand_318 (a3 : Int32) (b0 : Int32) (X : St) : Option (Int32 × St) :=
  bnd (f_opened b0 a3 X) fun _ X40 =>
  some (0, X40)
set_option maxHeartbeats 4000000 in
set_option maxRecDepth 100000 in
theorem c_operand_318 (Γ : Gx) (As : List Value) (a3 : Int32) (b0 : Int32) (X : St) : T YR Γ cX11_operand 4 "BlameCourtModel" none R_operand As qV 318 [(3, .int a3)] [.int b0, .ref (Γ.2.2.2.1 0)] X (f_operand_318 a3 b0 X) := by
  unfold f_operand_318
  refine T.iload_n dX11_operand_318 rfl 0 rfl ?_
  refine T.callV_v 0 (As1 := [.int b0, .int a3]) (rest := []) (c_opened Γ b0 a3 X) ka_X11_opened kv_X11_opened oR rfl k1910 rfl rfl rfl rfl ⟨Nat.le_of_ble_eq_true rfl, Nat.le_of_ble_eq_true rfl⟩ (Nat.le_of_ble_eq_true rfl) dX11_operand_319 (fun _ X40 => ?_)
  refine T.goto (pc1 := 395) dX11_operand_322 (by decide) ?_
  exact T.ret_v rfl dX11_operand_395
noncomputable def f_operand_289 (a1 : Int32) (a2 : Int32) (b0 : Int32) (X : St) : Option (Int32 × St) :=
  bnd (f_make b0 a1 X) fun x36 X37 =>
  bnd (f_next X37) fun _ X38 =>
  bnd (f_opens (40 : Int32) X38) fun _ X39 =>
  if a2.toInt = 8 then
    f_operand_318 x36 (9 : Int32) X39
  else
    f_operand_318 x36 (11 : Int32) X39
set_option maxHeartbeats 4000000 in
set_option maxRecDepth 100000 in
theorem c_operand_289 (Γ : Gx) (As : List Value) (a1 : Int32) (a2 : Int32) (b0 : Int32) (X : St) : T YR Γ cX11_operand 4 "BlameCourtModel" none R_operand As qV 289 [(0, .ref (Γ.2.2.2.1 0)), (1, .int a1), (2, .int a2)] [.int b0, .ref (Γ.2.2.2.1 0)] X (f_operand_289 a1 a2 b0 X) := by
  unfold f_operand_289
  refine T.iload_n dX11_operand_289 rfl 1 rfl ?_
  refine T.callV_i 0 (As1 := [.int b0, .int a1]) (rest := []) (c_make Γ b0 a1 X) ka_X11_make kv_X11_make oR rfl k1890 rfl rfl rfl rfl ⟨Nat.le_of_ble_eq_true rfl, Nat.le_of_ble_eq_true rfl⟩ (Nat.le_of_ble_eq_true rfl) dX11_operand_290 (fun x36 X37 => ?_)
  refine T.istore_n (lv1 := [(3, .int x36), (0, .ref (Γ.2.2.2.1 0)), (1, .int a1), (2, .int a2)]) dX11_operand_293 rfl (by decide) rfl ?_
  refine T.aload_n dX11_operand_294 rfl 1 rfl ?_
  refine T.callV_v 0 (As1 := []) (rest := []) (c_next Γ X37) ka_X11_next kv_X11_next oR rfl k1776 rfl rfl rfl rfl ⟨Nat.le_of_ble_eq_true rfl, Nat.le_of_ble_eq_true rfl⟩ (Nat.le_of_ble_eq_true rfl) dX11_operand_295 (fun _ X38 => ?_)
  refine T.aload_n dX11_operand_298 rfl 1 rfl ?_
  refine T.bipush (w := 40) dX11_operand_299 (by decide) ?_
  refine T.callV_v 0 (As1 := [.int 40]) (rest := []) (c_opens Γ (40 : Int32) X38) ka_X11_opens kv_X11_opens oR rfl k1820 rfl rfl rfl rfl ⟨Nat.le_of_ble_eq_true rfl, Nat.le_of_ble_eq_true rfl⟩ (Nat.le_of_ble_eq_true rfl) dX11_operand_301 (fun _ X39 => ?_)
  refine T.aload_n dX11_operand_304 rfl 1 rfl ?_
  refine T.iload_n dX11_operand_305 rfl 3 rfl ?_
  refine T.bipush (w := 8) dX11_operand_306 (by decide) ?_
  refine T.icmp_ne (pc1 := 316) dX11_operand_308 (by decide) rfl ?_ ?_
  · refine T.bipush (w := 11) dX11_operand_316 (by decide) ?_
    refine T.sub [0] rfl ?_
    exact c_operand_318 Γ _ x36 (11 : Int32) X39
  · refine T.bipush (w := 9) dX11_operand_311 (by decide) ?_
    refine T.goto (pc1 := 318) dX11_operand_313 (by decide) ?_
    refine T.sub [0] rfl ?_
    exact c_operand_318 Γ _ x36 (9 : Int32) X39
noncomputable def f_operand_259 (a1 : Int32) (X : St) : Option (Int32 × St) :=
  letV (X.2.1 0 47) fun y34 =>
  letV (y34.toInt32) fun x35 =>
  if x35.toInt = 8 then
    f_operand_289 a1 x35 (5 : Int32) X
  else
    if x35.toInt = 9 then
      f_operand_289 a1 x35 (6 : Int32) X
    else
      f_operand_289 a1 x35 (7 : Int32) X
set_option maxHeartbeats 4000000 in
set_option maxRecDepth 100000 in
theorem c_operand_259 (Γ : Gx) (As : List Value) (a1 : Int32) (X : St) : T YR Γ cX11_operand 4 "BlameCourtModel" none R_operand As qV 259 [(0, .ref (Γ.2.2.2.1 0)), (1, .int a1)] [] X (f_operand_259 a1 X) := by
  unfold f_operand_259
  refine T.aload_n dX11_operand_259 rfl 0 rfl ?_
  refine gR47 k1376 dX11_operand_260 (fun y34 => ?_)
  refine T.l2i dX11_operand_263 (fun x35 => ?_)
  refine T.istore_n (lv1 := [(2, .int x35), (0, .ref (Γ.2.2.2.1 0)), (1, .int a1)]) dX11_operand_264 rfl (by decide) rfl ?_
  refine T.aload_n dX11_operand_265 rfl 1 rfl ?_
  refine T.iload_n dX11_operand_266 rfl 0 rfl ?_
  refine T.bipush (w := 8) dX11_operand_267 (by decide) ?_
  refine T.icmp_ne (pc1 := 276) dX11_operand_269 (by decide) rfl ?_ ?_
  · refine T.iload_n dX11_operand_276 rfl 0 rfl ?_
    refine T.bipush (w := 9) dX11_operand_277 (by decide) ?_
    refine T.icmp_ne (pc1 := 287) dX11_operand_279 (by decide) rfl ?_ ?_
    · refine T.bipush (w := 7) dX11_operand_287 (by decide) ?_
      refine T.sub [1, 2, 0] rfl ?_
      exact c_operand_289 Γ _ a1 x35 (7 : Int32) X
    · refine T.bipush (w := 6) dX11_operand_282 (by decide) ?_
      refine T.goto (pc1 := 289) dX11_operand_284 (by decide) ?_
      refine T.sub [1, 2, 0] rfl ?_
      exact c_operand_289 Γ _ a1 x35 (6 : Int32) X
  · refine T.iconst (w := 5) dX11_operand_272 (by decide) ?_
    refine T.goto (pc1 := 289) dX11_operand_273 (by decide) ?_
    refine T.sub [1, 2, 0] rfl ?_
    exact c_operand_289 Γ _ a1 x35 (5 : Int32) X
noncomputable def f_operand_177 (a1 : Int32) (X : St) : Option (Int32 × St) :=
  bnd (f_isSign (91 : Int32) X) fun x30 X31 =>
  if x30.toInt = 0 then
    bnd (f_isWord (8 : Int32) X31) fun x32 X33 =>
    if x32.toInt = 0 then
      bnd (f_isWord (9 : Int32) X33) fun x41 X42 =>
      if x41.toInt = 0 then
        bnd (f_isWord (10 : Int32) X42) fun x43 X44 =>
        if x43.toInt = 0 then
          bnd (f_isSign (40 : Int32) X44) fun x45 X46 =>
          if x45.toInt = 0 then
            bnd (f_isSign (123 : Int32) X46) fun x47 X48 =>
            if x47.toInt = 0 then
              bnd (f_stray X48) fun _ X49 =>
              some (0, X49)
            else
              bnd (f_make (9 : Int32) a1 X48) fun x50 X51 =>
              bnd (f_opens (123 : Int32) X51) fun _ X52 =>
              bnd (f_opened (7 : Int32) x50 X52) fun _ X53 =>
              some (0, X53)
          else
            bnd (f_make (8 : Int32) a1 X46) fun x54 X55 =>
            bnd (f_opens (40 : Int32) X55) fun _ X56 =>
            bnd (f_opened (6 : Int32) x54 X56) fun _ X57 =>
            some (0, X57)
        else
          f_operand_259 a1 X44
      else
        f_operand_259 a1 X42
    else
      f_operand_259 a1 X33
  else
    bnd (f_make (4 : Int32) a1 X31) fun x58 X59 =>
    bnd (f_opens (91 : Int32) X59) fun _ X60 =>
    bnd (f_isSign (93 : Int32) X60) fun x61 X62 =>
    if x61.toInt = 0 then
      bnd (f_opened (8 : Int32) x58 X62) fun _ X63 =>
      some (0, X63)
    else
      bnd (f_closes (93 : Int32) X62) fun _ X64 =>
      bnd (f_done x58 X64) fun _ X65 =>
      some (0, X65)
set_option maxHeartbeats 4000000 in
set_option maxRecDepth 100000 in
theorem c_operand_177 (Γ : Gx) (As : List Value) (a1 : Int32) (X : St) : T YR Γ cX11_operand 4 "BlameCourtModel" none R_operand As qV 177 [(0, .ref (Γ.2.2.2.1 0)), (1, .int a1)] [] X (f_operand_177 a1 X) := by
  unfold f_operand_177
  refine T.aload_n dX11_operand_177 rfl 0 rfl ?_
  refine T.bipush (w := 91) dX11_operand_178 (by decide) ?_
  refine T.callV_i 0 (As1 := [.int 91]) (rest := []) (c_isSign Γ (91 : Int32) X) ka_X11_isSign kv_X11_isSign oR rfl k1824 rfl rfl rfl rfl ⟨Nat.le_of_ble_eq_true rfl, Nat.le_of_ble_eq_true rfl⟩ (Nat.le_of_ble_eq_true rfl) dX11_operand_180 (fun x30 X31 => ?_)
  refine T.if_eq (pc1 := 232) dX11_operand_183 (by decide) ?_ ?_
  · refine T.aload_n dX11_operand_232 rfl 0 rfl ?_
    refine T.bipush (w := 8) dX11_operand_233 (by decide) ?_
    refine T.callV_i 0 (As1 := [.int 8]) (rest := []) (c_isWord Γ (8 : Int32) X31) ka_X11_isWord kv_X11_isWord oR rfl k1804 rfl rfl rfl rfl ⟨Nat.le_of_ble_eq_true rfl, Nat.le_of_ble_eq_true rfl⟩ (Nat.le_of_ble_eq_true rfl) dX11_operand_235 (fun x32 X33 => ?_)
    refine T.if_ne (pc1 := 259) dX11_operand_238 (by decide) ?_ ?_
    · exact c_operand_259 Γ _ a1 X33
    · refine T.aload_n dX11_operand_241 rfl 0 rfl ?_
      refine T.bipush (w := 9) dX11_operand_242 (by decide) ?_
      refine T.callV_i 0 (As1 := [.int 9]) (rest := []) (c_isWord Γ (9 : Int32) X33) ka_X11_isWord kv_X11_isWord oR rfl k1804 rfl rfl rfl rfl ⟨Nat.le_of_ble_eq_true rfl, Nat.le_of_ble_eq_true rfl⟩ (Nat.le_of_ble_eq_true rfl) dX11_operand_244 (fun x41 X42 => ?_)
      refine T.if_ne (pc1 := 259) dX11_operand_247 (by decide) ?_ ?_
      · exact c_operand_259 Γ _ a1 X42
      · refine T.aload_n dX11_operand_250 rfl 0 rfl ?_
        refine T.bipush (w := 10) dX11_operand_251 (by decide) ?_
        refine T.callV_i 0 (As1 := [.int 10]) (rest := []) (c_isWord Γ (10 : Int32) X42) ka_X11_isWord kv_X11_isWord oR rfl k1804 rfl rfl rfl rfl ⟨Nat.le_of_ble_eq_true rfl, Nat.le_of_ble_eq_true rfl⟩ (Nat.le_of_ble_eq_true rfl) dX11_operand_253 (fun x43 X44 => ?_)
        refine T.if_eq (pc1 := 325) dX11_operand_256 (by decide) ?_ ?_
        · refine T.aload_n dX11_operand_325 rfl 0 rfl ?_
          refine T.bipush (w := 40) dX11_operand_326 (by decide) ?_
          refine T.callV_i 0 (As1 := [.int 40]) (rest := []) (c_isSign Γ (40 : Int32) X44) ka_X11_isSign kv_X11_isSign oR rfl k1824 rfl rfl rfl rfl ⟨Nat.le_of_ble_eq_true rfl, Nat.le_of_ble_eq_true rfl⟩ (Nat.le_of_ble_eq_true rfl) dX11_operand_328 (fun x45 X46 => ?_)
          refine T.if_eq (pc1 := 358) dX11_operand_331 (by decide) ?_ ?_
          · refine T.aload_n dX11_operand_358 rfl 0 rfl ?_
            refine T.bipush (w := 123) dX11_operand_359 (by decide) ?_
            refine T.callV_i 0 (As1 := [.int 123]) (rest := []) (c_isSign Γ (123 : Int32) X46) ka_X11_isSign kv_X11_isSign oR rfl k1824 rfl rfl rfl rfl ⟨Nat.le_of_ble_eq_true rfl, Nat.le_of_ble_eq_true rfl⟩ (Nat.le_of_ble_eq_true rfl) dX11_operand_361 (fun x47 X48 => ?_)
            refine T.if_eq (pc1 := 391) dX11_operand_364 (by decide) ?_ ?_
            · refine T.aload_n dX11_operand_391 rfl 0 rfl ?_
              refine T.callV_v 0 (As1 := []) (rest := []) (c_stray Γ X48) ka_X11_stray kv_X11_stray oR rfl k1808 rfl rfl rfl rfl ⟨Nat.le_of_ble_eq_true rfl, Nat.le_of_ble_eq_true rfl⟩ (Nat.le_of_ble_eq_true rfl) dX11_operand_392 (fun _ X49 => ?_)
              exact T.ret_v rfl dX11_operand_395
            · refine T.aload_n dX11_operand_367 rfl 0 rfl ?_
              refine T.bipush (w := 9) dX11_operand_368 (by decide) ?_
              refine T.iload_n dX11_operand_370 rfl 1 rfl ?_
              refine T.callV_i 0 (As1 := [.int 9, .int a1]) (rest := []) (c_make Γ (9 : Int32) a1 X48) ka_X11_make kv_X11_make oR rfl k1890 rfl rfl rfl rfl ⟨Nat.le_of_ble_eq_true rfl, Nat.le_of_ble_eq_true rfl⟩ (Nat.le_of_ble_eq_true rfl) dX11_operand_371 (fun x50 X51 => ?_)
              refine T.istore_n (lv1 := [(2, .int x50), (0, .ref (Γ.2.2.2.1 0)), (1, .int a1)]) dX11_operand_374 rfl (by decide) rfl ?_
              refine T.aload_n dX11_operand_375 rfl 1 rfl ?_
              refine T.bipush (w := 123) dX11_operand_376 (by decide) ?_
              refine T.callV_v 0 (As1 := [.int 123]) (rest := []) (c_opens Γ (123 : Int32) X51) ka_X11_opens kv_X11_opens oR rfl k1820 rfl rfl rfl rfl ⟨Nat.le_of_ble_eq_true rfl, Nat.le_of_ble_eq_true rfl⟩ (Nat.le_of_ble_eq_true rfl) dX11_operand_378 (fun _ X52 => ?_)
              refine T.aload_n dX11_operand_381 rfl 1 rfl ?_
              refine T.bipush (w := 7) dX11_operand_382 (by decide) ?_
              refine T.iload_n dX11_operand_384 rfl 0 rfl ?_
              refine T.callV_v 0 (As1 := [.int 7, .int x50]) (rest := []) (c_opened Γ (7 : Int32) x50 X52) ka_X11_opened kv_X11_opened oR rfl k1910 rfl rfl rfl rfl ⟨Nat.le_of_ble_eq_true rfl, Nat.le_of_ble_eq_true rfl⟩ (Nat.le_of_ble_eq_true rfl) dX11_operand_385 (fun _ X53 => ?_)
              refine T.goto (pc1 := 395) dX11_operand_388 (by decide) ?_
              exact T.ret_v rfl dX11_operand_395
          · refine T.aload_n dX11_operand_334 rfl 0 rfl ?_
            refine T.bipush (w := 8) dX11_operand_335 (by decide) ?_
            refine T.iload_n dX11_operand_337 rfl 1 rfl ?_
            refine T.callV_i 0 (As1 := [.int 8, .int a1]) (rest := []) (c_make Γ (8 : Int32) a1 X46) ka_X11_make kv_X11_make oR rfl k1890 rfl rfl rfl rfl ⟨Nat.le_of_ble_eq_true rfl, Nat.le_of_ble_eq_true rfl⟩ (Nat.le_of_ble_eq_true rfl) dX11_operand_338 (fun x54 X55 => ?_)
            refine T.istore_n (lv1 := [(2, .int x54), (0, .ref (Γ.2.2.2.1 0)), (1, .int a1)]) dX11_operand_341 rfl (by decide) rfl ?_
            refine T.aload_n dX11_operand_342 rfl 1 rfl ?_
            refine T.bipush (w := 40) dX11_operand_343 (by decide) ?_
            refine T.callV_v 0 (As1 := [.int 40]) (rest := []) (c_opens Γ (40 : Int32) X55) ka_X11_opens kv_X11_opens oR rfl k1820 rfl rfl rfl rfl ⟨Nat.le_of_ble_eq_true rfl, Nat.le_of_ble_eq_true rfl⟩ (Nat.le_of_ble_eq_true rfl) dX11_operand_345 (fun _ X56 => ?_)
            refine T.aload_n dX11_operand_348 rfl 1 rfl ?_
            refine T.bipush (w := 6) dX11_operand_349 (by decide) ?_
            refine T.iload_n dX11_operand_351 rfl 0 rfl ?_
            refine T.callV_v 0 (As1 := [.int 6, .int x54]) (rest := []) (c_opened Γ (6 : Int32) x54 X56) ka_X11_opened kv_X11_opened oR rfl k1910 rfl rfl rfl rfl ⟨Nat.le_of_ble_eq_true rfl, Nat.le_of_ble_eq_true rfl⟩ (Nat.le_of_ble_eq_true rfl) dX11_operand_352 (fun _ X57 => ?_)
            refine T.goto (pc1 := 395) dX11_operand_355 (by decide) ?_
            exact T.ret_v rfl dX11_operand_395
        · exact c_operand_259 Γ _ a1 X44
  · refine T.aload_n dX11_operand_186 rfl 0 rfl ?_
    refine T.iconst (w := 4) dX11_operand_187 (by decide) ?_
    refine T.iload_n dX11_operand_188 rfl 1 rfl ?_
    refine T.callV_i 0 (As1 := [.int 4, .int a1]) (rest := []) (c_make Γ (4 : Int32) a1 X31) ka_X11_make kv_X11_make oR rfl k1890 rfl rfl rfl rfl ⟨Nat.le_of_ble_eq_true rfl, Nat.le_of_ble_eq_true rfl⟩ (Nat.le_of_ble_eq_true rfl) dX11_operand_189 (fun x58 X59 => ?_)
    refine T.istore_n (lv1 := [(2, .int x58), (0, .ref (Γ.2.2.2.1 0)), (1, .int a1)]) dX11_operand_192 rfl (by decide) rfl ?_
    refine T.aload_n dX11_operand_193 rfl 1 rfl ?_
    refine T.bipush (w := 91) dX11_operand_194 (by decide) ?_
    refine T.callV_v 0 (As1 := [.int 91]) (rest := []) (c_opens Γ (91 : Int32) X59) ka_X11_opens kv_X11_opens oR rfl k1820 rfl rfl rfl rfl ⟨Nat.le_of_ble_eq_true rfl, Nat.le_of_ble_eq_true rfl⟩ (Nat.le_of_ble_eq_true rfl) dX11_operand_196 (fun _ X60 => ?_)
    refine T.aload_n dX11_operand_199 rfl 1 rfl ?_
    refine T.bipush (w := 93) dX11_operand_200 (by decide) ?_
    refine T.callV_i 0 (As1 := [.int 93]) (rest := []) (c_isSign Γ (93 : Int32) X60) ka_X11_isSign kv_X11_isSign oR rfl k1824 rfl rfl rfl rfl ⟨Nat.le_of_ble_eq_true rfl, Nat.le_of_ble_eq_true rfl⟩ (Nat.le_of_ble_eq_true rfl) dX11_operand_202 (fun x61 X62 => ?_)
    refine T.if_eq (pc1 := 222) dX11_operand_205 (by decide) ?_ ?_
    · refine T.aload_n dX11_operand_222 rfl 1 rfl ?_
      refine T.bipush (w := 8) dX11_operand_223 (by decide) ?_
      refine T.iload_n dX11_operand_225 rfl 0 rfl ?_
      refine T.callV_v 0 (As1 := [.int 8, .int x58]) (rest := []) (c_opened Γ (8 : Int32) x58 X62) ka_X11_opened kv_X11_opened oR rfl k1910 rfl rfl rfl rfl ⟨Nat.le_of_ble_eq_true rfl, Nat.le_of_ble_eq_true rfl⟩ (Nat.le_of_ble_eq_true rfl) dX11_operand_226 (fun _ X63 => ?_)
      refine T.goto (pc1 := 395) dX11_operand_229 (by decide) ?_
      exact T.ret_v rfl dX11_operand_395
    · refine T.aload_n dX11_operand_208 rfl 1 rfl ?_
      refine T.bipush (w := 93) dX11_operand_209 (by decide) ?_
      refine T.callV_v 0 (As1 := [.int 93]) (rest := []) (c_closes Γ (93 : Int32) X62) ka_X11_closes kv_X11_closes oR rfl k1832 rfl rfl rfl rfl ⟨Nat.le_of_ble_eq_true rfl, Nat.le_of_ble_eq_true rfl⟩ (Nat.le_of_ble_eq_true rfl) dX11_operand_211 (fun _ X64 => ?_)
      refine T.aload_n dX11_operand_214 rfl 1 rfl ?_
      refine T.iload_n dX11_operand_215 rfl 0 rfl ?_
      refine T.callV_v 0 (As1 := [.int x58]) (rest := []) (c_done Γ x58 X64) ka_X11_done kv_X11_done oR rfl k1902 rfl rfl rfl rfl ⟨Nat.le_of_ble_eq_true rfl, Nat.le_of_ble_eq_true rfl⟩ (Nat.le_of_ble_eq_true rfl) dX11_operand_216 (fun _ X65 => ?_)
      refine T.goto (pc1 := 229) dX11_operand_219 (by decide) ?_
      refine T.goto (pc1 := 395) dX11_operand_229 (by decide) ?_
      exact T.ret_v rfl dX11_operand_395
noncomputable def f_operand_95 (a1 : Int32) (X : St) : Option (Int32 × St) :=
  bnd (f_isWord (6 : Int32) X) fun x17 X18 =>
  if x17.toInt = 0 then
    bnd (f_isWord (7 : Int32) X18) fun x26 X27 =>
    if x26.toInt = 0 then
      bnd (f_isWell X27) fun x28 X29 =>
      if x28.toInt = 0 then
        f_operand_177 a1 X29
      else
        letV (X29.1 0 7) fun x66 =>
        if x66.toInt = 1 then
          bnd (f_named a1 X29) fun _ X67 =>
          some (0, X67)
        else
          f_operand_177 a1 X29
    else
      f_operand_113 a1 X27
  else
    f_operand_113 a1 X18
set_option maxHeartbeats 4000000 in
set_option maxRecDepth 100000 in
theorem c_operand_95 (Γ : Gx) (As : List Value) (a1 : Int32) (X : St) : T YR Γ cX11_operand 4 "BlameCourtModel" none R_operand As qV 95 [(0, .ref (Γ.2.2.2.1 0)), (1, .int a1)] [] X (f_operand_95 a1 X) := by
  unfold f_operand_95
  refine T.aload_n dX11_operand_95 rfl 0 rfl ?_
  refine T.bipush (w := 6) dX11_operand_96 (by decide) ?_
  refine T.callV_i 0 (As1 := [.int 6]) (rest := []) (c_isWord Γ (6 : Int32) X) ka_X11_isWord kv_X11_isWord oR rfl k1804 rfl rfl rfl rfl ⟨Nat.le_of_ble_eq_true rfl, Nat.le_of_ble_eq_true rfl⟩ (Nat.le_of_ble_eq_true rfl) dX11_operand_98 (fun x17 X18 => ?_)
  refine T.if_ne (pc1 := 113) dX11_operand_101 (by decide) ?_ ?_
  · exact c_operand_113 Γ _ a1 X18
  · refine T.aload_n dX11_operand_104 rfl 0 rfl ?_
    refine T.bipush (w := 7) dX11_operand_105 (by decide) ?_
    refine T.callV_i 0 (As1 := [.int 7]) (rest := []) (c_isWord Γ (7 : Int32) X18) ka_X11_isWord kv_X11_isWord oR rfl k1804 rfl rfl rfl rfl ⟨Nat.le_of_ble_eq_true rfl, Nat.le_of_ble_eq_true rfl⟩ (Nat.le_of_ble_eq_true rfl) dX11_operand_107 (fun x26 X27 => ?_)
    refine T.if_eq (pc1 := 154) dX11_operand_110 (by decide) ?_ ?_
    · refine T.aload_n dX11_operand_154 rfl 0 rfl ?_
      refine T.callV_i 0 (As1 := []) (rest := []) (c_isWell Γ X27) ka_X11_isWell kv_X11_isWell oR rfl k1800 rfl rfl rfl rfl ⟨Nat.le_of_ble_eq_true rfl, Nat.le_of_ble_eq_true rfl⟩ (Nat.le_of_ble_eq_true rfl) dX11_operand_155 (fun x28 X29 => ?_)
      refine T.if_eq (pc1 := 177) dX11_operand_158 (by decide) ?_ ?_
      · exact c_operand_177 Γ _ a1 X29
      · refine T.aload_n dX11_operand_161 rfl 0 rfl ?_
        refine gR7 k1375 dX11_operand_162 (fun x66 => ?_)
        refine T.iconst (w := 1) dX11_operand_165 (by decide) ?_
        refine T.icmp_ne (pc1 := 177) dX11_operand_166 (by decide) rfl ?_ ?_
        · exact c_operand_177 Γ _ a1 X29
        · refine T.aload_n dX11_operand_169 rfl 0 rfl ?_
          refine T.iload_n dX11_operand_170 rfl 1 rfl ?_
          refine T.callV_v 0 (As1 := [.int a1]) (rest := []) (c_named Γ a1 X29) ka_X11_named kv_X11_named oR rfl k1906 rfl rfl rfl rfl ⟨Nat.le_of_ble_eq_true rfl, Nat.le_of_ble_eq_true rfl⟩ (Nat.le_of_ble_eq_true rfl) dX11_operand_171 (fun _ X67 => ?_)
          refine T.goto (pc1 := 395) dX11_operand_174 (by decide) ?_
          exact T.ret_v rfl dX11_operand_395
    · exact c_operand_113 Γ _ a1 X27
noncomputable def f_operand (X : St) : Option (Int32 × St) :=
  letV (X.1 0 6) fun x1 =>
  bnd (f_isSign (45 : Int32) X) fun x2 X3 =>
  if x2.toInt = 0 then
    bnd (f_isSign (33 : Int32) X3) fun x13 X14 =>
    if x13.toInt = 0 then
      bnd (f_isWell X14) fun x15 X16 =>
      if x15.toInt = 0 then
        f_operand_95 x1 X16
      else
        letV (X16.1 0 7) fun x68 =>
        if x68.toInt = 3 then
          bnd (f_number x1 X16) fun _ X69 =>
          some (0, X69)
        else
          f_operand_95 x1 X16
    else
      f_operand_23 x1 X14
  else
    f_operand_23 x1 X3
set_option maxHeartbeats 4000000 in
set_option maxRecDepth 100000 in
theorem c_operand (Γ : Gx) (X : St) : TMV YR Γ yX11_operand cX11_operand 4 "BlameCourtModel" none R_operand [.ref (Γ.2.2.2.1 0)] X (f_operand X) := by
  refine TMV.of (by decide) (Nat.le_of_ble_eq_true rfl) rfl ?_
  show T YR Γ cX11_operand 4 "BlameCourtModel" none R_operand _ qV 0 [(0, .ref (Γ.2.2.2.1 0))] [] X (f_operand X)
  unfold f_operand
  refine T.aload_n dX11_operand_0 rfl 0 rfl ?_
  refine gR6 k1374 dX11_operand_1 (fun x1 => ?_)
  refine T.istore_n (lv1 := [(1, .int x1), (0, .ref (Γ.2.2.2.1 0))]) dX11_operand_4 rfl (by decide) rfl ?_
  refine T.aload_n dX11_operand_5 rfl 1 rfl ?_
  refine T.bipush (w := 45) dX11_operand_6 (by decide) ?_
  refine T.callV_i 0 (As1 := [.int 45]) (rest := []) (c_isSign Γ (45 : Int32) X) ka_X11_isSign kv_X11_isSign oR rfl k1824 rfl rfl rfl rfl ⟨Nat.le_of_ble_eq_true rfl, Nat.le_of_ble_eq_true rfl⟩ (Nat.le_of_ble_eq_true rfl) dX11_operand_8 (fun x2 X3 => ?_)
  refine T.if_ne (pc1 := 23) dX11_operand_11 (by decide) ?_ ?_
  · refine T.sub [1, 0] rfl ?_
    exact c_operand_23 Γ _ x1 X3
  · refine T.aload_n dX11_operand_14 rfl 1 rfl ?_
    refine T.bipush (w := 33) dX11_operand_15 (by decide) ?_
    refine T.callV_i 0 (As1 := [.int 33]) (rest := []) (c_isSign Γ (33 : Int32) X3) ka_X11_isSign kv_X11_isSign oR rfl k1824 rfl rfl rfl rfl ⟨Nat.le_of_ble_eq_true rfl, Nat.le_of_ble_eq_true rfl⟩ (Nat.le_of_ble_eq_true rfl) dX11_operand_17 (fun x13 X14 => ?_)
    refine T.if_eq (pc1 := 72) dX11_operand_20 (by decide) ?_ ?_
    · refine T.aload_n dX11_operand_72 rfl 1 rfl ?_
      refine T.callV_i 0 (As1 := []) (rest := []) (c_isWell Γ X14) ka_X11_isWell kv_X11_isWell oR rfl k1800 rfl rfl rfl rfl ⟨Nat.le_of_ble_eq_true rfl, Nat.le_of_ble_eq_true rfl⟩ (Nat.le_of_ble_eq_true rfl) dX11_operand_73 (fun x15 X16 => ?_)
      refine T.if_eq (pc1 := 95) dX11_operand_76 (by decide) ?_ ?_
      · refine T.sub [1, 0] rfl ?_
        exact c_operand_95 Γ _ x1 X16
      · refine T.aload_n dX11_operand_79 rfl 1 rfl ?_
        refine gR7 k1375 dX11_operand_80 (fun x68 => ?_)
        refine T.iconst (w := 3) dX11_operand_83 (by decide) ?_
        refine T.icmp_ne (pc1 := 95) dX11_operand_84 (by decide) rfl ?_ ?_
        · refine T.sub [1, 0] rfl ?_
          exact c_operand_95 Γ _ x1 X16
        · refine T.aload_n dX11_operand_87 rfl 1 rfl ?_
          refine T.iload_n dX11_operand_88 rfl 0 rfl ?_
          refine T.callV_v 0 (As1 := [.int x1]) (rest := []) (c_number Γ x1 X16) ka_X11_number kv_X11_number oR rfl k1898 rfl rfl rfl rfl ⟨Nat.le_of_ble_eq_true rfl, Nat.le_of_ble_eq_true rfl⟩ (Nat.le_of_ble_eq_true rfl) dX11_operand_89 (fun _ X69 => ?_)
          refine T.goto (pc1 := 395) dX11_operand_92 (by decide) ?_
          exact T.ret_v rfl dX11_operand_395
    · refine T.sub [1, 0] rfl ?_
      exact c_operand_23 Γ _ x1 X14
abbrev R_behind : Room := { frames := 30, cells := 0, slots := 0, locals := 450 }
noncomputable def f_behind_214 (a3 : Int32) (b0 : Int32) (X : St) : Option (Int32 × St) :=
  bnd (f_opened b0 a3 X) fun _ X17 =>
  some (0, X17)
set_option maxHeartbeats 4000000 in
set_option maxRecDepth 100000 in
theorem c_behind_214 (Γ : Gx) (As : List Value) (a3 : Int32) (b0 : Int32) (X : St) : T YR Γ cX11_behind 5 "BlameCourtModel" none R_behind As qV 214 [(3, .int a3)] [.int b0, .ref (Γ.2.2.2.1 0)] X (f_behind_214 a3 b0 X) := by
  unfold f_behind_214
  refine T.iload_n dX11_behind_214 rfl 0 rfl ?_
  refine T.callV_v 0 (As1 := [.int b0, .int a3]) (rest := []) (c_opened Γ b0 a3 X) ka_X11_opened kv_X11_opened oR rfl k1910 rfl rfl rfl rfl ⟨Nat.le_of_ble_eq_true rfl, Nat.le_of_ble_eq_true rfl⟩ (Nat.le_of_ble_eq_true rfl) dX11_behind_215 (fun _ X17 => ?_)
  refine T.goto (pc1 := 293) dX11_behind_218 (by decide) ?_
  exact T.ret_v rfl dX11_behind_293
noncomputable def f_behind_201 (a3 : Int32) (a4 : Int32) (X : St) : Option (Int32 × St) :=
  if a4.toInt = 0 then
    f_behind_214 a3 (13 : Int32) X
  else
    f_behind_214 a3 (12 : Int32) X
set_option maxHeartbeats 4000000 in
set_option maxRecDepth 100000 in
theorem c_behind_201 (Γ : Gx) (As : List Value) (a3 : Int32) (a4 : Int32) (X : St) : T YR Γ cX11_behind 5 "BlameCourtModel" none R_behind As qV 201 [(0, .ref (Γ.2.2.2.1 0)), (3, .int a3), (4, .int a4)] [] X (f_behind_201 a3 a4 X) := by
  unfold f_behind_201
  refine T.aload_n dX11_behind_201 rfl 0 rfl ?_
  refine T.iload dX11_behind_202 2 rfl ?_
  refine T.if_eq (pc1 := 212) dX11_behind_204 (by decide) ?_ ?_
  · refine T.bipush (w := 13) dX11_behind_212 (by decide) ?_
    refine T.sub [1] rfl ?_
    exact c_behind_214 Γ _ a3 (13 : Int32) X
  · refine T.bipush (w := 12) dX11_behind_207 (by decide) ?_
    refine T.goto (pc1 := 214) dX11_behind_209 (by decide) ?_
    refine T.sub [1] rfl ?_
    exact c_behind_214 Γ _ a3 (12 : Int32) X
noncomputable def f_behind_170 (a3 : Int32) (a4 : Int32) (b0 : Int32) (X : St) : Option (Int32 × St) :=
  bnd (f_opens b0 X) fun _ X16 =>
  if a4.toInt = 0 then
    f_behind_201 a3 a4 X16
  else
    bnd (f_isSign (41 : Int32) X16) fun x18 X19 =>
    if x18.toInt = 0 then
      f_behind_201 a3 a4 X19
    else
      bnd (f_closes (41 : Int32) X19) fun _ X20 =>
      bnd (f_done a3 X20) fun _ X21 =>
      some (0, X21)
set_option maxHeartbeats 4000000 in
set_option maxRecDepth 100000 in
theorem c_behind_170 (Γ : Gx) (As : List Value) (a3 : Int32) (a4 : Int32) (b0 : Int32) (X : St) : T YR Γ cX11_behind 5 "BlameCourtModel" none R_behind As qV 170 [(0, .ref (Γ.2.2.2.1 0)), (3, .int a3), (4, .int a4)] [.int b0, .ref (Γ.2.2.2.1 0)] X (f_behind_170 a3 a4 b0 X) := by
  unfold f_behind_170
  refine T.callV_v 0 (As1 := [.int b0]) (rest := []) (c_opens Γ b0 X) ka_X11_opens kv_X11_opens oR rfl k1820 rfl rfl rfl rfl ⟨Nat.le_of_ble_eq_true rfl, Nat.le_of_ble_eq_true rfl⟩ (Nat.le_of_ble_eq_true rfl) dX11_behind_170 (fun _ X16 => ?_)
  refine T.iload dX11_behind_173 2 rfl ?_
  refine T.if_eq (pc1 := 201) dX11_behind_175 (by decide) ?_ ?_
  · exact c_behind_201 Γ _ a3 a4 X16
  · refine T.aload_n dX11_behind_178 rfl 0 rfl ?_
    refine T.bipush (w := 41) dX11_behind_179 (by decide) ?_
    refine T.callV_i 0 (As1 := [.int 41]) (rest := []) (c_isSign Γ (41 : Int32) X16) ka_X11_isSign kv_X11_isSign oR rfl k1824 rfl rfl rfl rfl ⟨Nat.le_of_ble_eq_true rfl, Nat.le_of_ble_eq_true rfl⟩ (Nat.le_of_ble_eq_true rfl) dX11_behind_181 (fun x18 X19 => ?_)
    refine T.if_eq (pc1 := 201) dX11_behind_184 (by decide) ?_ ?_
    · exact c_behind_201 Γ _ a3 a4 X19
    · refine T.aload_n dX11_behind_187 rfl 0 rfl ?_
      refine T.bipush (w := 41) dX11_behind_188 (by decide) ?_
      refine T.callV_v 0 (As1 := [.int 41]) (rest := []) (c_closes Γ (41 : Int32) X19) ka_X11_closes kv_X11_closes oR rfl k1832 rfl rfl rfl rfl ⟨Nat.le_of_ble_eq_true rfl, Nat.le_of_ble_eq_true rfl⟩ (Nat.le_of_ble_eq_true rfl) dX11_behind_190 (fun _ X20 => ?_)
      refine T.aload_n dX11_behind_193 rfl 0 rfl ?_
      refine T.iload_n dX11_behind_194 rfl 1 rfl ?_
      refine T.callV_v 0 (As1 := [.int a3]) (rest := []) (c_done Γ a3 X20) ka_X11_done kv_X11_done oR rfl k1902 rfl rfl rfl rfl ⟨Nat.le_of_ble_eq_true rfl, Nat.le_of_ble_eq_true rfl⟩ (Nat.le_of_ble_eq_true rfl) dX11_behind_195 (fun _ X21 => ?_)
      refine T.goto (pc1 := 218) dX11_behind_198 (by decide) ?_
      refine T.goto (pc1 := 293) dX11_behind_218 (by decide) ?_
      exact T.ret_v rfl dX11_behind_293
noncomputable def f_behind_155 (a3 : Int32) (b0 : Int32) (X : St) : Option (Int32 × St) :=
  if b0.toInt = 0 then
    f_behind_170 a3 b0 (91 : Int32) X
  else
    f_behind_170 a3 b0 (40 : Int32) X
set_option maxHeartbeats 4000000 in
set_option maxRecDepth 100000 in
theorem c_behind_155 (Γ : Gx) (As : List Value) (a3 : Int32) (b0 : Int32) (X : St) : T YR Γ cX11_behind 5 "BlameCourtModel" none R_behind As qV 155 [(0, .ref (Γ.2.2.2.1 0)), (3, .int a3)] [.int b0] X (f_behind_155 a3 b0 X) := by
  unfold f_behind_155
  refine T.istore (lv1 := [(4, .int b0), (0, .ref (Γ.2.2.2.1 0)), (3, .int a3)]) dX11_behind_155 (by decide) rfl ?_
  refine T.aload_n dX11_behind_157 rfl 1 rfl ?_
  refine T.iload dX11_behind_158 0 rfl ?_
  refine T.if_eq (pc1 := 168) dX11_behind_160 (by decide) ?_ ?_
  · refine T.bipush (w := 91) dX11_behind_168 (by decide) ?_
    refine T.sub [1, 2, 0] rfl ?_
    exact c_behind_170 Γ _ a3 b0 (91 : Int32) X
  · refine T.bipush (w := 40) dX11_behind_163 (by decide) ?_
    refine T.goto (pc1 := 170) dX11_behind_165 (by decide) ?_
    refine T.sub [1, 2, 0] rfl ?_
    exact c_behind_170 Γ _ a3 b0 (40 : Int32) X
noncomputable def f_behind_139 (a3 : Int32) (X : St) : Option (Int32 × St) :=
  chk (inR a3 3100) (letV (X.1 20 (ix a3)) fun x15 =>
  if x15.toInt = 11 then
    f_behind_155 a3 (1 : Int32) X
  else
    f_behind_155 a3 (0 : Int32) X)
set_option maxHeartbeats 4000000 in
set_option maxRecDepth 100000 in
theorem c_behind_139 (Γ : Gx) (As : List Value) (a3 : Int32) (X : St) : T YR Γ cX11_behind 5 "BlameCourtModel" none R_behind As qV 139 [(0, .ref (Γ.2.2.2.1 0)), (3, .int a3)] [] X (f_behind_139 a3 X) := by
  unfold f_behind_139
  refine T.aload_n dX11_behind_139 rfl 0 rfl ?_
  refine cR67 k1405 dX11_behind_140 ?_
  refine T.iload_n dX11_behind_143 rfl 1 rfl ?_
  refine alR20 dX11_behind_144 (fun x15 => ?_)
  refine T.bipush (w := 11) dX11_behind_145 (by decide) ?_
  refine T.icmp_ne (pc1 := 154) dX11_behind_147 (by decide) rfl ?_ ?_
  · refine T.iconst (w := 0) dX11_behind_154 (by decide) ?_
    exact c_behind_155 Γ _ a3 (0 : Int32) X
  · refine T.iconst (w := 1) dX11_behind_150 (by decide) ?_
    refine T.goto (pc1 := 155) dX11_behind_151 (by decide) ?_
    exact c_behind_155 Γ _ a3 (1 : Int32) X
noncomputable def f_behind_118 (a3 : Int32) (b0 : Int32) (b1 : Int32) (X : St) : Option (Int32 × St) :=
  chk (inR b1 3100) (letV (wI X 39 (ix b1) b0) fun X13 =>
  chk (inR a3 3100) (letV (X13.1 39 (ix a3)) fun x14 =>
  if x14.toInt ≤ 40 then
    f_behind_139 a3 X13
  else
    letV (X13.1 0 6) fun x22 =>
    bnd (f_fails (3 : Int32) x22 X13) fun _ X23 =>
    f_behind_139 a3 X23))
set_option maxHeartbeats 4000000 in
set_option maxRecDepth 100000 in
theorem c_behind_118 (Γ : Gx) (As : List Value) (a3 : Int32) (b0 : Int32) (b1 : Int32) (X : St) : T YR Γ cX11_behind 5 "BlameCourtModel" none R_behind As qV 118 [(0, .ref (Γ.2.2.2.1 0)), (3, .int a3)] [.int b0, .int b1, .ref (Γ.2.2.2.1 39)] X (f_behind_118 a3 b0 b1 X) := by
  unfold f_behind_118
  refine asR39 dX11_behind_118 (fun X13 => ?_)
  refine T.aload_n dX11_behind_119 rfl 0 rfl ?_
  refine cR86 k1427 dX11_behind_120 ?_
  refine T.iload_n dX11_behind_123 rfl 1 rfl ?_
  refine alR39 dX11_behind_124 (fun x14 => ?_)
  refine T.bipush (w := 40) dX11_behind_125 (by decide) ?_
  refine T.icmp_le (pc1 := 139) dX11_behind_127 (by decide) rfl ?_ ?_
  · exact c_behind_139 Γ _ a3 X13
  · refine T.aload_n dX11_behind_130 rfl 0 rfl ?_
    refine T.iconst (w := 3) dX11_behind_131 (by decide) ?_
    refine T.aload_n dX11_behind_132 rfl 0 rfl ?_
    refine gR6 k1374 dX11_behind_133 (fun x22 => ?_)
    refine T.callV_v 0 (As1 := [.int 3, .int x22]) (rest := []) (c_fails Γ (3 : Int32) x22 X13) ka_X11_fails kv_X11_fails oR rfl k1812 rfl rfl rfl rfl ⟨Nat.le_of_ble_eq_true rfl, Nat.le_of_ble_eq_true rfl⟩ (Nat.le_of_ble_eq_true rfl) dX11_behind_136 (fun _ X23 => ?_)
    exact c_behind_139 Γ _ a3 X23
noncomputable def f_behind_70 (a1 : Int32) (a2 : Int32) (b0 : Int32) (X : St) : Option (Int32 × St) :=
  chk (inR a1 3100) (letV (X.1 21 (ix a1)) fun x7 =>
  bnd (f_make b0 x7 X) fun x8 X9 =>
  letV (X9.1 0 6) fun x10 =>
  chk (inR x8 3100) (letV (wI X9 22 (ix x8) x10) fun X11 =>
  chk (inR x8 3100) (letV (wI X11 23 (ix x8) a1) fun X12 =>
  if a2.toInt = 0 then
    f_behind_118 x8 (1 : Int32) x8 X12
  else
    chk (inR a1 3100) (letV (X12.1 39 (ix a1)) fun x24 =>
    letV (x24 + (1 : Int32)) fun x25 =>
    f_behind_118 x8 x25 x8 X12))))
set_option maxHeartbeats 4000000 in
set_option maxRecDepth 100000 in
theorem c_behind_70 (Γ : Gx) (As : List Value) (a1 : Int32) (a2 : Int32) (b0 : Int32) (X : St) : T YR Γ cX11_behind 5 "BlameCourtModel" none R_behind As qV 70 [(0, .ref (Γ.2.2.2.1 0)), (1, .int a1), (2, .int a2)] [.int b0, .ref (Γ.2.2.2.1 0)] X (f_behind_70 a1 a2 b0 X) := by
  unfold f_behind_70
  refine T.aload_n dX11_behind_70 rfl 0 rfl ?_
  refine cR68 k1406 dX11_behind_71 ?_
  refine T.iload_n dX11_behind_74 rfl 1 rfl ?_
  refine alR21 dX11_behind_75 (fun x7 => ?_)
  refine T.callV_i 0 (As1 := [.int b0, .int x7]) (rest := []) (c_make Γ b0 x7 X) ka_X11_make kv_X11_make oR rfl k1890 rfl rfl rfl rfl ⟨Nat.le_of_ble_eq_true rfl, Nat.le_of_ble_eq_true rfl⟩ (Nat.le_of_ble_eq_true rfl) dX11_behind_76 (fun x8 X9 => ?_)
  refine T.istore_n (lv1 := [(3, .int x8), (0, .ref (Γ.2.2.2.1 0)), (1, .int a1), (2, .int a2)]) dX11_behind_79 rfl (by decide) rfl ?_
  refine T.aload_n dX11_behind_80 rfl 1 rfl ?_
  refine cR69 k1407 dX11_behind_81 ?_
  refine T.iload_n dX11_behind_84 rfl 0 rfl ?_
  refine T.aload_n dX11_behind_85 rfl 1 rfl ?_
  refine gR6 k1374 dX11_behind_86 (fun x10 => ?_)
  refine asR22 dX11_behind_89 (fun X11 => ?_)
  refine T.aload_n dX11_behind_90 rfl 1 rfl ?_
  refine cR70 k1408 dX11_behind_91 ?_
  refine T.iload_n dX11_behind_94 rfl 0 rfl ?_
  refine T.iload_n dX11_behind_95 rfl 2 rfl ?_
  refine asR23 dX11_behind_96 (fun X12 => ?_)
  refine T.aload_n dX11_behind_97 rfl 1 rfl ?_
  refine cR86 k1427 dX11_behind_98 ?_
  refine T.iload_n dX11_behind_101 rfl 0 rfl ?_
  refine T.iload_n dX11_behind_102 rfl 3 rfl ?_
  refine T.if_eq (pc1 := 117) dX11_behind_103 (by decide) ?_ ?_
  · refine T.iconst (w := 1) dX11_behind_117 (by decide) ?_
    refine T.sub [1, 0] rfl ?_
    exact c_behind_118 Γ _ x8 (1 : Int32) x8 X12
  · refine T.aload_n dX11_behind_106 rfl 1 rfl ?_
    refine cR86 k1427 dX11_behind_107 ?_
    refine T.iload_n dX11_behind_110 rfl 2 rfl ?_
    refine alR39 dX11_behind_111 (fun x24 => ?_)
    refine T.iconst (w := 1) dX11_behind_112 (by decide) ?_
    refine T.iadd dX11_behind_113 (fun x25 => ?_)
    refine T.goto (pc1 := 118) dX11_behind_114 (by decide) ?_
    refine T.sub [1, 0] rfl ?_
    exact c_behind_118 Γ _ x8 x25 x8 X12
noncomputable def f_behind_51 (a1 : Int32) (a2 : Int32) (X : St) : Option (Int32 × St) :=
  letV (X.2.1 0 47) fun y5 =>
  letV (lg_cmp y5 (40 : Int64)) fun x6 =>
  if x6.toInt = 0 then
    f_behind_70 a1 a2 (11 : Int32) X
  else
    f_behind_70 a1 a2 (10 : Int32) X
set_option maxHeartbeats 4000000 in
set_option maxRecDepth 100000 in
theorem c_behind_51 (Γ : Gx) (As : List Value) (a1 : Int32) (a2 : Int32) (X : St) : T YR Γ cX11_behind 5 "BlameCourtModel" none R_behind As qV 51 [(0, .ref (Γ.2.2.2.1 0)), (1, .int a1), (2, .int a2)] [] X (f_behind_51 a1 a2 X) := by
  unfold f_behind_51
  refine T.aload_n dX11_behind_51 rfl 0 rfl ?_
  refine T.aload_n dX11_behind_52 rfl 0 rfl ?_
  refine gR47 k1376 dX11_behind_53 (fun y5 => ?_)
  refine T.ldc2 (w := 40) dX11_behind_56 k1884 ?_
  refine T.lcmp dX11_behind_59 (fun x6 => ?_)
  refine T.if_ne (pc1 := 68) dX11_behind_60 (by decide) ?_ ?_
  · refine T.bipush (w := 10) dX11_behind_68 (by decide) ?_
    exact c_behind_70 Γ _ a1 a2 (10 : Int32) X
  · refine T.bipush (w := 11) dX11_behind_63 (by decide) ?_
    refine T.goto (pc1 := 70) dX11_behind_65 (by decide) ?_
    exact c_behind_70 Γ _ a1 a2 (11 : Int32) X
noncomputable def f_behind_288 (X : St) : Option (Int32 × St) :=
  letV (wI X 0 23 ((3 : Int32))) fun X30 =>
  some (0, X30)
set_option maxHeartbeats 4000000 in
set_option maxRecDepth 100000 in
theorem c_behind_288 (Γ : Gx) (As : List Value) (X : St) : T YR Γ cX11_behind 5 "BlameCourtModel" none R_behind As qV 288 [(0, .ref (Γ.2.2.2.1 0))] [] X (f_behind_288 X) := by
  unfold f_behind_288
  refine T.aload_n dX11_behind_288 rfl 0 rfl ?_
  refine T.iconst (w := 3) dX11_behind_289 (by decide) ?_
  refine pR23 k1428 dX11_behind_290 (fun X30 => ?_)
  exact T.ret_v rfl dX11_behind_293
noncomputable def f_behind_32 (a1 : Int32) (b0 : Int32) (X : St) : Option (Int32 × St) :=
  bnd (f_isSign (40 : Int32) X) fun x3 X4 =>
  if x3.toInt = 0 then
    bnd (f_isSign (91 : Int32) X4) fun x26 X27 =>
    if x26.toInt = 0 then
      bnd (f_isWell X27) fun x28 X29 =>
      if x28.toInt = 0 then
        f_behind_288 X29
      else
        letV (X29.1 0 7) fun x31 =>
        if x31.toInt = 4 then
          letV (X29.2.1 0 47) fun y32 =>
          letV (lg_cmp y32 (1000 : Int64)) fun x33 =>
          if x33.toInt = 0 then
            chk (inR a1 3100) (letV (X29.1 20 (ix a1)) fun x34 =>
            if x34.toInt = 10 then
              bnd (f_nests X29) fun _ X35 =>
              bnd (f_isWell X35) fun x36 X37 =>
              if x36.toInt = 0 then
                some (0, X37)
              else
                bnd (f_next X37) fun _ X38 =>
                bnd (f_enter (14 : Int32) a1 X38) fun _ X39 =>
                letV (wI X39 0 23 ((0 : Int32))) fun X40 =>
                some (0, X40)
            else
              f_behind_288 X29)
          else
            f_behind_288 X29
        else
          f_behind_288 X29
    else
      f_behind_51 a1 b0 X27
  else
    f_behind_51 a1 b0 X4
set_option maxHeartbeats 4000000 in
set_option maxRecDepth 100000 in
theorem c_behind_32 (Γ : Gx) (As : List Value) (a1 : Int32) (b0 : Int32) (X : St) : T YR Γ cX11_behind 5 "BlameCourtModel" none R_behind As qV 32 [(0, .ref (Γ.2.2.2.1 0)), (1, .int a1)] [.int b0] X (f_behind_32 a1 b0 X) := by
  unfold f_behind_32
  refine T.istore_n (lv1 := [(2, .int b0), (0, .ref (Γ.2.2.2.1 0)), (1, .int a1)]) dX11_behind_32 rfl (by decide) rfl ?_
  refine T.aload_n dX11_behind_33 rfl 1 rfl ?_
  refine T.bipush (w := 40) dX11_behind_34 (by decide) ?_
  refine T.callV_i 0 (As1 := [.int 40]) (rest := []) (c_isSign Γ (40 : Int32) X) ka_X11_isSign kv_X11_isSign oR rfl k1824 rfl rfl rfl rfl ⟨Nat.le_of_ble_eq_true rfl, Nat.le_of_ble_eq_true rfl⟩ (Nat.le_of_ble_eq_true rfl) dX11_behind_36 (fun x3 X4 => ?_)
  refine T.if_ne (pc1 := 51) dX11_behind_39 (by decide) ?_ ?_
  · refine T.sub [1, 2, 0] rfl ?_
    exact c_behind_51 Γ _ a1 b0 X4
  · refine T.aload_n dX11_behind_42 rfl 1 rfl ?_
    refine T.bipush (w := 91) dX11_behind_43 (by decide) ?_
    refine T.callV_i 0 (As1 := [.int 91]) (rest := []) (c_isSign Γ (91 : Int32) X4) ka_X11_isSign kv_X11_isSign oR rfl k1824 rfl rfl rfl rfl ⟨Nat.le_of_ble_eq_true rfl, Nat.le_of_ble_eq_true rfl⟩ (Nat.le_of_ble_eq_true rfl) dX11_behind_45 (fun x26 X27 => ?_)
    refine T.if_eq (pc1 := 221) dX11_behind_48 (by decide) ?_ ?_
    · refine T.aload_n dX11_behind_221 rfl 1 rfl ?_
      refine T.callV_i 0 (As1 := []) (rest := []) (c_isWell Γ X27) ka_X11_isWell kv_X11_isWell oR rfl k1800 rfl rfl rfl rfl ⟨Nat.le_of_ble_eq_true rfl, Nat.le_of_ble_eq_true rfl⟩ (Nat.le_of_ble_eq_true rfl) dX11_behind_222 (fun x28 X29 => ?_)
      refine T.if_eq (pc1 := 288) dX11_behind_225 (by decide) ?_ ?_
      · refine T.sub [1] rfl ?_
        exact c_behind_288 Γ _ X29
      · refine T.aload_n dX11_behind_228 rfl 1 rfl ?_
        refine gR7 k1375 dX11_behind_229 (fun x31 => ?_)
        refine T.iconst (w := 4) dX11_behind_232 (by decide) ?_
        refine T.icmp_ne (pc1 := 288) dX11_behind_233 (by decide) rfl ?_ ?_
        · refine T.sub [1] rfl ?_
          exact c_behind_288 Γ _ X29
        · refine T.aload_n dX11_behind_236 rfl 1 rfl ?_
          refine gR47 k1376 dX11_behind_237 (fun y32 => ?_)
          refine T.ldc2 (w := 1000) dX11_behind_240 k1799 ?_
          refine T.lcmp dX11_behind_243 (fun x33 => ?_)
          refine T.if_ne (pc1 := 288) dX11_behind_244 (by decide) ?_ ?_
          · refine T.sub [1] rfl ?_
            exact c_behind_288 Γ _ X29
          · refine T.aload_n dX11_behind_247 rfl 1 rfl ?_
            refine cR67 k1405 dX11_behind_248 ?_
            refine T.iload_n dX11_behind_251 rfl 2 rfl ?_
            refine alR20 dX11_behind_252 (fun x34 => ?_)
            refine T.bipush (w := 10) dX11_behind_253 (by decide) ?_
            refine T.icmp_ne (pc1 := 288) dX11_behind_255 (by decide) rfl ?_ ?_
            · refine T.sub [1] rfl ?_
              exact c_behind_288 Γ _ X29
            · refine T.aload_n dX11_behind_258 rfl 1 rfl ?_
              refine T.callV_v 0 (As1 := []) (rest := []) (c_nests Γ X29) ka_X11_nests kv_X11_nests oR rfl k1828 rfl rfl rfl rfl ⟨Nat.le_of_ble_eq_true rfl, Nat.le_of_ble_eq_true rfl⟩ (Nat.le_of_ble_eq_true rfl) dX11_behind_259 (fun _ X35 => ?_)
              refine T.aload_n dX11_behind_262 rfl 1 rfl ?_
              refine T.callV_i 0 (As1 := []) (rest := []) (c_isWell Γ X35) ka_X11_isWell kv_X11_isWell oR rfl k1800 rfl rfl rfl rfl ⟨Nat.le_of_ble_eq_true rfl, Nat.le_of_ble_eq_true rfl⟩ (Nat.le_of_ble_eq_true rfl) dX11_behind_263 (fun x36 X37 => ?_)
              refine T.if_eq (pc1 := 293) dX11_behind_266 (by decide) ?_ ?_
              · exact T.ret_v rfl dX11_behind_293
              · refine T.aload_n dX11_behind_269 rfl 1 rfl ?_
                refine T.callV_v 0 (As1 := []) (rest := []) (c_next Γ X37) ka_X11_next kv_X11_next oR rfl k1776 rfl rfl rfl rfl ⟨Nat.le_of_ble_eq_true rfl, Nat.le_of_ble_eq_true rfl⟩ (Nat.le_of_ble_eq_true rfl) dX11_behind_270 (fun _ X38 => ?_)
                refine T.aload_n dX11_behind_273 rfl 1 rfl ?_
                refine T.bipush (w := 14) dX11_behind_274 (by decide) ?_
                refine T.iload_n dX11_behind_276 rfl 2 rfl ?_
                refine T.callV_v 0 (As1 := [.int 14, .int a1]) (rest := []) (c_enter Γ (14 : Int32) a1 X38) ka_X11_enter kv_X11_enter oR rfl k1864 rfl rfl rfl rfl ⟨Nat.le_of_ble_eq_true rfl, Nat.le_of_ble_eq_true rfl⟩ (Nat.le_of_ble_eq_true rfl) dX11_behind_277 (fun _ X39 => ?_)
                refine T.aload_n dX11_behind_280 rfl 1 rfl ?_
                refine T.iconst (w := 0) dX11_behind_281 (by decide) ?_
                refine pR23 k1428 dX11_behind_282 (fun X40 => ?_)
                refine T.goto (pc1 := 293) dX11_behind_285 (by decide) ?_
                exact T.ret_v rfl dX11_behind_293
    · refine T.sub [1, 2, 0] rfl ?_
      exact c_behind_51 Γ _ a1 b0 X27
noncomputable def f_behind_27 (a1 : Int32) (X : St) : Option (Int32 × St) :=
  f_behind_32 a1 (1 : Int32) X
set_option maxHeartbeats 4000000 in
set_option maxRecDepth 100000 in
theorem c_behind_27 (Γ : Gx) (As : List Value) (a1 : Int32) (X : St) : T YR Γ cX11_behind 5 "BlameCourtModel" none R_behind As qV 27 [(0, .ref (Γ.2.2.2.1 0)), (1, .int a1)] [] X (f_behind_27 a1 X) := by
  unfold f_behind_27
  refine T.iconst (w := 1) dX11_behind_27 (by decide) ?_
  refine T.goto (pc1 := 32) dX11_behind_28 (by decide) ?_
  exact c_behind_32 Γ _ a1 (1 : Int32) X
noncomputable def f_behind (X : St) : Option (Int32 × St) :=
  letV (X.1 0 24) fun x1 =>
  chk (inR x1 3100) (letV (X.1 20 (ix x1)) fun x2 =>
  if x2.toInt = 11 then
    f_behind_27 x1 X
  else
    chk (inR x1 3100) (letV (X.1 20 (ix x1)) fun x41 =>
    if x41.toInt = 10 then
      f_behind_27 x1 X
    else
      f_behind_32 x1 (0 : Int32) X))
set_option maxHeartbeats 4000000 in
set_option maxRecDepth 100000 in
theorem c_behind (Γ : Gx) (X : St) : TMV YR Γ yX11_behind cX11_behind 5 "BlameCourtModel" none R_behind [.ref (Γ.2.2.2.1 0)] X (f_behind X) := by
  refine TMV.of (by decide) (Nat.le_of_ble_eq_true rfl) rfl ?_
  show T YR Γ cX11_behind 5 "BlameCourtModel" none R_behind _ qV 0 [(0, .ref (Γ.2.2.2.1 0))] [] X (f_behind X)
  unfold f_behind
  refine T.aload_n dX11_behind_0 rfl 0 rfl ?_
  refine gR24 k1429 dX11_behind_1 (fun x1 => ?_)
  refine T.istore_n (lv1 := [(1, .int x1), (0, .ref (Γ.2.2.2.1 0))]) dX11_behind_4 rfl (by decide) rfl ?_
  refine T.aload_n dX11_behind_5 rfl 1 rfl ?_
  refine cR67 k1405 dX11_behind_6 ?_
  refine T.iload_n dX11_behind_9 rfl 0 rfl ?_
  refine alR20 dX11_behind_10 (fun x2 => ?_)
  refine T.bipush (w := 11) dX11_behind_11 (by decide) ?_
  refine T.icmp_eq (pc1 := 27) dX11_behind_13 (by decide) rfl ?_ ?_
  · refine T.sub [1, 0] rfl ?_
    exact c_behind_27 Γ _ x1 X
  · refine T.aload_n dX11_behind_16 rfl 1 rfl ?_
    refine cR67 k1405 dX11_behind_17 ?_
    refine T.iload_n dX11_behind_20 rfl 0 rfl ?_
    refine alR20 dX11_behind_21 (fun x41 => ?_)
    refine T.bipush (w := 10) dX11_behind_22 (by decide) ?_
    refine T.icmp_ne (pc1 := 31) dX11_behind_24 (by decide) rfl ?_ ?_
    · refine T.iconst (w := 0) dX11_behind_31 (by decide) ?_
      refine T.sub [1, 0] rfl ?_
      exact c_behind_32 Γ _ x1 (0 : Int32) X
    · refine T.sub [1, 0] rfl ?_
      exact c_behind_27 Γ _ x1 X
