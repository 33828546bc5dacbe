theorem dX0_init_0 : decode cX0_init 0 = .ok (.aload_n 0, 1) := by decide +kernel
theorem dX0_init_1 : decode cX0_init 1 = .ok (.invokespecial 3, 3) := by decide +kernel
theorem dX0_init_4 : decode cX0_init 4 = .ok (.aload_n 0, 1) := by decide +kernel
theorem dX0_init_5 : decode cX0_init 5 = .ok (.sipush 3000, 3) := by decide +kernel
theorem dX0_init_8 : decode cX0_init 8 = .ok (.newarray .int, 2) := by decide +kernel
theorem dX0_init_10 : decode cX0_init 10 = .ok (.putfield 9, 3) := by decide +kernel
theorem dX0_init_13 : decode cX0_init 13 = .ok (.aload_n 0, 1) := by decide +kernel
theorem dX0_init_14 : decode cX0_init 14 = .ok (.sipush 3000, 3) := by decide +kernel
theorem dX0_init_17 : decode cX0_init 17 = .ok (.newarray .int, 2) := by decide +kernel
theorem dX0_init_19 : decode cX0_init 19 = .ok (.putfield 15, 3) := by decide +kernel
theorem dX0_init_22 : decode cX0_init 22 = .ok (.aload_n 0, 1) := by decide +kernel
theorem dX0_init_23 : decode cX0_init 23 = .ok (.sipush 3000, 3) := by decide +kernel
theorem dX0_init_26 : decode cX0_init 26 = .ok (.newarray .int, 2) := by decide +kernel
theorem dX0_init_28 : decode cX0_init 28 = .ok (.putfield 18, 3) := by decide +kernel
theorem dX0_init_31 : decode cX0_init 31 = .ok (.aload_n 0, 1) := by decide +kernel
theorem dX0_init_32 : decode cX0_init 32 = .ok (.sipush 3000, 3) := by decide +kernel
theorem dX0_init_35 : decode cX0_init 35 = .ok (.newarray .int, 2) := by decide +kernel
theorem dX0_init_37 : decode cX0_init 37 = .ok (.putfield 21, 3) := by decide +kernel
theorem dX0_init_40 : decode cX0_init 40 = .ok (.aload_n 0, 1) := by decide +kernel
theorem dX0_init_41 : decode cX0_init 41 = .ok (.sipush 3000, 3) := by decide +kernel
theorem dX0_init_44 : decode cX0_init 44 = .ok (.newarray .int, 2) := by decide +kernel
theorem dX0_init_46 : decode cX0_init 46 = .ok (.putfield 24, 3) := by decide +kernel
theorem dX0_init_49 : decode cX0_init 49 = .ok (.aload_n 0, 1) := by decide +kernel
theorem dX0_init_50 : decode cX0_init 50 = .ok (.iconst 0, 1) := by decide +kernel
theorem dX0_init_51 : decode cX0_init 51 = .ok (.putfield 27, 3) := by decide +kernel
theorem dX0_init_54 : decode cX0_init 54 = .ok (.return_, 1) := by decide +kernel
theorem dX1_init_0 : decode cX1_init 0 = .ok (.aload_n 0, 1) := by decide +kernel
theorem dX1_init_1 : decode cX1_init 1 = .ok (.invokespecial 3, 3) := by decide +kernel
theorem dX1_init_4 : decode cX1_init 4 = .ok (.aload_n 0, 1) := by decide +kernel
theorem dX1_init_5 : decode cX1_init 5 = .ok (.iconst 0, 1) := by decide +kernel
theorem dX1_init_6 : decode cX1_init 6 = .ok (.putfield 9, 3) := by decide +kernel
theorem dX1_init_9 : decode cX1_init 9 = .ok (.aload_n 0, 1) := by decide +kernel
theorem dX1_init_10 : decode cX1_init 10 = .ok (.iconst 0, 1) := by decide +kernel
theorem dX1_init_11 : decode cX1_init 11 = .ok (.putfield 15, 3) := by decide +kernel
theorem dX1_init_14 : decode cX1_init 14 = .ok (.aload_n 0, 1) := by decide +kernel
theorem dX1_init_15 : decode cX1_init 15 = .ok (.iconst 0, 1) := by decide +kernel
theorem dX1_init_16 : decode cX1_init 16 = .ok (.putfield 18, 3) := by decide +kernel
theorem dX1_init_19 : decode cX1_init 19 = .ok (.aload_n 0, 1) := by decide +kernel
theorem dX1_init_20 : decode cX1_init 20 = .ok (.sipush 1000, 3) := by decide +kernel
theorem dX1_init_23 : decode cX1_init 23 = .ok (.newarray .int, 2) := by decide +kernel
theorem dX1_init_25 : decode cX1_init 25 = .ok (.putfield 21, 3) := by decide +kernel
theorem dX1_init_28 : decode cX1_init 28 = .ok (.aload_n 0, 1) := by decide +kernel
theorem dX1_init_29 : decode cX1_init 29 = .ok (.sipush 1000, 3) := by decide +kernel
theorem dX1_init_32 : decode cX1_init 32 = .ok (.newarray .int, 2) := by decide +kernel
theorem dX1_init_34 : decode cX1_init 34 = .ok (.putfield 25, 3) := by decide +kernel
theorem dX1_init_37 : decode cX1_init 37 = .ok (.aload_n 0, 1) := by decide +kernel
theorem dX1_init_38 : decode cX1_init 38 = .ok (.sipush 4000, 3) := by decide +kernel
theorem dX1_init_41 : decode cX1_init 41 = .ok (.newarray .long, 2) := by decide +kernel
theorem dX1_init_43 : decode cX1_init 43 = .ok (.putfield 28, 3) := by decide +kernel
theorem dX1_init_46 : decode cX1_init 46 = .ok (.aload_n 0, 1) := by decide +kernel
theorem dX1_init_47 : decode cX1_init 47 = .ok (.sipush 1000, 3) := by decide +kernel
theorem dX1_init_50 : decode cX1_init 50 = .ok (.newarray .long, 2) := by decide +kernel
theorem dX1_init_52 : decode cX1_init 52 = .ok (.putfield 32, 3) := by decide +kernel
theorem dX1_init_55 : decode cX1_init 55 = .ok (.aload_n 0, 1) := by decide +kernel
theorem dX1_init_56 : decode cX1_init 56 = .ok (.sipush 1000, 3) := by decide +kernel
theorem dX1_init_59 : decode cX1_init 59 = .ok (.newarray .int, 2) := by decide +kernel
theorem dX1_init_61 : decode cX1_init 61 = .ok (.putfield 35, 3) := by decide +kernel
theorem dX1_init_64 : decode cX1_init 64 = .ok (.aload_n 0, 1) := by decide +kernel
theorem dX1_init_65 : decode cX1_init 65 = .ok (.sipush 1000, 3) := by decide +kernel
theorem dX1_init_68 : decode cX1_init 68 = .ok (.newarray .int, 2) := by decide +kernel
theorem dX1_init_70 : decode cX1_init 70 = .ok (.putfield 38, 3) := by decide +kernel
theorem dX1_init_73 : decode cX1_init 73 = .ok (.aload_n 0, 1) := by decide +kernel
theorem dX1_init_74 : decode cX1_init 74 = .ok (.sipush 1000, 3) := by decide +kernel
theorem dX1_init_77 : decode cX1_init 77 = .ok (.newarray .int, 2) := by decide +kernel
theorem dX1_init_79 : decode cX1_init 79 = .ok (.putfield 41, 3) := by decide +kernel
theorem dX1_init_82 : decode cX1_init 82 = .ok (.aload_n 0, 1) := by decide +kernel
theorem dX1_init_83 : decode cX1_init 83 = .ok (.sipush 1000, 3) := by decide +kernel
theorem dX1_init_86 : decode cX1_init 86 = .ok (.newarray .int, 2) := by decide +kernel
theorem dX1_init_88 : decode cX1_init 88 = .ok (.putfield 44, 3) := by decide +kernel
theorem dX1_init_91 : decode cX1_init 91 = .ok (.aload_n 0, 1) := by decide +kernel
theorem dX1_init_92 : decode cX1_init 92 = .ok (.sipush 1000, 3) := by decide +kernel
theorem dX1_init_95 : decode cX1_init 95 = .ok (.newarray .int, 2) := by decide +kernel
theorem dX1_init_97 : decode cX1_init 97 = .ok (.putfield 47, 3) := by decide +kernel
theorem dX1_init_100 : decode cX1_init 100 = .ok (.aload_n 0, 1) := by decide +kernel
theorem dX1_init_101 : decode cX1_init 101 = .ok (.sipush 1000, 3) := by decide +kernel
theorem dX1_init_104 : decode cX1_init 104 = .ok (.newarray .int, 2) := by decide +kernel
theorem dX1_init_106 : decode cX1_init 106 = .ok (.putfield 50, 3) := by decide +kernel
theorem dX1_init_109 : decode cX1_init 109 = .ok (.return_, 1) := by decide +kernel
theorem dX2_init_0 : decode cX2_init 0 = .ok (.aload_n 0, 1) := by decide +kernel
theorem dX2_init_1 : decode cX2_init 1 = .ok (.invokespecial 3, 3) := by decide +kernel
theorem dX2_init_4 : decode cX2_init 4 = .ok (.aload_n 0, 1) := by decide +kernel
theorem dX2_init_5 : decode cX2_init 5 = .ok (.aconst_null, 1) := by decide +kernel
theorem dX2_init_6 : decode cX2_init 6 = .ok (.putfield 9, 3) := by decide +kernel
theorem dX2_init_9 : decode cX2_init 9 = .ok (.aload_n 0, 1) := by decide +kernel
theorem dX2_init_10 : decode cX2_init 10 = .ok (.aconst_null, 1) := by decide +kernel
theorem dX2_init_11 : decode cX2_init 11 = .ok (.putfield 15, 3) := by decide +kernel
theorem dX2_init_14 : decode cX2_init 14 = .ok (.aload_n 0, 1) := by decide +kernel
theorem dX2_init_15 : decode cX2_init 15 = .ok (.aconst_null, 1) := by decide +kernel
theorem dX2_init_16 : decode cX2_init 16 = .ok (.putfield 19, 3) := by decide +kernel
theorem dX2_init_19 : decode cX2_init 19 = .ok (.aload_n 0, 1) := by decide +kernel
theorem dX2_init_20 : decode cX2_init 20 = .ok (.iconst 0, 1) := by decide +kernel
theorem dX2_init_21 : decode cX2_init 21 = .ok (.putfield 23, 3) := by decide +kernel
theorem dX2_init_24 : decode cX2_init 24 = .ok (.aload_n 0, 1) := by decide +kernel
theorem dX2_init_25 : decode cX2_init 25 = .ok (.iconst 0, 1) := by decide +kernel
theorem dX2_init_26 : decode cX2_init 26 = .ok (.putfield 27, 3) := by decide +kernel
theorem dX2_init_29 : decode cX2_init 29 = .ok (.aload_n 0, 1) := by decide +kernel
theorem dX2_init_30 : decode cX2_init 30 = .ok (.iconst (-1), 1) := by decide +kernel
theorem dX2_init_31 : decode cX2_init 31 = .ok (.putfield 30, 3) := by decide +kernel
theorem dX2_init_34 : decode cX2_init 34 = .ok (.aload_n 0, 1) := by decide +kernel
theorem dX2_init_35 : decode cX2_init 35 = .ok (.bipush 40, 2) := by decide +kernel
theorem dX2_init_37 : decode cX2_init 37 = .ok (.newarray .boolean, 2) := by decide +kernel
theorem dX2_init_39 : decode cX2_init 39 = .ok (.putfield 33, 3) := by decide +kernel
theorem dX2_init_42 : decode cX2_init 42 = .ok (.aload_n 0, 1) := by decide +kernel
theorem dX2_init_43 : decode cX2_init 43 = .ok (.sipush 160, 3) := by decide +kernel
theorem dX2_init_46 : decode cX2_init 46 = .ok (.newarray .int, 2) := by decide +kernel
theorem dX2_init_48 : decode cX2_init 48 = .ok (.putfield 37, 3) := by decide +kernel
theorem dX2_init_51 : decode cX2_init 51 = .ok (.aload_n 0, 1) := by decide +kernel
theorem dX2_init_52 : decode cX2_init 52 = .ok (.bipush 40, 2) := by decide +kernel
theorem dX2_init_54 : decode cX2_init 54 = .ok (.newarray .int, 2) := by decide +kernel
theorem dX2_init_56 : decode cX2_init 56 = .ok (.putfield 41, 3) := by decide +kernel
theorem dX2_init_59 : decode cX2_init 59 = .ok (.aload_n 0, 1) := by decide +kernel
theorem dX2_init_60 : decode cX2_init 60 = .ok (.bipush 40, 2) := by decide +kernel
theorem dX2_init_62 : decode cX2_init 62 = .ok (.newarray .int, 2) := by decide +kernel
theorem dX2_init_64 : decode cX2_init 64 = .ok (.putfield 44, 3) := by decide +kernel
theorem dX2_init_67 : decode cX2_init 67 = .ok (.aload_n 0, 1) := by decide +kernel
theorem dX2_init_68 : decode cX2_init 68 = .ok (.bipush 44, 2) := by decide +kernel
theorem dX2_init_70 : decode cX2_init 70 = .ok (.newarray .int, 2) := by decide +kernel
theorem dX2_init_72 : decode cX2_init 72 = .ok (.putfield 47, 3) := by decide +kernel
theorem dX2_init_75 : decode cX2_init 75 = .ok (.aload_n 0, 1) := by decide +kernel
theorem dX2_init_76 : decode cX2_init 76 = .ok (.sipush 3000, 3) := by decide +kernel
theorem dX2_init_79 : decode cX2_init 79 = .ok (.newarray .int, 2) := by decide +kernel
theorem dX2_init_81 : decode cX2_init 81 = .ok (.putfield 50, 3) := by decide +kernel
theorem dX2_init_84 : decode cX2_init 84 = .ok (.aload_n 0, 1) := by decide +kernel
theorem dX2_init_85 : decode cX2_init 85 = .ok (.sipush 3000, 3) := by decide +kernel
theorem dX2_init_88 : decode cX2_init 88 = .ok (.newarray .int, 2) := by decide +kernel
theorem dX2_init_90 : decode cX2_init 90 = .ok (.putfield 53, 3) := by decide +kernel
theorem dX2_init_93 : decode cX2_init 93 = .ok (.aload_n 0, 1) := by decide +kernel
theorem dX2_init_94 : decode cX2_init 94 = .ok (.sipush 3000, 3) := by decide +kernel
theorem dX2_init_97 : decode cX2_init 97 = .ok (.newarray .int, 2) := by decide +kernel
theorem dX2_init_99 : decode cX2_init 99 = .ok (.putfield 56, 3) := by decide +kernel
theorem dX2_init_102 : decode cX2_init 102 = .ok (.aload_n 0, 1) := by decide +kernel
theorem dX2_init_103 : decode cX2_init 103 = .ok (.iconst 0, 1) := by decide +kernel
theorem dX2_init_104 : decode cX2_init 104 = .ok (.putfield 59, 3) := by decide +kernel
theorem dX2_init_107 : decode cX2_init 107 = .ok (.return_, 1) := by decide +kernel
theorem dX7_init_0 : decode cX7_init 0 = .ok (.aload_n 0, 1) := by decide +kernel
theorem dX7_init_1 : decode cX7_init 1 = .ok (.invokespecial 3, 3) := by decide +kernel
theorem dX7_init_4 : decode cX7_init 4 = .ok (.aload_n 0, 1) := by decide +kernel
theorem dX7_init_5 : decode cX7_init 5 = .ok (.aconst_null, 1) := by decide +kernel
theorem dX7_init_6 : decode cX7_init 6 = .ok (.putfield 9, 3) := by decide +kernel
theorem dX7_init_9 : decode cX7_init 9 = .ok (.aload_n 0, 1) := by decide +kernel
theorem dX7_init_10 : decode cX7_init 10 = .ok (.new 15, 3) := by decide +kernel
theorem dX7_init_13 : decode cX7_init 13 = .ok (.dup, 1) := by decide +kernel
theorem dX7_init_14 : decode cX7_init 14 = .ok (.invokespecial 17, 3) := by decide +kernel
theorem dX7_init_17 : decode cX7_init 17 = .ok (.putfield 18, 3) := by decide +kernel
theorem dX7_init_20 : decode cX7_init 20 = .ok (.aload_n 0, 1) := by decide +kernel
theorem dX7_init_21 : decode cX7_init 21 = .ok (.aconst_null, 1) := by decide +kernel
theorem dX7_init_22 : decode cX7_init 22 = .ok (.putfield 22, 3) := by decide +kernel
theorem dX7_init_25 : decode cX7_init 25 = .ok (.aload_n 0, 1) := by decide +kernel
theorem dX7_init_26 : decode cX7_init 26 = .ok (.iconst 0, 1) := by decide +kernel
theorem dX7_init_27 : decode cX7_init 27 = .ok (.putfield 26, 3) := by decide +kernel
theorem dX7_init_30 : decode cX7_init 30 = .ok (.aload_n 0, 1) := by decide +kernel
theorem dX7_init_31 : decode cX7_init 31 = .ok (.iconst 0, 1) := by decide +kernel
theorem dX7_init_32 : decode cX7_init 32 = .ok (.putfield 30, 3) := by decide +kernel
theorem dX7_init_35 : decode cX7_init 35 = .ok (.aload_n 0, 1) := by decide +kernel
theorem dX7_init_36 : decode cX7_init 36 = .ok (.iconst 0, 1) := by decide +kernel
theorem dX7_init_37 : decode cX7_init 37 = .ok (.putfield 33, 3) := by decide +kernel
theorem dX7_init_40 : decode cX7_init 40 = .ok (.aload_n 0, 1) := by decide +kernel
theorem dX7_init_41 : decode cX7_init 41 = .ok (.iconst (-1), 1) := by decide +kernel
theorem dX7_init_42 : decode cX7_init 42 = .ok (.putfield 37, 3) := by decide +kernel
theorem dX7_init_45 : decode cX7_init 45 = .ok (.aload_n 0, 1) := by decide +kernel
theorem dX7_init_46 : decode cX7_init 46 = .ok (.iconst (-1), 1) := by decide +kernel
theorem dX7_init_47 : decode cX7_init 47 = .ok (.putfield 40, 3) := by decide +kernel
theorem dX7_init_50 : decode cX7_init 50 = .ok (.aload_n 0, 1) := by decide +kernel
theorem dX7_init_51 : decode cX7_init 51 = .ok (.iconst 0, 1) := by decide +kernel
theorem dX7_init_52 : decode cX7_init 52 = .ok (.putfield 43, 3) := by decide +kernel
theorem dX7_init_55 : decode cX7_init 55 = .ok (.aload_n 0, 1) := by decide +kernel
theorem dX7_init_56 : decode cX7_init 56 = .ok (.iconst 0, 1) := by decide +kernel
theorem dX7_init_57 : decode cX7_init 57 = .ok (.putfield 46, 3) := by decide +kernel
theorem dX7_init_60 : decode cX7_init 60 = .ok (.aload_n 0, 1) := by decide +kernel
theorem dX7_init_61 : decode cX7_init 61 = .ok (.iconst 0, 1) := by decide +kernel
theorem dX7_init_62 : decode cX7_init 62 = .ok (.putfield 49, 3) := by decide +kernel
theorem dX7_init_65 : decode cX7_init 65 = .ok (.aload_n 0, 1) := by decide +kernel
theorem dX7_init_66 : decode cX7_init 66 = .ok (.iconst 0, 1) := by decide +kernel
theorem dX7_init_67 : decode cX7_init 67 = .ok (.putfield 52, 3) := by decide +kernel
theorem dX7_init_70 : decode cX7_init 70 = .ok (.aload_n 0, 1) := by decide +kernel
theorem dX7_init_71 : decode cX7_init 71 = .ok (.bipush 100, 2) := by decide +kernel
theorem dX7_init_73 : decode cX7_init 73 = .ok (.newarray .int, 2) := by decide +kernel
theorem dX7_init_75 : decode cX7_init 75 = .ok (.putfield 55, 3) := by decide +kernel
theorem dX7_init_78 : decode cX7_init 78 = .ok (.aload_n 0, 1) := by decide +kernel
theorem dX7_init_79 : decode cX7_init 79 = .ok (.sipush 4400, 3) := by decide +kernel
theorem dX7_init_82 : decode cX7_init 82 = .ok (.newarray .long, 2) := by decide +kernel
theorem dX7_init_84 : decode cX7_init 84 = .ok (.putfield 59, 3) := by decide +kernel
theorem dX7_init_87 : decode cX7_init 87 = .ok (.aload_n 0, 1) := by decide +kernel
theorem dX7_init_88 : decode cX7_init 88 = .ok (.sipush 20002, 3) := by decide +kernel
theorem dX7_init_91 : decode cX7_init 91 = .ok (.newarray .long, 2) := by decide +kernel
theorem dX7_init_93 : decode cX7_init 93 = .ok (.putfield 63, 3) := by decide +kernel
theorem dX7_init_96 : decode cX7_init 96 = .ok (.aload_n 0, 1) := by decide +kernel
theorem dX7_init_97 : decode cX7_init 97 = .ok (.iconst 0, 1) := by decide +kernel
theorem dX7_init_98 : decode cX7_init 98 = .ok (.putfield 66, 3) := by decide +kernel
theorem dX7_init_101 : decode cX7_init 101 = .ok (.aload_n 0, 1) := by decide +kernel
theorem dX7_init_102 : decode cX7_init 102 = .ok (.bipush 20, 2) := by decide +kernel
theorem dX7_init_104 : decode cX7_init 104 = .ok (.newarray .int, 2) := by decide +kernel
theorem dX7_init_106 : decode cX7_init 106 = .ok (.putfield 69, 3) := by decide +kernel
theorem dX7_init_109 : decode cX7_init 109 = .ok (.aload_n 0, 1) := by decide +kernel
theorem dX7_init_110 : decode cX7_init 110 = .ok (.sipush 200, 3) := by decide +kernel
theorem dX7_init_113 : decode cX7_init 113 = .ok (.newarray .int, 2) := by decide +kernel
theorem dX7_init_115 : decode cX7_init 115 = .ok (.putfield 72, 3) := by decide +kernel
theorem dX7_init_118 : decode cX7_init 118 = .ok (.aload_n 0, 1) := by decide +kernel
theorem dX7_init_119 : decode cX7_init 119 = .ok (.iconst 0, 1) := by decide +kernel
theorem dX7_init_120 : decode cX7_init 120 = .ok (.putfield 75, 3) := by decide +kernel
theorem dX7_init_123 : decode cX7_init 123 = .ok (.aload_n 0, 1) := by decide +kernel
theorem dX7_init_124 : decode cX7_init 124 = .ok (.sipush 1600, 3) := by decide +kernel
theorem dX7_init_127 : decode cX7_init 127 = .ok (.newarray .int, 2) := by decide +kernel
theorem dX7_init_129 : decode cX7_init 129 = .ok (.putfield 78, 3) := by decide +kernel
theorem dX7_init_132 : decode cX7_init 132 = .ok (.return_, 1) := by decide +kernel
theorem dX9_init_0 : decode cX9_init 0 = .ok (.aload_n 0, 1) := by decide +kernel
theorem dX9_init_1 : decode cX9_init 1 = .ok (.invokespecial 3, 3) := by decide +kernel
theorem dX9_init_4 : decode cX9_init 4 = .ok (.aload_n 0, 1) := by decide +kernel
theorem dX9_init_5 : decode cX9_init 5 = .ok (.iconst 0, 1) := by decide +kernel
theorem dX9_init_6 : decode cX9_init 6 = .ok (.newarray .byte, 2) := by decide +kernel
theorem dX9_init_8 : decode cX9_init 8 = .ok (.putfield 9, 3) := by decide +kernel
theorem dX9_init_11 : decode cX9_init 11 = .ok (.aload_n 0, 1) := by decide +kernel
theorem dX9_init_12 : decode cX9_init 12 = .ok (.iconst 0, 1) := by decide +kernel
theorem dX9_init_13 : decode cX9_init 13 = .ok (.putfield 15, 3) := by decide +kernel
theorem dX9_init_16 : decode cX9_init 16 = .ok (.aload_n 0, 1) := by decide +kernel
theorem dX9_init_17 : decode cX9_init 17 = .ok (.iconst 0, 1) := by decide +kernel
theorem dX9_init_18 : decode cX9_init 18 = .ok (.putfield 19, 3) := by decide +kernel
theorem dX9_init_21 : decode cX9_init 21 = .ok (.aload_n 0, 1) := by decide +kernel
theorem dX9_init_22 : decode cX9_init 22 = .ok (.sipush 257, 3) := by decide +kernel
theorem dX9_init_25 : decode cX9_init 25 = .ok (.putfield 24, 3) := by decide +kernel
theorem dX9_init_28 : decode cX9_init 28 = .ok (.aload_n 0, 1) := by decide +kernel
theorem dX9_init_29 : decode cX9_init 29 = .ok (.iconst 0, 1) := by decide +kernel
theorem dX9_init_30 : decode cX9_init 30 = .ok (.putfield 27, 3) := by decide +kernel
theorem dX9_init_33 : decode cX9_init 33 = .ok (.aload_n 0, 1) := by decide +kernel
theorem dX9_init_34 : decode cX9_init 34 = .ok (.lconst 0, 1) := by decide +kernel
theorem dX9_init_35 : decode cX9_init 35 = .ok (.putfield 30, 3) := by decide +kernel
theorem dX9_init_38 : decode cX9_init 38 = .ok (.aload_n 0, 1) := by decide +kernel
theorem dX9_init_39 : decode cX9_init 39 = .ok (.iconst 0, 1) := by decide +kernel
theorem dX9_init_40 : decode cX9_init 40 = .ok (.putfield 34, 3) := by decide +kernel
theorem dX9_init_43 : decode cX9_init 43 = .ok (.aload_n 0, 1) := by decide +kernel
theorem dX9_init_44 : decode cX9_init 44 = .ok (.lconst 0, 1) := by decide +kernel
theorem dX9_init_45 : decode cX9_init 45 = .ok (.putfield 37, 3) := by decide +kernel
theorem dX9_init_48 : decode cX9_init 48 = .ok (.return_, 1) := by decide +kernel
theorem k196 : Cond.initialized "BlameCourt$Heap" ∈ gtb := gtm (in_tables_1_1 (List.mem_of_getElem? (i := 10) rfl)) rfl
theorem k206 : Cond.instanceMethod objectInit ∈ gtb := gtm (in_tables_1_1 (List.mem_of_getElem? (i := 20) rfl)) rfl
theorem k207 : Cond.code objectInit ⟨#[0xb1]⟩ 1 none ∈ gtb := gtm (in_tables_1_1 (List.mem_of_getElem? (i := 21) rfl)) rfl
theorem k276 : Cond.arrayClass .byte ∈ gtb := gtm (in_tables_1_1 (List.mem_of_getElem? (i := 90) rfl)) rfl
theorem k277 : Cond.arrayClass .int ∈ gtb := gtm (in_tables_1_1 (List.mem_of_getElem? (i := 91) rfl)) rfl
theorem k278 : Cond.arrayClass .boolean ∈ gtb := gtm (in_tables_1_1 (List.mem_of_getElem? (i := 92) rfl)) rfl
theorem k373 : Cond.arrayClass .long ∈ gtb := gtm (in_tables_1_1 (List.mem_of_getElem? (i := 187) rfl)) rfl
theorem k385 : Cond.methodLink "BlameCourt$Tokens" 3 objectInit ∈ gtb := gtm (in_tables_1_1 (List.mem_of_getElem? (i := 199) rfl)) rfl
theorem k386 : Cond.fieldLink "BlameCourt$Tokens" 9 "BlameCourt$Tokens" "text" "[B" ∈ gtb := gtm (in_tables_1_1 (List.mem_of_getElem? (i := 200) rfl)) rfl
theorem k387 : Cond.fieldLink "BlameCourt$Tokens" 15 "BlameCourt$Tokens" "length" "I" ∈ gtb := gtm (in_tables_1_1 (List.mem_of_getElem? (i := 201) rfl)) rfl
theorem k388 : Cond.fieldLink "BlameCourt$Tokens" 19 "BlameCourt$Tokens" "next" "I" ∈ gtb := gtm (in_tables_1_1 (List.mem_of_getElem? (i := 202) rfl)) rfl
theorem k389 : Cond.fieldLink "BlameCourt$Tokens" 24 "BlameCourt$Tokens" "type" "I" ∈ gtb := gtm (in_tables_1_1 (List.mem_of_getElem? (i := 203) rfl)) rfl
theorem k391 : Cond.fieldLink "BlameCourt$Tokens" 27 "BlameCourt$Tokens" "place" "I" ∈ gtb := gtm (in_tables_1_1 (List.mem_of_getElem? (i := 205) rfl)) rfl
theorem k393 : Cond.fieldLink "BlameCourt$Tokens" 30 "BlameCourt$Tokens" "letters" "J" ∈ gtb := gtm (in_tables_1_1 (List.mem_of_getElem? (i := 207) rfl)) rfl
theorem k395 : Cond.fieldLink "BlameCourt$Tokens" 34 "BlameCourt$Tokens" "letterCount" "I" ∈ gtb := gtm (in_tables_1_1 (List.mem_of_getElem? (i := 209) rfl)) rfl
theorem k397 : Cond.fieldLink "BlameCourt$Tokens" 37 "BlameCourt$Tokens" "numbe\x72" "J" ∈ gtb := gtm (in_tables_1_1 (List.mem_of_getElem? (i := 211) rfl)) rfl
theorem k466 : Cond.methodLink "BlameCourt$Guards" 3 objectInit ∈ gtb := gtm (in_tables_1_2 (List.mem_of_getElem? (i := 40) rfl)) rfl
theorem k467 : Cond.fieldLink "BlameCourt$Guards" 9 "BlameCourt$Guards" "place" "[I" ∈ gtb := gtm (in_tables_1_2 (List.mem_of_getElem? (i := 41) rfl)) rfl
theorem k470 : Cond.fieldLink "BlameCourt$Guards" 15 "BlameCourt$Guards" "give\x72" "[I" ∈ gtb := gtm (in_tables_1_2 (List.mem_of_getElem? (i := 44) rfl)) rfl
theorem k473 : Cond.fieldLink "BlameCourt$Guards" 18 "BlameCourt$Guards" "take\x72" "[I" ∈ gtb := gtm (in_tables_1_2 (List.mem_of_getElem? (i := 47) rfl)) rfl
theorem k476 : Cond.fieldLink "BlameCourt$Guards" 21 "BlameCourt$Guards" "from" "[I" ∈ gtb := gtm (in_tables_1_2 (List.mem_of_getElem? (i := 50) rfl)) rfl
theorem k479 : Cond.fieldLink "BlameCourt$Guards" 24 "BlameCourt$Guards" "to" "[I" ∈ gtb := gtm (in_tables_1_2 (List.mem_of_getElem? (i := 53) rfl)) rfl
theorem k482 : Cond.fieldLink "BlameCourt$Guards" 27 "BlameCourt$Guards" "count" "I" ∈ gtb := gtm (in_tables_1_2 (List.mem_of_getElem? (i := 56) rfl)) rfl
theorem k504 : Cond.methodLink "BlameCourt$Judging" 3 objectInit ∈ gtb := gtm (in_tables_1_2 (List.mem_of_getElem? (i := 78) rfl)) rfl
theorem k505 : Cond.fieldLink "BlameCourt$Judging" 9 "BlameCourt$Judging" "guards" "LBlameCourt$Guards;" ∈ gtb := gtm (in_tables_1_2 (List.mem_of_getElem? (i := 79) rfl)) rfl
theorem k506 : Cond.fieldLink "BlameCourt$Judging" 15 "BlameCourt$Judging" "program" "LBlameCourt$Program;" ∈ gtb := gtm (in_tables_1_2 (List.mem_of_getElem? (i := 80) rfl)) rfl
theorem k507 : Cond.fieldLink "BlameCourt$Judging" 19 "BlameCourt$Judging" "kinds" "LBlameCourt$Kinds;" ∈ gtb := gtm (in_tables_1_2 (List.mem_of_getElem? (i := 81) rfl)) rfl
theorem k508 : Cond.fieldLink "BlameCourt$Judging" 23 "BlameCourt$Judging" "inPart" "I" ∈ gtb := gtm (in_tables_1_2 (List.mem_of_getElem? (i := 82) rfl)) rfl
theorem k509 : Cond.fieldLink "BlameCourt$Judging" 27 "BlameCourt$Judging" "fault" "I" ∈ gtb := gtm (in_tables_1_2 (List.mem_of_getElem? (i := 83) rfl)) rfl
theorem k511 : Cond.fieldLink "BlameCourt$Judging" 30 "BlameCourt$Judging" "faultPlace" "I" ∈ gtb := gtm (in_tables_1_2 (List.mem_of_getElem? (i := 85) rfl)) rfl
theorem k513 : Cond.fieldLink "BlameCourt$Judging" 33 "BlameCourt$Judging" "anyStands" "[Z" ∈ gtb := gtm (in_tables_1_2 (List.mem_of_getElem? (i := 87) rfl)) rfl
theorem k515 : Cond.fieldLink "BlameCourt$Judging" 37 "BlameCourt$Judging" "paramKind" "[I" ∈ gtb := gtm (in_tables_1_2 (List.mem_of_getElem? (i := 89) rfl)) rfl
theorem k516 : Cond.fieldLink "BlameCourt$Judging" 41 "BlameCourt$Judging" "ownKind" "[I" ∈ gtb := gtm (in_tables_1_2 (List.mem_of_getElem? (i := 90) rfl)) rfl
theorem k517 : Cond.fieldLink "BlameCourt$Judging" 44 "BlameCourt$Judging" "partKind" "[I" ∈ gtb := gtm (in_tables_1_2 (List.mem_of_getElem? (i := 91) rfl)) rfl
theorem k518 : Cond.fieldLink "BlameCourt$Judging" 47 "BlameCourt$Judging" "localKind" "[I" ∈ gtb := gtm (in_tables_1_2 (List.mem_of_getElem? (i := 92) rfl)) rfl
theorem k519 : Cond.fieldLink "BlameCourt$Judging" 50 "BlameCourt$Judging" "stack" "[I" ∈ gtb := gtm (in_tables_1_2 (List.mem_of_getElem? (i := 93) rfl)) rfl
theorem k520 : Cond.fieldLink "BlameCourt$Judging" 53 "BlameCourt$Judging" "askedAt" "[I" ∈ gtb := gtm (in_tables_1_2 (List.mem_of_getElem? (i := 94) rfl)) rfl
theorem k521 : Cond.fieldLink "BlameCourt$Judging" 56 "BlameCourt$Judging" "takerOf" "[I" ∈ gtb := gtm (in_tables_1_2 (List.mem_of_getElem? (i := 95) rfl)) rfl
theorem k522 : Cond.fieldLink "BlameCourt$Judging" 59 "BlameCourt$Judging" "top" "I" ∈ gtb := gtm (in_tables_1_2 (List.mem_of_getElem? (i := 96) rfl)) rfl
theorem k559 : Cond.methodLink "BlameCourt$Running" 3 objectInit ∈ gtb := gtm (in_tables_1_2 (List.mem_of_getElem? (i := 133) rfl)) rfl
theorem k560 : Cond.classLink "BlameCourt$Running" 15 "BlameCourt$Heap" ∈ gtb := gtm (in_tables_1_2 (List.mem_of_getElem? (i := 134) rfl)) rfl
theorem k561 : Cond.instantiable "BlameCourt$Heap" 13 ∈ gtb := gtm (in_tables_1_2 (List.mem_of_getElem? (i := 135) rfl)) rfl
theorem k563 : Cond.instanceMethod yX1_init ∈ gtb := gtm (in_tables_1_2 (List.mem_of_getElem? (i := 137) rfl)) rfl
theorem k565 : Cond.methodLink "BlameCourt$Heap" 3 objectInit ∈ gtb := gtm (in_tables_1_2 (List.mem_of_getElem? (i := 139) rfl)) rfl
theorem k566 : Cond.fieldLink "BlameCourt$Heap" 9 "BlameCourt$Heap" "rows" "I" ∈ gtb := gtm (in_tables_1_2 (List.mem_of_getElem? (i := 140) rfl)) rfl
theorem k568 : Cond.fieldLink "BlameCourt$Heap" 15 "BlameCourt$Heap" "places" "I" ∈ gtb := gtm (in_tables_1_2 (List.mem_of_getElem? (i := 142) rfl)) rfl
theorem k569 : Cond.fieldLink "BlameCourt$Heap" 18 "BlameCourt$Heap" "wrappings" "I" ∈ gtb := gtm (in_tables_1_2 (List.mem_of_getElem? (i := 143) rfl)) rfl
theorem k571 : Cond.fieldLink "BlameCourt$Heap" 21 "BlameCourt$Heap" "rowFrom" "[I" ∈ gtb := gtm (in_tables_1_2 (List.mem_of_getElem? (i := 145) rfl)) rfl
theorem k572 : Cond.fieldLink "BlameCourt$Heap" 25 "BlameCourt$Heap" "rowLength" "[I" ∈ gtb := gtm (in_tables_1_2 (List.mem_of_getElem? (i := 146) rfl)) rfl
theorem k573 : Cond.fieldLink "BlameCourt$Heap" 28 "BlameCourt$Heap" "cell" "[J" ∈ gtb := gtm (in_tables_1_2 (List.mem_of_getElem? (i := 147) rfl)) rfl
theorem k574 : Cond.fieldLink "BlameCourt$Heap" 32 "BlameCourt$Heap" "within" "[J" ∈ gtb := gtm (in_tables_1_2 (List.mem_of_getElem? (i := 148) rfl)) rfl
theorem k576 : Cond.fieldLink "BlameCourt$Heap" 35 "BlameCourt$Heap" "from" "[I" ∈ gtb := gtm (in_tables_1_2 (List.mem_of_getElem? (i := 150) rfl)) rfl
theorem k578 : Cond.fieldLink "BlameCourt$Heap" 38 "BlameCourt$Heap" "to" "[I" ∈ gtb := gtm (in_tables_1_2 (List.mem_of_getElem? (i := 152) rfl)) rfl
theorem k580 : Cond.fieldLink "BlameCourt$Heap" 41 "BlameCourt$Heap" "give\x72" "[I" ∈ gtb := gtm (in_tables_1_2 (List.mem_of_getElem? (i := 154) rfl)) rfl
theorem k582 : Cond.fieldLink "BlameCourt$Heap" 44 "BlameCourt$Heap" "take\x72" "[I" ∈ gtb := gtm (in_tables_1_2 (List.mem_of_getElem? (i := 156) rfl)) rfl
theorem k584 : Cond.fieldLink "BlameCourt$Heap" 47 "BlameCourt$Heap" "place" "[I" ∈ gtb := gtm (in_tables_1_2 (List.mem_of_getElem? (i := 158) rfl)) rfl
theorem k586 : Cond.fieldLink "BlameCourt$Heap" 50 "BlameCourt$Heap" "around" "[I" ∈ gtb := gtm (in_tables_1_2 (List.mem_of_getElem? (i := 160) rfl)) rfl
theorem k615 : Cond.fieldLink "BlameCourt$Running" 9 "BlameCourt$Running" "guards" "LBlameCourt$Guards;" ∈ gtb := gtm (in_tables_1_2 (List.mem_of_getElem? (i := 189) rfl)) rfl
theorem k616 : Cond.fieldLink "BlameCourt$Running" 18 "BlameCourt$Running" "heap" "LBlameCourt$Heap;" ∈ gtb := gtm (in_tables_1_2 (List.mem_of_getElem? (i := 190) rfl)) rfl
theorem k617 : Cond.fieldLink "BlameCourt$Running" 22 "BlameCourt$Running" "program" "LBlameCourt$Program;" ∈ gtb := gtm (in_tables_1_2 (List.mem_of_getElem? (i := 191) rfl)) rfl
theorem k618 : Cond.fieldLink "BlameCourt$Running" 26 "BlameCourt$Running" "guarded" "Z" ∈ gtb := gtm (in_tables_1_2 (List.mem_of_getElem? (i := 192) rfl)) rfl
theorem k619 : Cond.fieldLink "BlameCourt$Running" 30 "BlameCourt$Running" "going" "Z" ∈ gtb := gtm (in_tables_1_2 (List.mem_of_getElem? (i := 193) rfl)) rfl
theorem k620 : Cond.fieldLink "BlameCourt$Running" 33 "BlameCourt$Running" "ended" "I" ∈ gtb := gtm (in_tables_1_2 (List.mem_of_getElem? (i := 194) rfl)) rfl
theorem k621 : Cond.fieldLink "BlameCourt$Running" 37 "BlameCourt$Running" "endPlace" "I" ∈ gtb := gtm (in_tables_1_2 (List.mem_of_getElem? (i := 195) rfl)) rfl
theorem k622 : Cond.fieldLink "BlameCourt$Running" 40 "BlameCourt$Running" "blamed" "I" ∈ gtb := gtm (in_tables_1_2 (List.mem_of_getElem? (i := 196) rfl)) rfl
theorem k623 : Cond.fieldLink "BlameCourt$Running" 43 "BlameCourt$Running" "fuel" "I" ∈ gtb := gtm (in_tables_1_2 (List.mem_of_getElem? (i := 197) rfl)) rfl
theorem k624 : Cond.fieldLink "BlameCourt$Running" 46 "BlameCourt$Running" "steps" "I" ∈ gtb := gtm (in_tables_1_2 (List.mem_of_getElem? (i := 198) rfl)) rfl
theorem k625 : Cond.fieldLink "BlameCourt$Running" 49 "BlameCourt$Running" "pc" "I" ∈ gtb := gtm (in_tables_1_2 (List.mem_of_getElem? (i := 199) rfl)) rfl
theorem k626 : Cond.fieldLink "BlameCourt$Running" 52 "BlameCourt$Running" "calls" "I" ∈ gtb := gtm (in_tables_1_2 (List.mem_of_getElem? (i := 200) rfl)) rfl
theorem k627 : Cond.fieldLink "BlameCourt$Running" 55 "BlameCourt$Running" "returnTo" "[I" ∈ gtb := gtm (in_tables_1_2 (List.mem_of_getElem? (i := 201) rfl)) rfl
theorem k628 : Cond.fieldLink "BlameCourt$Running" 59 "BlameCourt$Running" "local" "[J" ∈ gtb := gtm (in_tables_1_2 (List.mem_of_getElem? (i := 202) rfl)) rfl
theorem k629 : Cond.fieldLink "BlameCourt$Running" 63 "BlameCourt$Running" "stack" "[J" ∈ gtb := gtm (in_tables_1_2 (List.mem_of_getElem? (i := 203) rfl)) rfl
theorem k630 : Cond.fieldLink "BlameCourt$Running" 66 "BlameCourt$Running" "top" "I" ∈ gtb := gtm (in_tables_1_2 (List.mem_of_getElem? (i := 204) rfl)) rfl
theorem k631 : Cond.fieldLink "BlameCourt$Running" 69 "BlameCourt$Running" "wrapping" "[I" ∈ gtb := gtm (in_tables_1_2 (List.mem_of_getElem? (i := 205) rfl)) rfl
theorem k632 : Cond.fieldLink "BlameCourt$Running" 72 "BlameCourt$Running" "outNumbers" "[I" ∈ gtb := gtm (in_tables_1_2 (List.mem_of_getElem? (i := 206) rfl)) rfl
theorem k634 : Cond.fieldLink "BlameCourt$Running" 75 "BlameCourt$Running" "outs" "I" ∈ gtb := gtm (in_tables_1_2 (List.mem_of_getElem? (i := 208) rfl)) rfl
theorem k636 : Cond.fieldLink "BlameCourt$Running" 78 "BlameCourt$Running" "askings" "[I" ∈ gtb := gtm (in_tables_1_2 (List.mem_of_getElem? (i := 210) rfl)) rfl
theorem n562 : Cond.methodLinkNest "BlameCourt$Running" 17 yX1_init "BlameCourt" ∈ lw_tbl := in_tables_1_2 (List.mem_of_getElem? (i := 136) rfl)
theorem k465 : Cond.code yX0_init cX0_init 1 none ∈ gtb := gtm (in_tables_1_2 (List.mem_of_getElem? (i := 39) rfl)) rfl
theorem k193 : Cond.initialized "BlameCourt$Guards" ∈ gtb := gtm (in_tables_1_1 (List.mem_of_getElem? (i := 7) rfl)) rfl
theorem ka_X0_init : KA yX0_init cX0_init 1 none 0 := ⟨k465, k193, by decide, by decide, by decide +kernel⟩
theorem k564 : Cond.code yX1_init cX1_init 1 none ∈ gtb := gtm (in_tables_1_2 (List.mem_of_getElem? (i := 138) rfl)) rfl
theorem ka_X1_init : KA yX1_init cX1_init 1 none 0 := ⟨k564, k196, by decide, by decide, by decide +kernel⟩
theorem k503 : Cond.code yX2_init cX2_init 1 none ∈ gtb := gtm (in_tables_1_2 (List.mem_of_getElem? (i := 77) rfl)) rfl
theorem k194 : Cond.initialized "BlameCourt$Judging" ∈ gtb := gtm (in_tables_1_1 (List.mem_of_getElem? (i := 8) rfl)) rfl
theorem ka_X2_init : KA yX2_init cX2_init 1 none 0 := ⟨k503, k194, by decide, by decide, by decide +kernel⟩
theorem k558 : Cond.code yX7_init cX7_init 1 none ∈ gtb := gtm (in_tables_1_2 (List.mem_of_getElem? (i := 132) rfl)) rfl
theorem k195 : Cond.initialized "BlameCourt$Running" ∈ gtb := gtm (in_tables_1_1 (List.mem_of_getElem? (i := 9) rfl)) rfl
theorem ka_X7_init : KA yX7_init cX7_init 1 none 0 := ⟨k558, k195, by decide, by decide, by decide +kernel⟩
theorem k384 : Cond.code yX9_init cX9_init 1 none ∈ gtb := gtm (in_tables_1_1 (List.mem_of_getElem? (i := 198) rfl)) rfl
theorem k192 : Cond.initialized "BlameCourt$Tokens" ∈ gtb := gtm (in_tables_1_1 (List.mem_of_getElem? (i := 6) rfl)) rfl
theorem ka_X9_init : KA yX9_init cX9_init 1 none 0 := ⟨k384, k192, by decide, by decide, by decide +kernel⟩
set_option maxHeartbeats 4000000 in
set_option maxRecDepth 100000 in
/-- BlameCourt.Guards(): nothing of it is kept -/
theorem c_Guards_init (l : Launch) (dC : Nat → ClassId) (dI : Nat → Nat → Nat) (h0 : Nat) (tl : List Value) (sz : Nat) (htl : tl.length = 6) : Met l yX0_init (wsOf yX0_init cX0_init 1 none) ({ frames := 6, cells := 5, slots := 15000, locals := 90 } : Room) (va_Pc [.ref h0] (PB dC dI sz [(h0, .inr (0, tl))] [])) (va_Qv (S := Unit) (fun _ => True) (fun x t => PW dC dI (va_A [(h0, .inr (0, tl))] sz) ([]) ([]) t) (va_A [(h0, .inr (0, tl))] sz)) 5 15000 (va_A [(h0, .inr (0, tl))] sz) := by
  refine mbody (y := yX0_init) (av := [.ref h0]) (b := cX0_init) (n := 1) (ret := none) (Qc := fun A => (va_Qv (S := Unit) (fun _ => True) (fun x t => PW dC dI A ([]) ([]) t) A)) (by decide) (Nat.le_of_ble_eq_true rfl) ?_
  intro p e s m below meth c ls A H hf hr hin hlk hw hl
  have hl : lv_has ls 1 [(0, .ref h0)] := hl
  refine lv_aload_n hf.1 hf.2.1 dX0_init_0 rfl (lv_at hl 0 rfl) ?_
  refine mobj hf hl.1 k466 k206 k207 dX0_init_1 (Nat.le_of_ble_eq_true rfl) (Nat.le_of_ble_eq_true rfl) ?_
  refine lv_aload_n hf.1 hf.2.1 dX0_init_4 rfl (lv_at hl 0 rfl) ?_
  refine lv_sipush (v := 3000) hf.1 hf.2.1 dX0_init_5 (by decide) ?_
  refine mnewaD hf hw (atype := .int) (ty := .int) (a0 := (3000, .inl (fun _ => 0))) k277 rfl (fun _ => rfl) (by decide) rfl (Nat.le_of_ble_eq_true rfl) (ce := 1) (sl := 3000) rfl rfl (Nat.le_of_ble_eq_true rfl) (Nat.le_of_ble_eq_true rfl) dX0_init_8 (fun q_1 H hw => ?_)
  refine mputFT (K := []) (j := 0) (nt := 6) hf hin hw iX0 tyX0 tyX0_ok nmX0 0 rfl rfl 0 (by decide) k467 rfl rfl rfl rfl htl rfl (by decide) (ws' := fun tl_2 => [(h0, .inr (0, tl_2))]) (fun _ => rfl) dX0_init_10 (fun tl_2 htl_2 H locs hw => ?_)
  refine lv_aload_n hf.1 hf.2.1 dX0_init_13 rfl (lv_at hl 0 rfl) ?_
  refine lv_sipush (v := 3000) hf.1 hf.2.1 dX0_init_14 (by decide) ?_
  refine mnewaD hf hw (atype := .int) (ty := .int) (a0 := (3000, .inl (fun _ => 0))) k277 rfl (fun _ => rfl) (by decide) rfl (Nat.le_of_ble_eq_true rfl) (ce := 2) (sl := 6000) rfl rfl (Nat.le_of_ble_eq_true rfl) (Nat.le_of_ble_eq_true rfl) dX0_init_17 (fun q_3 H hw => ?_)
  refine mputFT (K := []) (j := 1) (nt := 6) hf hin hw iX0 tyX0 tyX0_ok nmX0 0 rfl rfl 1 (by decide) k470 rfl rfl rfl rfl htl_2 rfl (by decide) (ws' := fun tl_4 => [(h0, .inr (0, tl_4))]) (fun _ => rfl) dX0_init_19 (fun tl_4 htl_4 H locs hw => ?_)
  refine lv_aload_n hf.1 hf.2.1 dX0_init_22 rfl (lv_at hl 0 rfl) ?_
  refine lv_sipush (v := 3000) hf.1 hf.2.1 dX0_init_23 (by decide) ?_
  refine mnewaD hf hw (atype := .int) (ty := .int) (a0 := (3000, .inl (fun _ => 0))) k277 rfl (fun _ => rfl) (by decide) rfl (Nat.le_of_ble_eq_true rfl) (ce := 3) (sl := 9000) rfl rfl (Nat.le_of_ble_eq_true rfl) (Nat.le_of_ble_eq_true rfl) dX0_init_26 (fun q_5 H hw => ?_)
  refine mputFT (K := []) (j := 2) (nt := 6) hf hin hw iX0 tyX0 tyX0_ok nmX0 0 rfl rfl 2 (by decide) k473 rfl rfl rfl rfl htl_4 rfl (by decide) (ws' := fun tl_6 => [(h0, .inr (0, tl_6))]) (fun _ => rfl) dX0_init_28 (fun tl_6 htl_6 H locs hw => ?_)
  refine lv_aload_n hf.1 hf.2.1 dX0_init_31 rfl (lv_at hl 0 rfl) ?_
  refine lv_sipush (v := 3000) hf.1 hf.2.1 dX0_init_32 (by decide) ?_
  refine mnewaD hf hw (atype := .int) (ty := .int) (a0 := (3000, .inl (fun _ => 0))) k277 rfl (fun _ => rfl) (by decide) rfl (Nat.le_of_ble_eq_true rfl) (ce := 4) (sl := 12000) rfl rfl (Nat.le_of_ble_eq_true rfl) (Nat.le_of_ble_eq_true rfl) dX0_init_35 (fun q_7 H hw => ?_)
  refine mputFT (K := []) (j := 3) (nt := 6) hf hin hw iX0 tyX0 tyX0_ok nmX0 0 rfl rfl 3 (by decide) k476 rfl rfl rfl rfl htl_6 rfl (by decide) (ws' := fun tl_8 => [(h0, .inr (0, tl_8))]) (fun _ => rfl) dX0_init_37 (fun tl_8 htl_8 H locs hw => ?_)
  refine lv_aload_n hf.1 hf.2.1 dX0_init_40 rfl (lv_at hl 0 rfl) ?_
  refine lv_sipush (v := 3000) hf.1 hf.2.1 dX0_init_41 (by decide) ?_
  refine mnewaD hf hw (atype := .int) (ty := .int) (a0 := (3000, .inl (fun _ => 0))) k277 rfl (fun _ => rfl) (by decide) rfl (Nat.le_of_ble_eq_true rfl) (ce := 5) (sl := 15000) rfl rfl (Nat.le_of_ble_eq_true rfl) (Nat.le_of_ble_eq_true rfl) dX0_init_44 (fun q_9 H hw => ?_)
  refine mputFT (K := []) (j := 4) (nt := 6) hf hin hw iX0 tyX0 tyX0_ok nmX0 0 rfl rfl 4 (by decide) k479 rfl rfl rfl rfl htl_8 rfl (by decide) (ws' := fun tl_10 => [(h0, .inr (0, tl_10))]) (fun _ => rfl) dX0_init_46 (fun tl_10 htl_10 H locs hw => ?_)
  refine lv_aload_n hf.1 hf.2.1 dX0_init_49 rfl (lv_at hl 0 rfl) ?_
  refine lv_iconst (v := 0) hf.1 hf.2.1 dX0_init_50 (by decide) ?_
  refine mputT (K := []) (j := 5) (nt := 6) hf hw iX0 tyX0 tyX0_ok nmX0 0 rfl rfl 5 (by decide) k482 rfl rfl rfl htl_10 rfl (by decide) (ws' := fun tl_11 => [(h0, .inr (0, tl_11))]) (fun _ => rfl) dX0_init_51 (fun tl_11 htl_11 H locs hw => ?_)
  exact mret_v hf hr hlk hw () trivial [] [] rfl rfl rfl (Nat.le_of_ble_eq_true rfl) (Nat.le_of_ble_eq_true rfl) dX0_init_54

set_option maxHeartbeats 4000000 in
set_option maxRecDepth 100000 in
/-- BlameCourt.Heap(): nothing of it is kept -/
theorem c_Heap_init (l : Launch) (dC : Nat → ClassId) (dI : Nat → Nat → Nat) (h0 : Nat) (tl : List Value) (sz : Nat) (htl : tl.length = 13) : Met l yX1_init (wsOf yX1_init cX1_init 1 none) ({ frames := 6, cells := 10, slots := 13000, locals := 90 } : Room) (va_Pc [.ref h0] (PB dC dI sz [(h0, .inr (1, tl))] [])) (va_Qv (S := Unit) (fun _ => True) (fun x t => PW dC dI (va_A [(h0, .inr (1, tl))] sz) ([]) ([]) t) (va_A [(h0, .inr (1, tl))] sz)) 10 13000 (va_A [(h0, .inr (1, tl))] sz) := by
  refine mbody (y := yX1_init) (av := [.ref h0]) (b := cX1_init) (n := 1) (ret := none) (Qc := fun A => (va_Qv (S := Unit) (fun _ => True) (fun x t => PW dC dI A ([]) ([]) t) A)) (by decide) (Nat.le_of_ble_eq_true rfl) ?_
  intro p e s m below meth c ls A H hf hr hin hlk hw hl
  have hl : lv_has ls 1 [(0, .ref h0)] := hl
  refine lv_aload_n hf.1 hf.2.1 dX1_init_0 rfl (lv_at hl 0 rfl) ?_
  refine mobj hf hl.1 k565 k206 k207 dX1_init_1 (Nat.le_of_ble_eq_true rfl) (Nat.le_of_ble_eq_true rfl) ?_
  refine lv_aload_n hf.1 hf.2.1 dX1_init_4 rfl (lv_at hl 0 rfl) ?_
  refine lv_iconst (v := 0) hf.1 hf.2.1 dX1_init_5 (by decide) ?_
  refine mputT (K := []) (j := 0) (nt := 13) hf hw iX1 tyX1 tyX1_ok nmX1 0 rfl rfl 0 (by decide) k566 rfl rfl rfl htl rfl (by decide) (ws' := fun tl_1 => [(h0, .inr (1, tl_1))]) (fun _ => rfl) dX1_init_6 (fun tl_1 htl_1 H locs hw => ?_)
  refine lv_aload_n hf.1 hf.2.1 dX1_init_9 rfl (lv_at hl 0 rfl) ?_
  refine lv_iconst (v := 0) hf.1 hf.2.1 dX1_init_10 (by decide) ?_
  refine mputT (K := []) (j := 1) (nt := 13) hf hw iX1 tyX1 tyX1_ok nmX1 0 rfl rfl 1 (by decide) k568 rfl rfl rfl htl_1 rfl (by decide) (ws' := fun tl_2 => [(h0, .inr (1, tl_2))]) (fun _ => rfl) dX1_init_11 (fun tl_2 htl_2 H locs hw => ?_)
  refine lv_aload_n hf.1 hf.2.1 dX1_init_14 rfl (lv_at hl 0 rfl) ?_
  refine lv_iconst (v := 0) hf.1 hf.2.1 dX1_init_15 (by decide) ?_
  refine mputT (K := []) (j := 2) (nt := 13) hf hw iX1 tyX1 tyX1_ok nmX1 0 rfl rfl 2 (by decide) k569 rfl rfl rfl htl_2 rfl (by decide) (ws' := fun tl_3 => [(h0, .inr (1, tl_3))]) (fun _ => rfl) dX1_init_16 (fun tl_3 htl_3 H locs hw => ?_)
  refine lv_aload_n hf.1 hf.2.1 dX1_init_19 rfl (lv_at hl 0 rfl) ?_
  refine lv_sipush (v := 1000) hf.1 hf.2.1 dX1_init_20 (by decide) ?_
  refine mnewaD hf hw (atype := .int) (ty := .int) (a0 := (1000, .inl (fun _ => 0))) k277 rfl (fun _ => rfl) (by decide) rfl (Nat.le_of_ble_eq_true rfl) (ce := 1) (sl := 1000) rfl rfl (Nat.le_of_ble_eq_true rfl) (Nat.le_of_ble_eq_true rfl) dX1_init_23 (fun q_4 H hw => ?_)
  refine mputFT (K := []) (j := 3) (nt := 13) hf hin hw iX1 tyX1 tyX1_ok nmX1 0 rfl rfl 3 (by decide) k571 rfl rfl rfl rfl htl_3 rfl (by decide) (ws' := fun tl_5 => [(h0, .inr (1, tl_5))]) (fun _ => rfl) dX1_init_25 (fun tl_5 htl_5 H locs hw => ?_)
  refine lv_aload_n hf.1 hf.2.1 dX1_init_28 rfl (lv_at hl 0 rfl) ?_
  refine lv_sipush (v := 1000) hf.1 hf.2.1 dX1_init_29 (by decide) ?_
  refine mnewaD hf hw (atype := .int) (ty := .int) (a0 := (1000, .inl (fun _ => 0))) k277 rfl (fun _ => rfl) (by decide) rfl (Nat.le_of_ble_eq_true rfl) (ce := 2) (sl := 2000) rfl rfl (Nat.le_of_ble_eq_true rfl) (Nat.le_of_ble_eq_true rfl) dX1_init_32 (fun q_6 H hw => ?_)
  refine mputFT (K := []) (j := 4) (nt := 13) hf hin hw iX1 tyX1 tyX1_ok nmX1 0 rfl rfl 4 (by decide) k572 rfl rfl rfl rfl htl_5 rfl (by decide) (ws' := fun tl_7 => [(h0, .inr (1, tl_7))]) (fun _ => rfl) dX1_init_34 (fun tl_7 htl_7 H locs hw => ?_)
  refine lv_aload_n hf.1 hf.2.1 dX1_init_37 rfl (lv_at hl 0 rfl) ?_
  refine lv_sipush (v := 4000) hf.1 hf.2.1 dX1_init_38 (by decide) ?_
  refine mnewaD hf hw (atype := .long) (ty := .long) (a0 := (4000, .inr (.inl (fun _ => 0)))) k373 rfl (fun _ => rfl) (by decide) rfl (Nat.le_of_ble_eq_true rfl) (ce := 3) (sl := 6000) rfl rfl (Nat.le_of_ble_eq_true rfl) (Nat.le_of_ble_eq_true rfl) dX1_init_41 (fun q_8 H hw => ?_)
  refine mputFT (K := []) (j := 5) (nt := 13) hf hin hw iX1 tyX1 tyX1_ok nmX1 0 rfl rfl 5 (by decide) k573 rfl rfl rfl rfl htl_7 rfl (by decide) (ws' := fun tl_9 => [(h0, .inr (1, tl_9))]) (fun _ => rfl) dX1_init_43 (fun tl_9 htl_9 H locs hw => ?_)
  refine lv_aload_n hf.1 hf.2.1 dX1_init_46 rfl (lv_at hl 0 rfl) ?_
  refine lv_sipush (v := 1000) hf.1 hf.2.1 dX1_init_47 (by decide) ?_
  refine mnewaD hf hw (atype := .long) (ty := .long) (a0 := (1000, .inr (.inl (fun _ => 0)))) k373 rfl (fun _ => rfl) (by decide) rfl (Nat.le_of_ble_eq_true rfl) (ce := 4) (sl := 7000) rfl rfl (Nat.le_of_ble_eq_true rfl) (Nat.le_of_ble_eq_true rfl) dX1_init_50 (fun q_10 H hw => ?_)
  refine mputFT (K := []) (j := 6) (nt := 13) hf hin hw iX1 tyX1 tyX1_ok nmX1 0 rfl rfl 6 (by decide) k574 rfl rfl rfl rfl htl_9 rfl (by decide) (ws' := fun tl_11 => [(h0, .inr (1, tl_11))]) (fun _ => rfl) dX1_init_52 (fun tl_11 htl_11 H locs hw => ?_)
  refine lv_aload_n hf.1 hf.2.1 dX1_init_55 rfl (lv_at hl 0 rfl) ?_
  refine lv_sipush (v := 1000) hf.1 hf.2.1 dX1_init_56 (by decide) ?_
  refine mnewaD hf hw (atype := .int) (ty := .int) (a0 := (1000, .inl (fun _ => 0))) k277 rfl (fun _ => rfl) (by decide) rfl (Nat.le_of_ble_eq_true rfl) (ce := 5) (sl := 8000) rfl rfl (Nat.le_of_ble_eq_true rfl) (Nat.le_of_ble_eq_true rfl) dX1_init_59 (fun q_12 H hw => ?_)
  refine mputFT (K := []) (j := 7) (nt := 13) hf hin hw iX1 tyX1 tyX1_ok nmX1 0 rfl rfl 7 (by decide) k576 rfl rfl rfl rfl htl_11 rfl (by decide) (ws' := fun tl_13 => [(h0, .inr (1, tl_13))]) (fun _ => rfl) dX1_init_61 (fun tl_13 htl_13 H locs hw => ?_)
  refine lv_aload_n hf.1 hf.2.1 dX1_init_64 rfl (lv_at hl 0 rfl) ?_
  refine lv_sipush (v := 1000) hf.1 hf.2.1 dX1_init_65 (by decide) ?_
  refine mnewaD hf hw (atype := .int) (ty := .int) (a0 := (1000, .inl (fun _ => 0))) k277 rfl (fun _ => rfl) (by decide) rfl (Nat.le_of_ble_eq_true rfl) (ce := 6) (sl := 9000) rfl rfl (Nat.le_of_ble_eq_true rfl) (Nat.le_of_ble_eq_true rfl) dX1_init_68 (fun q_14 H hw => ?_)
  refine mputFT (K := []) (j := 8) (nt := 13) hf hin hw iX1 tyX1 tyX1_ok nmX1 0 rfl rfl 8 (by decide) k578 rfl rfl rfl rfl htl_13 rfl (by decide) (ws' := fun tl_15 => [(h0, .inr (1, tl_15))]) (fun _ => rfl) dX1_init_70 (fun tl_15 htl_15 H locs hw => ?_)
  refine lv_aload_n hf.1 hf.2.1 dX1_init_73 rfl (lv_at hl 0 rfl) ?_
  refine lv_sipush (v := 1000) hf.1 hf.2.1 dX1_init_74 (by decide) ?_
  refine mnewaD hf hw (atype := .int) (ty := .int) (a0 := (1000, .inl (fun _ => 0))) k277 rfl (fun _ => rfl) (by decide) rfl (Nat.le_of_ble_eq_true rfl) (ce := 7) (sl := 10000) rfl rfl (Nat.le_of_ble_eq_true rfl) (Nat.le_of_ble_eq_true rfl) dX1_init_77 (fun q_16 H hw => ?_)
  refine mputFT (K := []) (j := 9) (nt := 13) hf hin hw iX1 tyX1 tyX1_ok nmX1 0 rfl rfl 9 (by decide) k580 rfl rfl rfl rfl htl_15 rfl (by decide) (ws' := fun tl_17 => [(h0, .inr (1, tl_17))]) (fun _ => rfl) dX1_init_79 (fun tl_17 htl_17 H locs hw => ?_)
  refine lv_aload_n hf.1 hf.2.1 dX1_init_82 rfl (lv_at hl 0 rfl) ?_
  refine lv_sipush (v := 1000) hf.1 hf.2.1 dX1_init_83 (by decide) ?_
  refine mnewaD hf hw (atype := .int) (ty := .int) (a0 := (1000, .inl (fun _ => 0))) k277 rfl (fun _ => rfl) (by decide) rfl (Nat.le_of_ble_eq_true rfl) (ce := 8) (sl := 11000) rfl rfl (Nat.le_of_ble_eq_true rfl) (Nat.le_of_ble_eq_true rfl) dX1_init_86 (fun q_18 H hw => ?_)
  refine mputFT (K := []) (j := 10) (nt := 13) hf hin hw iX1 tyX1 tyX1_ok nmX1 0 rfl rfl 10 (by decide) k582 rfl rfl rfl rfl htl_17 rfl (by decide) (ws' := fun tl_19 => [(h0, .inr (1, tl_19))]) (fun _ => rfl) dX1_init_88 (fun tl_19 htl_19 H locs hw => ?_)
  refine lv_aload_n hf.1 hf.2.1 dX1_init_91 rfl (lv_at hl 0 rfl) ?_
  refine lv_sipush (v := 1000) hf.1 hf.2.1 dX1_init_92 (by decide) ?_
  refine mnewaD hf hw (atype := .int) (ty := .int) (a0 := (1000, .inl (fun _ => 0))) k277 rfl (fun _ => rfl) (by decide) rfl (Nat.le_of_ble_eq_true rfl) (ce := 9) (sl := 12000) rfl rfl (Nat.le_of_ble_eq_true rfl) (Nat.le_of_ble_eq_true rfl) dX1_init_95 (fun q_20 H hw => ?_)
  refine mputFT (K := []) (j := 11) (nt := 13) hf hin hw iX1 tyX1 tyX1_ok nmX1 0 rfl rfl 11 (by decide) k584 rfl rfl rfl rfl htl_19 rfl (by decide) (ws' := fun tl_21 => [(h0, .inr (1, tl_21))]) (fun _ => rfl) dX1_init_97 (fun tl_21 htl_21 H locs hw => ?_)
  refine lv_aload_n hf.1 hf.2.1 dX1_init_100 rfl (lv_at hl 0 rfl) ?_
  refine lv_sipush (v := 1000) hf.1 hf.2.1 dX1_init_101 (by decide) ?_
  refine mnewaD hf hw (atype := .int) (ty := .int) (a0 := (1000, .inl (fun _ => 0))) k277 rfl (fun _ => rfl) (by decide) rfl (Nat.le_of_ble_eq_true rfl) (ce := 10) (sl := 13000) rfl rfl (Nat.le_of_ble_eq_true rfl) (Nat.le_of_ble_eq_true rfl) dX1_init_104 (fun q_22 H hw => ?_)
  refine mputFT (K := []) (j := 12) (nt := 13) hf hin hw iX1 tyX1 tyX1_ok nmX1 0 rfl rfl 12 (by decide) k586 rfl rfl rfl rfl htl_21 rfl (by decide) (ws' := fun tl_23 => [(h0, .inr (1, tl_23))]) (fun _ => rfl) dX1_init_106 (fun tl_23 htl_23 H locs hw => ?_)
  exact mret_v hf hr hlk hw () trivial [] [] rfl rfl rfl (Nat.le_of_ble_eq_true rfl) (Nat.le_of_ble_eq_true rfl) dX1_init_109

set_option maxHeartbeats 4000000 in
set_option maxRecDepth 100000 in
/-- BlameCourt.Judging(): nothing of it is kept -/
theorem c_Judging_init (l : Launch) (dC : Nat → ClassId) (dI : Nat → Nat → Nat) (h0 : Nat) (tl : List Value) (sz : Nat) (htl : tl.length = 15) : Met l yX2_init (wsOf yX2_init cX2_init 1 none) ({ frames := 6, cells := 8, slots := 9324, locals := 90 } : Room) (va_Pc [.ref h0] (PB dC dI sz [(h0, .inr (2, tl))] [])) (va_Qv (S := Unit) (fun _ => True) (fun x t => PW dC dI (va_A [(h0, .inr (2, tl))] sz) ([]) ([]) t) (va_A [(h0, .inr (2, tl))] sz)) 8 9324 (va_A [(h0, .inr (2, tl))] sz) := by
  refine mbody (y := yX2_init) (av := [.ref h0]) (b := cX2_init) (n := 1) (ret := none) (Qc := fun A => (va_Qv (S := Unit) (fun _ => True) (fun x t => PW dC dI A ([]) ([]) t) A)) (by decide) (Nat.le_of_ble_eq_true rfl) ?_
  intro p e s m below meth c ls A H hf hr hin hlk hw hl
  have hl : lv_has ls 1 [(0, .ref h0)] := hl
  refine lv_aload_n hf.1 hf.2.1 dX2_init_0 rfl (lv_at hl 0 rfl) ?_
  refine mobj hf hl.1 k504 k206 k207 dX2_init_1 (Nat.le_of_ble_eq_true rfl) (Nat.le_of_ble_eq_true rfl) ?_
  refine lv_aload_n hf.1 hf.2.1 dX2_init_4 rfl (lv_at hl 0 rfl) ?_
  refine lv_null hf.1 hf.2.1 dX2_init_5 ?_
  refine mputT (K := []) (j := 0) (nt := 15) hf hw iX2 tyX2 tyX2_ok nmX2 0 rfl rfl 0 (by decide) k505 rfl rfl rfl htl rfl (by decide) (ws' := fun tl_1 => [(h0, .inr (2, tl_1))]) (fun _ => rfl) dX2_init_6 (fun tl_1 htl_1 H locs hw => ?_)
  refine lv_aload_n hf.1 hf.2.1 dX2_init_9 rfl (lv_at hl 0 rfl) ?_
  refine lv_null hf.1 hf.2.1 dX2_init_10 ?_
  refine mputT (K := []) (j := 1) (nt := 15) hf hw iX2 tyX2 tyX2_ok nmX2 0 rfl rfl 1 (by decide) k506 rfl rfl rfl htl_1 rfl (by decide) (ws' := fun tl_2 => [(h0, .inr (2, tl_2))]) (fun _ => rfl) dX2_init_11 (fun tl_2 htl_2 H locs hw => ?_)
  refine lv_aload_n hf.1 hf.2.1 dX2_init_14 rfl (lv_at hl 0 rfl) ?_
  refine lv_null hf.1 hf.2.1 dX2_init_15 ?_
  refine mputT (K := []) (j := 2) (nt := 15) hf hw iX2 tyX2 tyX2_ok nmX2 0 rfl rfl 2 (by decide) k507 rfl rfl rfl htl_2 rfl (by decide) (ws' := fun tl_3 => [(h0, .inr (2, tl_3))]) (fun _ => rfl) dX2_init_16 (fun tl_3 htl_3 H locs hw => ?_)
  refine lv_aload_n hf.1 hf.2.1 dX2_init_19 rfl (lv_at hl 0 rfl) ?_
  refine lv_iconst (v := 0) hf.1 hf.2.1 dX2_init_20 (by decide) ?_
  refine mputT (K := []) (j := 3) (nt := 15) hf hw iX2 tyX2 tyX2_ok nmX2 0 rfl rfl 3 (by decide) k508 rfl rfl rfl htl_3 rfl (by decide) (ws' := fun tl_4 => [(h0, .inr (2, tl_4))]) (fun _ => rfl) dX2_init_21 (fun tl_4 htl_4 H locs hw => ?_)
  refine lv_aload_n hf.1 hf.2.1 dX2_init_24 rfl (lv_at hl 0 rfl) ?_
  refine lv_iconst (v := 0) hf.1 hf.2.1 dX2_init_25 (by decide) ?_
  refine mputT (K := []) (j := 4) (nt := 15) hf hw iX2 tyX2 tyX2_ok nmX2 0 rfl rfl 4 (by decide) k509 rfl rfl rfl htl_4 rfl (by decide) (ws' := fun tl_5 => [(h0, .inr (2, tl_5))]) (fun _ => rfl) dX2_init_26 (fun tl_5 htl_5 H locs hw => ?_)
  refine lv_aload_n hf.1 hf.2.1 dX2_init_29 rfl (lv_at hl 0 rfl) ?_
  refine lv_iconst (v := (-1)) hf.1 hf.2.1 dX2_init_30 (by decide) ?_
  refine mputT (K := []) (j := 5) (nt := 15) hf hw iX2 tyX2 tyX2_ok nmX2 0 rfl rfl 5 (by decide) k511 rfl rfl rfl htl_5 rfl (by decide) (ws' := fun tl_6 => [(h0, .inr (2, tl_6))]) (fun _ => rfl) dX2_init_31 (fun tl_6 htl_6 H locs hw => ?_)
  refine lv_aload_n hf.1 hf.2.1 dX2_init_34 rfl (lv_at hl 0 rfl) ?_
  refine lv_bipush (v := 40) hf.1 hf.2.1 dX2_init_35 (by decide) ?_
  refine mnewaD hf hw (atype := .boolean) (ty := .boolean) (a0 := (40, .inl (fun _ => 0))) k278 rfl (fun _ => rfl) (by decide) rfl (Nat.le_of_ble_eq_true rfl) (ce := 1) (sl := 40) rfl rfl (Nat.le_of_ble_eq_true rfl) (Nat.le_of_ble_eq_true rfl) dX2_init_37 (fun q_7 H hw => ?_)
  refine mputFT (K := []) (j := 6) (nt := 15) hf hin hw iX2 tyX2 tyX2_ok nmX2 0 rfl rfl 6 (by decide) k513 rfl rfl rfl rfl htl_6 rfl (by decide) (ws' := fun tl_8 => [(h0, .inr (2, tl_8))]) (fun _ => rfl) dX2_init_39 (fun tl_8 htl_8 H locs hw => ?_)
  refine lv_aload_n hf.1 hf.2.1 dX2_init_42 rfl (lv_at hl 0 rfl) ?_
  refine lv_sipush (v := 160) hf.1 hf.2.1 dX2_init_43 (by decide) ?_
  refine mnewaD hf hw (atype := .int) (ty := .int) (a0 := (160, .inl (fun _ => 0))) k277 rfl (fun _ => rfl) (by decide) rfl (Nat.le_of_ble_eq_true rfl) (ce := 2) (sl := 200) rfl rfl (Nat.le_of_ble_eq_true rfl) (Nat.le_of_ble_eq_true rfl) dX2_init_46 (fun q_9 H hw => ?_)
  refine mputFT (K := []) (j := 7) (nt := 15) hf hin hw iX2 tyX2 tyX2_ok nmX2 0 rfl rfl 7 (by decide) k515 rfl rfl rfl rfl htl_8 rfl (by decide) (ws' := fun tl_10 => [(h0, .inr (2, tl_10))]) (fun _ => rfl) dX2_init_48 (fun tl_10 htl_10 H locs hw => ?_)
  refine lv_aload_n hf.1 hf.2.1 dX2_init_51 rfl (lv_at hl 0 rfl) ?_
  refine lv_bipush (v := 40) hf.1 hf.2.1 dX2_init_52 (by decide) ?_
  refine mnewaD hf hw (atype := .int) (ty := .int) (a0 := (40, .inl (fun _ => 0))) k277 rfl (fun _ => rfl) (by decide) rfl (Nat.le_of_ble_eq_true rfl) (ce := 3) (sl := 240) rfl rfl (Nat.le_of_ble_eq_true rfl) (Nat.le_of_ble_eq_true rfl) dX2_init_54 (fun q_11 H hw => ?_)
  refine mputFT (K := []) (j := 8) (nt := 15) hf hin hw iX2 tyX2 tyX2_ok nmX2 0 rfl rfl 8 (by decide) k516 rfl rfl rfl rfl htl_10 rfl (by decide) (ws' := fun tl_12 => [(h0, .inr (2, tl_12))]) (fun _ => rfl) dX2_init_56 (fun tl_12 htl_12 H locs hw => ?_)
  refine lv_aload_n hf.1 hf.2.1 dX2_init_59 rfl (lv_at hl 0 rfl) ?_
  refine lv_bipush (v := 40) hf.1 hf.2.1 dX2_init_60 (by decide) ?_
  refine mnewaD hf hw (atype := .int) (ty := .int) (a0 := (40, .inl (fun _ => 0))) k277 rfl (fun _ => rfl) (by decide) rfl (Nat.le_of_ble_eq_true rfl) (ce := 4) (sl := 280) rfl rfl (Nat.le_of_ble_eq_true rfl) (Nat.le_of_ble_eq_true rfl) dX2_init_62 (fun q_13 H hw => ?_)
  refine mputFT (K := []) (j := 9) (nt := 15) hf hin hw iX2 tyX2 tyX2_ok nmX2 0 rfl rfl 9 (by decide) k517 rfl rfl rfl rfl htl_12 rfl (by decide) (ws' := fun tl_14 => [(h0, .inr (2, tl_14))]) (fun _ => rfl) dX2_init_64 (fun tl_14 htl_14 H locs hw => ?_)
  refine lv_aload_n hf.1 hf.2.1 dX2_init_67 rfl (lv_at hl 0 rfl) ?_
  refine lv_bipush (v := 44) hf.1 hf.2.1 dX2_init_68 (by decide) ?_
  refine mnewaD hf hw (atype := .int) (ty := .int) (a0 := (44, .inl (fun _ => 0))) k277 rfl (fun _ => rfl) (by decide) rfl (Nat.le_of_ble_eq_true rfl) (ce := 5) (sl := 324) rfl rfl (Nat.le_of_ble_eq_true rfl) (Nat.le_of_ble_eq_true rfl) dX2_init_70 (fun q_15 H hw => ?_)
  refine mputFT (K := []) (j := 10) (nt := 15) hf hin hw iX2 tyX2 tyX2_ok nmX2 0 rfl rfl 10 (by decide) k518 rfl rfl rfl rfl htl_14 rfl (by decide) (ws' := fun tl_16 => [(h0, .inr (2, tl_16))]) (fun _ => rfl) dX2_init_72 (fun tl_16 htl_16 H locs hw => ?_)
  refine lv_aload_n hf.1 hf.2.1 dX2_init_75 rfl (lv_at hl 0 rfl) ?_
  refine lv_sipush (v := 3000) hf.1 hf.2.1 dX2_init_76 (by decide) ?_
  refine mnewaD hf hw (atype := .int) (ty := .int) (a0 := (3000, .inl (fun _ => 0))) k277 rfl (fun _ => rfl) (by decide) rfl (Nat.le_of_ble_eq_true rfl) (ce := 6) (sl := 3324) rfl rfl (Nat.le_of_ble_eq_true rfl) (Nat.le_of_ble_eq_true rfl) dX2_init_79 (fun q_17 H hw => ?_)
  refine mputFT (K := []) (j := 11) (nt := 15) hf hin hw iX2 tyX2 tyX2_ok nmX2 0 rfl rfl 11 (by decide) k519 rfl rfl rfl rfl htl_16 rfl (by decide) (ws' := fun tl_18 => [(h0, .inr (2, tl_18))]) (fun _ => rfl) dX2_init_81 (fun tl_18 htl_18 H locs hw => ?_)
  refine lv_aload_n hf.1 hf.2.1 dX2_init_84 rfl (lv_at hl 0 rfl) ?_
  refine lv_sipush (v := 3000) hf.1 hf.2.1 dX2_init_85 (by decide) ?_
  refine mnewaD hf hw (atype := .int) (ty := .int) (a0 := (3000, .inl (fun _ => 0))) k277 rfl (fun _ => rfl) (by decide) rfl (Nat.le_of_ble_eq_true rfl) (ce := 7) (sl := 6324) rfl rfl (Nat.le_of_ble_eq_true rfl) (Nat.le_of_ble_eq_true rfl) dX2_init_88 (fun q_19 H hw => ?_)
  refine mputFT (K := []) (j := 12) (nt := 15) hf hin hw iX2 tyX2 tyX2_ok nmX2 0 rfl rfl 12 (by decide) k520 rfl rfl rfl rfl htl_18 rfl (by decide) (ws' := fun tl_20 => [(h0, .inr (2, tl_20))]) (fun _ => rfl) dX2_init_90 (fun tl_20 htl_20 H locs hw => ?_)
  refine lv_aload_n hf.1 hf.2.1 dX2_init_93 rfl (lv_at hl 0 rfl) ?_
  refine lv_sipush (v := 3000) hf.1 hf.2.1 dX2_init_94 (by decide) ?_
  refine mnewaD hf hw (atype := .int) (ty := .int) (a0 := (3000, .inl (fun _ => 0))) k277 rfl (fun _ => rfl) (by decide) rfl (Nat.le_of_ble_eq_true rfl) (ce := 8) (sl := 9324) rfl rfl (Nat.le_of_ble_eq_true rfl) (Nat.le_of_ble_eq_true rfl) dX2_init_97 (fun q_21 H hw => ?_)
  refine mputFT (K := []) (j := 13) (nt := 15) hf hin hw iX2 tyX2 tyX2_ok nmX2 0 rfl rfl 13 (by decide) k521 rfl rfl rfl rfl htl_20 rfl (by decide) (ws' := fun tl_22 => [(h0, .inr (2, tl_22))]) (fun _ => rfl) dX2_init_99 (fun tl_22 htl_22 H locs hw => ?_)
  refine lv_aload_n hf.1 hf.2.1 dX2_init_102 rfl (lv_at hl 0 rfl) ?_
  refine lv_iconst (v := 0) hf.1 hf.2.1 dX2_init_103 (by decide) ?_
  refine mputT (K := []) (j := 14) (nt := 15) hf hw iX2 tyX2 tyX2_ok nmX2 0 rfl rfl 14 (by decide) k522 rfl rfl rfl htl_22 rfl (by decide) (ws' := fun tl_23 => [(h0, .inr (2, tl_23))]) (fun _ => rfl) dX2_init_104 (fun tl_23 htl_23 H locs hw => ?_)
  exact mret_v hf hr hlk hw () trivial [] [] rfl rfl rfl (Nat.le_of_ble_eq_true rfl) (Nat.le_of_ble_eq_true rfl) dX2_init_107

set_option maxHeartbeats 4000000 in
set_option maxRecDepth 100000 in
theorem c_Tokens_init (l : Launch) (dC : Nat → ClassId) (dI : Nat → Nat → Nat) (h0 : Nat) (sz : Nat) : Met l yX9_init (wsOf yX9_init cX9_init 1 none) ({ frames := 6, cells := 1, slots := 0, locals := 90 } : Room) (va_Pc [.ref h0] (PB dC dI sz [(h0, .inr (7, [.null, .int 0, .int 0, .int 0, .int 0, .long 0, .int 0, .long 0]))] [])) (va_Qv (S := Nat) (fun _ => True) (fun x t => PW dC dI (va_A [(h0, .inr (7, [.null, .int 0, .int 0, .int 0, .int 0, .long 0, .int 0, .long 0]))] sz) ([(h0, .inr (7, [.ref x, .int 0, .int 0, .int 257, .int 0, .long 0, .int 0, .long 0]))]) ([]) t) (va_A [(h0, .inr (7, [.null, .int 0, .int 0, .int 0, .int 0, .long 0, .int 0, .long 0]))] sz)) 1 0 (va_A [(h0, .inr (7, [.null, .int 0, .int 0, .int 0, .int 0, .long 0, .int 0, .long 0]))] sz) := by
  refine mbody (y := yX9_init) (av := [.ref h0]) (b := cX9_init) (n := 1) (ret := none) (Qc := fun A => (va_Qv (S := Nat) (fun _ => True) (fun x t => PW dC dI A ([(h0, .inr (7, [.ref x, .int 0, .int 0, .int 257, .int 0, .long 0, .int 0, .long 0]))]) ([]) t) A)) (by decide) (Nat.le_of_ble_eq_true rfl) ?_
  intro p e s m below meth c ls A H hf hr hin hlk hw hl
  have hl : lv_has ls 1 [(0, .ref h0)] := hl
  refine lv_aload_n hf.1 hf.2.1 dX9_init_0 rfl (lv_at hl 0 rfl) ?_
  refine mobj hf hl.1 k385 k206 k207 dX9_init_1 (Nat.le_of_ble_eq_true rfl) (Nat.le_of_ble_eq_true rfl) ?_
  refine lv_aload_n hf.1 hf.2.1 dX9_init_4 rfl (lv_at hl 0 rfl) ?_
  refine lv_iconst (v := 0) hf.1 hf.2.1 dX9_init_5 (by decide) ?_
  refine mnewaD hf hw (atype := .byte) (ty := .byte) (a0 := (0, .inl (fun _ => 0))) k276 rfl (fun _ => rfl) (by decide) rfl (Nat.le_of_ble_eq_true rfl) (ce := 1) (sl := 0) rfl rfl (Nat.le_of_ble_eq_true rfl) (Nat.le_of_ble_eq_true rfl) dX9_init_6 (fun q_1 H hw => ?_)
  refine mput hf hw iX9 tyX9 tyX9_ok nmX9 0 rfl rfl 0 (by decide) k386 rfl rfl rfl (Nat.le_of_ble_eq_true rfl) (ws' := [(h0, .inr (7, [.ref q_1, .int 0, .int 0, .int 0, .int 0, .long 0, .int 0, .long 0]))]) rfl dX9_init_8 (fun H locs hw => ?_)
  refine lv_aload_n hf.1 hf.2.1 dX9_init_11 rfl (lv_at hl 0 rfl) ?_
  refine lv_iconst (v := 0) hf.1 hf.2.1 dX9_init_12 (by decide) ?_
  refine mput hf hw iX9 tyX9 tyX9_ok nmX9 0 rfl rfl 1 (by decide) k387 rfl rfl rfl (Nat.le_of_ble_eq_true rfl) (ws' := [(h0, .inr (7, [.ref q_1, .int 0, .int 0, .int 0, .int 0, .long 0, .int 0, .long 0]))]) rfl dX9_init_13 (fun H locs hw => ?_)
  refine lv_aload_n hf.1 hf.2.1 dX9_init_16 rfl (lv_at hl 0 rfl) ?_
  refine lv_iconst (v := 0) hf.1 hf.2.1 dX9_init_17 (by decide) ?_
  refine mput hf hw iX9 tyX9 tyX9_ok nmX9 0 rfl rfl 2 (by decide) k388 rfl rfl rfl (Nat.le_of_ble_eq_true rfl) (ws' := [(h0, .inr (7, [.ref q_1, .int 0, .int 0, .int 0, .int 0, .long 0, .int 0, .long 0]))]) rfl dX9_init_18 (fun H locs hw => ?_)
  refine lv_aload_n hf.1 hf.2.1 dX9_init_21 rfl (lv_at hl 0 rfl) ?_
  refine lv_sipush (v := 257) hf.1 hf.2.1 dX9_init_22 (by decide) ?_
  refine mput hf hw iX9 tyX9 tyX9_ok nmX9 0 rfl rfl 3 (by decide) k389 rfl rfl rfl (Nat.le_of_ble_eq_true rfl) (ws' := [(h0, .inr (7, [.ref q_1, .int 0, .int 0, .int 257, .int 0, .long 0, .int 0, .long 0]))]) rfl dX9_init_25 (fun H locs hw => ?_)
  refine lv_aload_n hf.1 hf.2.1 dX9_init_28 rfl (lv_at hl 0 rfl) ?_
  refine lv_iconst (v := 0) hf.1 hf.2.1 dX9_init_29 (by decide) ?_
  refine mput hf hw iX9 tyX9 tyX9_ok nmX9 0 rfl rfl 4 (by decide) k391 rfl rfl rfl (Nat.le_of_ble_eq_true rfl) (ws' := [(h0, .inr (7, [.ref q_1, .int 0, .int 0, .int 257, .int 0, .long 0, .int 0, .long 0]))]) rfl dX9_init_30 (fun H locs hw => ?_)
  refine lv_aload_n hf.1 hf.2.1 dX9_init_33 rfl (lv_at hl 0 rfl) ?_
  refine lv_lconst (v := 0) hf.1 hf.2.1 dX9_init_34 (by decide) ?_
  refine mput hf hw iX9 tyX9 tyX9_ok nmX9 0 rfl rfl 5 (by decide) k393 rfl rfl rfl (Nat.le_of_ble_eq_true rfl) (ws' := [(h0, .inr (7, [.ref q_1, .int 0, .int 0, .int 257, .int 0, .long 0, .int 0, .long 0]))]) rfl dX9_init_35 (fun H locs hw => ?_)
  refine lv_aload_n hf.1 hf.2.1 dX9_init_38 rfl (lv_at hl 0 rfl) ?_
  refine lv_iconst (v := 0) hf.1 hf.2.1 dX9_init_39 (by decide) ?_
  refine mput hf hw iX9 tyX9 tyX9_ok nmX9 0 rfl rfl 6 (by decide) k395 rfl rfl rfl (Nat.le_of_ble_eq_true rfl) (ws' := [(h0, .inr (7, [.ref q_1, .int 0, .int 0, .int 257, .int 0, .long 0, .int 0, .long 0]))]) rfl dX9_init_40 (fun H locs hw => ?_)
  refine lv_aload_n hf.1 hf.2.1 dX9_init_43 rfl (lv_at hl 0 rfl) ?_
  refine lv_lconst (v := 0) hf.1 hf.2.1 dX9_init_44 (by decide) ?_
  refine mput hf hw iX9 tyX9 tyX9_ok nmX9 0 rfl rfl 7 (by decide) k397 rfl rfl rfl (Nat.le_of_ble_eq_true rfl) (ws' := [(h0, .inr (7, [.ref q_1, .int 0, .int 0, .int 257, .int 0, .long 0, .int 0, .long 0]))]) rfl dX9_init_45 (fun H locs hw => ?_)
  exact mret_v hf hr hlk hw q_1 trivial [0] [] rfl rfl rfl (Nat.le_of_ble_eq_true rfl) (Nat.le_of_ble_eq_true rfl) dX9_init_48

set_option maxHeartbeats 4000000 in
set_option maxRecDepth 100000 in
theorem c_Running_init (l : Launch) (dC : Nat → ClassId) (dI : Nat → Nat → Nat) (h0 : Nat) (tl : List Value) (sz : Nat) (htl : tl.length = 20) : Met l yX7_init (wsOf yX7_init cX7_init 1 none) ({ frames := 10, cells := 17, slots := 39335, locals := 150 } : Room) (va_Pc [.ref h0] (PB dC dI sz [(h0, .inr (6, tl))] [])) (va_Qv (S := Unit) (fun _ => True) (fun x t => PW dC dI (va_A [(h0, .inr (6, tl))] sz) ([]) ([]) t) (va_A [(h0, .inr (6, tl))] sz)) 17 39335 (va_A [(h0, .inr (6, tl))] sz) := by
  refine mbody (y := yX7_init) (av := [.ref h0]) (b := cX7_init) (n := 1) (ret := none) (Qc := fun A => (va_Qv (S := Unit) (fun _ => True) (fun x t => PW dC dI A ([]) ([]) t) A)) (by decide) (Nat.le_of_ble_eq_true rfl) ?_
  intro p e s m below meth c ls A H hf hr hin hlk hw hl
  have hl : lv_has ls 1 [(0, .ref h0)] := hl
  refine lv_aload_n hf.1 hf.2.1 dX7_init_0 rfl (lv_at hl 0 rfl) ?_
  refine mobj hf hl.1 k559 k206 k207 dX7_init_1 (Nat.le_of_ble_eq_true rfl) (Nat.le_of_ble_eq_true rfl) ?_
  refine lv_aload_n hf.1 hf.2.1 dX7_init_4 rfl (lv_at hl 0 rfl) ?_
  refine lv_null hf.1 hf.2.1 dX7_init_5 ?_
  refine mputT (K := []) (j := 0) (nt := 20) hf hw iX7 tyX7 tyX7_ok nmX7 0 rfl rfl 0 (by decide) k615 rfl rfl rfl htl rfl (by decide) (ws' := fun tl_1 => [(h0, .inr (6, tl_1))]) (fun _ => rfl) dX7_init_6 (fun tl_1 htl_1 H locs hw => ?_)
  refine lv_aload_n hf.1 hf.2.1 dX7_init_9 rfl (lv_at hl 0 rfl) ?_
  refine mnew (ci := 1) (fs := dfX1) hf hw iX1 tyX1 tyX1_ok k560 k561 k196 rfl (hfs_of dfX1_ok) (ce := 1) (sl := 13) rfl rfl (Nat.le_of_ble_eq_true rfl) (Nat.le_of_ble_eq_true rfl) dX7_init_10 (fun q_2 H hw => ?_)
  refine lv_dup hf.1 hf.2.1 dX7_init_13 rfl ?_
  refine mIN_v (As := []) (rest := [.ref q_2, .ref h0]) (wr := [(h0, .inr (6, tl_1))]) (tr := []) hf hw (c_Heap_init l dC dI q_2 dfX1 H.size hdfX1) ka_X1_init k563 rfl n562 [1] [] [0] [] rfl rfl rfl rfl rfl (by decide) rfl rfl rfl hl.1 rfl rfl ⟨Nat.le_of_ble_eq_true rfl, Nat.le_of_ble_eq_true rfl⟩ (Nat.le_of_ble_eq_true rfl) (ce := 11) (sl := 13013) rfl rfl ⟨Nat.le_of_ble_eq_true rfl, Nat.le_of_ble_eq_true rfl⟩ dX7_init_14 (fun u_4 hu_4 H locs hw => ?_)
  have hw : Wd dC dI A [(h0, .inr (6, tl_1))] [] s H locs := hw
  refine mputFT (K := []) (j := 1) (nt := 20) hf hin hw iX7 tyX7 tyX7_ok nmX7 0 rfl rfl 1 (by decide) k616 rfl rfl rfl rfl htl_1 rfl (by decide) (ws' := fun tl_5 => [(h0, .inr (6, tl_5))]) (fun _ => rfl) dX7_init_17 (fun tl_5 htl_5 H locs hw => ?_)
  refine lv_aload_n hf.1 hf.2.1 dX7_init_20 rfl (lv_at hl 0 rfl) ?_
  refine lv_null hf.1 hf.2.1 dX7_init_21 ?_
  refine mputT (K := []) (j := 2) (nt := 20) hf hw iX7 tyX7 tyX7_ok nmX7 0 rfl rfl 2 (by decide) k617 rfl rfl rfl htl_5 rfl (by decide) (ws' := fun tl_6 => [(h0, .inr (6, tl_6))]) (fun _ => rfl) dX7_init_22 (fun tl_6 htl_6 H locs hw => ?_)
  refine lv_aload_n hf.1 hf.2.1 dX7_init_25 rfl (lv_at hl 0 rfl) ?_
  refine lv_iconst (v := 0) hf.1 hf.2.1 dX7_init_26 (by decide) ?_
  refine mputT (K := []) (j := 3) (nt := 20) hf hw iX7 tyX7 tyX7_ok nmX7 0 rfl rfl 3 (by decide) k618 rfl rfl rfl htl_6 rfl (by decide) (ws' := fun tl_7 => [(h0, .inr (6, tl_7))]) (fun _ => rfl) dX7_init_27 (fun tl_7 htl_7 H locs hw => ?_)
  refine lv_aload_n hf.1 hf.2.1 dX7_init_30 rfl (lv_at hl 0 rfl) ?_
  refine lv_iconst (v := 0) hf.1 hf.2.1 dX7_init_31 (by decide) ?_
  refine mputT (K := []) (j := 4) (nt := 20) hf hw iX7 tyX7 tyX7_ok nmX7 0 rfl rfl 4 (by decide) k619 rfl rfl rfl htl_7 rfl (by decide) (ws' := fun tl_8 => [(h0, .inr (6, tl_8))]) (fun _ => rfl) dX7_init_32 (fun tl_8 htl_8 H locs hw => ?_)
  refine lv_aload_n hf.1 hf.2.1 dX7_init_35 rfl (lv_at hl 0 rfl) ?_
  refine lv_iconst (v := 0) hf.1 hf.2.1 dX7_init_36 (by decide) ?_
  refine mputT (K := []) (j := 5) (nt := 20) hf hw iX7 tyX7 tyX7_ok nmX7 0 rfl rfl 5 (by decide) k620 rfl rfl rfl htl_8 rfl (by decide) (ws' := fun tl_9 => [(h0, .inr (6, tl_9))]) (fun _ => rfl) dX7_init_37 (fun tl_9 htl_9 H locs hw => ?_)
  refine lv_aload_n hf.1 hf.2.1 dX7_init_40 rfl (lv_at hl 0 rfl) ?_
  refine lv_iconst (v := (-1)) hf.1 hf.2.1 dX7_init_41 (by decide) ?_
  refine mputT (K := []) (j := 6) (nt := 20) hf hw iX7 tyX7 tyX7_ok nmX7 0 rfl rfl 6 (by decide) k621 rfl rfl rfl htl_9 rfl (by decide) (ws' := fun tl_10 => [(h0, .inr (6, tl_10))]) (fun _ => rfl) dX7_init_42 (fun tl_10 htl_10 H locs hw => ?_)
  refine lv_aload_n hf.1 hf.2.1 dX7_init_45 rfl (lv_at hl 0 rfl) ?_
  refine lv_iconst (v := (-1)) hf.1 hf.2.1 dX7_init_46 (by decide) ?_
  refine mputT (K := []) (j := 7) (nt := 20) hf hw iX7 tyX7 tyX7_ok nmX7 0 rfl rfl 7 (by decide) k622 rfl rfl rfl htl_10 rfl (by decide) (ws' := fun tl_11 => [(h0, .inr (6, tl_11))]) (fun _ => rfl) dX7_init_47 (fun tl_11 htl_11 H locs hw => ?_)
  refine lv_aload_n hf.1 hf.2.1 dX7_init_50 rfl (lv_at hl 0 rfl) ?_
  refine lv_iconst (v := 0) hf.1 hf.2.1 dX7_init_51 (by decide) ?_
  refine mputT (K := []) (j := 8) (nt := 20) hf hw iX7 tyX7 tyX7_ok nmX7 0 rfl rfl 8 (by decide) k623 rfl rfl rfl htl_11 rfl (by decide) (ws' := fun tl_12 => [(h0, .inr (6, tl_12))]) (fun _ => rfl) dX7_init_52 (fun tl_12 htl_12 H locs hw => ?_)
  refine lv_aload_n hf.1 hf.2.1 dX7_init_55 rfl (lv_at hl 0 rfl) ?_
  refine lv_iconst (v := 0) hf.1 hf.2.1 dX7_init_56 (by decide) ?_
  refine mputT (K := []) (j := 9) (nt := 20) hf hw iX7 tyX7 tyX7_ok nmX7 0 rfl rfl 9 (by decide) k624 rfl rfl rfl htl_12 rfl (by decide) (ws' := fun tl_13 => [(h0, .inr (6, tl_13))]) (fun _ => rfl) dX7_init_57 (fun tl_13 htl_13 H locs hw => ?_)
  refine lv_aload_n hf.1 hf.2.1 dX7_init_60 rfl (lv_at hl 0 rfl) ?_
  refine lv_iconst (v := 0) hf.1 hf.2.1 dX7_init_61 (by decide) ?_
  refine mputT (K := []) (j := 10) (nt := 20) hf hw iX7 tyX7 tyX7_ok nmX7 0 rfl rfl 10 (by decide) k625 rfl rfl rfl htl_13 rfl (by decide) (ws' := fun tl_14 => [(h0, .inr (6, tl_14))]) (fun _ => rfl) dX7_init_62 (fun tl_14 htl_14 H locs hw => ?_)
  refine lv_aload_n hf.1 hf.2.1 dX7_init_65 rfl (lv_at hl 0 rfl) ?_
  refine lv_iconst (v := 0) hf.1 hf.2.1 dX7_init_66 (by decide) ?_
  refine mputT (K := []) (j := 11) (nt := 20) hf hw iX7 tyX7 tyX7_ok nmX7 0 rfl rfl 11 (by decide) k626 rfl rfl rfl htl_14 rfl (by decide) (ws' := fun tl_15 => [(h0, .inr (6, tl_15))]) (fun _ => rfl) dX7_init_67 (fun tl_15 htl_15 H locs hw => ?_)
  refine lv_aload_n hf.1 hf.2.1 dX7_init_70 rfl (lv_at hl 0 rfl) ?_
  refine lv_bipush (v := 100) hf.1 hf.2.1 dX7_init_71 (by decide) ?_
  refine mnewaD hf hw (atype := .int) (ty := .int) (a0 := (100, .inl (fun _ => 0))) k277 rfl (fun _ => rfl) (by decide) rfl (Nat.le_of_ble_eq_true rfl) (ce := 12) (sl := 13113) rfl rfl (Nat.le_of_ble_eq_true rfl) (Nat.le_of_ble_eq_true rfl) dX7_init_73 (fun q_16 H hw => ?_)
  refine mputFT (K := []) (j := 12) (nt := 20) hf hin hw iX7 tyX7 tyX7_ok nmX7 0 rfl rfl 12 (by decide) k627 rfl rfl rfl rfl htl_15 rfl (by decide) (ws' := fun tl_17 => [(h0, .inr (6, tl_17))]) (fun _ => rfl) dX7_init_75 (fun tl_17 htl_17 H locs hw => ?_)
  refine lv_aload_n hf.1 hf.2.1 dX7_init_78 rfl (lv_at hl 0 rfl) ?_
  refine lv_sipush (v := 4400) hf.1 hf.2.1 dX7_init_79 (by decide) ?_
  refine mnewaD hf hw (atype := .long) (ty := .long) (a0 := (4400, .inr (.inl (fun _ => 0)))) k373 rfl (fun _ => rfl) (by decide) rfl (Nat.le_of_ble_eq_true rfl) (ce := 13) (sl := 17513) rfl rfl (Nat.le_of_ble_eq_true rfl) (Nat.le_of_ble_eq_true rfl) dX7_init_82 (fun q_18 H hw => ?_)
  refine mputFT (K := []) (j := 13) (nt := 20) hf hin hw iX7 tyX7 tyX7_ok nmX7 0 rfl rfl 13 (by decide) k628 rfl rfl rfl rfl htl_17 rfl (by decide) (ws' := fun tl_19 => [(h0, .inr (6, tl_19))]) (fun _ => rfl) dX7_init_84 (fun tl_19 htl_19 H locs hw => ?_)
  refine lv_aload_n hf.1 hf.2.1 dX7_init_87 rfl (lv_at hl 0 rfl) ?_
  refine lv_sipush (v := 20002) hf.1 hf.2.1 dX7_init_88 (by decide) ?_
  refine mnewaD hf hw (atype := .long) (ty := .long) (a0 := (20002, .inr (.inl (fun _ => 0)))) k373 rfl (fun _ => rfl) (by decide) rfl (Nat.le_of_ble_eq_true rfl) (ce := 14) (sl := 37515) rfl rfl (Nat.le_of_ble_eq_true rfl) (Nat.le_of_ble_eq_true rfl) dX7_init_91 (fun q_20 H hw => ?_)
  refine mputFT (K := []) (j := 14) (nt := 20) hf hin hw iX7 tyX7 tyX7_ok nmX7 0 rfl rfl 14 (by decide) k629 rfl rfl rfl rfl htl_19 rfl (by decide) (ws' := fun tl_21 => [(h0, .inr (6, tl_21))]) (fun _ => rfl) dX7_init_93 (fun tl_21 htl_21 H locs hw => ?_)
  refine lv_aload_n hf.1 hf.2.1 dX7_init_96 rfl (lv_at hl 0 rfl) ?_
  refine lv_iconst (v := 0) hf.1 hf.2.1 dX7_init_97 (by decide) ?_
  refine mputT (K := []) (j := 15) (nt := 20) hf hw iX7 tyX7 tyX7_ok nmX7 0 rfl rfl 15 (by decide) k630 rfl rfl rfl htl_21 rfl (by decide) (ws' := fun tl_22 => [(h0, .inr (6, tl_22))]) (fun _ => rfl) dX7_init_98 (fun tl_22 htl_22 H locs hw => ?_)
  refine lv_aload_n hf.1 hf.2.1 dX7_init_101 rfl (lv_at hl 0 rfl) ?_
  refine lv_bipush (v := 20) hf.1 hf.2.1 dX7_init_102 (by decide) ?_
  refine mnewaD hf hw (atype := .int) (ty := .int) (a0 := (20, .inl (fun _ => 0))) k277 rfl (fun _ => rfl) (by decide) rfl (Nat.le_of_ble_eq_true rfl) (ce := 15) (sl := 37535) rfl rfl (Nat.le_of_ble_eq_true rfl) (Nat.le_of_ble_eq_true rfl) dX7_init_104 (fun q_23 H hw => ?_)
  refine mputFT (K := []) (j := 16) (nt := 20) hf hin hw iX7 tyX7 tyX7_ok nmX7 0 rfl rfl 16 (by decide) k631 rfl rfl rfl rfl htl_22 rfl (by decide) (ws' := fun tl_24 => [(h0, .inr (6, tl_24))]) (fun _ => rfl) dX7_init_106 (fun tl_24 htl_24 H locs hw => ?_)
  refine lv_aload_n hf.1 hf.2.1 dX7_init_109 rfl (lv_at hl 0 rfl) ?_
  refine lv_sipush (v := 200) hf.1 hf.2.1 dX7_init_110 (by decide) ?_
  refine mnewaD hf hw (atype := .int) (ty := .int) (a0 := (200, .inl (fun _ => 0))) k277 rfl (fun _ => rfl) (by decide) rfl (Nat.le_of_ble_eq_true rfl) (ce := 16) (sl := 37735) rfl rfl (Nat.le_of_ble_eq_true rfl) (Nat.le_of_ble_eq_true rfl) dX7_init_113 (fun q_25 H hw => ?_)
  refine mputFT (K := []) (j := 17) (nt := 20) hf hin hw iX7 tyX7 tyX7_ok nmX7 0 rfl rfl 17 (by decide) k632 rfl rfl rfl rfl htl_24 rfl (by decide) (ws' := fun tl_26 => [(h0, .inr (6, tl_26))]) (fun _ => rfl) dX7_init_115 (fun tl_26 htl_26 H locs hw => ?_)
  refine lv_aload_n hf.1 hf.2.1 dX7_init_118 rfl (lv_at hl 0 rfl) ?_
  refine lv_iconst (v := 0) hf.1 hf.2.1 dX7_init_119 (by decide) ?_
  refine mputT (K := []) (j := 18) (nt := 20) hf hw iX7 tyX7 tyX7_ok nmX7 0 rfl rfl 18 (by decide) k634 rfl rfl rfl htl_26 rfl (by decide) (ws' := fun tl_27 => [(h0, .inr (6, tl_27))]) (fun _ => rfl) dX7_init_120 (fun tl_27 htl_27 H locs hw => ?_)
  refine lv_aload_n hf.1 hf.2.1 dX7_init_123 rfl (lv_at hl 0 rfl) ?_
  refine lv_sipush (v := 1600) hf.1 hf.2.1 dX7_init_124 (by decide) ?_
  refine mnewaD hf hw (atype := .int) (ty := .int) (a0 := (1600, .inl (fun _ => 0))) k277 rfl (fun _ => rfl) (by decide) rfl (Nat.le_of_ble_eq_true rfl) (ce := 17) (sl := 39335) rfl rfl (Nat.le_of_ble_eq_true rfl) (Nat.le_of_ble_eq_true rfl) dX7_init_127 (fun q_28 H hw => ?_)
  refine mputFT (K := []) (j := 19) (nt := 20) hf hin hw iX7 tyX7 tyX7_ok nmX7 0 rfl rfl 19 (by decide) k636 rfl rfl rfl rfl htl_27 rfl (by decide) (ws' := fun tl_29 => [(h0, .inr (6, tl_29))]) (fun _ => rfl) dX7_init_129 (fun tl_29 htl_29 H locs hw => ?_)
  exact mret_v hf hr hlk hw () trivial [] [] rfl rfl rfl (Nat.le_of_ble_eq_true rfl) (Nat.le_of_ble_eq_true rfl) dX7_init_132
