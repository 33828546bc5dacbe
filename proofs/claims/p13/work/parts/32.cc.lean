theorem dX0_init_0 : decode cX0_init 0 = .ok (.aload_n 0, 1) := by decide +kernel
theorem dX0_init_1 : decode cX0_init 1 = .ok (.invokespecial 3, 3) := by decide +kernel
theorem dX0_init_4 : decode cX0_init 4 = .ok (.aload_n 0, 1) := by decide +kernel
theorem dX0_init_5 : decode cX0_init 5 = .ok (.sipush 3000, 3) := by decide +kernel
theorem dX0_init_8 : decode cX0_init 8 = .ok (.newarray .int, 2) := by decide +kernel
theorem dX0_init_10 : decode cX0_init 10 = .ok (.putfield 9, 3) := by decide +kernel
theorem dX0_init_13 : decode cX0_init 13 = .ok (.aload_n 0, 1) := by decide +kernel
theorem dX0_init_14 : decode cX0_init 14 = .ok (.sipush 3000, 3) := by decide +kernel
theorem dX0_init_17 : decode cX0_init 17 = .ok (.newarray .int, 2) := by decide +kernel
theorem dX0_init_19 : decode cX0_init 19 = .ok (.putfield 15, 3) := by decide +kernel
theorem dX0_init_22 : decode cX0_init 22 = .ok (.aload_n 0, 1) := by decide +kernel
theorem dX0_init_23 : decode cX0_init 23 = .ok (.sipush 3000, 3) := by decide +kernel
theorem dX0_init_26 : decode cX0_init 26 = .ok (.newarray .int, 2) := by decide +kernel
theorem dX0_init_28 : decode cX0_init 28 = .ok (.putfield 18, 3) := by decide +kernel
theorem dX0_init_31 : decode cX0_init 31 = .ok (.aload_n 0, 1) := by decide +kernel
theorem dX0_init_32 : decode cX0_init 32 = .ok (.sipush 3000, 3) := by decide +kernel
theorem dX0_init_35 : decode cX0_init 35 = .ok (.newarray .int, 2) := by decide +kernel
theorem dX0_init_37 : decode cX0_init 37 = .ok (.putfield 21, 3) := by decide +kernel
theorem dX0_init_40 : decode cX0_init 40 = .ok (.aload_n 0, 1) := by decide +kernel
theorem dX0_init_41 : decode cX0_init 41 = .ok (.sipush 3000, 3) := by decide +kernel
theorem dX0_init_44 : decode cX0_init 44 = .ok (.newarray .int, 2) := by decide +kernel
theorem dX0_init_46 : decode cX0_init 46 = .ok (.putfield 24, 3) := by decide +kernel
theorem dX0_init_49 : decode cX0_init 49 = .ok (.aload_n 0, 1) := by decide +kernel
theorem dX0_init_50 : decode cX0_init 50 = .ok (.iconst 0, 1) := by decide +kernel
theorem dX0_init_51 : decode cX0_init 51 = .ok (.putfield 27, 3) := by decide +kernel
theorem dX0_init_54 : decode cX0_init 54 = .ok (.return_, 1) := by decide +kernel
theorem dX10_init_0 : decode cX10_init 0 = .ok (.aload_n 0, 1) := by decide +kernel
theorem dX10_init_1 : decode cX10_init 1 = .ok (.invokespecial 3, 3) := by decide +kernel
theorem dX10_init_4 : decode cX10_init 4 = .ok (.aload_n 0, 1) := by decide +kernel
theorem dX10_init_5 : decode cX10_init 5 = .ok (.sipush 3000, 3) := by decide +kernel
theorem dX10_init_8 : decode cX10_init 8 = .ok (.newarray .byte, 2) := by decide +kernel
theorem dX10_init_10 : decode cX10_init 10 = .ok (.putfield 9, 3) := by decide +kernel
theorem dX10_init_13 : decode cX10_init 13 = .ok (.aload_n 0, 1) := by decide +kernel
theorem dX10_init_14 : decode cX10_init 14 = .ok (.iconst 0, 1) := by decide +kernel
theorem dX10_init_15 : decode cX10_init 15 = .ok (.putfield 13, 3) := by decide +kernel
theorem dX10_init_18 : decode cX10_init 18 = .ok (.aload_n 0, 1) := by decide +kernel
theorem dX10_init_19 : decode cX10_init 19 = .ok (.new 17, 3) := by decide +kernel
theorem dX10_init_22 : decode cX10_init 22 = .ok (.dup, 1) := by decide +kernel
theorem dX10_init_23 : decode cX10_init 23 = .ok (.invokespecial 19, 3) := by decide +kernel
theorem dX10_init_26 : decode cX10_init 26 = .ok (.putfield 20, 3) := by decide +kernel
theorem dX10_init_29 : decode cX10_init 29 = .ok (.aload_n 0, 1) := by decide +kernel
theorem dX10_init_30 : decode cX10_init 30 = .ok (.new 17, 3) := by decide +kernel
theorem dX10_init_33 : decode cX10_init 33 = .ok (.dup, 1) := by decide +kernel
theorem dX10_init_34 : decode cX10_init 34 = .ok (.invokespecial 19, 3) := by decide +kernel
theorem dX10_init_37 : decode cX10_init 37 = .ok (.putfield 24, 3) := by decide +kernel
theorem dX10_init_40 : decode cX10_init 40 = .ok (.aload_n 0, 1) := by decide +kernel
theorem dX10_init_41 : decode cX10_init 41 = .ok (.iconst 0, 1) := by decide +kernel
theorem dX10_init_42 : decode cX10_init 42 = .ok (.putfield 27, 3) := by decide +kernel
theorem dX10_init_45 : decode cX10_init 45 = .ok (.aload_n 0, 1) := by decide +kernel
theorem dX10_init_46 : decode cX10_init 46 = .ok (.iconst 0, 1) := by decide +kernel
theorem dX10_init_47 : decode cX10_init 47 = .ok (.putfield 31, 3) := by decide +kernel
theorem dX10_init_50 : decode cX10_init 50 = .ok (.aload_n 0, 1) := by decide +kernel
theorem dX10_init_51 : decode cX10_init 51 = .ok (.iconst 0, 1) := by decide +kernel
theorem dX10_init_52 : decode cX10_init 52 = .ok (.putfield 34, 3) := by decide +kernel
theorem dX10_init_55 : decode cX10_init 55 = .ok (.aload_n 0, 1) := by decide +kernel
theorem dX10_init_56 : decode cX10_init 56 = .ok (.new 37, 3) := by decide +kernel
theorem dX10_init_59 : decode cX10_init 59 = .ok (.dup, 1) := by decide +kernel
theorem dX10_init_60 : decode cX10_init 60 = .ok (.invokespecial 39, 3) := by decide +kernel
theorem dX10_init_63 : decode cX10_init 63 = .ok (.putfield 40, 3) := by decide +kernel
theorem dX10_init_66 : decode cX10_init 66 = .ok (.aload_n 0, 1) := by decide +kernel
theorem dX10_init_67 : decode cX10_init 67 = .ok (.new 44, 3) := by decide +kernel
theorem dX10_init_70 : decode cX10_init 70 = .ok (.dup, 1) := by decide +kernel
theorem dX10_init_71 : decode cX10_init 71 = .ok (.invokespecial 46, 3) := by decide +kernel
theorem dX10_init_74 : decode cX10_init 74 = .ok (.putfield 47, 3) := by decide +kernel
theorem dX10_init_77 : decode cX10_init 77 = .ok (.aload_n 0, 1) := by decide +kernel
theorem dX10_init_78 : decode cX10_init 78 = .ok (.new 51, 3) := by decide +kernel
theorem dX10_init_81 : decode cX10_init 81 = .ok (.dup, 1) := by decide +kernel
theorem dX10_init_82 : decode cX10_init 82 = .ok (.invokespecial 53, 3) := by decide +kernel
theorem dX10_init_85 : decode cX10_init 85 = .ok (.putfield 54, 3) := by decide +kernel
theorem dX10_init_88 : decode cX10_init 88 = .ok (.aload_n 0, 1) := by decide +kernel
theorem dX10_init_89 : decode cX10_init 89 = .ok (.new 58, 3) := by decide +kernel
theorem dX10_init_92 : decode cX10_init 92 = .ok (.dup, 1) := by decide +kernel
theorem dX10_init_93 : decode cX10_init 93 = .ok (.invokespecial 60, 3) := by decide +kernel
theorem dX10_init_96 : decode cX10_init 96 = .ok (.putfield 61, 3) := by decide +kernel
theorem dX10_init_99 : decode cX10_init 99 = .ok (.aload_n 0, 1) := by decide +kernel
theorem dX10_init_100 : decode cX10_init 100 = .ok (.iconst (-1), 1) := by decide +kernel
theorem dX10_init_101 : decode cX10_init 101 = .ok (.putfield 65, 3) := by decide +kernel
theorem dX10_init_104 : decode cX10_init 104 = .ok (.aload_n 0, 1) := by decide +kernel
theorem dX10_init_105 : decode cX10_init 105 = .ok (.iconst (-1), 1) := by decide +kernel
theorem dX10_init_106 : decode cX10_init 106 = .ok (.putfield 68, 3) := by decide +kernel
theorem dX10_init_109 : decode cX10_init 109 = .ok (.return_, 1) := by decide +kernel
theorem dX1_init_0 : decode cX1_init 0 = .ok (.aload_n 0, 1) := by decide +kernel
theorem dX1_init_1 : decode cX1_init 1 = .ok (.invokespecial 3, 3) := by decide +kernel
theorem dX1_init_4 : decode cX1_init 4 = .ok (.aload_n 0, 1) := by decide +kernel
theorem dX1_init_5 : decode cX1_init 5 = .ok (.iconst 0, 1) := by decide +kernel
theorem dX1_init_6 : decode cX1_init 6 = .ok (.putfield 9, 3) := by decide +kernel
theorem dX1_init_9 : decode cX1_init 9 = .ok (.aload_n 0, 1) := by decide +kernel
theorem dX1_init_10 : decode cX1_init 10 = .ok (.iconst 0, 1) := by decide +kernel
theorem dX1_init_11 : decode cX1_init 11 = .ok (.putfield 15, 3) := by decide +kernel
theorem dX1_init_14 : decode cX1_init 14 = .ok (.aload_n 0, 1) := by decide +kernel
theorem dX1_init_15 : decode cX1_init 15 = .ok (.iconst 0, 1) := by decide +kernel
theorem dX1_init_16 : decode cX1_init 16 = .ok (.putfield 18, 3) := by decide +kernel
theorem dX1_init_19 : decode cX1_init 19 = .ok (.aload_n 0, 1) := by decide +kernel
theorem dX1_init_20 : decode cX1_init 20 = .ok (.sipush 1000, 3) := by decide +kernel
theorem dX1_init_23 : decode cX1_init 23 = .ok (.newarray .int, 2) := by decide +kernel
theorem dX1_init_25 : decode cX1_init 25 = .ok (.putfield 21, 3) := by decide +kernel
theorem dX1_init_28 : decode cX1_init 28 = .ok (.aload_n 0, 1) := by decide +kernel
theorem dX1_init_29 : decode cX1_init 29 = .ok (.sipush 1000, 3) := by decide +kernel
theorem dX1_init_32 : decode cX1_init 32 = .ok (.newarray .int, 2) := by decide +kernel
theorem dX1_init_34 : decode cX1_init 34 = .ok (.putfield 25, 3) := by decide +kernel
theorem dX1_init_37 : decode cX1_init 37 = .ok (.aload_n 0, 1) := by decide +kernel
theorem dX1_init_38 : decode cX1_init 38 = .ok (.sipush 4000, 3) := by decide +kernel
theorem dX1_init_41 : decode cX1_init 41 = .ok (.newarray .long, 2) := by decide +kernel
theorem dX1_init_43 : decode cX1_init 43 = .ok (.putfield 28, 3) := by decide +kernel
theorem dX1_init_46 : decode cX1_init 46 = .ok (.aload_n 0, 1) := by decide +kernel
theorem dX1_init_47 : decode cX1_init 47 = .ok (.sipush 1000, 3) := by decide +kernel
theorem dX1_init_50 : decode cX1_init 50 = .ok (.newarray .long, 2) := by decide +kernel
theorem dX1_init_52 : decode cX1_init 52 = .ok (.putfield 32, 3) := by decide +kernel
theorem dX1_init_55 : decode cX1_init 55 = .ok (.aload_n 0, 1) := by decide +kernel
theorem dX1_init_56 : decode cX1_init 56 = .ok (.sipush 1000, 3) := by decide +kernel
theorem dX1_init_59 : decode cX1_init 59 = .ok (.newarray .int, 2) := by decide +kernel
theorem dX1_init_61 : decode cX1_init 61 = .ok (.putfield 35, 3) := by decide +kernel
theorem dX1_init_64 : decode cX1_init 64 = .ok (.aload_n 0, 1) := by decide +kernel
theorem dX1_init_65 : decode cX1_init 65 = .ok (.sipush 1000, 3) := by decide +kernel
theorem dX1_init_68 : decode cX1_init 68 = .ok (.newarray .int, 2) := by decide +kernel
theorem dX1_init_70 : decode cX1_init 70 = .ok (.putfield 38, 3) := by decide +kernel
theorem dX1_init_73 : decode cX1_init 73 = .ok (.aload_n 0, 1) := by decide +kernel
theorem dX1_init_74 : decode cX1_init 74 = .ok (.sipush 1000, 3) := by decide +kernel
theorem dX1_init_77 : decode cX1_init 77 = .ok (.newarray .int, 2) := by decide +kernel
theorem dX1_init_79 : decode cX1_init 79 = .ok (.putfield 41, 3) := by decide +kernel
theorem dX1_init_82 : decode cX1_init 82 = .ok (.aload_n 0, 1) := by decide +kernel
theorem dX1_init_83 : decode cX1_init 83 = .ok (.sipush 1000, 3) := by decide +kernel
theorem dX1_init_86 : decode cX1_init 86 = .ok (.newarray .int, 2) := by decide +kernel
theorem dX1_init_88 : decode cX1_init 88 = .ok (.putfield 44, 3) := by decide +kernel
theorem dX1_init_91 : decode cX1_init 91 = .ok (.aload_n 0, 1) := by decide +kernel
theorem dX1_init_92 : decode cX1_init 92 = .ok (.sipush 1000, 3) := by decide +kernel
theorem dX1_init_95 : decode cX1_init 95 = .ok (.newarray .int, 2) := by decide +kernel
theorem dX1_init_97 : decode cX1_init 97 = .ok (.putfield 47, 3) := by decide +kernel
theorem dX1_init_100 : decode cX1_init 100 = .ok (.aload_n 0, 1) := by decide +kernel
theorem dX1_init_101 : decode cX1_init 101 = .ok (.sipush 1000, 3) := by decide +kernel
theorem dX1_init_104 : decode cX1_init 104 = .ok (.newarray .int, 2) := by decide +kernel
theorem dX1_init_106 : decode cX1_init 106 = .ok (.putfield 50, 3) := by decide +kernel
theorem dX1_init_109 : decode cX1_init 109 = .ok (.return_, 1) := by decide +kernel
theorem dX2_init_0 : decode cX2_init 0 = .ok (.aload_n 0, 1) := by decide +kernel
theorem dX2_init_1 : decode cX2_init 1 = .ok (.invokespecial 3, 3) := by decide +kernel
theorem dX2_init_4 : decode cX2_init 4 = .ok (.aload_n 0, 1) := by decide +kernel
theorem dX2_init_5 : decode cX2_init 5 = .ok (.aconst_null, 1) := by decide +kernel
theorem dX2_init_6 : decode cX2_init 6 = .ok (.putfield 9, 3) := by decide +kernel
theorem dX2_init_9 : decode cX2_init 9 = .ok (.aload_n 0, 1) := by decide +kernel
theorem dX2_init_10 : decode cX2_init 10 = .ok (.aconst_null, 1) := by decide +kernel
theorem dX2_init_11 : decode cX2_init 11 = .ok (.putfield 15, 3) := by decide +kernel
theorem dX2_init_14 : decode cX2_init 14 = .ok (.aload_n 0, 1) := by decide +kernel
theorem dX2_init_15 : decode cX2_init 15 = .ok (.aconst_null, 1) := by decide +kernel
theorem dX2_init_16 : decode cX2_init 16 = .ok (.putfield 19, 3) := by decide +kernel
theorem dX2_init_19 : decode cX2_init 19 = .ok (.aload_n 0, 1) := by decide +kernel
theorem dX2_init_20 : decode cX2_init 20 = .ok (.iconst 0, 1) := by decide +kernel
theorem dX2_init_21 : decode cX2_init 21 = .ok (.putfield 23, 3) := by decide +kernel
theorem dX2_init_24 : decode cX2_init 24 = .ok (.aload_n 0, 1) := by decide +kernel
theorem dX2_init_25 : decode cX2_init 25 = .ok (.iconst 0, 1) := by decide +kernel
theorem dX2_init_26 : decode cX2_init 26 = .ok (.putfield 27, 3) := by decide +kernel
theorem dX2_init_29 : decode cX2_init 29 = .ok (.aload_n 0, 1) := by decide +kernel
theorem dX2_init_30 : decode cX2_init 30 = .ok (.iconst (-1), 1) := by decide +kernel
theorem dX2_init_31 : decode cX2_init 31 = .ok (.putfield 30, 3) := by decide +kernel
theorem dX2_init_34 : decode cX2_init 34 = .ok (.aload_n 0, 1) := by decide +kernel
theorem dX2_init_35 : decode cX2_init 35 = .ok (.bipush 40, 2) := by decide +kernel
theorem dX2_init_37 : decode cX2_init 37 = .ok (.newarray .boolean, 2) := by decide +kernel
theorem dX2_init_39 : decode cX2_init 39 = .ok (.putfield 33, 3) := by decide +kernel
theorem dX2_init_42 : decode cX2_init 42 = .ok (.aload_n 0, 1) := by decide +kernel
theorem dX2_init_43 : decode cX2_init 43 = .ok (.sipush 160, 3) := by decide +kernel
theorem dX2_init_46 : decode cX2_init 46 = .ok (.newarray .int, 2) := by decide +kernel
theorem dX2_init_48 : decode cX2_init 48 = .ok (.putfield 37, 3) := by decide +kernel
theorem dX2_init_51 : decode cX2_init 51 = .ok (.aload_n 0, 1) := by decide +kernel
theorem dX2_init_52 : decode cX2_init 52 = .ok (.bipush 40, 2) := by decide +kernel
theorem dX2_init_54 : decode cX2_init 54 = .ok (.newarray .int, 2) := by decide +kernel
theorem dX2_init_56 : decode cX2_init 56 = .ok (.putfield 41, 3) := by decide +kernel
theorem dX2_init_59 : decode cX2_init 59 = .ok (.aload_n 0, 1) := by decide +kernel
theorem dX2_init_60 : decode cX2_init 60 = .ok (.bipush 40, 2) := by decide +kernel
theorem dX2_init_62 : decode cX2_init 62 = .ok (.newarray .int, 2) := by decide +kernel
theorem dX2_init_64 : decode cX2_init 64 = .ok (.putfield 44, 3) := by decide +kernel
theorem dX2_init_67 : decode cX2_init 67 = .ok (.aload_n 0, 1) := by decide +kernel
theorem dX2_init_68 : decode cX2_init 68 = .ok (.bipush 44, 2) := by decide +kernel
theorem dX2_init_70 : decode cX2_init 70 = .ok (.newarray .int, 2) := by decide +kernel
theorem dX2_init_72 : decode cX2_init 72 = .ok (.putfield 47, 3) := by decide +kernel
theorem dX2_init_75 : decode cX2_init 75 = .ok (.aload_n 0, 1) := by decide +kernel
theorem dX2_init_76 : decode cX2_init 76 = .ok (.sipush 3000, 3) := by decide +kernel
theorem dX2_init_79 : decode cX2_init 79 = .ok (.newarray .int, 2) := by decide +kernel
theorem dX2_init_81 : decode cX2_init 81 = .ok (.putfield 50, 3) := by decide +kernel
theorem dX2_init_84 : decode cX2_init 84 = .ok (.aload_n 0, 1) := by decide +kernel
theorem dX2_init_85 : decode cX2_init 85 = .ok (.sipush 3000, 3) := by decide +kernel
theorem dX2_init_88 : decode cX2_init 88 = .ok (.newarray .int, 2) := by decide +kernel
theorem dX2_init_90 : decode cX2_init 90 = .ok (.putfield 53, 3) := by decide +kernel
theorem dX2_init_93 : decode cX2_init 93 = .ok (.aload_n 0, 1) := by decide +kernel
theorem dX2_init_94 : decode cX2_init 94 = .ok (.sipush 3000, 3) := by decide +kernel
theorem dX2_init_97 : decode cX2_init 97 = .ok (.newarray .int, 2) := by decide +kernel
theorem dX2_init_99 : decode cX2_init 99 = .ok (.putfield 56, 3) := by decide +kernel
theorem dX2_init_102 : decode cX2_init 102 = .ok (.aload_n 0, 1) := by decide +kernel
theorem dX2_init_103 : decode cX2_init 103 = .ok (.iconst 0, 1) := by decide +kernel
theorem dX2_init_104 : decode cX2_init 104 = .ok (.putfield 59, 3) := by decide +kernel
theorem dX2_init_107 : decode cX2_init 107 = .ok (.return_, 1) := by decide +kernel
theorem dX3_init_0 : decode cX3_init 0 = .ok (.aload_n 0, 1) := by decide +kernel
theorem dX3_init_1 : decode cX3_init 1 = .ok (.invokespecial 5, 3) := by decide +kernel
theorem dX3_init_4 : decode cX3_init 4 = .ok (.aload_n 0, 1) := by decide +kernel
theorem dX3_init_5 : decode cX3_init 5 = .ok (.sipush 1549, 3) := by decide +kernel
theorem dX3_init_8 : decode cX3_init 8 = .ok (.newarray .int, 2) := by decide +kernel
theorem dX3_init_10 : decode cX3_init 10 = .ok (.putfield 11, 3) := by decide +kernel
theorem dX3_init_13 : decode cX3_init 13 = .ok (.aload_n 0, 1) := by decide +kernel
theorem dX3_init_14 : decode cX3_init 14 = .ok (.sipush 1549, 3) := by decide +kernel
theorem dX3_init_17 : decode cX3_init 17 = .ok (.newarray .int, 2) := by decide +kernel
theorem dX3_init_19 : decode cX3_init 19 = .ok (.putfield 15, 3) := by decide +kernel
theorem dX3_init_22 : decode cX3_init 22 = .ok (.aload_n 0, 1) := by decide +kernel
theorem dX3_init_23 : decode cX3_init 23 = .ok (.sipush 7745, 3) := by decide +kernel
theorem dX3_init_26 : decode cX3_init 26 = .ok (.newarray .int, 2) := by decide +kernel
theorem dX3_init_28 : decode cX3_init 28 = .ok (.putfield 18, 3) := by decide +kernel
theorem dX3_init_31 : decode cX3_init 31 = .ok (.aload_n 0, 1) := by decide +kernel
theorem dX3_init_32 : decode cX3_init 32 = .ok (.sipush 1549, 3) := by decide +kernel
theorem dX3_init_35 : decode cX3_init 35 = .ok (.newarray .int, 2) := by decide +kernel
theorem dX3_init_37 : decode cX3_init 37 = .ok (.putfield 21, 3) := by decide +kernel
theorem dX3_init_40 : decode cX3_init 40 = .ok (.aload_n 0, 1) := by decide +kernel
theorem dX3_init_41 : decode cX3_init 41 = .ok (.sipush 1549, 3) := by decide +kernel
theorem dX3_init_44 : decode cX3_init 44 = .ok (.newarray .boolean, 2) := by decide +kernel
theorem dX3_init_46 : decode cX3_init 46 = .ok (.putfield 24, 3) := by decide +kernel
theorem dX3_init_49 : decode cX3_init 49 = .ok (.aload_n 0, 1) := by decide +kernel
theorem dX3_init_50 : decode cX3_init 50 = .ok (.sipush 512, 3) := by decide +kernel
theorem dX3_init_53 : decode cX3_init 53 = .ok (.newarray .int, 2) := by decide +kernel
theorem dX3_init_55 : decode cX3_init 55 = .ok (.putfield 28, 3) := by decide +kernel
theorem dX3_init_58 : decode cX3_init 58 = .ok (.aload_n 0, 1) := by decide +kernel
theorem dX3_init_59 : decode cX3_init 59 = .ok (.sipush 1549, 3) := by decide +kernel
theorem dX3_init_62 : decode cX3_init 62 = .ok (.newarray .int, 2) := by decide +kernel
theorem dX3_init_64 : decode cX3_init 64 = .ok (.putfield 31, 3) := by decide +kernel
theorem dX3_init_67 : decode cX3_init 67 = .ok (.aload_n 0, 1) := by decide +kernel
theorem dX3_init_68 : decode cX3_init 68 = .ok (.iconst 0, 1) := by decide +kernel
theorem dX3_init_69 : decode cX3_init 69 = .ok (.putfield 34, 3) := by decide +kernel
theorem dX3_init_72 : decode cX3_init 72 = .ok (.aload_n 0, 1) := by decide +kernel
theorem dX3_init_73 : decode cX3_init 73 = .ok (.getfield 28, 3) := by decide +kernel
theorem dX3_init_76 : decode cX3_init 76 = .ok (.iconst (-1), 1) := by decide +kernel
theorem dX3_init_77 : decode cX3_init 77 = .ok (.invokestatic 38, 3) := by decide +kernel
theorem dX3_init_80 : decode cX3_init 80 = .ok (.iconst 4, 1) := by decide +kernel
theorem dX3_init_81 : decode cX3_init 81 = .ok (.newarray .int, 2) := by decide +kernel
theorem dX3_init_83 : decode cX3_init 83 = .ok (.dup, 1) := by decide +kernel
theorem dX3_init_84 : decode cX3_init 84 = .ok (.iconst 0, 1) := by decide +kernel
theorem dX3_init_85 : decode cX3_init 85 = .ok (.iconst 2, 1) := by decide +kernel
theorem dX3_init_86 : decode cX3_init 86 = .ok (.iastore, 1) := by decide +kernel
theorem dX3_init_87 : decode cX3_init 87 = .ok (.dup, 1) := by decide +kernel
theorem dX3_init_88 : decode cX3_init 88 = .ok (.iconst 1, 1) := by decide +kernel
theorem dX3_init_89 : decode cX3_init 89 = .ok (.iconst 2, 1) := by decide +kernel
theorem dX3_init_90 : decode cX3_init 90 = .ok (.iastore, 1) := by decide +kernel
theorem dX3_init_91 : decode cX3_init 91 = .ok (.dup, 1) := by decide +kernel
theorem dX3_init_92 : decode cX3_init 92 = .ok (.iconst 2, 1) := by decide +kernel
theorem dX3_init_93 : decode cX3_init 93 = .ok (.iconst 2, 1) := by decide +kernel
theorem dX3_init_94 : decode cX3_init 94 = .ok (.iastore, 1) := by decide +kernel
theorem dX3_init_95 : decode cX3_init 95 = .ok (.dup, 1) := by decide +kernel
theorem dX3_init_96 : decode cX3_init 96 = .ok (.iconst 3, 1) := by decide +kernel
theorem dX3_init_97 : decode cX3_init 97 = .ok (.iconst 2, 1) := by decide +kernel
theorem dX3_init_98 : decode cX3_init 98 = .ok (.iastore, 1) := by decide +kernel
theorem dX3_init_99 : decode cX3_init 99 = .ok (.astore_n 1, 1) := by decide +kernel
theorem dX3_init_100 : decode cX3_init 100 = .ok (.aload_n 0, 1) := by decide +kernel
theorem dX3_init_101 : decode cX3_init 101 = .ok (.iconst 0, 1) := by decide +kernel
theorem dX3_init_102 : decode cX3_init 102 = .ok (.iconst 0, 1) := by decide +kernel
theorem dX3_init_103 : decode cX3_init 103 = .ok (.aload_n 1, 1) := by decide +kernel
theorem dX3_init_104 : decode cX3_init 104 = .ok (.iconst 0, 1) := by decide +kernel
theorem dX3_init_105 : decode cX3_init 105 = .ok (.iconst 2, 1) := by decide +kernel
theorem dX3_init_106 : decode cX3_init 106 = .ok (.iconst 1, 1) := by decide +kernel
theorem dX3_init_107 : decode cX3_init 107 = .ok (.invokevirtual 44, 3) := by decide +kernel
theorem dX3_init_110 : decode cX3_init 110 = .ok (.pop, 1) := by decide +kernel
theorem dX3_init_111 : decode cX3_init 111 = .ok (.aload_n 0, 1) := by decide +kernel
theorem dX3_init_112 : decode cX3_init 112 = .ok (.iconst 1, 1) := by decide +kernel
theorem dX3_init_113 : decode cX3_init 113 = .ok (.iconst 0, 1) := by decide +kernel
theorem dX3_init_114 : decode cX3_init 114 = .ok (.aload_n 1, 1) := by decide +kernel
theorem dX3_init_115 : decode cX3_init 115 = .ok (.iconst 0, 1) := by decide +kernel
theorem dX3_init_116 : decode cX3_init 116 = .ok (.iconst 2, 1) := by decide +kernel
theorem dX3_init_117 : decode cX3_init 117 = .ok (.iconst 2, 1) := by decide +kernel
theorem dX3_init_118 : decode cX3_init 118 = .ok (.invokevirtual 44, 3) := by decide +kernel
theorem dX3_init_121 : decode cX3_init 121 = .ok (.pop, 1) := by decide +kernel
theorem dX3_init_122 : decode cX3_init 122 = .ok (.aload_n 0, 1) := by decide +kernel
theorem dX3_init_123 : decode cX3_init 123 = .ok (.iconst 2, 1) := by decide +kernel
theorem dX3_init_124 : decode cX3_init 124 = .ok (.iconst 0, 1) := by decide +kernel
theorem dX3_init_125 : decode cX3_init 125 = .ok (.aload_n 1, 1) := by decide +kernel
theorem dX3_init_126 : decode cX3_init 126 = .ok (.iconst 0, 1) := by decide +kernel
theorem dX3_init_127 : decode cX3_init 127 = .ok (.iconst 2, 1) := by decide +kernel
theorem dX3_init_128 : decode cX3_init 128 = .ok (.iconst 3, 1) := by decide +kernel
theorem dX3_init_129 : decode cX3_init 129 = .ok (.invokevirtual 44, 3) := by decide +kernel
theorem dX3_init_132 : decode cX3_init 132 = .ok (.pop, 1) := by decide +kernel
theorem dX3_init_133 : decode cX3_init 133 = .ok (.aload_n 0, 1) := by decide +kernel
theorem dX3_init_134 : decode cX3_init 134 = .ok (.iconst 2, 1) := by decide +kernel
theorem dX3_init_135 : decode cX3_init 135 = .ok (.invokevirtual 48, 3) := by decide +kernel
theorem dX3_init_138 : decode cX3_init 138 = .ok (.pop, 1) := by decide +kernel
theorem dX3_init_139 : decode cX3_init 139 = .ok (.iconst 0, 1) := by decide +kernel
theorem dX3_init_140 : decode cX3_init 140 = .ok (.istore_n 2, 1) := by decide +kernel
theorem dX3_init_141 : decode cX3_init 141 = .ok (.iload_n 2, 1) := by decide +kernel
theorem dX3_init_142 : decode cX3_init 142 = .ok (.iconst 4, 1) := by decide +kernel
theorem dX3_init_143 : decode cX3_init 143 = .ok (.if_icmp .gt 18, 3) := by decide +kernel
theorem dX3_init_146 : decode cX3_init 146 = .ok (.aload_n 0, 1) := by decide +kernel
theorem dX3_init_147 : decode cX3_init 147 = .ok (.aload_n 1, 1) := by decide +kernel
theorem dX3_init_148 : decode cX3_init 148 = .ok (.iconst 0, 1) := by decide +kernel
theorem dX3_init_149 : decode cX3_init 149 = .ok (.iload_n 2, 1) := by decide +kernel
theorem dX3_init_150 : decode cX3_init 150 = .ok (.iconst 2, 1) := by decide +kernel
theorem dX3_init_151 : decode cX3_init 151 = .ok (.invokevirtual 52, 3) := by decide +kernel
theorem dX3_init_154 : decode cX3_init 154 = .ok (.pop, 1) := by decide +kernel
theorem dX3_init_155 : decode cX3_init 155 = .ok (.iinc 2 1, 3) := by decide +kernel
theorem dX3_init_158 : decode cX3_init 158 = .ok (.goto (-17), 3) := by decide +kernel
theorem dX3_init_161 : decode cX3_init 161 = .ok (.return_, 1) := by decide +kernel
theorem dX5_init_0 : decode cX5_init 0 = .ok (.aload_n 0, 1) := by decide +kernel
theorem dX5_init_1 : decode cX5_init 1 = .ok (.invokespecial 3, 3) := by decide +kernel
theorem dX5_init_4 : decode cX5_init 4 = .ok (.aload_n 0, 1) := by decide +kernel
theorem dX5_init_5 : decode cX5_init 5 = .ok (.new 9, 3) := by decide +kernel
theorem dX5_init_8 : decode cX5_init 8 = .ok (.dup, 1) := by decide +kernel
theorem dX5_init_9 : decode cX5_init 9 = .ok (.invokespecial 11, 3) := by decide +kernel
theorem dX5_init_12 : decode cX5_init 12 = .ok (.putfield 12, 3) := by decide +kernel
theorem dX5_init_15 : decode cX5_init 15 = .ok (.aload_n 0, 1) := by decide +kernel
theorem dX5_init_16 : decode cX5_init 16 = .ok (.iconst 0, 1) := by decide +kernel
theorem dX5_init_17 : decode cX5_init 17 = .ok (.putfield 18, 3) := by decide +kernel
theorem dX5_init_20 : decode cX5_init 20 = .ok (.aload_n 0, 1) := by decide +kernel
theorem dX5_init_21 : decode cX5_init 21 = .ok (.iconst (-1), 1) := by decide +kernel
theorem dX5_init_22 : decode cX5_init 22 = .ok (.putfield 22, 3) := by decide +kernel
theorem dX5_init_25 : decode cX5_init 25 = .ok (.aload_n 0, 1) := by decide +kernel
theorem dX5_init_26 : decode cX5_init 26 = .ok (.bipush 40, 2) := by decide +kernel
theorem dX5_init_28 : decode cX5_init 28 = .ok (.newarray .long, 2) := by decide +kernel
theorem dX5_init_30 : decode cX5_init 30 = .ok (.putfield 25, 3) := by decide +kernel
theorem dX5_init_33 : decode cX5_init 33 = .ok (.aload_n 0, 1) := by decide +kernel
theorem dX5_init_34 : decode cX5_init 34 = .ok (.bipush 40, 2) := by decide +kernel
theorem dX5_init_36 : decode cX5_init 36 = .ok (.newarray .int, 2) := by decide +kernel
theorem dX5_init_38 : decode cX5_init 38 = .ok (.putfield 29, 3) := by decide +kernel
theorem dX5_init_41 : decode cX5_init 41 = .ok (.aload_n 0, 1) := by decide +kernel
theorem dX5_init_42 : decode cX5_init 42 = .ok (.bipush 40, 2) := by decide +kernel
theorem dX5_init_44 : decode cX5_init 44 = .ok (.newarray .int, 2) := by decide +kernel
theorem dX5_init_46 : decode cX5_init 46 = .ok (.putfield 33, 3) := by decide +kernel
theorem dX5_init_49 : decode cX5_init 49 = .ok (.aload_n 0, 1) := by decide +kernel
theorem dX5_init_50 : decode cX5_init 50 = .ok (.bipush 40, 2) := by decide +kernel
theorem dX5_init_52 : decode cX5_init 52 = .ok (.newarray .int, 2) := by decide +kernel
theorem dX5_init_54 : decode cX5_init 54 = .ok (.putfield 36, 3) := by decide +kernel
theorem dX5_init_57 : decode cX5_init 57 = .ok (.aload_n 0, 1) := by decide +kernel
theorem dX5_init_58 : decode cX5_init 58 = .ok (.sipush 160, 3) := by decide +kernel
theorem dX5_init_61 : decode cX5_init 61 = .ok (.newarray .int, 2) := by decide +kernel
theorem dX5_init_63 : decode cX5_init 63 = .ok (.putfield 39, 3) := by decide +kernel
theorem dX5_init_66 : decode cX5_init 66 = .ok (.aload_n 0, 1) := by decide +kernel
theorem dX5_init_67 : decode cX5_init 67 = .ok (.bipush 40, 2) := by decide +kernel
theorem dX5_init_69 : decode cX5_init 69 = .ok (.newarray .int, 2) := by decide +kernel
theorem dX5_init_71 : decode cX5_init 71 = .ok (.putfield 42, 3) := by decide +kernel
theorem dX5_init_74 : decode cX5_init 74 = .ok (.aload_n 0, 1) := by decide +kernel
theorem dX5_init_75 : decode cX5_init 75 = .ok (.bipush 40, 2) := by decide +kernel
theorem dX5_init_77 : decode cX5_init 77 = .ok (.newarray .boolean, 2) := by decide +kernel
theorem dX5_init_79 : decode cX5_init 79 = .ok (.putfield 45, 3) := by decide +kernel
theorem dX5_init_82 : decode cX5_init 82 = .ok (.aload_n 0, 1) := by decide +kernel
theorem dX5_init_83 : decode cX5_init 83 = .ok (.bipush 41, 2) := by decide +kernel
theorem dX5_init_85 : decode cX5_init 85 = .ok (.newarray .int, 2) := by decide +kernel
theorem dX5_init_87 : decode cX5_init 87 = .ok (.putfield 49, 3) := by decide +kernel
theorem dX5_init_90 : decode cX5_init 90 = .ok (.aload_n 0, 1) := by decide +kernel
theorem dX5_init_91 : decode cX5_init 91 = .ok (.iconst 0, 1) := by decide +kernel
theorem dX5_init_92 : decode cX5_init 92 = .ok (.putfield 52, 3) := by decide +kernel
theorem dX5_init_95 : decode cX5_init 95 = .ok (.aload_n 0, 1) := by decide +kernel
theorem dX5_init_96 : decode cX5_init 96 = .ok (.sipush 9080, 3) := by decide +kernel
theorem dX5_init_99 : decode cX5_init 99 = .ok (.newarray .int, 2) := by decide +kernel
theorem dX5_init_101 : decode cX5_init 101 = .ok (.putfield 55, 3) := by decide +kernel
theorem dX5_init_104 : decode cX5_init 104 = .ok (.aload_n 0, 1) := by decide +kernel
theorem dX5_init_105 : decode cX5_init 105 = .ok (.sipush 9080, 3) := by decide +kernel
theorem dX5_init_108 : decode cX5_init 108 = .ok (.newarray .int, 2) := by decide +kernel
theorem dX5_init_110 : decode cX5_init 110 = .ok (.putfield 58, 3) := by decide +kernel
theorem dX5_init_113 : decode cX5_init 113 = .ok (.aload_n 0, 1) := by decide +kernel
theorem dX5_init_114 : decode cX5_init 114 = .ok (.sipush 9080, 3) := by decide +kernel
theorem dX5_init_117 : decode cX5_init 117 = .ok (.newarray .int, 2) := by decide +kernel
theorem dX5_init_119 : decode cX5_init 119 = .ok (.putfield 61, 3) := by decide +kernel
theorem dX5_init_122 : decode cX5_init 122 = .ok (.aload_n 0, 1) := by decide +kernel
theorem dX5_init_123 : decode cX5_init 123 = .ok (.sipush 9080, 3) := by decide +kernel
theorem dX5_init_126 : decode cX5_init 126 = .ok (.newarray .int, 2) := by decide +kernel
theorem dX5_init_128 : decode cX5_init 128 = .ok (.putfield 64, 3) := by decide +kernel
theorem dX5_init_131 : decode cX5_init 131 = .ok (.aload_n 0, 1) := by decide +kernel
theorem dX5_init_132 : decode cX5_init 132 = .ok (.iconst 0, 1) := by decide +kernel
theorem dX5_init_133 : decode cX5_init 133 = .ok (.putfield 67, 3) := by decide +kernel
theorem dX5_init_136 : decode cX5_init 136 = .ok (.return_, 1) := by decide +kernel
theorem dX6_init_0 : decode cX6_init 0 = .ok (.aload_n 0, 1) := by decide +kernel
theorem dX6_init_1 : decode cX6_init 1 = .ok (.invokespecial 5, 3) := by decide +kernel
theorem dX6_init_4 : decode cX6_init 4 = .ok (.aload_n 0, 1) := by decide +kernel
theorem dX6_init_5 : decode cX6_init 5 = .ok (.new 11, 3) := by decide +kernel
theorem dX6_init_8 : decode cX6_init 8 = .ok (.dup, 1) := by decide +kernel
theorem dX6_init_9 : decode cX6_init 9 = .ok (.invokespecial 13, 3) := by decide +kernel
theorem dX6_init_12 : decode cX6_init 12 = .ok (.putfield 14, 3) := by decide +kernel
theorem dX6_init_15 : decode cX6_init 15 = .ok (.aload_n 0, 1) := by decide +kernel
theorem dX6_init_16 : decode cX6_init 16 = .ok (.aconst_null, 1) := by decide +kernel
theorem dX6_init_17 : decode cX6_init 17 = .ok (.putfield 18, 3) := by decide +kernel
theorem dX6_init_20 : decode cX6_init 20 = .ok (.aload_n 0, 1) := by decide +kernel
theorem dX6_init_21 : decode cX6_init 21 = .ok (.iconst 0, 1) := by decide +kernel
theorem dX6_init_22 : decode cX6_init 22 = .ok (.putfield 22, 3) := by decide +kernel
theorem dX6_init_25 : decode cX6_init 25 = .ok (.aload_n 0, 1) := by decide +kernel
theorem dX6_init_26 : decode cX6_init 26 = .ok (.iconst 0, 1) := by decide +kernel
theorem dX6_init_27 : decode cX6_init 27 = .ok (.putfield 26, 3) := by decide +kernel
theorem dX6_init_30 : decode cX6_init 30 = .ok (.aload_n 0, 1) := by decide +kernel
theorem dX6_init_31 : decode cX6_init 31 = .ok (.iconst (-1), 1) := by decide +kernel
theorem dX6_init_32 : decode cX6_init 32 = .ok (.putfield 29, 3) := by decide +kernel
theorem dX6_init_35 : decode cX6_init 35 = .ok (.aload_n 0, 1) := by decide +kernel
theorem dX6_init_36 : decode cX6_init 36 = .ok (.bipush 40, 2) := by decide +kernel
theorem dX6_init_38 : decode cX6_init 38 = .ok (.newarray .int, 2) := by decide +kernel
theorem dX6_init_40 : decode cX6_init 40 = .ok (.putfield 32, 3) := by decide +kernel
theorem dX6_init_43 : decode cX6_init 43 = .ok (.aload_n 0, 1) := by decide +kernel
theorem dX6_init_44 : decode cX6_init 44 = .ok (.bipush 44, 2) := by decide +kernel
theorem dX6_init_46 : decode cX6_init 46 = .ok (.newarray .long, 2) := by decide +kernel
theorem dX6_init_48 : decode cX6_init 48 = .ok (.putfield 36, 3) := by decide +kernel
theorem dX6_init_51 : decode cX6_init 51 = .ok (.aload_n 0, 1) := by decide +kernel
theorem dX6_init_52 : decode cX6_init 52 = .ok (.iconst 0, 1) := by decide +kernel
theorem dX6_init_53 : decode cX6_init 53 = .ok (.putfield 40, 3) := by decide +kernel
theorem dX6_init_56 : decode cX6_init 56 = .ok (.aload_n 0, 1) := by decide +kernel
theorem dX6_init_57 : decode cX6_init 57 = .ok (.bipush 126, 2) := by decide +kernel
theorem dX6_init_59 : decode cX6_init 59 = .ok (.newarray .int, 2) := by decide +kernel
theorem dX6_init_61 : decode cX6_init 61 = .ok (.putfield 43, 3) := by decide +kernel
theorem dX6_init_64 : decode cX6_init 64 = .ok (.aload_n 0, 1) := by decide +kernel
theorem dX6_init_65 : decode cX6_init 65 = .ok (.bipush 126, 2) := by decide +kernel
theorem dX6_init_67 : decode cX6_init 67 = .ok (.newarray .int, 2) := by decide +kernel
theorem dX6_init_69 : decode cX6_init 69 = .ok (.putfield 46, 3) := by decide +kernel
theorem dX6_init_72 : decode cX6_init 72 = .ok (.aload_n 0, 1) := by decide +kernel
theorem dX6_init_73 : decode cX6_init 73 = .ok (.bipush 126, 2) := by decide +kernel
theorem dX6_init_75 : decode cX6_init 75 = .ok (.newarray .int, 2) := by decide +kernel
theorem dX6_init_77 : decode cX6_init 77 = .ok (.putfield 49, 3) := by decide +kernel
theorem dX6_init_80 : decode cX6_init 80 = .ok (.aload_n 0, 1) := by decide +kernel
theorem dX6_init_81 : decode cX6_init 81 = .ok (.iconst 0, 1) := by decide +kernel
theorem dX6_init_82 : decode cX6_init 82 = .ok (.putfield 52, 3) := by decide +kernel
theorem dX6_init_85 : decode cX6_init 85 = .ok (.aload_n 0, 1) := by decide +kernel
theorem dX6_init_86 : decode cX6_init 86 = .ok (.sipush 164, 3) := by decide +kernel
theorem dX6_init_89 : decode cX6_init 89 = .ok (.newarray .int, 2) := by decide +kernel
theorem dX6_init_91 : decode cX6_init 91 = .ok (.putfield 55, 3) := by decide +kernel
theorem dX6_init_94 : decode cX6_init 94 = .ok (.aload_n 0, 1) := by decide +kernel
theorem dX6_init_95 : decode cX6_init 95 = .ok (.iconst 0, 1) := by decide +kernel
theorem dX6_init_96 : decode cX6_init 96 = .ok (.putfield 58, 3) := by decide +kernel
theorem dX6_init_99 : decode cX6_init 99 = .ok (.return_, 1) := by decide +kernel
theorem dX7_init_0 : decode cX7_init 0 = .ok (.aload_n 0, 1) := by decide +kernel
theorem dX7_init_1 : decode cX7_init 1 = .ok (.invokespecial 3, 3) := by decide +kernel
theorem dX7_init_4 : decode cX7_init 4 = .ok (.aload_n 0, 1) := by decide +kernel
theorem dX7_init_5 : decode cX7_init 5 = .ok (.aconst_null, 1) := by decide +kernel
theorem dX7_init_6 : decode cX7_init 6 = .ok (.putfield 9, 3) := by decide +kernel
theorem dX7_init_9 : decode cX7_init 9 = .ok (.aload_n 0, 1) := by decide +kernel
theorem dX7_init_10 : decode cX7_init 10 = .ok (.new 15, 3) := by decide +kernel
theorem dX7_init_13 : decode cX7_init 13 = .ok (.dup, 1) := by decide +kernel
theorem dX7_init_14 : decode cX7_init 14 = .ok (.invokespecial 17, 3) := by decide +kernel
theorem dX7_init_17 : decode cX7_init 17 = .ok (.putfield 18, 3) := by decide +kernel
theorem dX7_init_20 : decode cX7_init 20 = .ok (.aload_n 0, 1) := by decide +kernel
theorem dX7_init_21 : decode cX7_init 21 = .ok (.aconst_null, 1) := by decide +kernel
theorem dX7_init_22 : decode cX7_init 22 = .ok (.putfield 22, 3) := by decide +kernel
theorem dX7_init_25 : decode cX7_init 25 = .ok (.aload_n 0, 1) := by decide +kernel
theorem dX7_init_26 : decode cX7_init 26 = .ok (.iconst 0, 1) := by decide +kernel
theorem dX7_init_27 : decode cX7_init 27 = .ok (.putfield 26, 3) := by decide +kernel
theorem dX7_init_30 : decode cX7_init 30 = .ok (.aload_n 0, 1) := by decide +kernel
theorem dX7_init_31 : decode cX7_init 31 = .ok (.iconst 0, 1) := by decide +kernel
theorem dX7_init_32 : decode cX7_init 32 = .ok (.putfield 30, 3) := by decide +kernel
theorem dX7_init_35 : decode cX7_init 35 = .ok (.aload_n 0, 1) := by decide +kernel
theorem dX7_init_36 : decode cX7_init 36 = .ok (.iconst 0, 1) := by decide +kernel
theorem dX7_init_37 : decode cX7_init 37 = .ok (.putfield 33, 3) := by decide +kernel
theorem dX7_init_40 : decode cX7_init 40 = .ok (.aload_n 0, 1) := by decide +kernel
theorem dX7_init_41 : decode cX7_init 41 = .ok (.iconst (-1), 1) := by decide +kernel
theorem dX7_init_42 : decode cX7_init 42 = .ok (.putfield 37, 3) := by decide +kernel
theorem dX7_init_45 : decode cX7_init 45 = .ok (.aload_n 0, 1) := by decide +kernel
theorem dX7_init_46 : decode cX7_init 46 = .ok (.iconst (-1), 1) := by decide +kernel
theorem dX7_init_47 : decode cX7_init 47 = .ok (.putfield 40, 3) := by decide +kernel
theorem dX7_init_50 : decode cX7_init 50 = .ok (.aload_n 0, 1) := by decide +kernel
theorem dX7_init_51 : decode cX7_init 51 = .ok (.iconst 0, 1) := by decide +kernel
theorem dX7_init_52 : decode cX7_init 52 = .ok (.putfield 43, 3) := by decide +kernel
theorem dX7_init_55 : decode cX7_init 55 = .ok (.aload_n 0, 1) := by decide +kernel
theorem dX7_init_56 : decode cX7_init 56 = .ok (.iconst 0, 1) := by decide +kernel
theorem dX7_init_57 : decode cX7_init 57 = .ok (.putfield 46, 3) := by decide +kernel
theorem dX7_init_60 : decode cX7_init 60 = .ok (.aload_n 0, 1) := by decide +kernel
theorem dX7_init_61 : decode cX7_init 61 = .ok (.iconst 0, 1) := by decide +kernel
theorem dX7_init_62 : decode cX7_init 62 = .ok (.putfield 49, 3) := by decide +kernel
theorem dX7_init_65 : decode cX7_init 65 = .ok (.aload_n 0, 1) := by decide +kernel
theorem dX7_init_66 : decode cX7_init 66 = .ok (.iconst 0, 1) := by decide +kernel
theorem dX7_init_67 : decode cX7_init 67 = .ok (.putfield 52, 3) := by decide +kernel
theorem dX7_init_70 : decode cX7_init 70 = .ok (.aload_n 0, 1) := by decide +kernel
theorem dX7_init_71 : decode cX7_init 71 = .ok (.bipush 100, 2) := by decide +kernel
theorem dX7_init_73 : decode cX7_init 73 = .ok (.newarray .int, 2) := by decide +kernel
theorem dX7_init_75 : decode cX7_init 75 = .ok (.putfield 55, 3) := by decide +kernel
theorem dX7_init_78 : decode cX7_init 78 = .ok (.aload_n 0, 1) := by decide +kernel
theorem dX7_init_79 : decode cX7_init 79 = .ok (.sipush 4400, 3) := by decide +kernel
theorem dX7_init_82 : decode cX7_init 82 = .ok (.newarray .long, 2) := by decide +kernel
theorem dX7_init_84 : decode cX7_init 84 = .ok (.putfield 59, 3) := by decide +kernel
theorem dX7_init_87 : decode cX7_init 87 = .ok (.aload_n 0, 1) := by decide +kernel
theorem dX7_init_88 : decode cX7_init 88 = .ok (.sipush 20002, 3) := by decide +kernel
theorem dX7_init_91 : decode cX7_init 91 = .ok (.newarray .long, 2) := by decide +kernel
theorem dX7_init_93 : decode cX7_init 93 = .ok (.putfield 63, 3) := by decide +kernel
theorem dX7_init_96 : decode cX7_init 96 = .ok (.aload_n 0, 1) := by decide +kernel
theorem dX7_init_97 : decode cX7_init 97 = .ok (.iconst 0, 1) := by decide +kernel
theorem dX7_init_98 : decode cX7_init 98 = .ok (.putfield 66, 3) := by decide +kernel
theorem dX7_init_101 : decode cX7_init 101 = .ok (.aload_n 0, 1) := by decide +kernel
theorem dX7_init_102 : decode cX7_init 102 = .ok (.bipush 20, 2) := by decide +kernel
theorem dX7_init_104 : decode cX7_init 104 = .ok (.newarray .int, 2) := by decide +kernel
theorem dX7_init_106 : decode cX7_init 106 = .ok (.putfield 69, 3) := by decide +kernel
theorem dX7_init_109 : decode cX7_init 109 = .ok (.aload_n 0, 1) := by decide +kernel
theorem dX7_init_110 : decode cX7_init 110 = .ok (.sipush 200, 3) := by decide +kernel
theorem dX7_init_113 : decode cX7_init 113 = .ok (.newarray .int, 2) := by decide +kernel
theorem dX7_init_115 : decode cX7_init 115 = .ok (.putfield 72, 3) := by decide +kernel
theorem dX7_init_118 : decode cX7_init 118 = .ok (.aload_n 0, 1) := by decide +kernel
theorem dX7_init_119 : decode cX7_init 119 = .ok (.iconst 0, 1) := by decide +kernel
theorem dX7_init_120 : decode cX7_init 120 = .ok (.putfield 75, 3) := by decide +kernel
theorem dX7_init_123 : decode cX7_init 123 = .ok (.aload_n 0, 1) := by decide +kernel
theorem dX7_init_124 : decode cX7_init 124 = .ok (.sipush 1600, 3) := by decide +kernel
theorem dX7_init_127 : decode cX7_init 127 = .ok (.newarray .int, 2) := by decide +kernel
theorem dX7_init_129 : decode cX7_init 129 = .ok (.putfield 78, 3) := by decide +kernel
theorem dX7_init_132 : decode cX7_init 132 = .ok (.return_, 1) := by decide +kernel
theorem dX9_init_0 : decode cX9_init 0 = .ok (.aload_n 0, 1) := by decide +kernel
theorem dX9_init_1 : decode cX9_init 1 = .ok (.invokespecial 3, 3) := by decide +kernel
theorem dX9_init_4 : decode cX9_init 4 = .ok (.aload_n 0, 1) := by decide +kernel
theorem dX9_init_5 : decode cX9_init 5 = .ok (.iconst 0, 1) := by decide +kernel
theorem dX9_init_6 : decode cX9_init 6 = .ok (.newarray .byte, 2) := by decide +kernel
theorem dX9_init_8 : decode cX9_init 8 = .ok (.putfield 9, 3) := by decide +kernel
theorem dX9_init_11 : decode cX9_init 11 = .ok (.aload_n 0, 1) := by decide +kernel
theorem dX9_init_12 : decode cX9_init 12 = .ok (.iconst 0, 1) := by decide +kernel
theorem dX9_init_13 : decode cX9_init 13 = .ok (.putfield 15, 3) := by decide +kernel
theorem dX9_init_16 : decode cX9_init 16 = .ok (.aload_n 0, 1) := by decide +kernel
theorem dX9_init_17 : decode cX9_init 17 = .ok (.iconst 0, 1) := by decide +kernel
theorem dX9_init_18 : decode cX9_init 18 = .ok (.putfield 19, 3) := by decide +kernel
theorem dX9_init_21 : decode cX9_init 21 = .ok (.aload_n 0, 1) := by decide +kernel
theorem dX9_init_22 : decode cX9_init 22 = .ok (.sipush 257, 3) := by decide +kernel
theorem dX9_init_25 : decode cX9_init 25 = .ok (.putfield 24, 3) := by decide +kernel
theorem dX9_init_28 : decode cX9_init 28 = .ok (.aload_n 0, 1) := by decide +kernel
theorem dX9_init_29 : decode cX9_init 29 = .ok (.iconst 0, 1) := by decide +kernel
theorem dX9_init_30 : decode cX9_init 30 = .ok (.putfield 27, 3) := by decide +kernel
theorem dX9_init_33 : decode cX9_init 33 = .ok (.aload_n 0, 1) := by decide +kernel
theorem dX9_init_34 : decode cX9_init 34 = .ok (.lconst 0, 1) := by decide +kernel
theorem dX9_init_35 : decode cX9_init 35 = .ok (.putfield 30, 3) := by decide +kernel
theorem dX9_init_38 : decode cX9_init 38 = .ok (.aload_n 0, 1) := by decide +kernel
theorem dX9_init_39 : decode cX9_init 39 = .ok (.iconst 0, 1) := by decide +kernel
theorem dX9_init_40 : decode cX9_init 40 = .ok (.putfield 34, 3) := by decide +kernel
theorem dX9_init_43 : decode cX9_init 43 = .ok (.aload_n 0, 1) := by decide +kernel
theorem dX9_init_44 : decode cX9_init 44 = .ok (.lconst 0, 1) := by decide +kernel
theorem dX9_init_45 : decode cX9_init 45 = .ok (.putfield 37, 3) := by decide +kernel
theorem dX9_init_48 : decode cX9_init 48 = .ok (.return_, 1) := by decide +kernel
theorem k205 : Cond.methodLink "BlameCourt" 3 objectInit ∈ gtb := gtm (in_tables_1_1 (List.mem_of_getElem? (i := 19) rfl)) rfl
theorem k208 : Cond.classLink "BlameCourt" 17 "BlameCourt$Program" ∈ gtb := gtm (in_tables_1_1 (List.mem_of_getElem? (i := 22) rfl)) rfl
theorem k209 : Cond.instantiable "BlameCourt$Program" 17 ∈ gtb := gtm (in_tables_1_1 (List.mem_of_getElem? (i := 23) rfl)) rfl
theorem k211 : Cond.instanceMethod yX5_init ∈ gtb := gtm (in_tables_1_1 (List.mem_of_getElem? (i := 25) rfl)) rfl
theorem k213 : Cond.methodLink "BlameCourt$Program" 3 objectInit ∈ gtb := gtm (in_tables_1_1 (List.mem_of_getElem? (i := 27) rfl)) rfl
theorem k214 : Cond.classLink "BlameCourt$Program" 9 "BlameCourt$Kinds" ∈ gtb := gtm (in_tables_1_1 (List.mem_of_getElem? (i := 28) rfl)) rfl
theorem k215 : Cond.instantiable "BlameCourt$Kinds" 8 ∈ gtb := gtm (in_tables_1_1 (List.mem_of_getElem? (i := 29) rfl)) rfl
theorem k216 : Cond.methodLink "BlameCourt$Program" 11 yX3_init ∈ gtb := gtm (in_tables_1_1 (List.mem_of_getElem? (i := 30) rfl)) rfl
theorem k217 : Cond.instanceMethod yX3_init ∈ gtb := gtm (in_tables_1_1 (List.mem_of_getElem? (i := 31) rfl)) rfl
theorem k219 : Cond.methodLink "BlameCourt$Kinds" 5 objectInit ∈ gtb := gtm (in_tables_1_1 (List.mem_of_getElem? (i := 33) rfl)) rfl
theorem k220 : Cond.methodLink "BlameCourt$Kinds" 38 yJ7_fill_53178 ∈ gtb := gtm (in_tables_1_1 (List.mem_of_getElem? (i := 34) rfl)) rfl
theorem k238 : Cond.methodLink "BlameCourt$Kinds" 48 yX3_rowOf ∈ gtb := gtm (in_tables_1_1 (List.mem_of_getElem? (i := 52) rfl)) rfl
theorem k246 : Cond.methodLink "BlameCourt$Kinds" 52 yX3_functionOf ∈ gtb := gtm (in_tables_1_1 (List.mem_of_getElem? (i := 60) rfl)) rfl
theorem k297 : Cond.fieldLink "BlameCourt$Program" 33 "BlameCourt$Program" "partPlace" "[I" ∈ gtb := gtm (in_tables_1_1 (List.mem_of_getElem? (i := 111) rfl)) rfl
theorem k304 : Cond.fieldLink "BlameCourt$Program" 39 "BlameCourt$Program" "paramKind" "[I" ∈ gtb := gtm (in_tables_1_1 (List.mem_of_getElem? (i := 118) rfl)) rfl
theorem k307 : Cond.fieldLink "BlameCourt$Program" 42 "BlameCourt$Program" "ownKind" "[I" ∈ gtb := gtm (in_tables_1_1 (List.mem_of_getElem? (i := 121) rfl)) rfl
theorem k313 : Cond.fieldLink "BlameCourt$Program" 49 "BlameCourt$Program" "entry" "[I" ∈ gtb := gtm (in_tables_1_1 (List.mem_of_getElem? (i := 127) rfl)) rfl
theorem k317 : Cond.fieldLink "BlameCourt$Program" 52 "BlameCourt$Program" "textKinds" "I" ∈ gtb := gtm (in_tables_1_1 (List.mem_of_getElem? (i := 131) rfl)) rfl
theorem k374 : Cond.classLink "BlameCourt" 37 "BlameCourt$Reade\x72" ∈ gtb := gtm (in_tables_1_1 (List.mem_of_getElem? (i := 188) rfl)) rfl
theorem k375 : Cond.instantiable "BlameCourt$Reade\x72" 14 ∈ gtb := gtm (in_tables_1_1 (List.mem_of_getElem? (i := 189) rfl)) rfl
theorem k377 : Cond.instanceMethod yX6_init ∈ gtb := gtm (in_tables_1_1 (List.mem_of_getElem? (i := 191) rfl)) rfl
theorem k379 : Cond.methodLink "BlameCourt$Reade\x72" 5 objectInit ∈ gtb := gtm (in_tables_1_1 (List.mem_of_getElem? (i := 193) rfl)) rfl
theorem k380 : Cond.classLink "BlameCourt$Reade\x72" 11 "BlameCourt$Tokens" ∈ gtb := gtm (in_tables_1_1 (List.mem_of_getElem? (i := 194) rfl)) rfl
theorem k381 : Cond.instantiable "BlameCourt$Tokens" 8 ∈ gtb := gtm (in_tables_1_1 (List.mem_of_getElem? (i := 195) rfl)) rfl
theorem k383 : Cond.instanceMethod yX9_init ∈ gtb := gtm (in_tables_1_1 (List.mem_of_getElem? (i := 197) rfl)) rfl
theorem k385 : Cond.methodLink "BlameCourt$Tokens" 3 objectInit ∈ gtb := gtm (in_tables_1_1 (List.mem_of_getElem? (i := 199) rfl)) rfl
theorem k461 : Cond.classLink "BlameCourt" 44 "BlameCourt$Guards" ∈ gtb := gtm (in_tables_1_2 (List.mem_of_getElem? (i := 35) rfl)) rfl
theorem k462 : Cond.instantiable "BlameCourt$Guards" 6 ∈ gtb := gtm (in_tables_1_2 (List.mem_of_getElem? (i := 36) rfl)) rfl
theorem k464 : Cond.instanceMethod yX0_init ∈ gtb := gtm (in_tables_1_2 (List.mem_of_getElem? (i := 38) rfl)) rfl
theorem k466 : Cond.methodLink "BlameCourt$Guards" 3 objectInit ∈ gtb := gtm (in_tables_1_2 (List.mem_of_getElem? (i := 40) rfl)) rfl
theorem k499 : Cond.classLink "BlameCourt" 51 "BlameCourt$Judging" ∈ gtb := gtm (in_tables_1_2 (List.mem_of_getElem? (i := 73) rfl)) rfl
theorem k500 : Cond.instantiable "BlameCourt$Judging" 15 ∈ gtb := gtm (in_tables_1_2 (List.mem_of_getElem? (i := 74) rfl)) rfl
theorem k502 : Cond.instanceMethod yX2_init ∈ gtb := gtm (in_tables_1_2 (List.mem_of_getElem? (i := 76) rfl)) rfl
theorem k504 : Cond.methodLink "BlameCourt$Judging" 3 objectInit ∈ gtb := gtm (in_tables_1_2 (List.mem_of_getElem? (i := 78) rfl)) rfl
theorem k554 : Cond.classLink "BlameCourt" 58 "BlameCourt$Running" ∈ gtb := gtm (in_tables_1_2 (List.mem_of_getElem? (i := 128) rfl)) rfl
theorem k555 : Cond.instantiable "BlameCourt$Running" 20 ∈ gtb := gtm (in_tables_1_2 (List.mem_of_getElem? (i := 129) rfl)) rfl
theorem k557 : Cond.instanceMethod yX7_init ∈ gtb := gtm (in_tables_1_2 (List.mem_of_getElem? (i := 131) rfl)) rfl
theorem k559 : Cond.methodLink "BlameCourt$Running" 3 objectInit ∈ gtb := gtm (in_tables_1_2 (List.mem_of_getElem? (i := 133) rfl)) rfl
theorem k560 : Cond.classLink "BlameCourt$Running" 15 "BlameCourt$Heap" ∈ gtb := gtm (in_tables_1_2 (List.mem_of_getElem? (i := 134) rfl)) rfl
theorem k561 : Cond.instantiable "BlameCourt$Heap" 13 ∈ gtb := gtm (in_tables_1_2 (List.mem_of_getElem? (i := 135) rfl)) rfl
theorem k563 : Cond.instanceMethod yX1_init ∈ gtb := gtm (in_tables_1_2 (List.mem_of_getElem? (i := 137) rfl)) rfl
theorem k565 : Cond.methodLink "BlameCourt$Heap" 3 objectInit ∈ gtb := gtm (in_tables_1_2 (List.mem_of_getElem? (i := 139) rfl)) rfl
theorem k576 : Cond.fieldLink "BlameCourt$Heap" 35 "BlameCourt$Heap" "from" "[I" ∈ gtb := gtm (in_tables_1_2 (List.mem_of_getElem? (i := 150) rfl)) rfl
theorem k578 : Cond.fieldLink "BlameCourt$Heap" 38 "BlameCourt$Heap" "to" "[I" ∈ gtb := gtm (in_tables_1_2 (List.mem_of_getElem? (i := 152) rfl)) rfl
theorem k580 : Cond.fieldLink "BlameCourt$Heap" 41 "BlameCourt$Heap" "give\x72" "[I" ∈ gtb := gtm (in_tables_1_2 (List.mem_of_getElem? (i := 154) rfl)) rfl
theorem k582 : Cond.fieldLink "BlameCourt$Heap" 44 "BlameCourt$Heap" "take\x72" "[I" ∈ gtb := gtm (in_tables_1_2 (List.mem_of_getElem? (i := 156) rfl)) rfl
theorem k584 : Cond.fieldLink "BlameCourt$Heap" 47 "BlameCourt$Heap" "place" "[I" ∈ gtb := gtm (in_tables_1_2 (List.mem_of_getElem? (i := 158) rfl)) rfl
theorem n210 : Cond.methodLinkNest "BlameCourt" 19 yX5_init "BlameCourt" ∈ lw_tbl := in_tables_1_1 (List.mem_of_getElem? (i := 24) rfl)
theorem n376 : Cond.methodLinkNest "BlameCourt" 39 yX6_init "BlameCourt" ∈ lw_tbl := in_tables_1_1 (List.mem_of_getElem? (i := 190) rfl)
theorem n382 : Cond.methodLinkNest "BlameCourt$Reade\x72" 13 yX9_init "BlameCourt" ∈ lw_tbl := in_tables_1_1 (List.mem_of_getElem? (i := 196) rfl)
theorem n463 : Cond.methodLinkNest "BlameCourt" 46 yX0_init "BlameCourt" ∈ lw_tbl := in_tables_1_2 (List.mem_of_getElem? (i := 37) rfl)
theorem n501 : Cond.methodLinkNest "BlameCourt" 53 yX2_init "BlameCourt" ∈ lw_tbl := in_tables_1_2 (List.mem_of_getElem? (i := 75) rfl)
theorem n556 : Cond.methodLinkNest "BlameCourt" 60 yX7_init "BlameCourt" ∈ lw_tbl := in_tables_1_2 (List.mem_of_getElem? (i := 130) rfl)
theorem n562 : Cond.methodLinkNest "BlameCourt$Running" 17 yX1_init "BlameCourt" ∈ lw_tbl := in_tables_1_2 (List.mem_of_getElem? (i := 136) rfl)
theorem k204 : Cond.code yX10_init cX10_init 1 none ∈ gtb := gtm (in_tables_1_1 (List.mem_of_getElem? (i := 18) rfl)) rfl
theorem ka_X10_init : KA yX10_init cX10_init 1 none 0 := ⟨k204, k187, by decide, by decide, by decide +kernel⟩
theorem k465 : Cond.code yX0_init cX0_init 1 none ∈ gtb := gtm (in_tables_1_2 (List.mem_of_getElem? (i := 39) rfl)) rfl
theorem ka_X0_init : KA yX0_init cX0_init 1 none 0 := ⟨k465, k193, by decide, by decide, by decide +kernel⟩
theorem k564 : Cond.code yX1_init cX1_init 1 none ∈ gtb := gtm (in_tables_1_2 (List.mem_of_getElem? (i := 138) rfl)) rfl
theorem ka_X1_init : KA yX1_init cX1_init 1 none 0 := ⟨k564, k196, by decide, by decide, by decide +kernel⟩
theorem k503 : Cond.code yX2_init cX2_init 1 none ∈ gtb := gtm (in_tables_1_2 (List.mem_of_getElem? (i := 77) rfl)) rfl
theorem ka_X2_init : KA yX2_init cX2_init 1 none 0 := ⟨k503, k194, by decide, by decide, by decide +kernel⟩
theorem k218 : Cond.code yX3_init cX3_init 3 none ∈ gtb := gtm (in_tables_1_1 (List.mem_of_getElem? (i := 32) rfl)) rfl
theorem ka_X3_init : KA yX3_init cX3_init 3 none 0 := ⟨k218, k189, by decide, by decide, by decide +kernel⟩
theorem k212 : Cond.code yX5_init cX5_init 1 none ∈ gtb := gtm (in_tables_1_1 (List.mem_of_getElem? (i := 26) rfl)) rfl
theorem ka_X5_init : KA yX5_init cX5_init 1 none 0 := ⟨k212, k188, by decide, by decide, by decide +kernel⟩
theorem k378 : Cond.code yX6_init cX6_init 1 none ∈ gtb := gtm (in_tables_1_1 (List.mem_of_getElem? (i := 192) rfl)) rfl
theorem ka_X6_init : KA yX6_init cX6_init 1 none 0 := ⟨k378, k191, by decide, by decide, by decide +kernel⟩
theorem k558 : Cond.code yX7_init cX7_init 1 none ∈ gtb := gtm (in_tables_1_2 (List.mem_of_getElem? (i := 132) rfl)) rfl
theorem ka_X7_init : KA yX7_init cX7_init 1 none 0 := ⟨k558, k195, by decide, by decide, by decide +kernel⟩
theorem k384 : Cond.code yX9_init cX9_init 1 none ∈ gtb := gtm (in_tables_1_1 (List.mem_of_getElem? (i := 198) rfl)) rfl
theorem ka_X9_init : KA yX9_init cX9_init 1 none 0 := ⟨k384, k192, by decide, by decide, by decide +kernel⟩
def YC_0 : List Ent := [(0, 8, .int, [2, 0, 2, 0, 0, 0, 2, 0, 0, 2, 2, 2, 2])]
def YC_2 : List Ent := [(0, 8, .int, [4, 0, 2, 0, 0, 0, 2, 0, 0, 2, 2, 2, 2]),
  (1, 3000, .byte, [])]
def YC_3 : List Ent := [(0, 8, .int, [4, 0, 2, 0, 0, 0, 2, 0, 0, 2, 2, 2, 2]),
  (1, 3000, .byte, []),
  (0, 4, .int, [2, 0, 0, 2, 2, 0, 0, 2, 2, 2, 2, 2, 2, 2, 2, 2, 2])]
def YC_4 : List Ent := [(0, 8, .int, [4, 0, 2, 0, 0, 0, 2, 0, 0, 2, 2, 2, 2]),
  (1, 3000, .byte, []),
  (0, 4, .int, [2, 0, 0, 2, 2, 0, 0, 2, 2, 2, 2, 2, 2, 2, 2, 2, 2]),
  (0, 3, .int, [0, 2, 2, 2, 2, 2, 2, 2])]
def YC_5 : List Ent := [(0, 8, .int, [4, 0, 2, 0, 0, 0, 2, 0, 0, 2, 2, 2, 2]),
  (1, 3000, .byte, []),
  (0, 4, .int, [2, 0, 0, 2, 2, 0, 0, 2, 2, 2, 2, 2, 2, 2, 2, 2, 2]),
  (0, 3, .int, [0, 7, 2, 2, 2, 2, 2, 2]),
  (1, 1549, .int, [])]
def YC_6 : List Ent := [(0, 8, .int, [4, 0, 2, 0, 0, 0, 2, 0, 0, 2, 2, 2, 2]),
  (1, 3000, .byte, []),
  (0, 4, .int, [2, 0, 0, 2, 2, 0, 0, 2, 2, 2, 2, 2, 2, 2, 2, 2, 2]),
  (0, 3, .int, [0, 7, 8, 2, 2, 2, 2, 2]),
  (1, 1549, .int, []),
  (1, 1549, .int, [])]
def YC_7 : List Ent := [(0, 8, .int, [4, 0, 2, 0, 0, 0, 2, 0, 0, 2, 2, 2, 2]),
  (1, 3000, .byte, []),
  (0, 4, .int, [2, 0, 0, 2, 2, 0, 0, 2, 2, 2, 2, 2, 2, 2, 2, 2, 2]),
  (0, 3, .int, [0, 7, 8, 9, 2, 2, 2, 2]),
  (1, 1549, .int, []),
  (1, 1549, .int, []),
  (1, 7745, .int, [])]
def YC_8 : List Ent := [(0, 8, .int, [4, 0, 2, 0, 0, 0, 2, 0, 0, 2, 2, 2, 2]),
  (1, 3000, .byte, []),
  (0, 4, .int, [2, 0, 0, 2, 2, 0, 0, 2, 2, 2, 2, 2, 2, 2, 2, 2, 2]),
  (0, 3, .int, [0, 7, 8, 9, 10, 2, 2, 2]),
  (1, 1549, .int, []),
  (1, 1549, .int, []),
  (1, 7745, .int, []),
  (1, 1549, .int, [])]
def YC_9 : List Ent := [(0, 8, .int, [4, 0, 2, 0, 0, 0, 2, 0, 0, 2, 2, 2, 2]),
  (1, 3000, .byte, []),
  (0, 4, .int, [2, 0, 0, 2, 2, 0, 0, 2, 2, 2, 2, 2, 2, 2, 2, 2, 2]),
  (0, 3, .int, [0, 7, 8, 9, 10, 11, 2, 2]),
  (1, 1549, .int, []),
  (1, 1549, .int, []),
  (1, 7745, .int, []),
  (1, 1549, .int, []),
  (1, 1549, .boolean, [])]
def YC_10 : List Ent := [(0, 8, .int, [4, 0, 2, 0, 0, 0, 2, 0, 0, 2, 2, 2, 2]),
  (1, 3000, .byte, []),
  (0, 4, .int, [2, 0, 0, 2, 2, 0, 0, 2, 2, 2, 2, 2, 2, 2, 2, 2, 2]),
  (0, 3, .int, [0, 7, 8, 9, 10, 11, 12, 2]),
  (1, 1549, .int, []),
  (1, 1549, .int, []),
  (1, 7745, .int, []),
  (1, 1549, .int, []),
  (1, 1549, .boolean, []),
  (1, 512, .int, [])]
def YC_11 : List Ent := [(0, 8, .int, [4, 0, 2, 0, 0, 0, 2, 0, 0, 2, 2, 2, 2]),
  (1, 3000, .byte, []),
  (0, 4, .int, [2, 0, 0, 2, 2, 0, 0, 2, 2, 2, 2, 2, 2, 2, 2, 2, 2]),
  (0, 3, .int, [0, 7, 8, 9, 10, 11, 12, 13]),
  (1, 1549, .int, []),
  (1, 1549, .int, []),
  (1, 7745, .int, []),
  (1, 1549, .int, []),
  (1, 1549, .boolean, []),
  (1, 512, .int, []),
  (1, 1549, .int, [])]
def YC_12 : List Ent := [(0, 8, .int, [4, 0, 2, 0, 0, 0, 2, 0, 0, 2, 2, 2, 2]),
  (1, 3000, .byte, []),
  (0, 4, .int, [2, 0, 0, 2, 2, 0, 0, 2, 2, 2, 2, 2, 2, 2, 2, 2, 2]),
  (0, 3, .int, [0, 7, 8, 9, 10, 11, 12, 13]),
  (1, 1549, .int, []),
  (1, 1549, .int, []),
  (1, 7745, .int, []),
  (1, 1549, .int, []),
  (1, 1549, .boolean, []),
  (1, 512, .int, []),
  (1, 1549, .int, []),
  (1, 4, .int, [])]
def YC_13 : List Ent := [(0, 8, .int, [4, 0, 2, 0, 0, 0, 2, 0, 0, 2, 2, 2, 2]),
  (1, 3000, .byte, []),
  (0, 4, .int, [6, 0, 0, 2, 2, 0, 0, 2, 2, 2, 2, 2, 2, 2, 2, 2, 2]),
  (0, 3, .int, [0, 7, 8, 9, 10, 11, 12, 13]),
  (1, 1549, .int, []),
  (1, 1549, .int, []),
  (1, 7745, .int, []),
  (1, 1549, .int, []),
  (1, 1549, .boolean, []),
  (1, 512, .int, []),
  (1, 1549, .int, []),
  (1, 4, .int, [])]
def YC_14 : List Ent := [(0, 8, .int, [4, 0, 2, 0, 0, 0, 2, 0, 0, 2, 2, 2, 2]),
  (1, 3000, .byte, []),
  (0, 4, .int, [6, 0, 0, 2, 2, 0, 0, 15, 2, 2, 2, 2, 2, 2, 2, 2, 2]),
  (0, 3, .int, [0, 7, 8, 9, 10, 11, 12, 13]),
  (1, 1549, .int, []),
  (1, 1549, .int, []),
  (1, 7745, .int, []),
  (1, 1549, .int, []),
  (1, 1549, .boolean, []),
  (1, 512, .int, []),
  (1, 1549, .int, []),
  (1, 4, .int, []),
  (2, 40, .long, [])]
def YC_15 : List Ent := [(0, 8, .int, [4, 0, 2, 0, 0, 0, 2, 0, 0, 2, 2, 2, 2]),
  (1, 3000, .byte, []),
  (0, 4, .int, [6, 0, 0, 2, 2, 0, 0, 15, 16, 2, 2, 2, 2, 2, 2, 2, 2]),
  (0, 3, .int, [0, 7, 8, 9, 10, 11, 12, 13]),
  (1, 1549, .int, []),
  (1, 1549, .int, []),
  (1, 7745, .int, []),
  (1, 1549, .int, []),
  (1, 1549, .boolean, []),
  (1, 512, .int, []),
  (1, 1549, .int, []),
  (1, 4, .int, []),
  (2, 40, .long, []),
  (1, 40, .int, [])]
def YC_16 : List Ent := [(0, 8, .int, [4, 0, 2, 0, 0, 0, 2, 0, 0, 2, 2, 2, 2]),
  (1, 3000, .byte, []),
  (0, 4, .int, [6, 0, 0, 2, 2, 0, 0, 15, 16, 17, 2, 2, 2, 2, 2, 2, 2]),
  (0, 3, .int, [0, 7, 8, 9, 10, 11, 12, 13]),
  (1, 1549, .int, []),
  (1, 1549, .int, []),
  (1, 7745, .int, []),
  (1, 1549, .int, []),
  (1, 1549, .boolean, []),
  (1, 512, .int, []),
  (1, 1549, .int, []),
  (1, 4, .int, []),
  (2, 40, .long, []),
  (1, 40, .int, []),
  (1, 40, .int, [])]
def YC_17 : List Ent := [(0, 8, .int, [4, 0, 2, 0, 0, 0, 2, 0, 0, 2, 2, 2, 2]),
  (1, 3000, .byte, []),
  (0, 4, .int, [6, 0, 0, 2, 2, 0, 0, 15, 16, 17, 18, 2, 2, 2, 2, 2, 2]),
  (0, 3, .int, [0, 7, 8, 9, 10, 11, 12, 13]),
  (1, 1549, .int, []),
  (1, 1549, .int, []),
  (1, 7745, .int, []),
  (1, 1549, .int, []),
  (1, 1549, .boolean, []),
  (1, 512, .int, []),
  (1, 1549, .int, []),
  (1, 4, .int, []),
  (2, 40, .long, []),
  (1, 40, .int, []),
  (1, 40, .int, []),
  (1, 40, .int, [])]
def YC_18 : List Ent := [(0, 8, .int, [4, 0, 2, 0, 0, 0, 2, 0, 0, 2, 2, 2, 2]),
  (1, 3000, .byte, []),
  (0, 4, .int, [6, 0, 0, 2, 2, 0, 0, 15, 16, 17, 18, 19, 2, 2, 2, 2, 2]),
  (0, 3, .int, [0, 7, 8, 9, 10, 11, 12, 13]),
  (1, 1549, .int, []),
  (1, 1549, .int, []),
  (1, 7745, .int, []),
  (1, 1549, .int, []),
  (1, 1549, .boolean, []),
  (1, 512, .int, []),
  (1, 1549, .int, []),
  (1, 4, .int, []),
  (2, 40, .long, []),
  (1, 40, .int, []),
  (1, 40, .int, []),
  (1, 40, .int, []),
  (1, 160, .int, [])]
def YC_19 : List Ent := [(0, 8, .int, [4, 0, 2, 0, 0, 0, 2, 0, 0, 2, 2, 2, 2]),
  (1, 3000, .byte, []),
  (0, 4, .int, [6, 0, 0, 2, 2, 0, 0, 15, 16, 17, 18, 19, 20, 2, 2, 2, 2]),
  (0, 3, .int, [0, 7, 8, 9, 10, 11, 12, 13]),
  (1, 1549, .int, []),
  (1, 1549, .int, []),
  (1, 7745, .int, []),
  (1, 1549, .int, []),
  (1, 1549, .boolean, []),
  (1, 512, .int, []),
  (1, 1549, .int, []),
  (1, 4, .int, []),
  (2, 40, .long, []),
  (1, 40, .int, []),
  (1, 40, .int, []),
  (1, 40, .int, []),
  (1, 160, .int, []),
  (1, 40, .int, [])]
def YC_20 : List Ent := [(0, 8, .int, [4, 0, 2, 0, 0, 0, 2, 0, 0, 2, 2, 2, 2]),
  (1, 3000, .byte, []),
  (0, 4, .int, [6, 0, 0, 21, 2, 0, 0, 15, 16, 17, 18, 19, 20, 2, 2, 2, 2]),
  (0, 3, .int, [0, 7, 8, 9, 10, 11, 12, 13]),
  (1, 1549, .int, []),
  (1, 1549, .int, []),
  (1, 7745, .int, []),
  (1, 1549, .int, []),
  (1, 1549, .boolean, []),
  (1, 512, .int, []),
  (1, 1549, .int, []),
  (1, 4, .int, []),
  (2, 40, .long, []),
  (1, 40, .int, []),
  (1, 40, .int, []),
  (1, 40, .int, []),
  (1, 160, .int, []),
  (1, 40, .int, []),
  (1, 40, .boolean, [])]
def YC_21 : List Ent := [(0, 8, .int, [4, 0, 2, 0, 0, 0, 2, 0, 0, 2, 2, 2, 2]),
  (1, 3000, .byte, []),
  (0, 4, .int, [6, 0, 0, 21, 22, 0, 0, 15, 16, 17, 18, 19, 20, 2, 2, 2, 2]),
  (0, 3, .int, [0, 7, 8, 9, 10, 11, 12, 13]),
  (1, 1549, .int, []),
  (1, 1549, .int, []),
  (1, 7745, .int, []),
  (1, 1549, .int, []),
  (1, 1549, .boolean, []),
  (1, 512, .int, []),
  (1, 1549, .int, []),
  (1, 4, .int, []),
  (2, 40, .long, []),
  (1, 40, .int, []),
  (1, 40, .int, []),
  (1, 40, .int, []),
  (1, 160, .int, []),
  (1, 40, .int, []),
  (1, 40, .boolean, []),
  (1, 41, .int, [])]
def YC_22 : List Ent := [(0, 8, .int, [4, 0, 2, 0, 0, 0, 2, 0, 0, 2, 2, 2, 2]),
  (1, 3000, .byte, []),
  (0, 4, .int, [6, 0, 0, 21, 22, 0, 0, 15, 16, 17, 18, 19, 20, 23, 2, 2, 2]),
  (0, 3, .int, [0, 7, 8, 9, 10, 11, 12, 13]),
  (1, 1549, .int, []),
  (1, 1549, .int, []),
  (1, 7745, .int, []),
  (1, 1549, .int, []),
  (1, 1549, .boolean, []),
  (1, 512, .int, []),
  (1, 1549, .int, []),
  (1, 4, .int, []),
  (2, 40, .long, []),
  (1, 40, .int, []),
  (1, 40, .int, []),
  (1, 40, .int, []),
  (1, 160, .int, []),
  (1, 40, .int, []),
  (1, 40, .boolean, []),
  (1, 41, .int, []),
  (1, 9080, .int, [])]
def YC_23 : List Ent := [(0, 8, .int, [4, 0, 2, 0, 0, 0, 2, 0, 0, 2, 2, 2, 2]),
  (1, 3000, .byte, []),
  (0, 4, .int, [6, 0, 0, 21, 22, 0, 0, 15, 16, 17, 18, 19, 20, 23, 24, 2, 2]),
  (0, 3, .int, [0, 7, 8, 9, 10, 11, 12, 13]),
  (1, 1549, .int, []),
  (1, 1549, .int, []),
  (1, 7745, .int, []),
  (1, 1549, .int, []),
  (1, 1549, .boolean, []),
  (1, 512, .int, []),
  (1, 1549, .int, []),
  (1, 4, .int, []),
  (2, 40, .long, []),
  (1, 40, .int, []),
  (1, 40, .int, []),
  (1, 40, .int, []),
  (1, 160, .int, []),
  (1, 40, .int, []),
  (1, 40, .boolean, []),
  (1, 41, .int, []),
  (1, 9080, .int, []),
  (1, 9080, .int, [])]
def YC_24 : List Ent := [(0, 8, .int, [4, 0, 2, 0, 0, 0, 2, 0, 0, 2, 2, 2, 2]),
  (1, 3000, .byte, []),
  (0, 4, .int, [6, 0, 0, 21, 22, 0, 0, 15, 16, 17, 18, 19, 20, 23, 24, 25, 2]),
  (0, 3, .int, [0, 7, 8, 9, 10, 11, 12, 13]),
  (1, 1549, .int, []),
  (1, 1549, .int, []),
  (1, 7745, .int, []),
  (1, 1549, .int, []),
  (1, 1549, .boolean, []),
  (1, 512, .int, []),
  (1, 1549, .int, []),
  (1, 4, .int, []),
  (2, 40, .long, []),
  (1, 40, .int, []),
  (1, 40, .int, []),
  (1, 40, .int, []),
  (1, 160, .int, []),
  (1, 40, .int, []),
  (1, 40, .boolean, []),
  (1, 41, .int, []),
  (1, 9080, .int, []),
  (1, 9080, .int, []),
  (1, 9080, .int, [])]
def YC_25 : List Ent := [(0, 8, .int, [4, 0, 2, 0, 0, 0, 2, 0, 0, 2, 2, 2, 2]),
  (1, 3000, .byte, []),
  (0, 4, .int, [6, 0, 0, 21, 22, 0, 0, 15, 16, 17, 18, 19, 20, 23, 24, 25, 26]),
  (0, 3, .int, [0, 7, 8, 9, 10, 11, 12, 13]),
  (1, 1549, .int, []),
  (1, 1549, .int, []),
  (1, 7745, .int, []),
  (1, 1549, .int, []),
  (1, 1549, .boolean, []),
  (1, 512, .int, []),
  (1, 1549, .int, []),
  (1, 4, .int, []),
  (2, 40, .long, []),
  (1, 40, .int, []),
  (1, 40, .int, []),
  (1, 40, .int, []),
  (1, 160, .int, []),
  (1, 40, .int, []),
  (1, 40, .boolean, []),
  (1, 41, .int, []),
  (1, 9080, .int, []),
  (1, 9080, .int, []),
  (1, 9080, .int, []),
  (1, 9080, .int, [])]
def YC_26 : List Ent := [(0, 8, .int, [4, 0, 2, 0, 0, 0, 2, 0, 0, 2, 2, 2, 2]),
  (1, 3000, .byte, []),
  (0, 4, .int, [6, 0, 0, 21, 22, 0, 0, 15, 16, 17, 18, 19, 20, 23, 24, 25, 26]),
  (0, 3, .int, [0, 7, 8, 9, 10, 11, 12, 13]),
  (1, 1549, .int, []),
  (1, 1549, .int, []),
  (1, 7745, .int, []),
  (1, 1549, .int, []),
  (1, 1549, .boolean, []),
  (1, 512, .int, []),
  (1, 1549, .int, []),
  (1, 4, .int, []),
  (2, 40, .long, []),
  (1, 40, .int, []),
  (1, 40, .int, []),
  (1, 40, .int, []),
  (1, 160, .int, []),
  (1, 40, .int, []),
  (1, 40, .boolean, []),
  (1, 41, .int, []),
  (1, 9080, .int, []),
  (1, 9080, .int, []),
  (1, 9080, .int, []),
  (1, 9080, .int, []),
  (0, 4, .int, [2, 0, 0, 2, 2, 0, 0, 2, 2, 2, 2, 2, 2, 2, 2, 2, 2])]
def YC_27 : List Ent := [(0, 8, .int, [4, 0, 2, 0, 0, 0, 2, 0, 0, 2, 2, 2, 2]),
  (1, 3000, .byte, []),
  (0, 4, .int, [6, 0, 0, 21, 22, 0, 0, 15, 16, 17, 18, 19, 20, 23, 24, 25, 26]),
  (0, 3, .int, [0, 7, 8, 9, 10, 11, 12, 13]),
  (1, 1549, .int, []),
  (1, 1549, .int, []),
  (1, 7745, .int, []),
  (1, 1549, .int, []),
  (1, 1549, .boolean, []),
  (1, 512, .int, []),
  (1, 1549, .int, []),
  (1, 4, .int, []),
  (2, 40, .long, []),
  (1, 40, .int, []),
  (1, 40, .int, []),
  (1, 40, .int, []),
  (1, 160, .int, []),
  (1, 40, .int, []),
  (1, 40, .boolean, []),
  (1, 41, .int, []),
  (1, 9080, .int, []),
  (1, 9080, .int, []),
  (1, 9080, .int, []),
  (1, 9080, .int, []),
  (0, 4, .int, [2, 0, 0, 2, 2, 0, 0, 2, 2, 2, 2, 2, 2, 2, 2, 2, 2]),
  (0, 3, .int, [0, 2, 2, 2, 2, 2, 2, 2])]
def YC_28 : List Ent := [(0, 8, .int, [4, 0, 2, 0, 0, 0, 2, 0, 0, 2, 2, 2, 2]),
  (1, 3000, .byte, []),
  (0, 4, .int, [6, 0, 0, 21, 22, 0, 0, 15, 16, 17, 18, 19, 20, 23, 24, 25, 26]),
  (0, 3, .int, [0, 7, 8, 9, 10, 11, 12, 13]),
  (1, 1549, .int, []),
  (1, 1549, .int, []),
  (1, 7745, .int, []),
  (1, 1549, .int, []),
  (1, 1549, .boolean, []),
  (1, 512, .int, []),
  (1, 1549, .int, []),
  (1, 4, .int, []),
  (2, 40, .long, []),
  (1, 40, .int, []),
  (1, 40, .int, []),
  (1, 40, .int, []),
  (1, 160, .int, []),
  (1, 40, .int, []),
  (1, 40, .boolean, []),
  (1, 41, .int, []),
  (1, 9080, .int, []),
  (1, 9080, .int, []),
  (1, 9080, .int, []),
  (1, 9080, .int, []),
  (0, 4, .int, [2, 0, 0, 2, 2, 0, 0, 2, 2, 2, 2, 2, 2, 2, 2, 2, 2]),
  (0, 3, .int, [0, 29, 2, 2, 2, 2, 2, 2]),
  (1, 1549, .int, [])]
def YC_29 : List Ent := [(0, 8, .int, [4, 0, 2, 0, 0, 0, 2, 0, 0, 2, 2, 2, 2]),
  (1, 3000, .byte, []),
  (0, 4, .int, [6, 0, 0, 21, 22, 0, 0, 15, 16, 17, 18, 19, 20, 23, 24, 25, 26]),
  (0, 3, .int, [0, 7, 8, 9, 10, 11, 12, 13]),
  (1, 1549, .int, []),
  (1, 1549, .int, []),
  (1, 7745, .int, []),
  (1, 1549, .int, []),
  (1, 1549, .boolean, []),
  (1, 512, .int, []),
  (1, 1549, .int, []),
  (1, 4, .int, []),
  (2, 40, .long, []),
  (1, 40, .int, []),
  (1, 40, .int, []),
  (1, 40, .int, []),
  (1, 160, .int, []),
  (1, 40, .int, []),
  (1, 40, .boolean, []),
  (1, 41, .int, []),
  (1, 9080, .int, []),
  (1, 9080, .int, []),
  (1, 9080, .int, []),
  (1, 9080, .int, []),
  (0, 4, .int, [2, 0, 0, 2, 2, 0, 0, 2, 2, 2, 2, 2, 2, 2, 2, 2, 2]),
  (0, 3, .int, [0, 29, 30, 2, 2, 2, 2, 2]),
  (1, 1549, .int, []),
  (1, 1549, .int, [])]
def YC_30 : List Ent := [(0, 8, .int, [4, 0, 2, 0, 0, 0, 2, 0, 0, 2, 2, 2, 2]),
  (1, 3000, .byte, []),
  (0, 4, .int, [6, 0, 0, 21, 22, 0, 0, 15, 16, 17, 18, 19, 20, 23, 24, 25, 26]),
  (0, 3, .int, [0, 7, 8, 9, 10, 11, 12, 13]),
  (1, 1549, .int, []),
  (1, 1549, .int, []),
  (1, 7745, .int, []),
  (1, 1549, .int, []),
  (1, 1549, .boolean, []),
  (1, 512, .int, []),
  (1, 1549, .int, []),
  (1, 4, .int, []),
  (2, 40, .long, []),
  (1, 40, .int, []),
  (1, 40, .int, []),
  (1, 40, .int, []),
  (1, 160, .int, []),
  (1, 40, .int, []),
  (1, 40, .boolean, []),
  (1, 41, .int, []),
  (1, 9080, .int, []),
  (1, 9080, .int, []),
  (1, 9080, .int, []),
  (1, 9080, .int, []),
  (0, 4, .int, [2, 0, 0, 2, 2, 0, 0, 2, 2, 2, 2, 2, 2, 2, 2, 2, 2]),
  (0, 3, .int, [0, 29, 30, 31, 2, 2, 2, 2]),
  (1, 1549, .int, []),
  (1, 1549, .int, []),
  (1, 7745, .int, [])]
def YC_31 : List Ent := [(0, 8, .int, [4, 0, 2, 0, 0, 0, 2, 0, 0, 2, 2, 2, 2]),
  (1, 3000, .byte, []),
  (0, 4, .int, [6, 0, 0, 21, 22, 0, 0, 15, 16, 17, 18, 19, 20, 23, 24, 25, 26]),
  (0, 3, .int, [0, 7, 8, 9, 10, 11, 12, 13]),
  (1, 1549, .int, []),
  (1, 1549, .int, []),
  (1, 7745, .int, []),
  (1, 1549, .int, []),
  (1, 1549, .boolean, []),
  (1, 512, .int, []),
  (1, 1549, .int, []),
  (1, 4, .int, []),
  (2, 40, .long, []),
  (1, 40, .int, []),
  (1, 40, .int, []),
  (1, 40, .int, []),
  (1, 160, .int, []),
  (1, 40, .int, []),
  (1, 40, .boolean, []),
  (1, 41, .int, []),
  (1, 9080, .int, []),
  (1, 9080, .int, []),
  (1, 9080, .int, []),
  (1, 9080, .int, []),
  (0, 4, .int, [2, 0, 0, 2, 2, 0, 0, 2, 2, 2, 2, 2, 2, 2, 2, 2, 2]),
  (0, 3, .int, [0, 29, 30, 31, 32, 2, 2, 2]),
  (1, 1549, .int, []),
  (1, 1549, .int, []),
  (1, 7745, .int, []),
  (1, 1549, .int, [])]
def YC_32 : List Ent := [(0, 8, .int, [4, 0, 2, 0, 0, 0, 2, 0, 0, 2, 2, 2, 2]),
  (1, 3000, .byte, []),
  (0, 4, .int, [6, 0, 0, 21, 22, 0, 0, 15, 16, 17, 18, 19, 20, 23, 24, 25, 26]),
  (0, 3, .int, [0, 7, 8, 9, 10, 11, 12, 13]),
  (1, 1549, .int, []),
  (1, 1549, .int, []),
  (1, 7745, .int, []),
  (1, 1549, .int, []),
  (1, 1549, .boolean, []),
  (1, 512, .int, []),
  (1, 1549, .int, []),
  (1, 4, .int, []),
  (2, 40, .long, []),
  (1, 40, .int, []),
  (1, 40, .int, []),
  (1, 40, .int, []),
  (1, 160, .int, []),
  (1, 40, .int, []),
  (1, 40, .boolean, []),
  (1, 41, .int, []),
  (1, 9080, .int, []),
  (1, 9080, .int, []),
  (1, 9080, .int, []),
  (1, 9080, .int, []),
  (0, 4, .int, [2, 0, 0, 2, 2, 0, 0, 2, 2, 2, 2, 2, 2, 2, 2, 2, 2]),
  (0, 3, .int, [0, 29, 30, 31, 32, 33, 2, 2]),
  (1, 1549, .int, []),
  (1, 1549, .int, []),
  (1, 7745, .int, []),
  (1, 1549, .int, []),
  (1, 1549, .boolean, [])]
def YC_33 : List Ent := [(0, 8, .int, [4, 0, 2, 0, 0, 0, 2, 0, 0, 2, 2, 2, 2]),
  (1, 3000, .byte, []),
  (0, 4, .int, [6, 0, 0, 21, 22, 0, 0, 15, 16, 17, 18, 19, 20, 23, 24, 25, 26]),
  (0, 3, .int, [0, 7, 8, 9, 10, 11, 12, 13]),
  (1, 1549, .int, []),
  (1, 1549, .int, []),
  (1, 7745, .int, []),
  (1, 1549, .int, []),
  (1, 1549, .boolean, []),
  (1, 512, .int, []),
  (1, 1549, .int, []),
  (1, 4, .int, []),
  (2, 40, .long, []),
  (1, 40, .int, []),
  (1, 40, .int, []),
  (1, 40, .int, []),
  (1, 160, .int, []),
  (1, 40, .int, []),
  (1, 40, .boolean, []),
  (1, 41, .int, []),
  (1, 9080, .int, []),
  (1, 9080, .int, []),
  (1, 9080, .int, []),
  (1, 9080, .int, []),
  (0, 4, .int, [2, 0, 0, 2, 2, 0, 0, 2, 2, 2, 2, 2, 2, 2, 2, 2, 2]),
  (0, 3, .int, [0, 29, 30, 31, 32, 33, 34, 2]),
  (1, 1549, .int, []),
  (1, 1549, .int, []),
  (1, 7745, .int, []),
  (1, 1549, .int, []),
  (1, 1549, .boolean, []),
  (1, 512, .int, [])]
def YC_34 : List Ent := [(0, 8, .int, [4, 0, 2, 0, 0, 0, 2, 0, 0, 2, 2, 2, 2]),
  (1, 3000, .byte, []),
  (0, 4, .int, [6, 0, 0, 21, 22, 0, 0, 15, 16, 17, 18, 19, 20, 23, 24, 25, 26]),
  (0, 3, .int, [0, 7, 8, 9, 10, 11, 12, 13]),
  (1, 1549, .int, []),
  (1, 1549, .int, []),
  (1, 7745, .int, []),
  (1, 1549, .int, []),
  (1, 1549, .boolean, []),
  (1, 512, .int, []),
  (1, 1549, .int, []),
  (1, 4, .int, []),
  (2, 40, .long, []),
  (1, 40, .int, []),
  (1, 40, .int, []),
  (1, 40, .int, []),
  (1, 160, .int, []),
  (1, 40, .int, []),
  (1, 40, .boolean, []),
  (1, 41, .int, []),
  (1, 9080, .int, []),
  (1, 9080, .int, []),
  (1, 9080, .int, []),
  (1, 9080, .int, []),
  (0, 4, .int, [2, 0, 0, 2, 2, 0, 0, 2, 2, 2, 2, 2, 2, 2, 2, 2, 2]),
  (0, 3, .int, [0, 29, 30, 31, 32, 33, 34, 35]),
  (1, 1549, .int, []),
  (1, 1549, .int, []),
  (1, 7745, .int, []),
  (1, 1549, .int, []),
  (1, 1549, .boolean, []),
  (1, 512, .int, []),
  (1, 1549, .int, [])]
def YC_35 : List Ent := [(0, 8, .int, [4, 0, 2, 0, 0, 0, 2, 0, 0, 2, 2, 2, 2]),
  (1, 3000, .byte, []),
  (0, 4, .int, [6, 0, 0, 21, 22, 0, 0, 15, 16, 17, 18, 19, 20, 23, 24, 25, 26]),
  (0, 3, .int, [0, 7, 8, 9, 10, 11, 12, 13]),
  (1, 1549, .int, []),
  (1, 1549, .int, []),
  (1, 7745, .int, []),
  (1, 1549, .int, []),
  (1, 1549, .boolean, []),
  (1, 512, .int, []),
  (1, 1549, .int, []),
  (1, 4, .int, []),
  (2, 40, .long, []),
  (1, 40, .int, []),
  (1, 40, .int, []),
  (1, 40, .int, []),
  (1, 160, .int, []),
  (1, 40, .int, []),
  (1, 40, .boolean, []),
  (1, 41, .int, []),
  (1, 9080, .int, []),
  (1, 9080, .int, []),
  (1, 9080, .int, []),
  (1, 9080, .int, []),
  (0, 4, .int, [2, 0, 0, 2, 2, 0, 0, 2, 2, 2, 2, 2, 2, 2, 2, 2, 2]),
  (0, 3, .int, [0, 29, 30, 31, 32, 33, 34, 35]),
  (1, 1549, .int, []),
  (1, 1549, .int, []),
  (1, 7745, .int, []),
  (1, 1549, .int, []),
  (1, 1549, .boolean, []),
  (1, 512, .int, []),
  (1, 1549, .int, []),
  (1, 4, .int, [])]
def YC_36 : List Ent := [(0, 8, .int, [4, 0, 2, 0, 0, 0, 2, 0, 0, 2, 2, 2, 2]),
  (1, 3000, .byte, []),
  (0, 4, .int, [6, 0, 0, 21, 22, 0, 0, 15, 16, 17, 18, 19, 20, 23, 24, 25, 26]),
  (0, 3, .int, [0, 7, 8, 9, 10, 11, 12, 13]),
  (1, 1549, .int, []),
  (1, 1549, .int, []),
  (1, 7745, .int, []),
  (1, 1549, .int, []),
  (1, 1549, .boolean, []),
  (1, 512, .int, []),
  (1, 1549, .int, []),
  (1, 4, .int, []),
  (2, 40, .long, []),
  (1, 40, .int, []),
  (1, 40, .int, []),
  (1, 40, .int, []),
  (1, 160, .int, []),
  (1, 40, .int, []),
  (1, 40, .boolean, []),
  (1, 41, .int, []),
  (1, 9080, .int, []),
  (1, 9080, .int, []),
  (1, 9080, .int, []),
  (1, 9080, .int, []),
  (0, 4, .int, [28, 0, 0, 2, 2, 0, 0, 2, 2, 2, 2, 2, 2, 2, 2, 2, 2]),
  (0, 3, .int, [0, 29, 30, 31, 32, 33, 34, 35]),
  (1, 1549, .int, []),
  (1, 1549, .int, []),
  (1, 7745, .int, []),
  (1, 1549, .int, []),
  (1, 1549, .boolean, []),
  (1, 512, .int, []),
  (1, 1549, .int, []),
  (1, 4, .int, [])]
def YC_37 : List Ent := [(0, 8, .int, [4, 0, 2, 0, 0, 0, 2, 0, 0, 2, 2, 2, 2]),
  (1, 3000, .byte, []),
  (0, 4, .int, [6, 0, 0, 21, 22, 0, 0, 15, 16, 17, 18, 19, 20, 23, 24, 25, 26]),
  (0, 3, .int, [0, 7, 8, 9, 10, 11, 12, 13]),
  (1, 1549, .int, []),
  (1, 1549, .int, []),
  (1, 7745, .int, []),
  (1, 1549, .int, []),
  (1, 1549, .boolean, []),
  (1, 512, .int, []),
  (1, 1549, .int, []),
  (1, 4, .int, []),
  (2, 40, .long, []),
  (1, 40, .int, []),
  (1, 40, .int, []),
  (1, 40, .int, []),
  (1, 160, .int, []),
  (1, 40, .int, []),
  (1, 40, .boolean, []),
  (1, 41, .int, []),
  (1, 9080, .int, []),
  (1, 9080, .int, []),
  (1, 9080, .int, []),
  (1, 9080, .int, []),
  (0, 4, .int, [28, 0, 0, 2, 2, 0, 0, 37, 2, 2, 2, 2, 2, 2, 2, 2, 2]),
  (0, 3, .int, [0, 29, 30, 31, 32, 33, 34, 35]),
  (1, 1549, .int, []),
  (1, 1549, .int, []),
  (1, 7745, .int, []),
  (1, 1549, .int, []),
  (1, 1549, .boolean, []),
  (1, 512, .int, []),
  (1, 1549, .int, []),
  (1, 4, .int, []),
  (2, 40, .long, [])]
def YC_38 : List Ent := [(0, 8, .int, [4, 0, 2, 0, 0, 0, 2, 0, 0, 2, 2, 2, 2]),
  (1, 3000, .byte, []),
  (0, 4, .int, [6, 0, 0, 21, 22, 0, 0, 15, 16, 17, 18, 19, 20, 23, 24, 25, 26]),
  (0, 3, .int, [0, 7, 8, 9, 10, 11, 12, 13]),
  (1, 1549, .int, []),
  (1, 1549, .int, []),
  (1, 7745, .int, []),
  (1, 1549, .int, []),
  (1, 1549, .boolean, []),
  (1, 512, .int, []),
  (1, 1549, .int, []),
  (1, 4, .int, []),
  (2, 40, .long, []),
  (1, 40, .int, []),
  (1, 40, .int, []),
  (1, 40, .int, []),
  (1, 160, .int, []),
  (1, 40, .int, []),
  (1, 40, .boolean, []),
  (1, 41, .int, []),
  (1, 9080, .int, []),
  (1, 9080, .int, []),
  (1, 9080, .int, []),
  (1, 9080, .int, []),
  (0, 4, .int, [28, 0, 0, 2, 2, 0, 0, 37, 38, 2, 2, 2, 2, 2, 2, 2, 2]),
  (0, 3, .int, [0, 29, 30, 31, 32, 33, 34, 35]),
  (1, 1549, .int, []),
  (1, 1549, .int, []),
  (1, 7745, .int, []),
  (1, 1549, .int, []),
  (1, 1549, .boolean, []),
  (1, 512, .int, []),
  (1, 1549, .int, []),
  (1, 4, .int, []),
  (2, 40, .long, []),
  (1, 40, .int, [])]
def YC_39 : List Ent := [(0, 8, .int, [4, 0, 2, 0, 0, 0, 2, 0, 0, 2, 2, 2, 2]),
  (1, 3000, .byte, []),
  (0, 4, .int, [6, 0, 0, 21, 22, 0, 0, 15, 16, 17, 18, 19, 20, 23, 24, 25, 26]),
  (0, 3, .int, [0, 7, 8, 9, 10, 11, 12, 13]),
  (1, 1549, .int, []),
  (1, 1549, .int, []),
  (1, 7745, .int, []),
  (1, 1549, .int, []),
  (1, 1549, .boolean, []),
  (1, 512, .int, []),
  (1, 1549, .int, []),
  (1, 4, .int, []),
  (2, 40, .long, []),
  (1, 40, .int, []),
  (1, 40, .int, []),
  (1, 40, .int, []),
  (1, 160, .int, []),
  (1, 40, .int, []),
  (1, 40, .boolean, []),
  (1, 41, .int, []),
  (1, 9080, .int, []),
  (1, 9080, .int, []),
  (1, 9080, .int, []),
  (1, 9080, .int, []),
  (0, 4, .int, [28, 0, 0, 2, 2, 0, 0, 37, 38, 39, 2, 2, 2, 2, 2, 2, 2]),
  (0, 3, .int, [0, 29, 30, 31, 32, 33, 34, 35]),
  (1, 1549, .int, []),
  (1, 1549, .int, []),
  (1, 7745, .int, []),
  (1, 1549, .int, []),
  (1, 1549, .boolean, []),
  (1, 512, .int, []),
  (1, 1549, .int, []),
  (1, 4, .int, []),
  (2, 40, .long, []),
  (1, 40, .int, []),
  (1, 40, .int, [])]
def YC_40 : List Ent := [(0, 8, .int, [4, 0, 2, 0, 0, 0, 2, 0, 0, 2, 2, 2, 2]),
  (1, 3000, .byte, []),
  (0, 4, .int, [6, 0, 0, 21, 22, 0, 0, 15, 16, 17, 18, 19, 20, 23, 24, 25, 26]),
  (0, 3, .int, [0, 7, 8, 9, 10, 11, 12, 13]),
  (1, 1549, .int, []),
  (1, 1549, .int, []),
  (1, 7745, .int, []),
  (1, 1549, .int, []),
  (1, 1549, .boolean, []),
  (1, 512, .int, []),
  (1, 1549, .int, []),
  (1, 4, .int, []),
  (2, 40, .long, []),
  (1, 40, .int, []),
  (1, 40, .int, []),
  (1, 40, .int, []),
  (1, 160, .int, []),
  (1, 40, .int, []),
  (1, 40, .boolean, []),
  (1, 41, .int, []),
  (1, 9080, .int, []),
  (1, 9080, .int, []),
  (1, 9080, .int, []),
  (1, 9080, .int, []),
  (0, 4, .int, [28, 0, 0, 2, 2, 0, 0, 37, 38, 39, 40, 2, 2, 2, 2, 2, 2]),
  (0, 3, .int, [0, 29, 30, 31, 32, 33, 34, 35]),
  (1, 1549, .int, []),
  (1, 1549, .int, []),
  (1, 7745, .int, []),
  (1, 1549, .int, []),
  (1, 1549, .boolean, []),
  (1, 512, .int, []),
  (1, 1549, .int, []),
  (1, 4, .int, []),
  (2, 40, .long, []),
  (1, 40, .int, []),
  (1, 40, .int, []),
  (1, 40, .int, [])]
def YC_41 : List Ent := [(0, 8, .int, [4, 0, 2, 0, 0, 0, 2, 0, 0, 2, 2, 2, 2]),
  (1, 3000, .byte, []),
  (0, 4, .int, [6, 0, 0, 21, 22, 0, 0, 15, 16, 17, 18, 19, 20, 23, 24, 25, 26]),
  (0, 3, .int, [0, 7, 8, 9, 10, 11, 12, 13]),
  (1, 1549, .int, []),
  (1, 1549, .int, []),
  (1, 7745, .int, []),
  (1, 1549, .int, []),
  (1, 1549, .boolean, []),
  (1, 512, .int, []),
  (1, 1549, .int, []),
  (1, 4, .int, []),
  (2, 40, .long, []),
  (1, 40, .int, []),
  (1, 40, .int, []),
  (1, 40, .int, []),
  (1, 160, .int, []),
  (1, 40, .int, []),
  (1, 40, .boolean, []),
  (1, 41, .int, []),
  (1, 9080, .int, []),
  (1, 9080, .int, []),
  (1, 9080, .int, []),
  (1, 9080, .int, []),
  (0, 4, .int, [28, 0, 0, 2, 2, 0, 0, 37, 38, 39, 40, 41, 2, 2, 2, 2, 2]),
  (0, 3, .int, [0, 29, 30, 31, 32, 33, 34, 35]),
  (1, 1549, .int, []),
  (1, 1549, .int, []),
  (1, 7745, .int, []),
  (1, 1549, .int, []),
  (1, 1549, .boolean, []),
  (1, 512, .int, []),
  (1, 1549, .int, []),
  (1, 4, .int, []),
  (2, 40, .long, []),
  (1, 40, .int, []),
  (1, 40, .int, []),
  (1, 40, .int, []),
  (1, 160, .int, [])]
def YC_42 : List Ent := [(0, 8, .int, [4, 0, 2, 0, 0, 0, 2, 0, 0, 2, 2, 2, 2]),
  (1, 3000, .byte, []),
  (0, 4, .int, [6, 0, 0, 21, 22, 0, 0, 15, 16, 17, 18, 19, 20, 23, 24, 25, 26]),
  (0, 3, .int, [0, 7, 8, 9, 10, 11, 12, 13]),
  (1, 1549, .int, []),
  (1, 1549, .int, []),
  (1, 7745, .int, []),
  (1, 1549, .int, []),
  (1, 1549, .boolean, []),
  (1, 512, .int, []),
  (1, 1549, .int, []),
  (1, 4, .int, []),
  (2, 40, .long, []),
  (1, 40, .int, []),
  (1, 40, .int, []),
  (1, 40, .int, []),
  (1, 160, .int, []),
  (1, 40, .int, []),
  (1, 40, .boolean, []),
  (1, 41, .int, []),
  (1, 9080, .int, []),
  (1, 9080, .int, []),
  (1, 9080, .int, []),
  (1, 9080, .int, []),
  (0, 4, .int, [28, 0, 0, 2, 2, 0, 0, 37, 38, 39, 40, 41, 42, 2, 2, 2, 2]),
  (0, 3, .int, [0, 29, 30, 31, 32, 33, 34, 35]),
  (1, 1549, .int, []),
  (1, 1549, .int, []),
  (1, 7745, .int, []),
  (1, 1549, .int, []),
  (1, 1549, .boolean, []),
  (1, 512, .int, []),
  (1, 1549, .int, []),
  (1, 4, .int, []),
  (2, 40, .long, []),
  (1, 40, .int, []),
  (1, 40, .int, []),
  (1, 40, .int, []),
  (1, 160, .int, []),
  (1, 40, .int, [])]
def YC_43 : List Ent := [(0, 8, .int, [4, 0, 2, 0, 0, 0, 2, 0, 0, 2, 2, 2, 2]),
  (1, 3000, .byte, []),
  (0, 4, .int, [6, 0, 0, 21, 22, 0, 0, 15, 16, 17, 18, 19, 20, 23, 24, 25, 26]),
  (0, 3, .int, [0, 7, 8, 9, 10, 11, 12, 13]),
  (1, 1549, .int, []),
  (1, 1549, .int, []),
  (1, 7745, .int, []),
  (1, 1549, .int, []),
  (1, 1549, .boolean, []),
  (1, 512, .int, []),
  (1, 1549, .int, []),
  (1, 4, .int, []),
  (2, 40, .long, []),
  (1, 40, .int, []),
  (1, 40, .int, []),
  (1, 40, .int, []),
  (1, 160, .int, []),
  (1, 40, .int, []),
  (1, 40, .boolean, []),
  (1, 41, .int, []),
  (1, 9080, .int, []),
  (1, 9080, .int, []),
  (1, 9080, .int, []),
  (1, 9080, .int, []),
  (0, 4, .int, [28, 0, 0, 43, 2, 0, 0, 37, 38, 39, 40, 41, 42, 2, 2, 2, 2]),
  (0, 3, .int, [0, 29, 30, 31, 32, 33, 34, 35]),
  (1, 1549, .int, []),
  (1, 1549, .int, []),
  (1, 7745, .int, []),
  (1, 1549, .int, []),
  (1, 1549, .boolean, []),
  (1, 512, .int, []),
  (1, 1549, .int, []),
  (1, 4, .int, []),
  (2, 40, .long, []),
  (1, 40, .int, []),
  (1, 40, .int, []),
  (1, 40, .int, []),
  (1, 160, .int, []),
  (1, 40, .int, []),
  (1, 40, .boolean, [])]
def YC_44 : List Ent := [(0, 8, .int, [4, 0, 2, 0, 0, 0, 2, 0, 0, 2, 2, 2, 2]),
  (1, 3000, .byte, []),
  (0, 4, .int, [6, 0, 0, 21, 22, 0, 0, 15, 16, 17, 18, 19, 20, 23, 24, 25, 26]),
  (0, 3, .int, [0, 7, 8, 9, 10, 11, 12, 13]),
  (1, 1549, .int, []),
  (1, 1549, .int, []),
  (1, 7745, .int, []),
  (1, 1549, .int, []),
  (1, 1549, .boolean, []),
  (1, 512, .int, []),
  (1, 1549, .int, []),
  (1, 4, .int, []),
  (2, 40, .long, []),
  (1, 40, .int, []),
  (1, 40, .int, []),
  (1, 40, .int, []),
  (1, 160, .int, []),
  (1, 40, .int, []),
  (1, 40, .boolean, []),
  (1, 41, .int, []),
  (1, 9080, .int, []),
  (1, 9080, .int, []),
  (1, 9080, .int, []),
  (1, 9080, .int, []),
  (0, 4, .int, [28, 0, 0, 43, 44, 0, 0, 37, 38, 39, 40, 41, 42, 2, 2, 2, 2]),
  (0, 3, .int, [0, 29, 30, 31, 32, 33, 34, 35]),
  (1, 1549, .int, []),
  (1, 1549, .int, []),
  (1, 7745, .int, []),
  (1, 1549, .int, []),
  (1, 1549, .boolean, []),
  (1, 512, .int, []),
  (1, 1549, .int, []),
  (1, 4, .int, []),
  (2, 40, .long, []),
  (1, 40, .int, []),
  (1, 40, .int, []),
  (1, 40, .int, []),
  (1, 160, .int, []),
  (1, 40, .int, []),
  (1, 40, .boolean, []),
  (1, 41, .int, [])]
def YC_45 : List Ent := [(0, 8, .int, [4, 0, 2, 0, 0, 0, 2, 0, 0, 2, 2, 2, 2]),
  (1, 3000, .byte, []),
  (0, 4, .int, [6, 0, 0, 21, 22, 0, 0, 15, 16, 17, 18, 19, 20, 23, 24, 25, 26]),
  (0, 3, .int, [0, 7, 8, 9, 10, 11, 12, 13]),
  (1, 1549, .int, []),
  (1, 1549, .int, []),
  (1, 7745, .int, []),
  (1, 1549, .int, []),
  (1, 1549, .boolean, []),
  (1, 512, .int, []),
  (1, 1549, .int, []),
  (1, 4, .int, []),
  (2, 40, .long, []),
  (1, 40, .int, []),
  (1, 40, .int, []),
  (1, 40, .int, []),
  (1, 160, .int, []),
  (1, 40, .int, []),
  (1, 40, .boolean, []),
  (1, 41, .int, []),
  (1, 9080, .int, []),
  (1, 9080, .int, []),
  (1, 9080, .int, []),
  (1, 9080, .int, []),
  (0, 4, .int, [28, 0, 0, 43, 44, 0, 0, 37, 38, 39, 40, 41, 42, 45, 2, 2, 2]),
  (0, 3, .int, [0, 29, 30, 31, 32, 33, 34, 35]),
  (1, 1549, .int, []),
  (1, 1549, .int, []),
  (1, 7745, .int, []),
  (1, 1549, .int, []),
  (1, 1549, .boolean, []),
  (1, 512, .int, []),
  (1, 1549, .int, []),
  (1, 4, .int, []),
  (2, 40, .long, []),
  (1, 40, .int, []),
  (1, 40, .int, []),
  (1, 40, .int, []),
  (1, 160, .int, []),
  (1, 40, .int, []),
  (1, 40, .boolean, []),
  (1, 41, .int, []),
  (1, 9080, .int, [])]
def YC_46 : List Ent := [(0, 8, .int, [4, 0, 2, 0, 0, 0, 2, 0, 0, 2, 2, 2, 2]),
  (1, 3000, .byte, []),
  (0, 4, .int, [6, 0, 0, 21, 22, 0, 0, 15, 16, 17, 18, 19, 20, 23, 24, 25, 26]),
  (0, 3, .int, [0, 7, 8, 9, 10, 11, 12, 13]),
  (1, 1549, .int, []),
  (1, 1549, .int, []),
  (1, 7745, .int, []),
  (1, 1549, .int, []),
  (1, 1549, .boolean, []),
  (1, 512, .int, []),
  (1, 1549, .int, []),
  (1, 4, .int, []),
  (2, 40, .long, []),
  (1, 40, .int, []),
  (1, 40, .int, []),
  (1, 40, .int, []),
  (1, 160, .int, []),
  (1, 40, .int, []),
  (1, 40, .boolean, []),
  (1, 41, .int, []),
  (1, 9080, .int, []),
  (1, 9080, .int, []),
  (1, 9080, .int, []),
  (1, 9080, .int, []),
  (0, 4, .int, [28, 0, 0, 43, 44, 0, 0, 37, 38, 39, 40, 41, 42, 45, 46, 2, 2]),
  (0, 3, .int, [0, 29, 30, 31, 32, 33, 34, 35]),
  (1, 1549, .int, []),
  (1, 1549, .int, []),
  (1, 7745, .int, []),
  (1, 1549, .int, []),
  (1, 1549, .boolean, []),
  (1, 512, .int, []),
  (1, 1549, .int, []),
  (1, 4, .int, []),
  (2, 40, .long, []),
  (1, 40, .int, []),
  (1, 40, .int, []),
  (1, 40, .int, []),
  (1, 160, .int, []),
  (1, 40, .int, []),
  (1, 40, .boolean, []),
  (1, 41, .int, []),
  (1, 9080, .int, []),
  (1, 9080, .int, [])]
def YC_47 : List Ent := [(0, 8, .int, [4, 0, 2, 0, 0, 0, 2, 0, 0, 2, 2, 2, 2]),
  (1, 3000, .byte, []),
  (0, 4, .int, [6, 0, 0, 21, 22, 0, 0, 15, 16, 17, 18, 19, 20, 23, 24, 25, 26]),
  (0, 3, .int, [0, 7, 8, 9, 10, 11, 12, 13]),
  (1, 1549, .int, []),
  (1, 1549, .int, []),
  (1, 7745, .int, []),
  (1, 1549, .int, []),
  (1, 1549, .boolean, []),
  (1, 512, .int, []),
  (1, 1549, .int, []),
  (1, 4, .int, []),
  (2, 40, .long, []),
  (1, 40, .int, []),
  (1, 40, .int, []),
  (1, 40, .int, []),
  (1, 160, .int, []),
  (1, 40, .int, []),
  (1, 40, .boolean, []),
  (1, 41, .int, []),
  (1, 9080, .int, []),
  (1, 9080, .int, []),
  (1, 9080, .int, []),
  (1, 9080, .int, []),
  (0, 4, .int, [28, 0, 0, 43, 44, 0, 0, 37, 38, 39, 40, 41, 42, 45, 46, 47, 2]),
  (0, 3, .int, [0, 29, 30, 31, 32, 33, 34, 35]),
  (1, 1549, .int, []),
  (1, 1549, .int, []),
  (1, 7745, .int, []),
  (1, 1549, .int, []),
  (1, 1549, .boolean, []),
  (1, 512, .int, []),
  (1, 1549, .int, []),
  (1, 4, .int, []),
  (2, 40, .long, []),
  (1, 40, .int, []),
  (1, 40, .int, []),
  (1, 40, .int, []),
  (1, 160, .int, []),
  (1, 40, .int, []),
  (1, 40, .boolean, []),
  (1, 41, .int, []),
  (1, 9080, .int, []),
  (1, 9080, .int, []),
  (1, 9080, .int, [])]
def YC_48 : List Ent := [(0, 8, .int, [4, 0, 2, 0, 0, 0, 2, 0, 0, 2, 2, 2, 2]),
  (1, 3000, .byte, []),
  (0, 4, .int, [6, 0, 0, 21, 22, 0, 0, 15, 16, 17, 18, 19, 20, 23, 24, 25, 26]),
  (0, 3, .int, [0, 7, 8, 9, 10, 11, 12, 13]),
  (1, 1549, .int, []),
  (1, 1549, .int, []),
  (1, 7745, .int, []),
  (1, 1549, .int, []),
  (1, 1549, .boolean, []),
  (1, 512, .int, []),
  (1, 1549, .int, []),
  (1, 4, .int, []),
  (2, 40, .long, []),
  (1, 40, .int, []),
  (1, 40, .int, []),
  (1, 40, .int, []),
  (1, 160, .int, []),
  (1, 40, .int, []),
  (1, 40, .boolean, []),
  (1, 41, .int, []),
  (1, 9080, .int, []),
  (1, 9080, .int, []),
  (1, 9080, .int, []),
  (1, 9080, .int, []),
  (0, 4, .int, [28, 0, 0, 43, 44, 0, 0, 37, 38, 39, 40, 41, 42, 45, 46, 47, 48]),
  (0, 3, .int, [0, 29, 30, 31, 32, 33, 34, 35]),
  (1, 1549, .int, []),
  (1, 1549, .int, []),
  (1, 7745, .int, []),
  (1, 1549, .int, []),
  (1, 1549, .boolean, []),
  (1, 512, .int, []),
  (1, 1549, .int, []),
  (1, 4, .int, []),
  (2, 40, .long, []),
  (1, 40, .int, []),
  (1, 40, .int, []),
  (1, 40, .int, []),
  (1, 160, .int, []),
  (1, 40, .int, []),
  (1, 40, .boolean, []),
  (1, 41, .int, []),
  (1, 9080, .int, []),
  (1, 9080, .int, []),
  (1, 9080, .int, []),
  (1, 9080, .int, [])]
def YC_49 : List Ent := [(0, 8, .int, [4, 0, 2, 0, 0, 0, 2, 0, 0, 2, 2, 2, 2]),
  (1, 3000, .byte, []),
  (0, 4, .int, [6, 0, 0, 21, 22, 0, 0, 15, 16, 17, 18, 19, 20, 23, 24, 25, 26]),
  (0, 3, .int, [0, 7, 8, 9, 10, 11, 12, 13]),
  (1, 1549, .int, []),
  (1, 1549, .int, []),
  (1, 7745, .int, []),
  (1, 1549, .int, []),
  (1, 1549, .boolean, []),
  (1, 512, .int, []),
  (1, 1549, .int, []),
  (1, 4, .int, []),
  (2, 40, .long, []),
  (1, 40, .int, []),
  (1, 40, .int, []),
  (1, 40, .int, []),
  (1, 160, .int, []),
  (1, 40, .int, []),
  (1, 40, .boolean, []),
  (1, 41, .int, []),
  (1, 9080, .int, []),
  (1, 9080, .int, []),
  (1, 9080, .int, []),
  (1, 9080, .int, []),
  (0, 4, .int, [28, 0, 0, 43, 44, 0, 0, 37, 38, 39, 40, 41, 42, 45, 46, 47, 48]),
  (0, 3, .int, [0, 29, 30, 31, 32, 33, 34, 35]),
  (1, 1549, .int, []),
  (1, 1549, .int, []),
  (1, 7745, .int, []),
  (1, 1549, .int, []),
  (1, 1549, .boolean, []),
  (1, 512, .int, []),
  (1, 1549, .int, []),
  (1, 4, .int, []),
  (2, 40, .long, []),
  (1, 40, .int, []),
  (1, 40, .int, []),
  (1, 40, .int, []),
  (1, 160, .int, []),
  (1, 40, .int, []),
  (1, 40, .boolean, []),
  (1, 41, .int, []),
  (1, 9080, .int, []),
  (1, 9080, .int, []),
  (1, 9080, .int, []),
  (1, 9080, .int, []),
  (0, 5, .int, [2, 2, 0, 0, 0, 0, 0, 2, 2, 0, 2, 2, 2, 2])]
def YC_50 : List Ent := [(0, 8, .int, [4, 0, 2, 0, 0, 0, 2, 0, 0, 2, 2, 2, 2]),
  (1, 3000, .byte, []),
  (0, 4, .int, [6, 0, 0, 21, 22, 0, 0, 15, 16, 17, 18, 19, 20, 23, 24, 25, 26]),
  (0, 3, .int, [0, 7, 8, 9, 10, 11, 12, 13]),
  (1, 1549, .int, []),
  (1, 1549, .int, []),
  (1, 7745, .int, []),
  (1, 1549, .int, []),
  (1, 1549, .boolean, []),
  (1, 512, .int, []),
  (1, 1549, .int, []),
  (1, 4, .int, []),
  (2, 40, .long, []),
  (1, 40, .int, []),
  (1, 40, .int, []),
  (1, 40, .int, []),
  (1, 160, .int, []),
  (1, 40, .int, []),
  (1, 40, .boolean, []),
  (1, 41, .int, []),
  (1, 9080, .int, []),
  (1, 9080, .int, []),
  (1, 9080, .int, []),
  (1, 9080, .int, []),
  (0, 4, .int, [28, 0, 0, 43, 44, 0, 0, 37, 38, 39, 40, 41, 42, 45, 46, 47, 48]),
  (0, 3, .int, [0, 29, 30, 31, 32, 33, 34, 35]),
  (1, 1549, .int, []),
  (1, 1549, .int, []),
  (1, 7745, .int, []),
  (1, 1549, .int, []),
  (1, 1549, .boolean, []),
  (1, 512, .int, []),
  (1, 1549, .int, []),
  (1, 4, .int, []),
  (2, 40, .long, []),
  (1, 40, .int, []),
  (1, 40, .int, []),
  (1, 40, .int, []),
  (1, 160, .int, []),
  (1, 40, .int, []),
  (1, 40, .boolean, []),
  (1, 41, .int, []),
  (1, 9080, .int, []),
  (1, 9080, .int, []),
  (1, 9080, .int, []),
  (1, 9080, .int, []),
  (0, 5, .int, [2, 2, 0, 0, 0, 0, 0, 2, 2, 0, 2, 2, 2, 2]),
  (0, 7, .int, [2, 0, 0, 0, 0, 1, 0, 1])]
def YC_51 : List Ent := [(0, 8, .int, [4, 0, 2, 0, 0, 0, 2, 0, 0, 2, 2, 2, 2]),
  (1, 3000, .byte, []),
  (0, 4, .int, [6, 0, 0, 21, 22, 0, 0, 15, 16, 17, 18, 19, 20, 23, 24, 25, 26]),
  (0, 3, .int, [0, 7, 8, 9, 10, 11, 12, 13]),
  (1, 1549, .int, []),
  (1, 1549, .int, []),
  (1, 7745, .int, []),
  (1, 1549, .int, []),
  (1, 1549, .boolean, []),
  (1, 512, .int, []),
  (1, 1549, .int, []),
  (1, 4, .int, []),
  (2, 40, .long, []),
  (1, 40, .int, []),
  (1, 40, .int, []),
  (1, 40, .int, []),
  (1, 160, .int, []),
  (1, 40, .int, []),
  (1, 40, .boolean, []),
  (1, 41, .int, []),
  (1, 9080, .int, []),
  (1, 9080, .int, []),
  (1, 9080, .int, []),
  (1, 9080, .int, []),
  (0, 4, .int, [28, 0, 0, 43, 44, 0, 0, 37, 38, 39, 40, 41, 42, 45, 46, 47, 48]),
  (0, 3, .int, [0, 29, 30, 31, 32, 33, 34, 35]),
  (1, 1549, .int, []),
  (1, 1549, .int, []),
  (1, 7745, .int, []),
  (1, 1549, .int, []),
  (1, 1549, .boolean, []),
  (1, 512, .int, []),
  (1, 1549, .int, []),
  (1, 4, .int, []),
  (2, 40, .long, []),
  (1, 40, .int, []),
  (1, 40, .int, []),
  (1, 40, .int, []),
  (1, 160, .int, []),
  (1, 40, .int, []),
  (1, 40, .boolean, []),
  (1, 41, .int, []),
  (1, 9080, .int, []),
  (1, 9080, .int, []),
  (1, 9080, .int, []),
  (1, 9080, .int, []),
  (0, 5, .int, [2, 2, 0, 0, 0, 0, 0, 2, 2, 0, 2, 2, 2, 2]),
  (0, 7, .int, [2, 0, 0, 0, 0, 1, 0, 1]),
  (1, 0, .byte, [])]
def YC_52 : List Ent := [(0, 8, .int, [4, 0, 2, 0, 0, 0, 2, 0, 0, 2, 2, 2, 2]),
  (1, 3000, .byte, []),
  (0, 4, .int, [6, 0, 0, 21, 22, 0, 0, 15, 16, 17, 18, 19, 20, 23, 24, 25, 26]),
  (0, 3, .int, [0, 7, 8, 9, 10, 11, 12, 13]),
  (1, 1549, .int, []),
  (1, 1549, .int, []),
  (1, 7745, .int, []),
  (1, 1549, .int, []),
  (1, 1549, .boolean, []),
  (1, 512, .int, []),
  (1, 1549, .int, []),
  (1, 4, .int, []),
  (2, 40, .long, []),
  (1, 40, .int, []),
  (1, 40, .int, []),
  (1, 40, .int, []),
  (1, 160, .int, []),
  (1, 40, .int, []),
  (1, 40, .boolean, []),
  (1, 41, .int, []),
  (1, 9080, .int, []),
  (1, 9080, .int, []),
  (1, 9080, .int, []),
  (1, 9080, .int, []),
  (0, 4, .int, [28, 0, 0, 43, 44, 0, 0, 37, 38, 39, 40, 41, 42, 45, 46, 47, 48]),
  (0, 3, .int, [0, 29, 30, 31, 32, 33, 34, 35]),
  (1, 1549, .int, []),
  (1, 1549, .int, []),
  (1, 7745, .int, []),
  (1, 1549, .int, []),
  (1, 1549, .boolean, []),
  (1, 512, .int, []),
  (1, 1549, .int, []),
  (1, 4, .int, []),
  (2, 40, .long, []),
  (1, 40, .int, []),
  (1, 40, .int, []),
  (1, 40, .int, []),
  (1, 160, .int, []),
  (1, 40, .int, []),
  (1, 40, .boolean, []),
  (1, 41, .int, []),
  (1, 9080, .int, []),
  (1, 9080, .int, []),
  (1, 9080, .int, []),
  (1, 9080, .int, []),
  (0, 5, .int, [50, 2, 0, 0, 0, 0, 0, 2, 2, 0, 2, 2, 2, 2]),
  (0, 7, .int, [2, 0, 0, 0, 0, 1, 0, 1]),
  (1, 0, .byte, [])]
def YC_53 : List Ent := [(0, 8, .int, [4, 0, 2, 0, 0, 0, 2, 0, 0, 2, 2, 2, 2]),
  (1, 3000, .byte, []),
  (0, 4, .int, [6, 0, 0, 21, 22, 0, 0, 15, 16, 17, 18, 19, 20, 23, 24, 25, 26]),
  (0, 3, .int, [0, 7, 8, 9, 10, 11, 12, 13]),
  (1, 1549, .int, []),
  (1, 1549, .int, []),
  (1, 7745, .int, []),
  (1, 1549, .int, []),
  (1, 1549, .boolean, []),
  (1, 512, .int, []),
  (1, 1549, .int, []),
  (1, 4, .int, []),
  (2, 40, .long, []),
  (1, 40, .int, []),
  (1, 40, .int, []),
  (1, 40, .int, []),
  (1, 160, .int, []),
  (1, 40, .int, []),
  (1, 40, .boolean, []),
  (1, 41, .int, []),
  (1, 9080, .int, []),
  (1, 9080, .int, []),
  (1, 9080, .int, []),
  (1, 9080, .int, []),
  (0, 4, .int, [28, 0, 0, 43, 44, 0, 0, 37, 38, 39, 40, 41, 42, 45, 46, 47, 48]),
  (0, 3, .int, [0, 29, 30, 31, 32, 33, 34, 35]),
  (1, 1549, .int, []),
  (1, 1549, .int, []),
  (1, 7745, .int, []),
  (1, 1549, .int, []),
  (1, 1549, .boolean, []),
  (1, 512, .int, []),
  (1, 1549, .int, []),
  (1, 4, .int, []),
  (2, 40, .long, []),
  (1, 40, .int, []),
  (1, 40, .int, []),
  (1, 40, .int, []),
  (1, 160, .int, []),
  (1, 40, .int, []),
  (1, 40, .boolean, []),
  (1, 41, .int, []),
  (1, 9080, .int, []),
  (1, 9080, .int, []),
  (1, 9080, .int, []),
  (1, 9080, .int, []),
  (0, 5, .int, [50, 2, 0, 0, 0, 0, 0, 52, 2, 0, 2, 2, 2, 2]),
  (0, 7, .int, [2, 0, 0, 0, 0, 1, 0, 1]),
  (1, 0, .byte, []),
  (1, 40, .int, [])]
def YC_54 : List Ent := [(0, 8, .int, [4, 0, 2, 0, 0, 0, 2, 0, 0, 2, 2, 2, 2]),
  (1, 3000, .byte, []),
  (0, 4, .int, [6, 0, 0, 21, 22, 0, 0, 15, 16, 17, 18, 19, 20, 23, 24, 25, 26]),
  (0, 3, .int, [0, 7, 8, 9, 10, 11, 12, 13]),
  (1, 1549, .int, []),
  (1, 1549, .int, []),
  (1, 7745, .int, []),
  (1, 1549, .int, []),
  (1, 1549, .boolean, []),
  (1, 512, .int, []),
  (1, 1549, .int, []),
  (1, 4, .int, []),
  (2, 40, .long, []),
  (1, 40, .int, []),
  (1, 40, .int, []),
  (1, 40, .int, []),
  (1, 160, .int, []),
  (1, 40, .int, []),
  (1, 40, .boolean, []),
  (1, 41, .int, []),
  (1, 9080, .int, []),
  (1, 9080, .int, []),
  (1, 9080, .int, []),
  (1, 9080, .int, []),
  (0, 4, .int, [28, 0, 0, 43, 44, 0, 0, 37, 38, 39, 40, 41, 42, 45, 46, 47, 48]),
  (0, 3, .int, [0, 29, 30, 31, 32, 33, 34, 35]),
  (1, 1549, .int, []),
  (1, 1549, .int, []),
  (1, 7745, .int, []),
  (1, 1549, .int, []),
  (1, 1549, .boolean, []),
  (1, 512, .int, []),
  (1, 1549, .int, []),
  (1, 4, .int, []),
  (2, 40, .long, []),
  (1, 40, .int, []),
  (1, 40, .int, []),
  (1, 40, .int, []),
  (1, 160, .int, []),
  (1, 40, .int, []),
  (1, 40, .boolean, []),
  (1, 41, .int, []),
  (1, 9080, .int, []),
  (1, 9080, .int, []),
  (1, 9080, .int, []),
  (1, 9080, .int, []),
  (0, 5, .int, [50, 2, 0, 0, 0, 0, 0, 52, 53, 0, 2, 2, 2, 2]),
  (0, 7, .int, [2, 0, 0, 0, 0, 1, 0, 1]),
  (1, 0, .byte, []),
  (1, 40, .int, []),
  (2, 44, .long, [])]
def YC_55 : List Ent := [(0, 8, .int, [4, 0, 2, 0, 0, 0, 2, 0, 0, 2, 2, 2, 2]),
  (1, 3000, .byte, []),
  (0, 4, .int, [6, 0, 0, 21, 22, 0, 0, 15, 16, 17, 18, 19, 20, 23, 24, 25, 26]),
  (0, 3, .int, [0, 7, 8, 9, 10, 11, 12, 13]),
  (1, 1549, .int, []),
  (1, 1549, .int, []),
  (1, 7745, .int, []),
  (1, 1549, .int, []),
  (1, 1549, .boolean, []),
  (1, 512, .int, []),
  (1, 1549, .int, []),
  (1, 4, .int, []),
  (2, 40, .long, []),
  (1, 40, .int, []),
  (1, 40, .int, []),
  (1, 40, .int, []),
  (1, 160, .int, []),
  (1, 40, .int, []),
  (1, 40, .boolean, []),
  (1, 41, .int, []),
  (1, 9080, .int, []),
  (1, 9080, .int, []),
  (1, 9080, .int, []),
  (1, 9080, .int, []),
  (0, 4, .int, [28, 0, 0, 43, 44, 0, 0, 37, 38, 39, 40, 41, 42, 45, 46, 47, 48]),
  (0, 3, .int, [0, 29, 30, 31, 32, 33, 34, 35]),
  (1, 1549, .int, []),
  (1, 1549, .int, []),
  (1, 7745, .int, []),
  (1, 1549, .int, []),
  (1, 1549, .boolean, []),
  (1, 512, .int, []),
  (1, 1549, .int, []),
  (1, 4, .int, []),
  (2, 40, .long, []),
  (1, 40, .int, []),
  (1, 40, .int, []),
  (1, 40, .int, []),
  (1, 160, .int, []),
  (1, 40, .int, []),
  (1, 40, .boolean, []),
  (1, 41, .int, []),
  (1, 9080, .int, []),
  (1, 9080, .int, []),
  (1, 9080, .int, []),
  (1, 9080, .int, []),
  (0, 5, .int, [50, 2, 0, 0, 0, 0, 0, 52, 53, 0, 54, 2, 2, 2]),
  (0, 7, .int, [2, 0, 0, 0, 0, 1, 0, 1]),
  (1, 0, .byte, []),
  (1, 40, .int, []),
  (2, 44, .long, []),
  (1, 126, .int, [])]
def YC_56 : List Ent := [(0, 8, .int, [4, 0, 2, 0, 0, 0, 2, 0, 0, 2, 2, 2, 2]),
  (1, 3000, .byte, []),
  (0, 4, .int, [6, 0, 0, 21, 22, 0, 0, 15, 16, 17, 18, 19, 20, 23, 24, 25, 26]),
  (0, 3, .int, [0, 7, 8, 9, 10, 11, 12, 13]),
  (1, 1549, .int, []),
  (1, 1549, .int, []),
  (1, 7745, .int, []),
  (1, 1549, .int, []),
  (1, 1549, .boolean, []),
  (1, 512, .int, []),
  (1, 1549, .int, []),
  (1, 4, .int, []),
  (2, 40, .long, []),
  (1, 40, .int, []),
  (1, 40, .int, []),
  (1, 40, .int, []),
  (1, 160, .int, []),
  (1, 40, .int, []),
  (1, 40, .boolean, []),
  (1, 41, .int, []),
  (1, 9080, .int, []),
  (1, 9080, .int, []),
  (1, 9080, .int, []),
  (1, 9080, .int, []),
  (0, 4, .int, [28, 0, 0, 43, 44, 0, 0, 37, 38, 39, 40, 41, 42, 45, 46, 47, 48]),
  (0, 3, .int, [0, 29, 30, 31, 32, 33, 34, 35]),
  (1, 1549, .int, []),
  (1, 1549, .int, []),
  (1, 7745, .int, []),
  (1, 1549, .int, []),
  (1, 1549, .boolean, []),
  (1, 512, .int, []),
  (1, 1549, .int, []),
  (1, 4, .int, []),
  (2, 40, .long, []),
  (1, 40, .int, []),
  (1, 40, .int, []),
  (1, 40, .int, []),
  (1, 160, .int, []),
  (1, 40, .int, []),
  (1, 40, .boolean, []),
  (1, 41, .int, []),
  (1, 9080, .int, []),
  (1, 9080, .int, []),
  (1, 9080, .int, []),
  (1, 9080, .int, []),
  (0, 5, .int, [50, 2, 0, 0, 0, 0, 0, 52, 53, 0, 54, 55, 2, 2]),
  (0, 7, .int, [2, 0, 0, 0, 0, 1, 0, 1]),
  (1, 0, .byte, []),
  (1, 40, .int, []),
  (2, 44, .long, []),
  (1, 126, .int, []),
  (1, 126, .int, [])]
def YC_57 : List Ent := [(0, 8, .int, [4, 0, 2, 0, 0, 0, 2, 0, 0, 2, 2, 2, 2]),
  (1, 3000, .byte, []),
  (0, 4, .int, [6, 0, 0, 21, 22, 0, 0, 15, 16, 17, 18, 19, 20, 23, 24, 25, 26]),
  (0, 3, .int, [0, 7, 8, 9, 10, 11, 12, 13]),
  (1, 1549, .int, []),
  (1, 1549, .int, []),
  (1, 7745, .int, []),
  (1, 1549, .int, []),
  (1, 1549, .boolean, []),
  (1, 512, .int, []),
  (1, 1549, .int, []),
  (1, 4, .int, []),
  (2, 40, .long, []),
  (1, 40, .int, []),
  (1, 40, .int, []),
  (1, 40, .int, []),
  (1, 160, .int, []),
  (1, 40, .int, []),
  (1, 40, .boolean, []),
  (1, 41, .int, []),
  (1, 9080, .int, []),
  (1, 9080, .int, []),
  (1, 9080, .int, []),
  (1, 9080, .int, []),
  (0, 4, .int, [28, 0, 0, 43, 44, 0, 0, 37, 38, 39, 40, 41, 42, 45, 46, 47, 48]),
  (0, 3, .int, [0, 29, 30, 31, 32, 33, 34, 35]),
  (1, 1549, .int, []),
  (1, 1549, .int, []),
  (1, 7745, .int, []),
  (1, 1549, .int, []),
  (1, 1549, .boolean, []),
  (1, 512, .int, []),
  (1, 1549, .int, []),
  (1, 4, .int, []),
  (2, 40, .long, []),
  (1, 40, .int, []),
  (1, 40, .int, []),
  (1, 40, .int, []),
  (1, 160, .int, []),
  (1, 40, .int, []),
  (1, 40, .boolean, []),
  (1, 41, .int, []),
  (1, 9080, .int, []),
  (1, 9080, .int, []),
  (1, 9080, .int, []),
  (1, 9080, .int, []),
  (0, 5, .int, [50, 2, 0, 0, 0, 0, 0, 52, 53, 0, 54, 55, 56, 2]),
  (0, 7, .int, [2, 0, 0, 0, 0, 1, 0, 1]),
  (1, 0, .byte, []),
  (1, 40, .int, []),
  (2, 44, .long, []),
  (1, 126, .int, []),
  (1, 126, .int, []),
  (1, 126, .int, [])]
def YC_58 : List Ent := [(0, 8, .int, [4, 0, 2, 0, 0, 0, 2, 0, 0, 2, 2, 2, 2]),
  (1, 3000, .byte, []),
  (0, 4, .int, [6, 0, 0, 21, 22, 0, 0, 15, 16, 17, 18, 19, 20, 23, 24, 25, 26]),
  (0, 3, .int, [0, 7, 8, 9, 10, 11, 12, 13]),
  (1, 1549, .int, []),
  (1, 1549, .int, []),
  (1, 7745, .int, []),
  (1, 1549, .int, []),
  (1, 1549, .boolean, []),
  (1, 512, .int, []),
  (1, 1549, .int, []),
  (1, 4, .int, []),
  (2, 40, .long, []),
  (1, 40, .int, []),
  (1, 40, .int, []),
  (1, 40, .int, []),
  (1, 160, .int, []),
  (1, 40, .int, []),
  (1, 40, .boolean, []),
  (1, 41, .int, []),
  (1, 9080, .int, []),
  (1, 9080, .int, []),
  (1, 9080, .int, []),
  (1, 9080, .int, []),
  (0, 4, .int, [28, 0, 0, 43, 44, 0, 0, 37, 38, 39, 40, 41, 42, 45, 46, 47, 48]),
  (0, 3, .int, [0, 29, 30, 31, 32, 33, 34, 35]),
  (1, 1549, .int, []),
  (1, 1549, .int, []),
  (1, 7745, .int, []),
  (1, 1549, .int, []),
  (1, 1549, .boolean, []),
  (1, 512, .int, []),
  (1, 1549, .int, []),
  (1, 4, .int, []),
  (2, 40, .long, []),
  (1, 40, .int, []),
  (1, 40, .int, []),
  (1, 40, .int, []),
  (1, 160, .int, []),
  (1, 40, .int, []),
  (1, 40, .boolean, []),
  (1, 41, .int, []),
  (1, 9080, .int, []),
  (1, 9080, .int, []),
  (1, 9080, .int, []),
  (1, 9080, .int, []),
  (0, 5, .int, [50, 2, 0, 0, 0, 0, 0, 52, 53, 0, 54, 55, 56, 57]),
  (0, 7, .int, [2, 0, 0, 0, 0, 1, 0, 1]),
  (1, 0, .byte, []),
  (1, 40, .int, []),
  (2, 44, .long, []),
  (1, 126, .int, []),
  (1, 126, .int, []),
  (1, 126, .int, []),
  (1, 164, .int, [])]
def YC_59 : List Ent := [(0, 8, .int, [4, 0, 2, 0, 0, 0, 49, 0, 0, 2, 2, 2, 2]),
  (1, 3000, .byte, []),
  (0, 4, .int, [6, 0, 0, 21, 22, 0, 0, 15, 16, 17, 18, 19, 20, 23, 24, 25, 26]),
  (0, 3, .int, [0, 7, 8, 9, 10, 11, 12, 13]),
  (1, 1549, .int, []),
  (1, 1549, .int, []),
  (1, 7745, .int, []),
  (1, 1549, .int, []),
  (1, 1549, .boolean, []),
  (1, 512, .int, []),
  (1, 1549, .int, []),
  (1, 4, .int, []),
  (2, 40, .long, []),
  (1, 40, .int, []),
  (1, 40, .int, []),
  (1, 40, .int, []),
  (1, 160, .int, []),
  (1, 40, .int, []),
  (1, 40, .boolean, []),
  (1, 41, .int, []),
  (1, 9080, .int, []),
  (1, 9080, .int, []),
  (1, 9080, .int, []),
  (1, 9080, .int, []),
  (0, 4, .int, [28, 0, 0, 43, 44, 0, 0, 37, 38, 39, 40, 41, 42, 45, 46, 47, 48]),
  (0, 3, .int, [0, 29, 30, 31, 32, 33, 34, 35]),
  (1, 1549, .int, []),
  (1, 1549, .int, []),
  (1, 7745, .int, []),
  (1, 1549, .int, []),
  (1, 1549, .boolean, []),
  (1, 512, .int, []),
  (1, 1549, .int, []),
  (1, 4, .int, []),
  (2, 40, .long, []),
  (1, 40, .int, []),
  (1, 40, .int, []),
  (1, 40, .int, []),
  (1, 160, .int, []),
  (1, 40, .int, []),
  (1, 40, .boolean, []),
  (1, 41, .int, []),
  (1, 9080, .int, []),
  (1, 9080, .int, []),
  (1, 9080, .int, []),
  (1, 9080, .int, []),
  (0, 5, .int, [50, 2, 0, 0, 0, 0, 0, 52, 53, 0, 54, 55, 56, 57]),
  (0, 7, .int, [2, 0, 0, 0, 0, 1, 0, 1]),
  (1, 0, .byte, []),
  (1, 40, .int, []),
  (2, 44, .long, []),
  (1, 126, .int, []),
  (1, 126, .int, []),
  (1, 126, .int, []),
  (1, 164, .int, [])]
def YC_60 : List Ent := [(0, 8, .int, [4, 0, 2, 0, 0, 0, 49, 0, 0, 2, 2, 2, 2]),
  (1, 3000, .byte, []),
  (0, 4, .int, [6, 0, 0, 21, 22, 0, 0, 15, 16, 17, 18, 19, 20, 23, 24, 25, 26]),
  (0, 3, .int, [0, 7, 8, 9, 10, 11, 12, 13]),
  (1, 1549, .int, []),
  (1, 1549, .int, []),
  (1, 7745, .int, []),
  (1, 1549, .int, []),
  (1, 1549, .boolean, []),
  (1, 512, .int, []),
  (1, 1549, .int, []),
  (1, 4, .int, []),
  (2, 40, .long, []),
  (1, 40, .int, []),
  (1, 40, .int, []),
  (1, 40, .int, []),
  (1, 160, .int, []),
  (1, 40, .int, []),
  (1, 40, .boolean, []),
  (1, 41, .int, []),
  (1, 9080, .int, []),
  (1, 9080, .int, []),
  (1, 9080, .int, []),
  (1, 9080, .int, []),
  (0, 4, .int, [28, 0, 0, 43, 44, 0, 0, 37, 38, 39, 40, 41, 42, 45, 46, 47, 48]),
  (0, 3, .int, [0, 29, 30, 31, 32, 33, 34, 35]),
  (1, 1549, .int, []),
  (1, 1549, .int, []),
  (1, 7745, .int, []),
  (1, 1549, .int, []),
  (1, 1549, .boolean, []),
  (1, 512, .int, []),
  (1, 1549, .int, []),
  (1, 4, .int, []),
  (2, 40, .long, []),
  (1, 40, .int, []),
  (1, 40, .int, []),
  (1, 40, .int, []),
  (1, 160, .int, []),
  (1, 40, .int, []),
  (1, 40, .boolean, []),
  (1, 41, .int, []),
  (1, 9080, .int, []),
  (1, 9080, .int, []),
  (1, 9080, .int, []),
  (1, 9080, .int, []),
  (0, 5, .int, [50, 2, 0, 0, 0, 0, 0, 52, 53, 0, 54, 55, 56, 57]),
  (0, 7, .int, [2, 0, 0, 0, 0, 1, 0, 1]),
  (1, 0, .byte, []),
  (1, 40, .int, []),
  (2, 44, .long, []),
  (1, 126, .int, []),
  (1, 126, .int, []),
  (1, 126, .int, []),
  (1, 164, .int, []),
  (0, 0, .int, [2, 2, 2, 2, 2, 0])]
def YC_61 : List Ent := [(0, 8, .int, [4, 0, 2, 0, 0, 0, 49, 0, 0, 2, 2, 2, 2]),
  (1, 3000, .byte, []),
  (0, 4, .int, [6, 0, 0, 21, 22, 0, 0, 15, 16, 17, 18, 19, 20, 23, 24, 25, 26]),
  (0, 3, .int, [0, 7, 8, 9, 10, 11, 12, 13]),
  (1, 1549, .int, []),
  (1, 1549, .int, []),
  (1, 7745, .int, []),
  (1, 1549, .int, []),
  (1, 1549, .boolean, []),
  (1, 512, .int, []),
  (1, 1549, .int, []),
  (1, 4, .int, []),
  (2, 40, .long, []),
  (1, 40, .int, []),
  (1, 40, .int, []),
  (1, 40, .int, []),
  (1, 160, .int, []),
  (1, 40, .int, []),
  (1, 40, .boolean, []),
  (1, 41, .int, []),
  (1, 9080, .int, []),
  (1, 9080, .int, []),
  (1, 9080, .int, []),
  (1, 9080, .int, []),
  (0, 4, .int, [28, 0, 0, 43, 44, 0, 0, 37, 38, 39, 40, 41, 42, 45, 46, 47, 48]),
  (0, 3, .int, [0, 29, 30, 31, 32, 33, 34, 35]),
  (1, 1549, .int, []),
  (1, 1549, .int, []),
  (1, 7745, .int, []),
  (1, 1549, .int, []),
  (1, 1549, .boolean, []),
  (1, 512, .int, []),
  (1, 1549, .int, []),
  (1, 4, .int, []),
  (2, 40, .long, []),
  (1, 40, .int, []),
  (1, 40, .int, []),
  (1, 40, .int, []),
  (1, 160, .int, []),
  (1, 40, .int, []),
  (1, 40, .boolean, []),
  (1, 41, .int, []),
  (1, 9080, .int, []),
  (1, 9080, .int, []),
  (1, 9080, .int, []),
  (1, 9080, .int, []),
  (0, 5, .int, [50, 2, 0, 0, 0, 0, 0, 52, 53, 0, 54, 55, 56, 57]),
  (0, 7, .int, [2, 0, 0, 0, 0, 1, 0, 1]),
  (1, 0, .byte, []),
  (1, 40, .int, []),
  (2, 44, .long, []),
  (1, 126, .int, []),
  (1, 126, .int, []),
  (1, 126, .int, []),
  (1, 164, .int, []),
  (0, 0, .int, [59, 2, 2, 2, 2, 0]),
  (1, 3000, .int, [])]
def YC_62 : List Ent := [(0, 8, .int, [4, 0, 2, 0, 0, 0, 49, 0, 0, 2, 2, 2, 2]),
  (1, 3000, .byte, []),
  (0, 4, .int, [6, 0, 0, 21, 22, 0, 0, 15, 16, 17, 18, 19, 20, 23, 24, 25, 26]),
  (0, 3, .int, [0, 7, 8, 9, 10, 11, 12, 13]),
  (1, 1549, .int, []),
  (1, 1549, .int, []),
  (1, 7745, .int, []),
  (1, 1549, .int, []),
  (1, 1549, .boolean, []),
  (1, 512, .int, []),
  (1, 1549, .int, []),
  (1, 4, .int, []),
  (2, 40, .long, []),
  (1, 40, .int, []),
  (1, 40, .int, []),
  (1, 40, .int, []),
  (1, 160, .int, []),
  (1, 40, .int, []),
  (1, 40, .boolean, []),
  (1, 41, .int, []),
  (1, 9080, .int, []),
  (1, 9080, .int, []),
  (1, 9080, .int, []),
  (1, 9080, .int, []),
  (0, 4, .int, [28, 0, 0, 43, 44, 0, 0, 37, 38, 39, 40, 41, 42, 45, 46, 47, 48]),
  (0, 3, .int, [0, 29, 30, 31, 32, 33, 34, 35]),
  (1, 1549, .int, []),
  (1, 1549, .int, []),
  (1, 7745, .int, []),
  (1, 1549, .int, []),
  (1, 1549, .boolean, []),
  (1, 512, .int, []),
  (1, 1549, .int, []),
  (1, 4, .int, []),
  (2, 40, .long, []),
  (1, 40, .int, []),
  (1, 40, .int, []),
  (1, 40, .int, []),
  (1, 160, .int, []),
  (1, 40, .int, []),
  (1, 40, .boolean, []),
  (1, 41, .int, []),
  (1, 9080, .int, []),
  (1, 9080, .int, []),
  (1, 9080, .int, []),
  (1, 9080, .int, []),
  (0, 5, .int, [50, 2, 0, 0, 0, 0, 0, 52, 53, 0, 54, 55, 56, 57]),
  (0, 7, .int, [2, 0, 0, 0, 0, 1, 0, 1]),
  (1, 0, .byte, []),
  (1, 40, .int, []),
  (2, 44, .long, []),
  (1, 126, .int, []),
  (1, 126, .int, []),
  (1, 126, .int, []),
  (1, 164, .int, []),
  (0, 0, .int, [59, 60, 2, 2, 2, 0]),
  (1, 3000, .int, []),
  (1, 3000, .int, [])]
def YC_63 : List Ent := [(0, 8, .int, [4, 0, 2, 0, 0, 0, 49, 0, 0, 2, 2, 2, 2]),
  (1, 3000, .byte, []),
  (0, 4, .int, [6, 0, 0, 21, 22, 0, 0, 15, 16, 17, 18, 19, 20, 23, 24, 25, 26]),
  (0, 3, .int, [0, 7, 8, 9, 10, 11, 12, 13]),
  (1, 1549, .int, []),
  (1, 1549, .int, []),
  (1, 7745, .int, []),
  (1, 1549, .int, []),
  (1, 1549, .boolean, []),
  (1, 512, .int, []),
  (1, 1549, .int, []),
  (1, 4, .int, []),
  (2, 40, .long, []),
  (1, 40, .int, []),
  (1, 40, .int, []),
  (1, 40, .int, []),
  (1, 160, .int, []),
  (1, 40, .int, []),
  (1, 40, .boolean, []),
  (1, 41, .int, []),
  (1, 9080, .int, []),
  (1, 9080, .int, []),
  (1, 9080, .int, []),
  (1, 9080, .int, []),
  (0, 4, .int, [28, 0, 0, 43, 44, 0, 0, 37, 38, 39, 40, 41, 42, 45, 46, 47, 48]),
  (0, 3, .int, [0, 29, 30, 31, 32, 33, 34, 35]),
  (1, 1549, .int, []),
  (1, 1549, .int, []),
  (1, 7745, .int, []),
  (1, 1549, .int, []),
  (1, 1549, .boolean, []),
  (1, 512, .int, []),
  (1, 1549, .int, []),
  (1, 4, .int, []),
  (2, 40, .long, []),
  (1, 40, .int, []),
  (1, 40, .int, []),
  (1, 40, .int, []),
  (1, 160, .int, []),
  (1, 40, .int, []),
  (1, 40, .boolean, []),
  (1, 41, .int, []),
  (1, 9080, .int, []),
  (1, 9080, .int, []),
  (1, 9080, .int, []),
  (1, 9080, .int, []),
  (0, 5, .int, [50, 2, 0, 0, 0, 0, 0, 52, 53, 0, 54, 55, 56, 57]),
  (0, 7, .int, [2, 0, 0, 0, 0, 1, 0, 1]),
  (1, 0, .byte, []),
  (1, 40, .int, []),
  (2, 44, .long, []),
  (1, 126, .int, []),
  (1, 126, .int, []),
  (1, 126, .int, []),
  (1, 164, .int, []),
  (0, 0, .int, [59, 60, 61, 2, 2, 0]),
  (1, 3000, .int, []),
  (1, 3000, .int, []),
  (1, 3000, .int, [])]
def YC_64 : List Ent := [(0, 8, .int, [4, 0, 2, 0, 0, 0, 49, 0, 0, 2, 2, 2, 2]),
  (1, 3000, .byte, []),
  (0, 4, .int, [6, 0, 0, 21, 22, 0, 0, 15, 16, 17, 18, 19, 20, 23, 24, 25, 26]),
  (0, 3, .int, [0, 7, 8, 9, 10, 11, 12, 13]),
  (1, 1549, .int, []),
  (1, 1549, .int, []),
  (1, 7745, .int, []),
  (1, 1549, .int, []),
  (1, 1549, .boolean, []),
  (1, 512, .int, []),
  (1, 1549, .int, []),
  (1, 4, .int, []),
  (2, 40, .long, []),
  (1, 40, .int, []),
  (1, 40, .int, []),
  (1, 40, .int, []),
  (1, 160, .int, []),
  (1, 40, .int, []),
  (1, 40, .boolean, []),
  (1, 41, .int, []),
  (1, 9080, .int, []),
  (1, 9080, .int, []),
  (1, 9080, .int, []),
  (1, 9080, .int, []),
  (0, 4, .int, [28, 0, 0, 43, 44, 0, 0, 37, 38, 39, 40, 41, 42, 45, 46, 47, 48]),
  (0, 3, .int, [0, 29, 30, 31, 32, 33, 34, 35]),
  (1, 1549, .int, []),
  (1, 1549, .int, []),
  (1, 7745, .int, []),
  (1, 1549, .int, []),
  (1, 1549, .boolean, []),
  (1, 512, .int, []),
  (1, 1549, .int, []),
  (1, 4, .int, []),
  (2, 40, .long, []),
  (1, 40, .int, []),
  (1, 40, .int, []),
  (1, 40, .int, []),
  (1, 160, .int, []),
  (1, 40, .int, []),
  (1, 40, .boolean, []),
  (1, 41, .int, []),
  (1, 9080, .int, []),
  (1, 9080, .int, []),
  (1, 9080, .int, []),
  (1, 9080, .int, []),
  (0, 5, .int, [50, 2, 0, 0, 0, 0, 0, 52, 53, 0, 54, 55, 56, 57]),
  (0, 7, .int, [2, 0, 0, 0, 0, 1, 0, 1]),
  (1, 0, .byte, []),
  (1, 40, .int, []),
  (2, 44, .long, []),
  (1, 126, .int, []),
  (1, 126, .int, []),
  (1, 126, .int, []),
  (1, 164, .int, []),
  (0, 0, .int, [59, 60, 61, 62, 2, 0]),
  (1, 3000, .int, []),
  (1, 3000, .int, []),
  (1, 3000, .int, []),
  (1, 3000, .int, [])]
def YC_65 : List Ent := [(0, 8, .int, [4, 0, 2, 0, 0, 0, 49, 0, 0, 2, 2, 2, 2]),
  (1, 3000, .byte, []),
  (0, 4, .int, [6, 0, 0, 21, 22, 0, 0, 15, 16, 17, 18, 19, 20, 23, 24, 25, 26]),
  (0, 3, .int, [0, 7, 8, 9, 10, 11, 12, 13]),
  (1, 1549, .int, []),
  (1, 1549, .int, []),
  (1, 7745, .int, []),
  (1, 1549, .int, []),
  (1, 1549, .boolean, []),
  (1, 512, .int, []),
  (1, 1549, .int, []),
  (1, 4, .int, []),
  (2, 40, .long, []),
  (1, 40, .int, []),
  (1, 40, .int, []),
  (1, 40, .int, []),
  (1, 160, .int, []),
  (1, 40, .int, []),
  (1, 40, .boolean, []),
  (1, 41, .int, []),
  (1, 9080, .int, []),
  (1, 9080, .int, []),
  (1, 9080, .int, []),
  (1, 9080, .int, []),
  (0, 4, .int, [28, 0, 0, 43, 44, 0, 0, 37, 38, 39, 40, 41, 42, 45, 46, 47, 48]),
  (0, 3, .int, [0, 29, 30, 31, 32, 33, 34, 35]),
  (1, 1549, .int, []),
  (1, 1549, .int, []),
  (1, 7745, .int, []),
  (1, 1549, .int, []),
  (1, 1549, .boolean, []),
  (1, 512, .int, []),
  (1, 1549, .int, []),
  (1, 4, .int, []),
  (2, 40, .long, []),
  (1, 40, .int, []),
  (1, 40, .int, []),
  (1, 40, .int, []),
  (1, 160, .int, []),
  (1, 40, .int, []),
  (1, 40, .boolean, []),
  (1, 41, .int, []),
  (1, 9080, .int, []),
  (1, 9080, .int, []),
  (1, 9080, .int, []),
  (1, 9080, .int, []),
  (0, 5, .int, [50, 2, 0, 0, 0, 0, 0, 52, 53, 0, 54, 55, 56, 57]),
  (0, 7, .int, [2, 0, 0, 0, 0, 1, 0, 1]),
  (1, 0, .byte, []),
  (1, 40, .int, []),
  (2, 44, .long, []),
  (1, 126, .int, []),
  (1, 126, .int, []),
  (1, 126, .int, []),
  (1, 164, .int, []),
  (0, 0, .int, [59, 60, 61, 62, 63, 0]),
  (1, 3000, .int, []),
  (1, 3000, .int, []),
  (1, 3000, .int, []),
  (1, 3000, .int, []),
  (1, 3000, .int, [])]
def YC_66 : List Ent := [(0, 8, .int, [4, 0, 2, 0, 0, 0, 49, 0, 0, 2, 58, 2, 2]),
  (1, 3000, .byte, []),
  (0, 4, .int, [6, 0, 0, 21, 22, 0, 0, 15, 16, 17, 18, 19, 20, 23, 24, 25, 26]),
  (0, 3, .int, [0, 7, 8, 9, 10, 11, 12, 13]),
  (1, 1549, .int, []),
  (1, 1549, .int, []),
  (1, 7745, .int, []),
  (1, 1549, .int, []),
  (1, 1549, .boolean, []),
  (1, 512, .int, []),
  (1, 1549, .int, []),
  (1, 4, .int, []),
  (2, 40, .long, []),
  (1, 40, .int, []),
  (1, 40, .int, []),
  (1, 40, .int, []),
  (1, 160, .int, []),
  (1, 40, .int, []),
  (1, 40, .boolean, []),
  (1, 41, .int, []),
  (1, 9080, .int, []),
  (1, 9080, .int, []),
  (1, 9080, .int, []),
  (1, 9080, .int, []),
  (0, 4, .int, [28, 0, 0, 43, 44, 0, 0, 37, 38, 39, 40, 41, 42, 45, 46, 47, 48]),
  (0, 3, .int, [0, 29, 30, 31, 32, 33, 34, 35]),
  (1, 1549, .int, []),
  (1, 1549, .int, []),
  (1, 7745, .int, []),
  (1, 1549, .int, []),
  (1, 1549, .boolean, []),
  (1, 512, .int, []),
  (1, 1549, .int, []),
  (1, 4, .int, []),
  (2, 40, .long, []),
  (1, 40, .int, []),
  (1, 40, .int, []),
  (1, 40, .int, []),
  (1, 160, .int, []),
  (1, 40, .int, []),
  (1, 40, .boolean, []),
  (1, 41, .int, []),
  (1, 9080, .int, []),
  (1, 9080, .int, []),
  (1, 9080, .int, []),
  (1, 9080, .int, []),
  (0, 5, .int, [50, 2, 0, 0, 0, 0, 0, 52, 53, 0, 54, 55, 56, 57]),
  (0, 7, .int, [2, 0, 0, 0, 0, 1, 0, 1]),
  (1, 0, .byte, []),
  (1, 40, .int, []),
  (2, 44, .long, []),
  (1, 126, .int, []),
  (1, 126, .int, []),
  (1, 126, .int, []),
  (1, 164, .int, []),
  (0, 0, .int, [59, 60, 61, 62, 63, 0]),
  (1, 3000, .int, []),
  (1, 3000, .int, []),
  (1, 3000, .int, []),
  (1, 3000, .int, []),
  (1, 3000, .int, [])]
def YC_67 : List Ent := [(0, 8, .int, [4, 0, 2, 0, 0, 0, 49, 0, 0, 2, 58, 2, 2]),
  (1, 3000, .byte, []),
  (0, 4, .int, [6, 0, 0, 21, 22, 0, 0, 15, 16, 17, 18, 19, 20, 23, 24, 25, 26]),
  (0, 3, .int, [0, 7, 8, 9, 10, 11, 12, 13]),
  (1, 1549, .int, []),
  (1, 1549, .int, []),
  (1, 7745, .int, []),
  (1, 1549, .int, []),
  (1, 1549, .boolean, []),
  (1, 512, .int, []),
  (1, 1549, .int, []),
  (1, 4, .int, []),
  (2, 40, .long, []),
  (1, 40, .int, []),
  (1, 40, .int, []),
  (1, 40, .int, []),
  (1, 160, .int, []),
  (1, 40, .int, []),
  (1, 40, .boolean, []),
  (1, 41, .int, []),
  (1, 9080, .int, []),
  (1, 9080, .int, []),
  (1, 9080, .int, []),
  (1, 9080, .int, []),
  (0, 4, .int, [28, 0, 0, 43, 44, 0, 0, 37, 38, 39, 40, 41, 42, 45, 46, 47, 48]),
  (0, 3, .int, [0, 29, 30, 31, 32, 33, 34, 35]),
  (1, 1549, .int, []),
  (1, 1549, .int, []),
  (1, 7745, .int, []),
  (1, 1549, .int, []),
  (1, 1549, .boolean, []),
  (1, 512, .int, []),
  (1, 1549, .int, []),
  (1, 4, .int, []),
  (2, 40, .long, []),
  (1, 40, .int, []),
  (1, 40, .int, []),
  (1, 40, .int, []),
  (1, 160, .int, []),
  (1, 40, .int, []),
  (1, 40, .boolean, []),
  (1, 41, .int, []),
  (1, 9080, .int, []),
  (1, 9080, .int, []),
  (1, 9080, .int, []),
  (1, 9080, .int, []),
  (0, 5, .int, [50, 2, 0, 0, 0, 0, 0, 52, 53, 0, 54, 55, 56, 57]),
  (0, 7, .int, [2, 0, 0, 0, 0, 1, 0, 1]),
  (1, 0, .byte, []),
  (1, 40, .int, []),
  (2, 44, .long, []),
  (1, 126, .int, []),
  (1, 126, .int, []),
  (1, 126, .int, []),
  (1, 164, .int, []),
  (0, 0, .int, [59, 60, 61, 62, 63, 0]),
  (1, 3000, .int, []),
  (1, 3000, .int, []),
  (1, 3000, .int, []),
  (1, 3000, .int, []),
  (1, 3000, .int, []),
  (0, 2, .int, [2, 2, 2, 0, 0, 0, 2, 2, 2, 2, 2, 2, 2, 2, 0])]
def YC_68 : List Ent := [(0, 8, .int, [4, 0, 2, 0, 0, 0, 49, 0, 0, 2, 58, 2, 2]),
  (1, 3000, .byte, []),
  (0, 4, .int, [6, 0, 0, 21, 22, 0, 0, 15, 16, 17, 18, 19, 20, 23, 24, 25, 26]),
  (0, 3, .int, [0, 7, 8, 9, 10, 11, 12, 13]),
  (1, 1549, .int, []),
  (1, 1549, .int, []),
  (1, 7745, .int, []),
  (1, 1549, .int, []),
  (1, 1549, .boolean, []),
  (1, 512, .int, []),
  (1, 1549, .int, []),
  (1, 4, .int, []),
  (2, 40, .long, []),
  (1, 40, .int, []),
  (1, 40, .int, []),
  (1, 40, .int, []),
  (1, 160, .int, []),
  (1, 40, .int, []),
  (1, 40, .boolean, []),
  (1, 41, .int, []),
  (1, 9080, .int, []),
  (1, 9080, .int, []),
  (1, 9080, .int, []),
  (1, 9080, .int, []),
  (0, 4, .int, [28, 0, 0, 43, 44, 0, 0, 37, 38, 39, 40, 41, 42, 45, 46, 47, 48]),
  (0, 3, .int, [0, 29, 30, 31, 32, 33, 34, 35]),
  (1, 1549, .int, []),
  (1, 1549, .int, []),
  (1, 7745, .int, []),
  (1, 1549, .int, []),
  (1, 1549, .boolean, []),
  (1, 512, .int, []),
  (1, 1549, .int, []),
  (1, 4, .int, []),
  (2, 40, .long, []),
  (1, 40, .int, []),
  (1, 40, .int, []),
  (1, 40, .int, []),
  (1, 160, .int, []),
  (1, 40, .int, []),
  (1, 40, .boolean, []),
  (1, 41, .int, []),
  (1, 9080, .int, []),
  (1, 9080, .int, []),
  (1, 9080, .int, []),
  (1, 9080, .int, []),
  (0, 5, .int, [50, 2, 0, 0, 0, 0, 0, 52, 53, 0, 54, 55, 56, 57]),
  (0, 7, .int, [2, 0, 0, 0, 0, 1, 0, 1]),
  (1, 0, .byte, []),
  (1, 40, .int, []),
  (2, 44, .long, []),
  (1, 126, .int, []),
  (1, 126, .int, []),
  (1, 126, .int, []),
  (1, 164, .int, []),
  (0, 0, .int, [59, 60, 61, 62, 63, 0]),
  (1, 3000, .int, []),
  (1, 3000, .int, []),
  (1, 3000, .int, []),
  (1, 3000, .int, []),
  (1, 3000, .int, []),
  (0, 2, .int, [2, 2, 2, 0, 0, 0, 65, 2, 2, 2, 2, 2, 2, 2, 0]),
  (1, 40, .boolean, [])]
def YC_69 : List Ent := [(0, 8, .int, [4, 0, 2, 0, 0, 0, 49, 0, 0, 2, 58, 2, 2]),
  (1, 3000, .byte, []),
  (0, 4, .int, [6, 0, 0, 21, 22, 0, 0, 15, 16, 17, 18, 19, 20, 23, 24, 25, 26]),
  (0, 3, .int, [0, 7, 8, 9, 10, 11, 12, 13]),
  (1, 1549, .int, []),
  (1, 1549, .int, []),
  (1, 7745, .int, []),
  (1, 1549, .int, []),
  (1, 1549, .boolean, []),
  (1, 512, .int, []),
  (1, 1549, .int, []),
  (1, 4, .int, []),
  (2, 40, .long, []),
  (1, 40, .int, []),
  (1, 40, .int, []),
  (1, 40, .int, []),
  (1, 160, .int, []),
  (1, 40, .int, []),
  (1, 40, .boolean, []),
  (1, 41, .int, []),
  (1, 9080, .int, []),
  (1, 9080, .int, []),
  (1, 9080, .int, []),
  (1, 9080, .int, []),
  (0, 4, .int, [28, 0, 0, 43, 44, 0, 0, 37, 38, 39, 40, 41, 42, 45, 46, 47, 48]),
  (0, 3, .int, [0, 29, 30, 31, 32, 33, 34, 35]),
  (1, 1549, .int, []),
  (1, 1549, .int, []),
  (1, 7745, .int, []),
  (1, 1549, .int, []),
  (1, 1549, .boolean, []),
  (1, 512, .int, []),
  (1, 1549, .int, []),
  (1, 4, .int, []),
  (2, 40, .long, []),
  (1, 40, .int, []),
  (1, 40, .int, []),
  (1, 40, .int, []),
  (1, 160, .int, []),
  (1, 40, .int, []),
  (1, 40, .boolean, []),
  (1, 41, .int, []),
  (1, 9080, .int, []),
  (1, 9080, .int, []),
  (1, 9080, .int, []),
  (1, 9080, .int, []),
  (0, 5, .int, [50, 2, 0, 0, 0, 0, 0, 52, 53, 0, 54, 55, 56, 57]),
  (0, 7, .int, [2, 0, 0, 0, 0, 1, 0, 1]),
  (1, 0, .byte, []),
  (1, 40, .int, []),
  (2, 44, .long, []),
  (1, 126, .int, []),
  (1, 126, .int, []),
  (1, 126, .int, []),
  (1, 164, .int, []),
  (0, 0, .int, [59, 60, 61, 62, 63, 0]),
  (1, 3000, .int, []),
  (1, 3000, .int, []),
  (1, 3000, .int, []),
  (1, 3000, .int, []),
  (1, 3000, .int, []),
  (0, 2, .int, [2, 2, 2, 0, 0, 0, 65, 66, 2, 2, 2, 2, 2, 2, 0]),
  (1, 40, .boolean, []),
  (1, 160, .int, [])]
def YC_70 : List Ent := [(0, 8, .int, [4, 0, 2, 0, 0, 0, 49, 0, 0, 2, 58, 2, 2]),
  (1, 3000, .byte, []),
  (0, 4, .int, [6, 0, 0, 21, 22, 0, 0, 15, 16, 17, 18, 19, 20, 23, 24, 25, 26]),
  (0, 3, .int, [0, 7, 8, 9, 10, 11, 12, 13]),
  (1, 1549, .int, []),
  (1, 1549, .int, []),
  (1, 7745, .int, []),
  (1, 1549, .int, []),
  (1, 1549, .boolean, []),
  (1, 512, .int, []),
  (1, 1549, .int, []),
  (1, 4, .int, []),
  (2, 40, .long, []),
  (1, 40, .int, []),
  (1, 40, .int, []),
  (1, 40, .int, []),
  (1, 160, .int, []),
  (1, 40, .int, []),
  (1, 40, .boolean, []),
  (1, 41, .int, []),
  (1, 9080, .int, []),
  (1, 9080, .int, []),
  (1, 9080, .int, []),
  (1, 9080, .int, []),
  (0, 4, .int, [28, 0, 0, 43, 44, 0, 0, 37, 38, 39, 40, 41, 42, 45, 46, 47, 48]),
  (0, 3, .int, [0, 29, 30, 31, 32, 33, 34, 35]),
  (1, 1549, .int, []),
  (1, 1549, .int, []),
  (1, 7745, .int, []),
  (1, 1549, .int, []),
  (1, 1549, .boolean, []),
  (1, 512, .int, []),
  (1, 1549, .int, []),
  (1, 4, .int, []),
  (2, 40, .long, []),
  (1, 40, .int, []),
  (1, 40, .int, []),
  (1, 40, .int, []),
  (1, 160, .int, []),
  (1, 40, .int, []),
  (1, 40, .boolean, []),
  (1, 41, .int, []),
  (1, 9080, .int, []),
  (1, 9080, .int, []),
  (1, 9080, .int, []),
  (1, 9080, .int, []),
  (0, 5, .int, [50, 2, 0, 0, 0, 0, 0, 52, 53, 0, 54, 55, 56, 57]),
  (0, 7, .int, [2, 0, 0, 0, 0, 1, 0, 1]),
  (1, 0, .byte, []),
  (1, 40, .int, []),
  (2, 44, .long, []),
  (1, 126, .int, []),
  (1, 126, .int, []),
  (1, 126, .int, []),
  (1, 164, .int, []),
  (0, 0, .int, [59, 60, 61, 62, 63, 0]),
  (1, 3000, .int, []),
  (1, 3000, .int, []),
  (1, 3000, .int, []),
  (1, 3000, .int, []),
  (1, 3000, .int, []),
  (0, 2, .int, [2, 2, 2, 0, 0, 0, 65, 66, 67, 2, 2, 2, 2, 2, 0]),
  (1, 40, .boolean, []),
  (1, 160, .int, []),
  (1, 40, .int, [])]
def YC_71 : List Ent := [(0, 8, .int, [4, 0, 2, 0, 0, 0, 49, 0, 0, 2, 58, 2, 2]),
  (1, 3000, .byte, []),
  (0, 4, .int, [6, 0, 0, 21, 22, 0, 0, 15, 16, 17, 18, 19, 20, 23, 24, 25, 26]),
  (0, 3, .int, [0, 7, 8, 9, 10, 11, 12, 13]),
  (1, 1549, .int, []),
  (1, 1549, .int, []),
  (1, 7745, .int, []),
  (1, 1549, .int, []),
  (1, 1549, .boolean, []),
  (1, 512, .int, []),
  (1, 1549, .int, []),
  (1, 4, .int, []),
  (2, 40, .long, []),
  (1, 40, .int, []),
  (1, 40, .int, []),
  (1, 40, .int, []),
  (1, 160, .int, []),
  (1, 40, .int, []),
  (1, 40, .boolean, []),
  (1, 41, .int, []),
  (1, 9080, .int, []),
  (1, 9080, .int, []),
  (1, 9080, .int, []),
  (1, 9080, .int, []),
  (0, 4, .int, [28, 0, 0, 43, 44, 0, 0, 37, 38, 39, 40, 41, 42, 45, 46, 47, 48]),
  (0, 3, .int, [0, 29, 30, 31, 32, 33, 34, 35]),
  (1, 1549, .int, []),
  (1, 1549, .int, []),
  (1, 7745, .int, []),
  (1, 1549, .int, []),
  (1, 1549, .boolean, []),
  (1, 512, .int, []),
  (1, 1549, .int, []),
  (1, 4, .int, []),
  (2, 40, .long, []),
  (1, 40, .int, []),
  (1, 40, .int, []),
  (1, 40, .int, []),
  (1, 160, .int, []),
  (1, 40, .int, []),
  (1, 40, .boolean, []),
  (1, 41, .int, []),
  (1, 9080, .int, []),
  (1, 9080, .int, []),
  (1, 9080, .int, []),
  (1, 9080, .int, []),
  (0, 5, .int, [50, 2, 0, 0, 0, 0, 0, 52, 53, 0, 54, 55, 56, 57]),
  (0, 7, .int, [2, 0, 0, 0, 0, 1, 0, 1]),
  (1, 0, .byte, []),
  (1, 40, .int, []),
  (2, 44, .long, []),
  (1, 126, .int, []),
  (1, 126, .int, []),
  (1, 126, .int, []),
  (1, 164, .int, []),
  (0, 0, .int, [59, 60, 61, 62, 63, 0]),
  (1, 3000, .int, []),
  (1, 3000, .int, []),
  (1, 3000, .int, []),
  (1, 3000, .int, []),
  (1, 3000, .int, []),
  (0, 2, .int, [2, 2, 2, 0, 0, 0, 65, 66, 67, 68, 2, 2, 2, 2, 0]),
  (1, 40, .boolean, []),
  (1, 160, .int, []),
  (1, 40, .int, []),
  (1, 40, .int, [])]
def YC_72 : List Ent := [(0, 8, .int, [4, 0, 2, 0, 0, 0, 49, 0, 0, 2, 58, 2, 2]),
  (1, 3000, .byte, []),
  (0, 4, .int, [6, 0, 0, 21, 22, 0, 0, 15, 16, 17, 18, 19, 20, 23, 24, 25, 26]),
  (0, 3, .int, [0, 7, 8, 9, 10, 11, 12, 13]),
  (1, 1549, .int, []),
  (1, 1549, .int, []),
  (1, 7745, .int, []),
  (1, 1549, .int, []),
  (1, 1549, .boolean, []),
  (1, 512, .int, []),
  (1, 1549, .int, []),
  (1, 4, .int, []),
  (2, 40, .long, []),
  (1, 40, .int, []),
  (1, 40, .int, []),
  (1, 40, .int, []),
  (1, 160, .int, []),
  (1, 40, .int, []),
  (1, 40, .boolean, []),
  (1, 41, .int, []),
  (1, 9080, .int, []),
  (1, 9080, .int, []),
  (1, 9080, .int, []),
  (1, 9080, .int, []),
  (0, 4, .int, [28, 0, 0, 43, 44, 0, 0, 37, 38, 39, 40, 41, 42, 45, 46, 47, 48]),
  (0, 3, .int, [0, 29, 30, 31, 32, 33, 34, 35]),
  (1, 1549, .int, []),
  (1, 1549, .int, []),
  (1, 7745, .int, []),
  (1, 1549, .int, []),
  (1, 1549, .boolean, []),
  (1, 512, .int, []),
  (1, 1549, .int, []),
  (1, 4, .int, []),
  (2, 40, .long, []),
  (1, 40, .int, []),
  (1, 40, .int, []),
  (1, 40, .int, []),
  (1, 160, .int, []),
  (1, 40, .int, []),
  (1, 40, .boolean, []),
  (1, 41, .int, []),
  (1, 9080, .int, []),
  (1, 9080, .int, []),
  (1, 9080, .int, []),
  (1, 9080, .int, []),
  (0, 5, .int, [50, 2, 0, 0, 0, 0, 0, 52, 53, 0, 54, 55, 56, 57]),
  (0, 7, .int, [2, 0, 0, 0, 0, 1, 0, 1]),
  (1, 0, .byte, []),
  (1, 40, .int, []),
  (2, 44, .long, []),
  (1, 126, .int, []),
  (1, 126, .int, []),
  (1, 126, .int, []),
  (1, 164, .int, []),
  (0, 0, .int, [59, 60, 61, 62, 63, 0]),
  (1, 3000, .int, []),
  (1, 3000, .int, []),
  (1, 3000, .int, []),
  (1, 3000, .int, []),
  (1, 3000, .int, []),
  (0, 2, .int, [2, 2, 2, 0, 0, 0, 65, 66, 67, 68, 69, 2, 2, 2, 0]),
  (1, 40, .boolean, []),
  (1, 160, .int, []),
  (1, 40, .int, []),
  (1, 40, .int, []),
  (1, 44, .int, [])]
def YC_73 : List Ent := [(0, 8, .int, [4, 0, 2, 0, 0, 0, 49, 0, 0, 2, 58, 2, 2]),
  (1, 3000, .byte, []),
  (0, 4, .int, [6, 0, 0, 21, 22, 0, 0, 15, 16, 17, 18, 19, 20, 23, 24, 25, 26]),
  (0, 3, .int, [0, 7, 8, 9, 10, 11, 12, 13]),
  (1, 1549, .int, []),
  (1, 1549, .int, []),
  (1, 7745, .int, []),
  (1, 1549, .int, []),
  (1, 1549, .boolean, []),
  (1, 512, .int, []),
  (1, 1549, .int, []),
  (1, 4, .int, []),
  (2, 40, .long, []),
  (1, 40, .int, []),
  (1, 40, .int, []),
  (1, 40, .int, []),
  (1, 160, .int, []),
  (1, 40, .int, []),
  (1, 40, .boolean, []),
  (1, 41, .int, []),
  (1, 9080, .int, []),
  (1, 9080, .int, []),
  (1, 9080, .int, []),
  (1, 9080, .int, []),
  (0, 4, .int, [28, 0, 0, 43, 44, 0, 0, 37, 38, 39, 40, 41, 42, 45, 46, 47, 48]),
  (0, 3, .int, [0, 29, 30, 31, 32, 33, 34, 35]),
  (1, 1549, .int, []),
  (1, 1549, .int, []),
  (1, 7745, .int, []),
  (1, 1549, .int, []),
  (1, 1549, .boolean, []),
  (1, 512, .int, []),
  (1, 1549, .int, []),
  (1, 4, .int, []),
  (2, 40, .long, []),
  (1, 40, .int, []),
  (1, 40, .int, []),
  (1, 40, .int, []),
  (1, 160, .int, []),
  (1, 40, .int, []),
  (1, 40, .boolean, []),
  (1, 41, .int, []),
  (1, 9080, .int, []),
  (1, 9080, .int, []),
  (1, 9080, .int, []),
  (1, 9080, .int, []),
  (0, 5, .int, [50, 2, 0, 0, 0, 0, 0, 52, 53, 0, 54, 55, 56, 57]),
  (0, 7, .int, [2, 0, 0, 0, 0, 1, 0, 1]),
  (1, 0, .byte, []),
  (1, 40, .int, []),
  (2, 44, .long, []),
  (1, 126, .int, []),
  (1, 126, .int, []),
  (1, 126, .int, []),
  (1, 164, .int, []),
  (0, 0, .int, [59, 60, 61, 62, 63, 0]),
  (1, 3000, .int, []),
  (1, 3000, .int, []),
  (1, 3000, .int, []),
  (1, 3000, .int, []),
  (1, 3000, .int, []),
  (0, 2, .int, [2, 2, 2, 0, 0, 0, 65, 66, 67, 68, 69, 70, 2, 2, 0]),
  (1, 40, .boolean, []),
  (1, 160, .int, []),
  (1, 40, .int, []),
  (1, 40, .int, []),
  (1, 44, .int, []),
  (1, 3000, .int, [])]
def YC_74 : List Ent := [(0, 8, .int, [4, 0, 2, 0, 0, 0, 49, 0, 0, 2, 58, 2, 2]),
  (1, 3000, .byte, []),
  (0, 4, .int, [6, 0, 0, 21, 22, 0, 0, 15, 16, 17, 18, 19, 20, 23, 24, 25, 26]),
  (0, 3, .int, [0, 7, 8, 9, 10, 11, 12, 13]),
  (1, 1549, .int, []),
  (1, 1549, .int, []),
  (1, 7745, .int, []),
  (1, 1549, .int, []),
  (1, 1549, .boolean, []),
  (1, 512, .int, []),
  (1, 1549, .int, []),
  (1, 4, .int, []),
  (2, 40, .long, []),
  (1, 40, .int, []),
  (1, 40, .int, []),
  (1, 40, .int, []),
  (1, 160, .int, []),
  (1, 40, .int, []),
  (1, 40, .boolean, []),
  (1, 41, .int, []),
  (1, 9080, .int, []),
  (1, 9080, .int, []),
  (1, 9080, .int, []),
  (1, 9080, .int, []),
  (0, 4, .int, [28, 0, 0, 43, 44, 0, 0, 37, 38, 39, 40, 41, 42, 45, 46, 47, 48]),
  (0, 3, .int, [0, 29, 30, 31, 32, 33, 34, 35]),
  (1, 1549, .int, []),
  (1, 1549, .int, []),
  (1, 7745, .int, []),
  (1, 1549, .int, []),
  (1, 1549, .boolean, []),
  (1, 512, .int, []),
  (1, 1549, .int, []),
  (1, 4, .int, []),
  (2, 40, .long, []),
  (1, 40, .int, []),
  (1, 40, .int, []),
  (1, 40, .int, []),
  (1, 160, .int, []),
  (1, 40, .int, []),
  (1, 40, .boolean, []),
  (1, 41, .int, []),
  (1, 9080, .int, []),
  (1, 9080, .int, []),
  (1, 9080, .int, []),
  (1, 9080, .int, []),
  (0, 5, .int, [50, 2, 0, 0, 0, 0, 0, 52, 53, 0, 54, 55, 56, 57]),
  (0, 7, .int, [2, 0, 0, 0, 0, 1, 0, 1]),
  (1, 0, .byte, []),
  (1, 40, .int, []),
  (2, 44, .long, []),
  (1, 126, .int, []),
  (1, 126, .int, []),
  (1, 126, .int, []),
  (1, 164, .int, []),
  (0, 0, .int, [59, 60, 61, 62, 63, 0]),
  (1, 3000, .int, []),
  (1, 3000, .int, []),
  (1, 3000, .int, []),
  (1, 3000, .int, []),
  (1, 3000, .int, []),
  (0, 2, .int, [2, 2, 2, 0, 0, 0, 65, 66, 67, 68, 69, 70, 71, 2, 0]),
  (1, 40, .boolean, []),
  (1, 160, .int, []),
  (1, 40, .int, []),
  (1, 40, .int, []),
  (1, 44, .int, []),
  (1, 3000, .int, []),
  (1, 3000, .int, [])]
def YC_75 : List Ent := [(0, 8, .int, [4, 0, 2, 0, 0, 0, 49, 0, 0, 2, 58, 2, 2]),
  (1, 3000, .byte, []),
  (0, 4, .int, [6, 0, 0, 21, 22, 0, 0, 15, 16, 17, 18, 19, 20, 23, 24, 25, 26]),
  (0, 3, .int, [0, 7, 8, 9, 10, 11, 12, 13]),
  (1, 1549, .int, []),
  (1, 1549, .int, []),
  (1, 7745, .int, []),
  (1, 1549, .int, []),
  (1, 1549, .boolean, []),
  (1, 512, .int, []),
  (1, 1549, .int, []),
  (1, 4, .int, []),
  (2, 40, .long, []),
  (1, 40, .int, []),
  (1, 40, .int, []),
  (1, 40, .int, []),
  (1, 160, .int, []),
  (1, 40, .int, []),
  (1, 40, .boolean, []),
  (1, 41, .int, []),
  (1, 9080, .int, []),
  (1, 9080, .int, []),
  (1, 9080, .int, []),
  (1, 9080, .int, []),
  (0, 4, .int, [28, 0, 0, 43, 44, 0, 0, 37, 38, 39, 40, 41, 42, 45, 46, 47, 48]),
  (0, 3, .int, [0, 29, 30, 31, 32, 33, 34, 35]),
  (1, 1549, .int, []),
  (1, 1549, .int, []),
  (1, 7745, .int, []),
  (1, 1549, .int, []),
  (1, 1549, .boolean, []),
  (1, 512, .int, []),
  (1, 1549, .int, []),
  (1, 4, .int, []),
  (2, 40, .long, []),
  (1, 40, .int, []),
  (1, 40, .int, []),
  (1, 40, .int, []),
  (1, 160, .int, []),
  (1, 40, .int, []),
  (1, 40, .boolean, []),
  (1, 41, .int, []),
  (1, 9080, .int, []),
  (1, 9080, .int, []),
  (1, 9080, .int, []),
  (1, 9080, .int, []),
  (0, 5, .int, [50, 2, 0, 0, 0, 0, 0, 52, 53, 0, 54, 55, 56, 57]),
  (0, 7, .int, [2, 0, 0, 0, 0, 1, 0, 1]),
  (1, 0, .byte, []),
  (1, 40, .int, []),
  (2, 44, .long, []),
  (1, 126, .int, []),
  (1, 126, .int, []),
  (1, 126, .int, []),
  (1, 164, .int, []),
  (0, 0, .int, [59, 60, 61, 62, 63, 0]),
  (1, 3000, .int, []),
  (1, 3000, .int, []),
  (1, 3000, .int, []),
  (1, 3000, .int, []),
  (1, 3000, .int, []),
  (0, 2, .int, [2, 2, 2, 0, 0, 0, 65, 66, 67, 68, 69, 70, 71, 72, 0]),
  (1, 40, .boolean, []),
  (1, 160, .int, []),
  (1, 40, .int, []),
  (1, 40, .int, []),
  (1, 44, .int, []),
  (1, 3000, .int, []),
  (1, 3000, .int, []),
  (1, 3000, .int, [])]
def YC_76 : List Ent := [(0, 8, .int, [4, 0, 2, 0, 0, 0, 49, 0, 0, 2, 58, 64, 2]),
  (1, 3000, .byte, []),
  (0, 4, .int, [6, 0, 0, 21, 22, 0, 0, 15, 16, 17, 18, 19, 20, 23, 24, 25, 26]),
  (0, 3, .int, [0, 7, 8, 9, 10, 11, 12, 13]),
  (1, 1549, .int, []),
  (1, 1549, .int, []),
  (1, 7745, .int, []),
  (1, 1549, .int, []),
  (1, 1549, .boolean, []),
  (1, 512, .int, []),
  (1, 1549, .int, []),
  (1, 4, .int, []),
  (2, 40, .long, []),
  (1, 40, .int, []),
  (1, 40, .int, []),
  (1, 40, .int, []),
  (1, 160, .int, []),
  (1, 40, .int, []),
  (1, 40, .boolean, []),
  (1, 41, .int, []),
  (1, 9080, .int, []),
  (1, 9080, .int, []),
  (1, 9080, .int, []),
  (1, 9080, .int, []),
  (0, 4, .int, [28, 0, 0, 43, 44, 0, 0, 37, 38, 39, 40, 41, 42, 45, 46, 47, 48]),
  (0, 3, .int, [0, 29, 30, 31, 32, 33, 34, 35]),
  (1, 1549, .int, []),
  (1, 1549, .int, []),
  (1, 7745, .int, []),
  (1, 1549, .int, []),
  (1, 1549, .boolean, []),
  (1, 512, .int, []),
  (1, 1549, .int, []),
  (1, 4, .int, []),
  (2, 40, .long, []),
  (1, 40, .int, []),
  (1, 40, .int, []),
  (1, 40, .int, []),
  (1, 160, .int, []),
  (1, 40, .int, []),
  (1, 40, .boolean, []),
  (1, 41, .int, []),
  (1, 9080, .int, []),
  (1, 9080, .int, []),
  (1, 9080, .int, []),
  (1, 9080, .int, []),
  (0, 5, .int, [50, 2, 0, 0, 0, 0, 0, 52, 53, 0, 54, 55, 56, 57]),
  (0, 7, .int, [2, 0, 0, 0, 0, 1, 0, 1]),
  (1, 0, .byte, []),
  (1, 40, .int, []),
  (2, 44, .long, []),
  (1, 126, .int, []),
  (1, 126, .int, []),
  (1, 126, .int, []),
  (1, 164, .int, []),
  (0, 0, .int, [59, 60, 61, 62, 63, 0]),
  (1, 3000, .int, []),
  (1, 3000, .int, []),
  (1, 3000, .int, []),
  (1, 3000, .int, []),
  (1, 3000, .int, []),
  (0, 2, .int, [2, 2, 2, 0, 0, 0, 65, 66, 67, 68, 69, 70, 71, 72, 0]),
  (1, 40, .boolean, []),
  (1, 160, .int, []),
  (1, 40, .int, []),
  (1, 40, .int, []),
  (1, 44, .int, []),
  (1, 3000, .int, []),
  (1, 3000, .int, []),
  (1, 3000, .int, [])]
def YC_77 : List Ent := [(0, 8, .int, [4, 0, 2, 0, 0, 0, 49, 0, 0, 2, 58, 64, 2]),
  (1, 3000, .byte, []),
  (0, 4, .int, [6, 0, 0, 21, 22, 0, 0, 15, 16, 17, 18, 19, 20, 23, 24, 25, 26]),
  (0, 3, .int, [0, 7, 8, 9, 10, 11, 12, 13]),
  (1, 1549, .int, []),
  (1, 1549, .int, []),
  (1, 7745, .int, []),
  (1, 1549, .int, []),
  (1, 1549, .boolean, []),
  (1, 512, .int, []),
  (1, 1549, .int, []),
  (1, 4, .int, []),
  (2, 40, .long, []),
  (1, 40, .int, []),
  (1, 40, .int, []),
  (1, 40, .int, []),
  (1, 160, .int, []),
  (1, 40, .int, []),
  (1, 40, .boolean, []),
  (1, 41, .int, []),
  (1, 9080, .int, []),
  (1, 9080, .int, []),
  (1, 9080, .int, []),
  (1, 9080, .int, []),
  (0, 4, .int, [28, 0, 0, 43, 44, 0, 0, 37, 38, 39, 40, 41, 42, 45, 46, 47, 48]),
  (0, 3, .int, [0, 29, 30, 31, 32, 33, 34, 35]),
  (1, 1549, .int, []),
  (1, 1549, .int, []),
  (1, 7745, .int, []),
  (1, 1549, .int, []),
  (1, 1549, .boolean, []),
  (1, 512, .int, []),
  (1, 1549, .int, []),
  (1, 4, .int, []),
  (2, 40, .long, []),
  (1, 40, .int, []),
  (1, 40, .int, []),
  (1, 40, .int, []),
  (1, 160, .int, []),
  (1, 40, .int, []),
  (1, 40, .boolean, []),
  (1, 41, .int, []),
  (1, 9080, .int, []),
  (1, 9080, .int, []),
  (1, 9080, .int, []),
  (1, 9080, .int, []),
  (0, 5, .int, [50, 2, 0, 0, 0, 0, 0, 52, 53, 0, 54, 55, 56, 57]),
  (0, 7, .int, [2, 0, 0, 0, 0, 1, 0, 1]),
  (1, 0, .byte, []),
  (1, 40, .int, []),
  (2, 44, .long, []),
  (1, 126, .int, []),
  (1, 126, .int, []),
  (1, 126, .int, []),
  (1, 164, .int, []),
  (0, 0, .int, [59, 60, 61, 62, 63, 0]),
  (1, 3000, .int, []),
  (1, 3000, .int, []),
  (1, 3000, .int, []),
  (1, 3000, .int, []),
  (1, 3000, .int, []),
  (0, 2, .int, [2, 2, 2, 0, 0, 0, 65, 66, 67, 68, 69, 70, 71, 72, 0]),
  (1, 40, .boolean, []),
  (1, 160, .int, []),
  (1, 40, .int, []),
  (1, 40, .int, []),
  (1, 44, .int, []),
  (1, 3000, .int, []),
  (1, 3000, .int, []),
  (1, 3000, .int, []),
  (0, 6, .int, [2, 2, 2, 0, 0, 0, 0, 0, 0, 0, 0, 0, 2, 2, 2, 0, 2, 2, 0, 2])]
def YC_78 : List Ent := [(0, 8, .int, [4, 0, 2, 0, 0, 0, 49, 0, 0, 2, 58, 64, 2]),
  (1, 3000, .byte, []),
  (0, 4, .int, [6, 0, 0, 21, 22, 0, 0, 15, 16, 17, 18, 19, 20, 23, 24, 25, 26]),
  (0, 3, .int, [0, 7, 8, 9, 10, 11, 12, 13]),
  (1, 1549, .int, []),
  (1, 1549, .int, []),
  (1, 7745, .int, []),
  (1, 1549, .int, []),
  (1, 1549, .boolean, []),
  (1, 512, .int, []),
  (1, 1549, .int, []),
  (1, 4, .int, []),
  (2, 40, .long, []),
  (1, 40, .int, []),
  (1, 40, .int, []),
  (1, 40, .int, []),
  (1, 160, .int, []),
  (1, 40, .int, []),
  (1, 40, .boolean, []),
  (1, 41, .int, []),
  (1, 9080, .int, []),
  (1, 9080, .int, []),
  (1, 9080, .int, []),
  (1, 9080, .int, []),
  (0, 4, .int, [28, 0, 0, 43, 44, 0, 0, 37, 38, 39, 40, 41, 42, 45, 46, 47, 48]),
  (0, 3, .int, [0, 29, 30, 31, 32, 33, 34, 35]),
  (1, 1549, .int, []),
  (1, 1549, .int, []),
  (1, 7745, .int, []),
  (1, 1549, .int, []),
  (1, 1549, .boolean, []),
  (1, 512, .int, []),
  (1, 1549, .int, []),
  (1, 4, .int, []),
  (2, 40, .long, []),
  (1, 40, .int, []),
  (1, 40, .int, []),
  (1, 40, .int, []),
  (1, 160, .int, []),
  (1, 40, .int, []),
  (1, 40, .boolean, []),
  (1, 41, .int, []),
  (1, 9080, .int, []),
  (1, 9080, .int, []),
  (1, 9080, .int, []),
  (1, 9080, .int, []),
  (0, 5, .int, [50, 2, 0, 0, 0, 0, 0, 52, 53, 0, 54, 55, 56, 57]),
  (0, 7, .int, [2, 0, 0, 0, 0, 1, 0, 1]),
  (1, 0, .byte, []),
  (1, 40, .int, []),
  (2, 44, .long, []),
  (1, 126, .int, []),
  (1, 126, .int, []),
  (1, 126, .int, []),
  (1, 164, .int, []),
  (0, 0, .int, [59, 60, 61, 62, 63, 0]),
  (1, 3000, .int, []),
  (1, 3000, .int, []),
  (1, 3000, .int, []),
  (1, 3000, .int, []),
  (1, 3000, .int, []),
  (0, 2, .int, [2, 2, 2, 0, 0, 0, 65, 66, 67, 68, 69, 70, 71, 72, 0]),
  (1, 40, .boolean, []),
  (1, 160, .int, []),
  (1, 40, .int, []),
  (1, 40, .int, []),
  (1, 44, .int, []),
  (1, 3000, .int, []),
  (1, 3000, .int, []),
  (1, 3000, .int, []),
  (0, 6, .int, [2, 2, 2, 0, 0, 0, 0, 0, 0, 0, 0, 0, 2, 2, 2, 0, 2, 2, 0, 2]),
  (0, 1, .int, [0, 0, 0, 2, 2, 2, 2, 2, 2, 2, 2, 2, 2])]
def YC_79 : List Ent := [(0, 8, .int, [4, 0, 2, 0, 0, 0, 49, 0, 0, 2, 58, 64, 2]),
  (1, 3000, .byte, []),
  (0, 4, .int, [6, 0, 0, 21, 22, 0, 0, 15, 16, 17, 18, 19, 20, 23, 24, 25, 26]),
  (0, 3, .int, [0, 7, 8, 9, 10, 11, 12, 13]),
  (1, 1549, .int, []),
  (1, 1549, .int, []),
  (1, 7745, .int, []),
  (1, 1549, .int, []),
  (1, 1549, .boolean, []),
  (1, 512, .int, []),
  (1, 1549, .int, []),
  (1, 4, .int, []),
  (2, 40, .long, []),
  (1, 40, .int, []),
  (1, 40, .int, []),
  (1, 40, .int, []),
  (1, 160, .int, []),
  (1, 40, .int, []),
  (1, 40, .boolean, []),
  (1, 41, .int, []),
  (1, 9080, .int, []),
  (1, 9080, .int, []),
  (1, 9080, .int, []),
  (1, 9080, .int, []),
  (0, 4, .int, [28, 0, 0, 43, 44, 0, 0, 37, 38, 39, 40, 41, 42, 45, 46, 47, 48]),
  (0, 3, .int, [0, 29, 30, 31, 32, 33, 34, 35]),
  (1, 1549, .int, []),
  (1, 1549, .int, []),
  (1, 7745, .int, []),
  (1, 1549, .int, []),
  (1, 1549, .boolean, []),
  (1, 512, .int, []),
  (1, 1549, .int, []),
  (1, 4, .int, []),
  (2, 40, .long, []),
  (1, 40, .int, []),
  (1, 40, .int, []),
  (1, 40, .int, []),
  (1, 160, .int, []),
  (1, 40, .int, []),
  (1, 40, .boolean, []),
  (1, 41, .int, []),
  (1, 9080, .int, []),
  (1, 9080, .int, []),
  (1, 9080, .int, []),
  (1, 9080, .int, []),
  (0, 5, .int, [50, 2, 0, 0, 0, 0, 0, 52, 53, 0, 54, 55, 56, 57]),
  (0, 7, .int, [2, 0, 0, 0, 0, 1, 0, 1]),
  (1, 0, .byte, []),
  (1, 40, .int, []),
  (2, 44, .long, []),
  (1, 126, .int, []),
  (1, 126, .int, []),
  (1, 126, .int, []),
  (1, 164, .int, []),
  (0, 0, .int, [59, 60, 61, 62, 63, 0]),
  (1, 3000, .int, []),
  (1, 3000, .int, []),
  (1, 3000, .int, []),
  (1, 3000, .int, []),
  (1, 3000, .int, []),
  (0, 2, .int, [2, 2, 2, 0, 0, 0, 65, 66, 67, 68, 69, 70, 71, 72, 0]),
  (1, 40, .boolean, []),
  (1, 160, .int, []),
  (1, 40, .int, []),
  (1, 40, .int, []),
  (1, 44, .int, []),
  (1, 3000, .int, []),
  (1, 3000, .int, []),
  (1, 3000, .int, []),
  (0, 6, .int, [2, 2, 2, 0, 0, 0, 0, 0, 0, 0, 0, 0, 2, 2, 2, 0, 2, 2, 0, 2]),
  (0, 1, .int, [0, 0, 0, 75, 2, 2, 2, 2, 2, 2, 2, 2, 2]),
  (1, 1000, .int, [])]
def YC_80 : List Ent := [(0, 8, .int, [4, 0, 2, 0, 0, 0, 49, 0, 0, 2, 58, 64, 2]),
  (1, 3000, .byte, []),
  (0, 4, .int, [6, 0, 0, 21, 22, 0, 0, 15, 16, 17, 18, 19, 20, 23, 24, 25, 26]),
  (0, 3, .int, [0, 7, 8, 9, 10, 11, 12, 13]),
  (1, 1549, .int, []),
  (1, 1549, .int, []),
  (1, 7745, .int, []),
  (1, 1549, .int, []),
  (1, 1549, .boolean, []),
  (1, 512, .int, []),
  (1, 1549, .int, []),
  (1, 4, .int, []),
  (2, 40, .long, []),
  (1, 40, .int, []),
  (1, 40, .int, []),
  (1, 40, .int, []),
  (1, 160, .int, []),
  (1, 40, .int, []),
  (1, 40, .boolean, []),
  (1, 41, .int, []),
  (1, 9080, .int, []),
  (1, 9080, .int, []),
  (1, 9080, .int, []),
  (1, 9080, .int, []),
  (0, 4, .int, [28, 0, 0, 43, 44, 0, 0, 37, 38, 39, 40, 41, 42, 45, 46, 47, 48]),
  (0, 3, .int, [0, 29, 30, 31, 32, 33, 34, 35]),
  (1, 1549, .int, []),
  (1, 1549, .int, []),
  (1, 7745, .int, []),
  (1, 1549, .int, []),
  (1, 1549, .boolean, []),
  (1, 512, .int, []),
  (1, 1549, .int, []),
  (1, 4, .int, []),
  (2, 40, .long, []),
  (1, 40, .int, []),
  (1, 40, .int, []),
  (1, 40, .int, []),
  (1, 160, .int, []),
  (1, 40, .int, []),
  (1, 40, .boolean, []),
  (1, 41, .int, []),
  (1, 9080, .int, []),
  (1, 9080, .int, []),
  (1, 9080, .int, []),
  (1, 9080, .int, []),
  (0, 5, .int, [50, 2, 0, 0, 0, 0, 0, 52, 53, 0, 54, 55, 56, 57]),
  (0, 7, .int, [2, 0, 0, 0, 0, 1, 0, 1]),
  (1, 0, .byte, []),
  (1, 40, .int, []),
  (2, 44, .long, []),
  (1, 126, .int, []),
  (1, 126, .int, []),
  (1, 126, .int, []),
  (1, 164, .int, []),
  (0, 0, .int, [59, 60, 61, 62, 63, 0]),
  (1, 3000, .int, []),
  (1, 3000, .int, []),
  (1, 3000, .int, []),
  (1, 3000, .int, []),
  (1, 3000, .int, []),
  (0, 2, .int, [2, 2, 2, 0, 0, 0, 65, 66, 67, 68, 69, 70, 71, 72, 0]),
  (1, 40, .boolean, []),
  (1, 160, .int, []),
  (1, 40, .int, []),
  (1, 40, .int, []),
  (1, 44, .int, []),
  (1, 3000, .int, []),
  (1, 3000, .int, []),
  (1, 3000, .int, []),
  (0, 6, .int, [2, 2, 2, 0, 0, 0, 0, 0, 0, 0, 0, 0, 2, 2, 2, 0, 2, 2, 0, 2]),
  (0, 1, .int, [0, 0, 0, 75, 76, 2, 2, 2, 2, 2, 2, 2, 2]),
  (1, 1000, .int, []),
  (1, 1000, .int, [])]
def YC_81 : List Ent := [(0, 8, .int, [4, 0, 2, 0, 0, 0, 49, 0, 0, 2, 58, 64, 2]),
  (1, 3000, .byte, []),
  (0, 4, .int, [6, 0, 0, 21, 22, 0, 0, 15, 16, 17, 18, 19, 20, 23, 24, 25, 26]),
  (0, 3, .int, [0, 7, 8, 9, 10, 11, 12, 13]),
  (1, 1549, .int, []),
  (1, 1549, .int, []),
  (1, 7745, .int, []),
  (1, 1549, .int, []),
  (1, 1549, .boolean, []),
  (1, 512, .int, []),
  (1, 1549, .int, []),
  (1, 4, .int, []),
  (2, 40, .long, []),
  (1, 40, .int, []),
  (1, 40, .int, []),
  (1, 40, .int, []),
  (1, 160, .int, []),
  (1, 40, .int, []),
  (1, 40, .boolean, []),
  (1, 41, .int, []),
  (1, 9080, .int, []),
  (1, 9080, .int, []),
  (1, 9080, .int, []),
  (1, 9080, .int, []),
  (0, 4, .int, [28, 0, 0, 43, 44, 0, 0, 37, 38, 39, 40, 41, 42, 45, 46, 47, 48]),
  (0, 3, .int, [0, 29, 30, 31, 32, 33, 34, 35]),
  (1, 1549, .int, []),
  (1, 1549, .int, []),
  (1, 7745, .int, []),
  (1, 1549, .int, []),
  (1, 1549, .boolean, []),
  (1, 512, .int, []),
  (1, 1549, .int, []),
  (1, 4, .int, []),
  (2, 40, .long, []),
  (1, 40, .int, []),
  (1, 40, .int, []),
  (1, 40, .int, []),
  (1, 160, .int, []),
  (1, 40, .int, []),
  (1, 40, .boolean, []),
  (1, 41, .int, []),
  (1, 9080, .int, []),
  (1, 9080, .int, []),
  (1, 9080, .int, []),
  (1, 9080, .int, []),
  (0, 5, .int, [50, 2, 0, 0, 0, 0, 0, 52, 53, 0, 54, 55, 56, 57]),
  (0, 7, .int, [2, 0, 0, 0, 0, 1, 0, 1]),
  (1, 0, .byte, []),
  (1, 40, .int, []),
  (2, 44, .long, []),
  (1, 126, .int, []),
  (1, 126, .int, []),
  (1, 126, .int, []),
  (1, 164, .int, []),
  (0, 0, .int, [59, 60, 61, 62, 63, 0]),
  (1, 3000, .int, []),
  (1, 3000, .int, []),
  (1, 3000, .int, []),
  (1, 3000, .int, []),
  (1, 3000, .int, []),
  (0, 2, .int, [2, 2, 2, 0, 0, 0, 65, 66, 67, 68, 69, 70, 71, 72, 0]),
  (1, 40, .boolean, []),
  (1, 160, .int, []),
  (1, 40, .int, []),
  (1, 40, .int, []),
  (1, 44, .int, []),
  (1, 3000, .int, []),
  (1, 3000, .int, []),
  (1, 3000, .int, []),
  (0, 6, .int, [2, 2, 2, 0, 0, 0, 0, 0, 0, 0, 0, 0, 2, 2, 2, 0, 2, 2, 0, 2]),
  (0, 1, .int, [0, 0, 0, 75, 76, 77, 2, 2, 2, 2, 2, 2, 2]),
  (1, 1000, .int, []),
  (1, 1000, .int, []),
  (2, 4000, .long, [])]
def YC_82 : List Ent := [(0, 8, .int, [4, 0, 2, 0, 0, 0, 49, 0, 0, 2, 58, 64, 2]),
  (1, 3000, .byte, []),
  (0, 4, .int, [6, 0, 0, 21, 22, 0, 0, 15, 16, 17, 18, 19, 20, 23, 24, 25, 26]),
  (0, 3, .int, [0, 7, 8, 9, 10, 11, 12, 13]),
  (1, 1549, .int, []),
  (1, 1549, .int, []),
  (1, 7745, .int, []),
  (1, 1549, .int, []),
  (1, 1549, .boolean, []),
  (1, 512, .int, []),
  (1, 1549, .int, []),
  (1, 4, .int, []),
  (2, 40, .long, []),
  (1, 40, .int, []),
  (1, 40, .int, []),
  (1, 40, .int, []),
  (1, 160, .int, []),
  (1, 40, .int, []),
  (1, 40, .boolean, []),
  (1, 41, .int, []),
  (1, 9080, .int, []),
  (1, 9080, .int, []),
  (1, 9080, .int, []),
  (1, 9080, .int, []),
  (0, 4, .int, [28, 0, 0, 43, 44, 0, 0, 37, 38, 39, 40, 41, 42, 45, 46, 47, 48]),
  (0, 3, .int, [0, 29, 30, 31, 32, 33, 34, 35]),
  (1, 1549, .int, []),
  (1, 1549, .int, []),
  (1, 7745, .int, []),
  (1, 1549, .int, []),
  (1, 1549, .boolean, []),
  (1, 512, .int, []),
  (1, 1549, .int, []),
  (1, 4, .int, []),
  (2, 40, .long, []),
  (1, 40, .int, []),
  (1, 40, .int, []),
  (1, 40, .int, []),
  (1, 160, .int, []),
  (1, 40, .int, []),
  (1, 40, .boolean, []),
  (1, 41, .int, []),
  (1, 9080, .int, []),
  (1, 9080, .int, []),
  (1, 9080, .int, []),
  (1, 9080, .int, []),
  (0, 5, .int, [50, 2, 0, 0, 0, 0, 0, 52, 53, 0, 54, 55, 56, 57]),
  (0, 7, .int, [2, 0, 0, 0, 0, 1, 0, 1]),
  (1, 0, .byte, []),
  (1, 40, .int, []),
  (2, 44, .long, []),
  (1, 126, .int, []),
  (1, 126, .int, []),
  (1, 126, .int, []),
  (1, 164, .int, []),
  (0, 0, .int, [59, 60, 61, 62, 63, 0]),
  (1, 3000, .int, []),
  (1, 3000, .int, []),
  (1, 3000, .int, []),
  (1, 3000, .int, []),
  (1, 3000, .int, []),
  (0, 2, .int, [2, 2, 2, 0, 0, 0, 65, 66, 67, 68, 69, 70, 71, 72, 0]),
  (1, 40, .boolean, []),
  (1, 160, .int, []),
  (1, 40, .int, []),
  (1, 40, .int, []),
  (1, 44, .int, []),
  (1, 3000, .int, []),
  (1, 3000, .int, []),
  (1, 3000, .int, []),
  (0, 6, .int, [2, 2, 2, 0, 0, 0, 0, 0, 0, 0, 0, 0, 2, 2, 2, 0, 2, 2, 0, 2]),
  (0, 1, .int, [0, 0, 0, 75, 76, 77, 78, 2, 2, 2, 2, 2, 2]),
  (1, 1000, .int, []),
  (1, 1000, .int, []),
  (2, 4000, .long, []),
  (2, 1000, .long, [])]
def YC_83 : List Ent := [(0, 8, .int, [4, 0, 2, 0, 0, 0, 49, 0, 0, 2, 58, 64, 2]),
  (1, 3000, .byte, []),
  (0, 4, .int, [6, 0, 0, 21, 22, 0, 0, 15, 16, 17, 18, 19, 20, 23, 24, 25, 26]),
  (0, 3, .int, [0, 7, 8, 9, 10, 11, 12, 13]),
  (1, 1549, .int, []),
  (1, 1549, .int, []),
  (1, 7745, .int, []),
  (1, 1549, .int, []),
  (1, 1549, .boolean, []),
  (1, 512, .int, []),
  (1, 1549, .int, []),
  (1, 4, .int, []),
  (2, 40, .long, []),
  (1, 40, .int, []),
  (1, 40, .int, []),
  (1, 40, .int, []),
  (1, 160, .int, []),
  (1, 40, .int, []),
  (1, 40, .boolean, []),
  (1, 41, .int, []),
  (1, 9080, .int, []),
  (1, 9080, .int, []),
  (1, 9080, .int, []),
  (1, 9080, .int, []),
  (0, 4, .int, [28, 0, 0, 43, 44, 0, 0, 37, 38, 39, 40, 41, 42, 45, 46, 47, 48]),
  (0, 3, .int, [0, 29, 30, 31, 32, 33, 34, 35]),
  (1, 1549, .int, []),
  (1, 1549, .int, []),
  (1, 7745, .int, []),
  (1, 1549, .int, []),
  (1, 1549, .boolean, []),
  (1, 512, .int, []),
  (1, 1549, .int, []),
  (1, 4, .int, []),
  (2, 40, .long, []),
  (1, 40, .int, []),
  (1, 40, .int, []),
  (1, 40, .int, []),
  (1, 160, .int, []),
  (1, 40, .int, []),
  (1, 40, .boolean, []),
  (1, 41, .int, []),
  (1, 9080, .int, []),
  (1, 9080, .int, []),
  (1, 9080, .int, []),
  (1, 9080, .int, []),
  (0, 5, .int, [50, 2, 0, 0, 0, 0, 0, 52, 53, 0, 54, 55, 56, 57]),
  (0, 7, .int, [2, 0, 0, 0, 0, 1, 0, 1]),
  (1, 0, .byte, []),
  (1, 40, .int, []),
  (2, 44, .long, []),
  (1, 126, .int, []),
  (1, 126, .int, []),
  (1, 126, .int, []),
  (1, 164, .int, []),
  (0, 0, .int, [59, 60, 61, 62, 63, 0]),
  (1, 3000, .int, []),
  (1, 3000, .int, []),
  (1, 3000, .int, []),
  (1, 3000, .int, []),
  (1, 3000, .int, []),
  (0, 2, .int, [2, 2, 2, 0, 0, 0, 65, 66, 67, 68, 69, 70, 71, 72, 0]),
  (1, 40, .boolean, []),
  (1, 160, .int, []),
  (1, 40, .int, []),
  (1, 40, .int, []),
  (1, 44, .int, []),
  (1, 3000, .int, []),
  (1, 3000, .int, []),
  (1, 3000, .int, []),
  (0, 6, .int, [2, 2, 2, 0, 0, 0, 0, 0, 0, 0, 0, 0, 2, 2, 2, 0, 2, 2, 0, 2]),
  (0, 1, .int, [0, 0, 0, 75, 76, 77, 78, 79, 2, 2, 2, 2, 2]),
  (1, 1000, .int, []),
  (1, 1000, .int, []),
  (2, 4000, .long, []),
  (2, 1000, .long, []),
  (1, 1000, .int, [])]
def YC_84 : List Ent := [(0, 8, .int, [4, 0, 2, 0, 0, 0, 49, 0, 0, 2, 58, 64, 2]),
  (1, 3000, .byte, []),
  (0, 4, .int, [6, 0, 0, 21, 22, 0, 0, 15, 16, 17, 18, 19, 20, 23, 24, 25, 26]),
  (0, 3, .int, [0, 7, 8, 9, 10, 11, 12, 13]),
  (1, 1549, .int, []),
  (1, 1549, .int, []),
  (1, 7745, .int, []),
  (1, 1549, .int, []),
  (1, 1549, .boolean, []),
  (1, 512, .int, []),
  (1, 1549, .int, []),
  (1, 4, .int, []),
  (2, 40, .long, []),
  (1, 40, .int, []),
  (1, 40, .int, []),
  (1, 40, .int, []),
  (1, 160, .int, []),
  (1, 40, .int, []),
  (1, 40, .boolean, []),
  (1, 41, .int, []),
  (1, 9080, .int, []),
  (1, 9080, .int, []),
  (1, 9080, .int, []),
  (1, 9080, .int, []),
  (0, 4, .int, [28, 0, 0, 43, 44, 0, 0, 37, 38, 39, 40, 41, 42, 45, 46, 47, 48]),
  (0, 3, .int, [0, 29, 30, 31, 32, 33, 34, 35]),
  (1, 1549, .int, []),
  (1, 1549, .int, []),
  (1, 7745, .int, []),
  (1, 1549, .int, []),
  (1, 1549, .boolean, []),
  (1, 512, .int, []),
  (1, 1549, .int, []),
  (1, 4, .int, []),
  (2, 40, .long, []),
  (1, 40, .int, []),
  (1, 40, .int, []),
  (1, 40, .int, []),
  (1, 160, .int, []),
  (1, 40, .int, []),
  (1, 40, .boolean, []),
  (1, 41, .int, []),
  (1, 9080, .int, []),
  (1, 9080, .int, []),
  (1, 9080, .int, []),
  (1, 9080, .int, []),
  (0, 5, .int, [50, 2, 0, 0, 0, 0, 0, 52, 53, 0, 54, 55, 56, 57]),
  (0, 7, .int, [2, 0, 0, 0, 0, 1, 0, 1]),
  (1, 0, .byte, []),
  (1, 40, .int, []),
  (2, 44, .long, []),
  (1, 126, .int, []),
  (1, 126, .int, []),
  (1, 126, .int, []),
  (1, 164, .int, []),
  (0, 0, .int, [59, 60, 61, 62, 63, 0]),
  (1, 3000, .int, []),
  (1, 3000, .int, []),
  (1, 3000, .int, []),
  (1, 3000, .int, []),
  (1, 3000, .int, []),
  (0, 2, .int, [2, 2, 2, 0, 0, 0, 65, 66, 67, 68, 69, 70, 71, 72, 0]),
  (1, 40, .boolean, []),
  (1, 160, .int, []),
  (1, 40, .int, []),
  (1, 40, .int, []),
  (1, 44, .int, []),
  (1, 3000, .int, []),
  (1, 3000, .int, []),
  (1, 3000, .int, []),
  (0, 6, .int, [2, 2, 2, 0, 0, 0, 0, 0, 0, 0, 0, 0, 2, 2, 2, 0, 2, 2, 0, 2]),
  (0, 1, .int, [0, 0, 0, 75, 76, 77, 78, 79, 80, 2, 2, 2, 2]),
  (1, 1000, .int, []),
  (1, 1000, .int, []),
  (2, 4000, .long, []),
  (2, 1000, .long, []),
  (1, 1000, .int, []),
  (1, 1000, .int, [])]
def YC_85 : List Ent := [(0, 8, .int, [4, 0, 2, 0, 0, 0, 49, 0, 0, 2, 58, 64, 2]),
  (1, 3000, .byte, []),
  (0, 4, .int, [6, 0, 0, 21, 22, 0, 0, 15, 16, 17, 18, 19, 20, 23, 24, 25, 26]),
  (0, 3, .int, [0, 7, 8, 9, 10, 11, 12, 13]),
  (1, 1549, .int, []),
  (1, 1549, .int, []),
  (1, 7745, .int, []),
  (1, 1549, .int, []),
  (1, 1549, .boolean, []),
  (1, 512, .int, []),
  (1, 1549, .int, []),
  (1, 4, .int, []),
  (2, 40, .long, []),
  (1, 40, .int, []),
  (1, 40, .int, []),
  (1, 40, .int, []),
  (1, 160, .int, []),
  (1, 40, .int, []),
  (1, 40, .boolean, []),
  (1, 41, .int, []),
  (1, 9080, .int, []),
  (1, 9080, .int, []),
  (1, 9080, .int, []),
  (1, 9080, .int, []),
  (0, 4, .int, [28, 0, 0, 43, 44, 0, 0, 37, 38, 39, 40, 41, 42, 45, 46, 47, 48]),
  (0, 3, .int, [0, 29, 30, 31, 32, 33, 34, 35]),
  (1, 1549, .int, []),
  (1, 1549, .int, []),
  (1, 7745, .int, []),
  (1, 1549, .int, []),
  (1, 1549, .boolean, []),
  (1, 512, .int, []),
  (1, 1549, .int, []),
  (1, 4, .int, []),
  (2, 40, .long, []),
  (1, 40, .int, []),
  (1, 40, .int, []),
  (1, 40, .int, []),
  (1, 160, .int, []),
  (1, 40, .int, []),
  (1, 40, .boolean, []),
  (1, 41, .int, []),
  (1, 9080, .int, []),
  (1, 9080, .int, []),
  (1, 9080, .int, []),
  (1, 9080, .int, []),
  (0, 5, .int, [50, 2, 0, 0, 0, 0, 0, 52, 53, 0, 54, 55, 56, 57]),
  (0, 7, .int, [2, 0, 0, 0, 0, 1, 0, 1]),
  (1, 0, .byte, []),
  (1, 40, .int, []),
  (2, 44, .long, []),
  (1, 126, .int, []),
  (1, 126, .int, []),
  (1, 126, .int, []),
  (1, 164, .int, []),
  (0, 0, .int, [59, 60, 61, 62, 63, 0]),
  (1, 3000, .int, []),
  (1, 3000, .int, []),
  (1, 3000, .int, []),
  (1, 3000, .int, []),
  (1, 3000, .int, []),
  (0, 2, .int, [2, 2, 2, 0, 0, 0, 65, 66, 67, 68, 69, 70, 71, 72, 0]),
  (1, 40, .boolean, []),
  (1, 160, .int, []),
  (1, 40, .int, []),
  (1, 40, .int, []),
  (1, 44, .int, []),
  (1, 3000, .int, []),
  (1, 3000, .int, []),
  (1, 3000, .int, []),
  (0, 6, .int, [2, 2, 2, 0, 0, 0, 0, 0, 0, 0, 0, 0, 2, 2, 2, 0, 2, 2, 0, 2]),
  (0, 1, .int, [0, 0, 0, 75, 76, 77, 78, 79, 80, 81, 2, 2, 2]),
  (1, 1000, .int, []),
  (1, 1000, .int, []),
  (2, 4000, .long, []),
  (2, 1000, .long, []),
  (1, 1000, .int, []),
  (1, 1000, .int, []),
  (1, 1000, .int, [])]
def YC_86 : List Ent := [(0, 8, .int, [4, 0, 2, 0, 0, 0, 49, 0, 0, 2, 58, 64, 2]),
  (1, 3000, .byte, []),
  (0, 4, .int, [6, 0, 0, 21, 22, 0, 0, 15, 16, 17, 18, 19, 20, 23, 24, 25, 26]),
  (0, 3, .int, [0, 7, 8, 9, 10, 11, 12, 13]),
  (1, 1549, .int, []),
  (1, 1549, .int, []),
  (1, 7745, .int, []),
  (1, 1549, .int, []),
  (1, 1549, .boolean, []),
  (1, 512, .int, []),
  (1, 1549, .int, []),
  (1, 4, .int, []),
  (2, 40, .long, []),
  (1, 40, .int, []),
  (1, 40, .int, []),
  (1, 40, .int, []),
  (1, 160, .int, []),
  (1, 40, .int, []),
  (1, 40, .boolean, []),
  (1, 41, .int, []),
  (1, 9080, .int, []),
  (1, 9080, .int, []),
  (1, 9080, .int, []),
  (1, 9080, .int, []),
  (0, 4, .int, [28, 0, 0, 43, 44, 0, 0, 37, 38, 39, 40, 41, 42, 45, 46, 47, 48]),
  (0, 3, .int, [0, 29, 30, 31, 32, 33, 34, 35]),
  (1, 1549, .int, []),
  (1, 1549, .int, []),
  (1, 7745, .int, []),
  (1, 1549, .int, []),
  (1, 1549, .boolean, []),
  (1, 512, .int, []),
  (1, 1549, .int, []),
  (1, 4, .int, []),
  (2, 40, .long, []),
  (1, 40, .int, []),
  (1, 40, .int, []),
  (1, 40, .int, []),
  (1, 160, .int, []),
  (1, 40, .int, []),
  (1, 40, .boolean, []),
  (1, 41, .int, []),
  (1, 9080, .int, []),
  (1, 9080, .int, []),
  (1, 9080, .int, []),
  (1, 9080, .int, []),
  (0, 5, .int, [50, 2, 0, 0, 0, 0, 0, 52, 53, 0, 54, 55, 56, 57]),
  (0, 7, .int, [2, 0, 0, 0, 0, 1, 0, 1]),
  (1, 0, .byte, []),
  (1, 40, .int, []),
  (2, 44, .long, []),
  (1, 126, .int, []),
  (1, 126, .int, []),
  (1, 126, .int, []),
  (1, 164, .int, []),
  (0, 0, .int, [59, 60, 61, 62, 63, 0]),
  (1, 3000, .int, []),
  (1, 3000, .int, []),
  (1, 3000, .int, []),
  (1, 3000, .int, []),
  (1, 3000, .int, []),
  (0, 2, .int, [2, 2, 2, 0, 0, 0, 65, 66, 67, 68, 69, 70, 71, 72, 0]),
  (1, 40, .boolean, []),
  (1, 160, .int, []),
  (1, 40, .int, []),
  (1, 40, .int, []),
  (1, 44, .int, []),
  (1, 3000, .int, []),
  (1, 3000, .int, []),
  (1, 3000, .int, []),
  (0, 6, .int, [2, 2, 2, 0, 0, 0, 0, 0, 0, 0, 0, 0, 2, 2, 2, 0, 2, 2, 0, 2]),
  (0, 1, .int, [0, 0, 0, 75, 76, 77, 78, 79, 80, 81, 82, 2, 2]),
  (1, 1000, .int, []),
  (1, 1000, .int, []),
  (2, 4000, .long, []),
  (2, 1000, .long, []),
  (1, 1000, .int, []),
  (1, 1000, .int, []),
  (1, 1000, .int, []),
  (1, 1000, .int, [])]
def YC_87 : List Ent := [(0, 8, .int, [4, 0, 2, 0, 0, 0, 49, 0, 0, 2, 58, 64, 2]),
  (1, 3000, .byte, []),
  (0, 4, .int, [6, 0, 0, 21, 22, 0, 0, 15, 16, 17, 18, 19, 20, 23, 24, 25, 26]),
  (0, 3, .int, [0, 7, 8, 9, 10, 11, 12, 13]),
  (1, 1549, .int, []),
  (1, 1549, .int, []),
  (1, 7745, .int, []),
  (1, 1549, .int, []),
  (1, 1549, .boolean, []),
  (1, 512, .int, []),
  (1, 1549, .int, []),
  (1, 4, .int, []),
  (2, 40, .long, []),
  (1, 40, .int, []),
  (1, 40, .int, []),
  (1, 40, .int, []),
  (1, 160, .int, []),
  (1, 40, .int, []),
  (1, 40, .boolean, []),
  (1, 41, .int, []),
  (1, 9080, .int, []),
  (1, 9080, .int, []),
  (1, 9080, .int, []),
  (1, 9080, .int, []),
  (0, 4, .int, [28, 0, 0, 43, 44, 0, 0, 37, 38, 39, 40, 41, 42, 45, 46, 47, 48]),
  (0, 3, .int, [0, 29, 30, 31, 32, 33, 34, 35]),
  (1, 1549, .int, []),
  (1, 1549, .int, []),
  (1, 7745, .int, []),
  (1, 1549, .int, []),
  (1, 1549, .boolean, []),
  (1, 512, .int, []),
  (1, 1549, .int, []),
  (1, 4, .int, []),
  (2, 40, .long, []),
  (1, 40, .int, []),
  (1, 40, .int, []),
  (1, 40, .int, []),
  (1, 160, .int, []),
  (1, 40, .int, []),
  (1, 40, .boolean, []),
  (1, 41, .int, []),
  (1, 9080, .int, []),
  (1, 9080, .int, []),
  (1, 9080, .int, []),
  (1, 9080, .int, []),
  (0, 5, .int, [50, 2, 0, 0, 0, 0, 0, 52, 53, 0, 54, 55, 56, 57]),
  (0, 7, .int, [2, 0, 0, 0, 0, 1, 0, 1]),
  (1, 0, .byte, []),
  (1, 40, .int, []),
  (2, 44, .long, []),
  (1, 126, .int, []),
  (1, 126, .int, []),
  (1, 126, .int, []),
  (1, 164, .int, []),
  (0, 0, .int, [59, 60, 61, 62, 63, 0]),
  (1, 3000, .int, []),
  (1, 3000, .int, []),
  (1, 3000, .int, []),
  (1, 3000, .int, []),
  (1, 3000, .int, []),
  (0, 2, .int, [2, 2, 2, 0, 0, 0, 65, 66, 67, 68, 69, 70, 71, 72, 0]),
  (1, 40, .boolean, []),
  (1, 160, .int, []),
  (1, 40, .int, []),
  (1, 40, .int, []),
  (1, 44, .int, []),
  (1, 3000, .int, []),
  (1, 3000, .int, []),
  (1, 3000, .int, []),
  (0, 6, .int, [2, 2, 2, 0, 0, 0, 0, 0, 0, 0, 0, 0, 2, 2, 2, 0, 2, 2, 0, 2]),
  (0, 1, .int, [0, 0, 0, 75, 76, 77, 78, 79, 80, 81, 82, 83, 2]),
  (1, 1000, .int, []),
  (1, 1000, .int, []),
  (2, 4000, .long, []),
  (2, 1000, .long, []),
  (1, 1000, .int, []),
  (1, 1000, .int, []),
  (1, 1000, .int, []),
  (1, 1000, .int, []),
  (1, 1000, .int, [])]
def YC_88 : List Ent := [(0, 8, .int, [4, 0, 2, 0, 0, 0, 49, 0, 0, 2, 58, 64, 2]),
  (1, 3000, .byte, []),
  (0, 4, .int, [6, 0, 0, 21, 22, 0, 0, 15, 16, 17, 18, 19, 20, 23, 24, 25, 26]),
  (0, 3, .int, [0, 7, 8, 9, 10, 11, 12, 13]),
  (1, 1549, .int, []),
  (1, 1549, .int, []),
  (1, 7745, .int, []),
  (1, 1549, .int, []),
  (1, 1549, .boolean, []),
  (1, 512, .int, []),
  (1, 1549, .int, []),
  (1, 4, .int, []),
  (2, 40, .long, []),
  (1, 40, .int, []),
  (1, 40, .int, []),
  (1, 40, .int, []),
  (1, 160, .int, []),
  (1, 40, .int, []),
  (1, 40, .boolean, []),
  (1, 41, .int, []),
  (1, 9080, .int, []),
  (1, 9080, .int, []),
  (1, 9080, .int, []),
  (1, 9080, .int, []),
  (0, 4, .int, [28, 0, 0, 43, 44, 0, 0, 37, 38, 39, 40, 41, 42, 45, 46, 47, 48]),
  (0, 3, .int, [0, 29, 30, 31, 32, 33, 34, 35]),
  (1, 1549, .int, []),
  (1, 1549, .int, []),
  (1, 7745, .int, []),
  (1, 1549, .int, []),
  (1, 1549, .boolean, []),
  (1, 512, .int, []),
  (1, 1549, .int, []),
  (1, 4, .int, []),
  (2, 40, .long, []),
  (1, 40, .int, []),
  (1, 40, .int, []),
  (1, 40, .int, []),
  (1, 160, .int, []),
  (1, 40, .int, []),
  (1, 40, .boolean, []),
  (1, 41, .int, []),
  (1, 9080, .int, []),
  (1, 9080, .int, []),
  (1, 9080, .int, []),
  (1, 9080, .int, []),
  (0, 5, .int, [50, 2, 0, 0, 0, 0, 0, 52, 53, 0, 54, 55, 56, 57]),
  (0, 7, .int, [2, 0, 0, 0, 0, 1, 0, 1]),
  (1, 0, .byte, []),
  (1, 40, .int, []),
  (2, 44, .long, []),
  (1, 126, .int, []),
  (1, 126, .int, []),
  (1, 126, .int, []),
  (1, 164, .int, []),
  (0, 0, .int, [59, 60, 61, 62, 63, 0]),
  (1, 3000, .int, []),
  (1, 3000, .int, []),
  (1, 3000, .int, []),
  (1, 3000, .int, []),
  (1, 3000, .int, []),
  (0, 2, .int, [2, 2, 2, 0, 0, 0, 65, 66, 67, 68, 69, 70, 71, 72, 0]),
  (1, 40, .boolean, []),
  (1, 160, .int, []),
  (1, 40, .int, []),
  (1, 40, .int, []),
  (1, 44, .int, []),
  (1, 3000, .int, []),
  (1, 3000, .int, []),
  (1, 3000, .int, []),
  (0, 6, .int, [2, 2, 2, 0, 0, 0, 0, 0, 0, 0, 0, 0, 2, 2, 2, 0, 2, 2, 0, 2]),
  (0, 1, .int, [0, 0, 0, 75, 76, 77, 78, 79, 80, 81, 82, 83, 84]),
  (1, 1000, .int, []),
  (1, 1000, .int, []),
  (2, 4000, .long, []),
  (2, 1000, .long, []),
  (1, 1000, .int, []),
  (1, 1000, .int, []),
  (1, 1000, .int, []),
  (1, 1000, .int, []),
  (1, 1000, .int, []),
  (1, 1000, .int, [])]
def YC_89 : List Ent := [(0, 8, .int, [4, 0, 2, 0, 0, 0, 49, 0, 0, 2, 58, 64, 2]),
  (1, 3000, .byte, []),
  (0, 4, .int, [6, 0, 0, 21, 22, 0, 0, 15, 16, 17, 18, 19, 20, 23, 24, 25, 26]),
  (0, 3, .int, [0, 7, 8, 9, 10, 11, 12, 13]),
  (1, 1549, .int, []),
  (1, 1549, .int, []),
  (1, 7745, .int, []),
  (1, 1549, .int, []),
  (1, 1549, .boolean, []),
  (1, 512, .int, []),
  (1, 1549, .int, []),
  (1, 4, .int, []),
  (2, 40, .long, []),
  (1, 40, .int, []),
  (1, 40, .int, []),
  (1, 40, .int, []),
  (1, 160, .int, []),
  (1, 40, .int, []),
  (1, 40, .boolean, []),
  (1, 41, .int, []),
  (1, 9080, .int, []),
  (1, 9080, .int, []),
  (1, 9080, .int, []),
  (1, 9080, .int, []),
  (0, 4, .int, [28, 0, 0, 43, 44, 0, 0, 37, 38, 39, 40, 41, 42, 45, 46, 47, 48]),
  (0, 3, .int, [0, 29, 30, 31, 32, 33, 34, 35]),
  (1, 1549, .int, []),
  (1, 1549, .int, []),
  (1, 7745, .int, []),
  (1, 1549, .int, []),
  (1, 1549, .boolean, []),
  (1, 512, .int, []),
  (1, 1549, .int, []),
  (1, 4, .int, []),
  (2, 40, .long, []),
  (1, 40, .int, []),
  (1, 40, .int, []),
  (1, 40, .int, []),
  (1, 160, .int, []),
  (1, 40, .int, []),
  (1, 40, .boolean, []),
  (1, 41, .int, []),
  (1, 9080, .int, []),
  (1, 9080, .int, []),
  (1, 9080, .int, []),
  (1, 9080, .int, []),
  (0, 5, .int, [50, 2, 0, 0, 0, 0, 0, 52, 53, 0, 54, 55, 56, 57]),
  (0, 7, .int, [2, 0, 0, 0, 0, 1, 0, 1]),
  (1, 0, .byte, []),
  (1, 40, .int, []),
  (2, 44, .long, []),
  (1, 126, .int, []),
  (1, 126, .int, []),
  (1, 126, .int, []),
  (1, 164, .int, []),
  (0, 0, .int, [59, 60, 61, 62, 63, 0]),
  (1, 3000, .int, []),
  (1, 3000, .int, []),
  (1, 3000, .int, []),
  (1, 3000, .int, []),
  (1, 3000, .int, []),
  (0, 2, .int, [2, 2, 2, 0, 0, 0, 65, 66, 67, 68, 69, 70, 71, 72, 0]),
  (1, 40, .boolean, []),
  (1, 160, .int, []),
  (1, 40, .int, []),
  (1, 40, .int, []),
  (1, 44, .int, []),
  (1, 3000, .int, []),
  (1, 3000, .int, []),
  (1, 3000, .int, []),
  (0, 6, .int, [2, 74, 2, 0, 0, 0, 0, 0, 0, 0, 0, 0, 2, 2, 2, 0, 2, 2, 0, 2]),
  (0, 1, .int, [0, 0, 0, 75, 76, 77, 78, 79, 80, 81, 82, 83, 84]),
  (1, 1000, .int, []),
  (1, 1000, .int, []),
  (2, 4000, .long, []),
  (2, 1000, .long, []),
  (1, 1000, .int, []),
  (1, 1000, .int, []),
  (1, 1000, .int, []),
  (1, 1000, .int, []),
  (1, 1000, .int, []),
  (1, 1000, .int, [])]
def YC_90 : List Ent := [(0, 8, .int, [4, 0, 2, 0, 0, 0, 49, 0, 0, 2, 58, 64, 2]),
  (1, 3000, .byte, []),
  (0, 4, .int, [6, 0, 0, 21, 22, 0, 0, 15, 16, 17, 18, 19, 20, 23, 24, 25, 26]),
  (0, 3, .int, [0, 7, 8, 9, 10, 11, 12, 13]),
  (1, 1549, .int, []),
  (1, 1549, .int, []),
  (1, 7745, .int, []),
  (1, 1549, .int, []),
  (1, 1549, .boolean, []),
  (1, 512, .int, []),
  (1, 1549, .int, []),
  (1, 4, .int, []),
  (2, 40, .long, []),
  (1, 40, .int, []),
  (1, 40, .int, []),
  (1, 40, .int, []),
  (1, 160, .int, []),
  (1, 40, .int, []),
  (1, 40, .boolean, []),
  (1, 41, .int, []),
  (1, 9080, .int, []),
  (1, 9080, .int, []),
  (1, 9080, .int, []),
  (1, 9080, .int, []),
  (0, 4, .int, [28, 0, 0, 43, 44, 0, 0, 37, 38, 39, 40, 41, 42, 45, 46, 47, 48]),
  (0, 3, .int, [0, 29, 30, 31, 32, 33, 34, 35]),
  (1, 1549, .int, []),
  (1, 1549, .int, []),
  (1, 7745, .int, []),
  (1, 1549, .int, []),
  (1, 1549, .boolean, []),
  (1, 512, .int, []),
  (1, 1549, .int, []),
  (1, 4, .int, []),
  (2, 40, .long, []),
  (1, 40, .int, []),
  (1, 40, .int, []),
  (1, 40, .int, []),
  (1, 160, .int, []),
  (1, 40, .int, []),
  (1, 40, .boolean, []),
  (1, 41, .int, []),
  (1, 9080, .int, []),
  (1, 9080, .int, []),
  (1, 9080, .int, []),
  (1, 9080, .int, []),
  (0, 5, .int, [50, 2, 0, 0, 0, 0, 0, 52, 53, 0, 54, 55, 56, 57]),
  (0, 7, .int, [2, 0, 0, 0, 0, 1, 0, 1]),
  (1, 0, .byte, []),
  (1, 40, .int, []),
  (2, 44, .long, []),
  (1, 126, .int, []),
  (1, 126, .int, []),
  (1, 126, .int, []),
  (1, 164, .int, []),
  (0, 0, .int, [59, 60, 61, 62, 63, 0]),
  (1, 3000, .int, []),
  (1, 3000, .int, []),
  (1, 3000, .int, []),
  (1, 3000, .int, []),
  (1, 3000, .int, []),
  (0, 2, .int, [2, 2, 2, 0, 0, 0, 65, 66, 67, 68, 69, 70, 71, 72, 0]),
  (1, 40, .boolean, []),
  (1, 160, .int, []),
  (1, 40, .int, []),
  (1, 40, .int, []),
  (1, 44, .int, []),
  (1, 3000, .int, []),
  (1, 3000, .int, []),
  (1, 3000, .int, []),
  (0, 6, .int, [2, 74, 2, 0, 0, 0, 0, 0, 0, 0, 0, 0, 85, 2, 2, 0, 2, 2, 0, 2]),
  (0, 1, .int, [0, 0, 0, 75, 76, 77, 78, 79, 80, 81, 82, 83, 84]),
  (1, 1000, .int, []),
  (1, 1000, .int, []),
  (2, 4000, .long, []),
  (2, 1000, .long, []),
  (1, 1000, .int, []),
  (1, 1000, .int, []),
  (1, 1000, .int, []),
  (1, 1000, .int, []),
  (1, 1000, .int, []),
  (1, 1000, .int, []),
  (1, 100, .int, [])]
def YC_91 : List Ent := [(0, 8, .int, [4, 0, 2, 0, 0, 0, 49, 0, 0, 2, 58, 64, 2]),
  (1, 3000, .byte, []),
  (0, 4, .int, [6, 0, 0, 21, 22, 0, 0, 15, 16, 17, 18, 19, 20, 23, 24, 25, 26]),
  (0, 3, .int, [0, 7, 8, 9, 10, 11, 12, 13]),
  (1, 1549, .int, []),
  (1, 1549, .int, []),
  (1, 7745, .int, []),
  (1, 1549, .int, []),
  (1, 1549, .boolean, []),
  (1, 512, .int, []),
  (1, 1549, .int, []),
  (1, 4, .int, []),
  (2, 40, .long, []),
  (1, 40, .int, []),
  (1, 40, .int, []),
  (1, 40, .int, []),
  (1, 160, .int, []),
  (1, 40, .int, []),
  (1, 40, .boolean, []),
  (1, 41, .int, []),
  (1, 9080, .int, []),
  (1, 9080, .int, []),
  (1, 9080, .int, []),
  (1, 9080, .int, []),
  (0, 4, .int, [28, 0, 0, 43, 44, 0, 0, 37, 38, 39, 40, 41, 42, 45, 46, 47, 48]),
  (0, 3, .int, [0, 29, 30, 31, 32, 33, 34, 35]),
  (1, 1549, .int, []),
  (1, 1549, .int, []),
  (1, 7745, .int, []),
  (1, 1549, .int, []),
  (1, 1549, .boolean, []),
  (1, 512, .int, []),
  (1, 1549, .int, []),
  (1, 4, .int, []),
  (2, 40, .long, []),
  (1, 40, .int, []),
  (1, 40, .int, []),
  (1, 40, .int, []),
  (1, 160, .int, []),
  (1, 40, .int, []),
  (1, 40, .boolean, []),
  (1, 41, .int, []),
  (1, 9080, .int, []),
  (1, 9080, .int, []),
  (1, 9080, .int, []),
  (1, 9080, .int, []),
  (0, 5, .int, [50, 2, 0, 0, 0, 0, 0, 52, 53, 0, 54, 55, 56, 57]),
  (0, 7, .int, [2, 0, 0, 0, 0, 1, 0, 1]),
  (1, 0, .byte, []),
  (1, 40, .int, []),
  (2, 44, .long, []),
  (1, 126, .int, []),
  (1, 126, .int, []),
  (1, 126, .int, []),
  (1, 164, .int, []),
  (0, 0, .int, [59, 60, 61, 62, 63, 0]),
  (1, 3000, .int, []),
  (1, 3000, .int, []),
  (1, 3000, .int, []),
  (1, 3000, .int, []),
  (1, 3000, .int, []),
  (0, 2, .int, [2, 2, 2, 0, 0, 0, 65, 66, 67, 68, 69, 70, 71, 72, 0]),
  (1, 40, .boolean, []),
  (1, 160, .int, []),
  (1, 40, .int, []),
  (1, 40, .int, []),
  (1, 44, .int, []),
  (1, 3000, .int, []),
  (1, 3000, .int, []),
  (1, 3000, .int, []),
  (0, 6, .int, [2, 74, 2, 0, 0, 0, 0, 0, 0, 0, 0, 0, 85, 86, 2, 0, 2, 2, 0, 2]),
  (0, 1, .int, [0, 0, 0, 75, 76, 77, 78, 79, 80, 81, 82, 83, 84]),
  (1, 1000, .int, []),
  (1, 1000, .int, []),
  (2, 4000, .long, []),
  (2, 1000, .long, []),
  (1, 1000, .int, []),
  (1, 1000, .int, []),
  (1, 1000, .int, []),
  (1, 1000, .int, []),
  (1, 1000, .int, []),
  (1, 1000, .int, []),
  (1, 100, .int, []),
  (2, 4400, .long, [])]
def YC_92 : List Ent := [(0, 8, .int, [4, 0, 2, 0, 0, 0, 49, 0, 0, 2, 58, 64, 2]),
  (1, 3000, .byte, []),
  (0, 4, .int, [6, 0, 0, 21, 22, 0, 0, 15, 16, 17, 18, 19, 20, 23, 24, 25, 26]),
  (0, 3, .int, [0, 7, 8, 9, 10, 11, 12, 13]),
  (1, 1549, .int, []),
  (1, 1549, .int, []),
  (1, 7745, .int, []),
  (1, 1549, .int, []),
  (1, 1549, .boolean, []),
  (1, 512, .int, []),
  (1, 1549, .int, []),
  (1, 4, .int, []),
  (2, 40, .long, []),
  (1, 40, .int, []),
  (1, 40, .int, []),
  (1, 40, .int, []),
  (1, 160, .int, []),
  (1, 40, .int, []),
  (1, 40, .boolean, []),
  (1, 41, .int, []),
  (1, 9080, .int, []),
  (1, 9080, .int, []),
  (1, 9080, .int, []),
  (1, 9080, .int, []),
  (0, 4, .int, [28, 0, 0, 43, 44, 0, 0, 37, 38, 39, 40, 41, 42, 45, 46, 47, 48]),
  (0, 3, .int, [0, 29, 30, 31, 32, 33, 34, 35]),
  (1, 1549, .int, []),
  (1, 1549, .int, []),
  (1, 7745, .int, []),
  (1, 1549, .int, []),
  (1, 1549, .boolean, []),
  (1, 512, .int, []),
  (1, 1549, .int, []),
  (1, 4, .int, []),
  (2, 40, .long, []),
  (1, 40, .int, []),
  (1, 40, .int, []),
  (1, 40, .int, []),
  (1, 160, .int, []),
  (1, 40, .int, []),
  (1, 40, .boolean, []),
  (1, 41, .int, []),
  (1, 9080, .int, []),
  (1, 9080, .int, []),
  (1, 9080, .int, []),
  (1, 9080, .int, []),
  (0, 5, .int, [50, 2, 0, 0, 0, 0, 0, 52, 53, 0, 54, 55, 56, 57]),
  (0, 7, .int, [2, 0, 0, 0, 0, 1, 0, 1]),
  (1, 0, .byte, []),
  (1, 40, .int, []),
  (2, 44, .long, []),
  (1, 126, .int, []),
  (1, 126, .int, []),
  (1, 126, .int, []),
  (1, 164, .int, []),
  (0, 0, .int, [59, 60, 61, 62, 63, 0]),
  (1, 3000, .int, []),
  (1, 3000, .int, []),
  (1, 3000, .int, []),
  (1, 3000, .int, []),
  (1, 3000, .int, []),
  (0, 2, .int, [2, 2, 2, 0, 0, 0, 65, 66, 67, 68, 69, 70, 71, 72, 0]),
  (1, 40, .boolean, []),
  (1, 160, .int, []),
  (1, 40, .int, []),
  (1, 40, .int, []),
  (1, 44, .int, []),
  (1, 3000, .int, []),
  (1, 3000, .int, []),
  (1, 3000, .int, []),
  (0, 6, .int, [2, 74, 2, 0, 0, 0, 0, 0, 0, 0, 0, 0, 85, 86, 87, 0, 2, 2, 0, 2]),
  (0, 1, .int, [0, 0, 0, 75, 76, 77, 78, 79, 80, 81, 82, 83, 84]),
  (1, 1000, .int, []),
  (1, 1000, .int, []),
  (2, 4000, .long, []),
  (2, 1000, .long, []),
  (1, 1000, .int, []),
  (1, 1000, .int, []),
  (1, 1000, .int, []),
  (1, 1000, .int, []),
  (1, 1000, .int, []),
  (1, 1000, .int, []),
  (1, 100, .int, []),
  (2, 4400, .long, []),
  (2, 20002, .long, [])]
def YC_93 : List Ent := [(0, 8, .int, [4, 0, 2, 0, 0, 0, 49, 0, 0, 2, 58, 64, 2]),
  (1, 3000, .byte, []),
  (0, 4, .int, [6, 0, 0, 21, 22, 0, 0, 15, 16, 17, 18, 19, 20, 23, 24, 25, 26]),
  (0, 3, .int, [0, 7, 8, 9, 10, 11, 12, 13]),
  (1, 1549, .int, []),
  (1, 1549, .int, []),
  (1, 7745, .int, []),
  (1, 1549, .int, []),
  (1, 1549, .boolean, []),
  (1, 512, .int, []),
  (1, 1549, .int, []),
  (1, 4, .int, []),
  (2, 40, .long, []),
  (1, 40, .int, []),
  (1, 40, .int, []),
  (1, 40, .int, []),
  (1, 160, .int, []),
  (1, 40, .int, []),
  (1, 40, .boolean, []),
  (1, 41, .int, []),
  (1, 9080, .int, []),
  (1, 9080, .int, []),
  (1, 9080, .int, []),
  (1, 9080, .int, []),
  (0, 4, .int, [28, 0, 0, 43, 44, 0, 0, 37, 38, 39, 40, 41, 42, 45, 46, 47, 48]),
  (0, 3, .int, [0, 29, 30, 31, 32, 33, 34, 35]),
  (1, 1549, .int, []),
  (1, 1549, .int, []),
  (1, 7745, .int, []),
  (1, 1549, .int, []),
  (1, 1549, .boolean, []),
  (1, 512, .int, []),
  (1, 1549, .int, []),
  (1, 4, .int, []),
  (2, 40, .long, []),
  (1, 40, .int, []),
  (1, 40, .int, []),
  (1, 40, .int, []),
  (1, 160, .int, []),
  (1, 40, .int, []),
  (1, 40, .boolean, []),
  (1, 41, .int, []),
  (1, 9080, .int, []),
  (1, 9080, .int, []),
  (1, 9080, .int, []),
  (1, 9080, .int, []),
  (0, 5, .int, [50, 2, 0, 0, 0, 0, 0, 52, 53, 0, 54, 55, 56, 57]),
  (0, 7, .int, [2, 0, 0, 0, 0, 1, 0, 1]),
  (1, 0, .byte, []),
  (1, 40, .int, []),
  (2, 44, .long, []),
  (1, 126, .int, []),
  (1, 126, .int, []),
  (1, 126, .int, []),
  (1, 164, .int, []),
  (0, 0, .int, [59, 60, 61, 62, 63, 0]),
  (1, 3000, .int, []),
  (1, 3000, .int, []),
  (1, 3000, .int, []),
  (1, 3000, .int, []),
  (1, 3000, .int, []),
  (0, 2, .int, [2, 2, 2, 0, 0, 0, 65, 66, 67, 68, 69, 70, 71, 72, 0]),
  (1, 40, .boolean, []),
  (1, 160, .int, []),
  (1, 40, .int, []),
  (1, 40, .int, []),
  (1, 44, .int, []),
  (1, 3000, .int, []),
  (1, 3000, .int, []),
  (1, 3000, .int, []),
  (0, 6, .int, [2, 74, 2, 0, 0, 0, 0, 0, 0, 0, 0, 0, 85, 86, 87, 0, 88, 2, 0, 2]),
  (0, 1, .int, [0, 0, 0, 75, 76, 77, 78, 79, 80, 81, 82, 83, 84]),
  (1, 1000, .int, []),
  (1, 1000, .int, []),
  (2, 4000, .long, []),
  (2, 1000, .long, []),
  (1, 1000, .int, []),
  (1, 1000, .int, []),
  (1, 1000, .int, []),
  (1, 1000, .int, []),
  (1, 1000, .int, []),
  (1, 1000, .int, []),
  (1, 100, .int, []),
  (2, 4400, .long, []),
  (2, 20002, .long, []),
  (1, 20, .int, [])]
def YC_94 : List Ent := [(0, 8, .int, [4, 0, 2, 0, 0, 0, 49, 0, 0, 2, 58, 64, 2]),
  (1, 3000, .byte, []),
  (0, 4, .int, [6, 0, 0, 21, 22, 0, 0, 15, 16, 17, 18, 19, 20, 23, 24, 25, 26]),
  (0, 3, .int, [0, 7, 8, 9, 10, 11, 12, 13]),
  (1, 1549, .int, []),
  (1, 1549, .int, []),
  (1, 7745, .int, []),
  (1, 1549, .int, []),
  (1, 1549, .boolean, []),
  (1, 512, .int, []),
  (1, 1549, .int, []),
  (1, 4, .int, []),
  (2, 40, .long, []),
  (1, 40, .int, []),
  (1, 40, .int, []),
  (1, 40, .int, []),
  (1, 160, .int, []),
  (1, 40, .int, []),
  (1, 40, .boolean, []),
  (1, 41, .int, []),
  (1, 9080, .int, []),
  (1, 9080, .int, []),
  (1, 9080, .int, []),
  (1, 9080, .int, []),
  (0, 4, .int, [28, 0, 0, 43, 44, 0, 0, 37, 38, 39, 40, 41, 42, 45, 46, 47, 48]),
  (0, 3, .int, [0, 29, 30, 31, 32, 33, 34, 35]),
  (1, 1549, .int, []),
  (1, 1549, .int, []),
  (1, 7745, .int, []),
  (1, 1549, .int, []),
  (1, 1549, .boolean, []),
  (1, 512, .int, []),
  (1, 1549, .int, []),
  (1, 4, .int, []),
  (2, 40, .long, []),
  (1, 40, .int, []),
  (1, 40, .int, []),
  (1, 40, .int, []),
  (1, 160, .int, []),
  (1, 40, .int, []),
  (1, 40, .boolean, []),
  (1, 41, .int, []),
  (1, 9080, .int, []),
  (1, 9080, .int, []),
  (1, 9080, .int, []),
  (1, 9080, .int, []),
  (0, 5, .int, [50, 2, 0, 0, 0, 0, 0, 52, 53, 0, 54, 55, 56, 57]),
  (0, 7, .int, [2, 0, 0, 0, 0, 1, 0, 1]),
  (1, 0, .byte, []),
  (1, 40, .int, []),
  (2, 44, .long, []),
  (1, 126, .int, []),
  (1, 126, .int, []),
  (1, 126, .int, []),
  (1, 164, .int, []),
  (0, 0, .int, [59, 60, 61, 62, 63, 0]),
  (1, 3000, .int, []),
  (1, 3000, .int, []),
  (1, 3000, .int, []),
  (1, 3000, .int, []),
  (1, 3000, .int, []),
  (0, 2, .int, [2, 2, 2, 0, 0, 0, 65, 66, 67, 68, 69, 70, 71, 72, 0]),
  (1, 40, .boolean, []),
  (1, 160, .int, []),
  (1, 40, .int, []),
  (1, 40, .int, []),
  (1, 44, .int, []),
  (1, 3000, .int, []),
  (1, 3000, .int, []),
  (1, 3000, .int, []),
  (0, 6, .int, [2, 74, 2, 0, 0, 0, 0, 0, 0, 0, 0, 0, 85, 86, 87, 0, 88, 89, 0, 2]),
  (0, 1, .int, [0, 0, 0, 75, 76, 77, 78, 79, 80, 81, 82, 83, 84]),
  (1, 1000, .int, []),
  (1, 1000, .int, []),
  (2, 4000, .long, []),
  (2, 1000, .long, []),
  (1, 1000, .int, []),
  (1, 1000, .int, []),
  (1, 1000, .int, []),
  (1, 1000, .int, []),
  (1, 1000, .int, []),
  (1, 1000, .int, []),
  (1, 100, .int, []),
  (2, 4400, .long, []),
  (2, 20002, .long, []),
  (1, 20, .int, []),
  (1, 200, .int, [])]
def YC_95 : List Ent := [(0, 8, .int, [4, 0, 2, 0, 0, 0, 49, 0, 0, 2, 58, 64, 2]),
  (1, 3000, .byte, []),
  (0, 4, .int, [6, 0, 0, 21, 22, 0, 0, 15, 16, 17, 18, 19, 20, 23, 24, 25, 26]),
  (0, 3, .int, [0, 7, 8, 9, 10, 11, 12, 13]),
  (1, 1549, .int, []),
  (1, 1549, .int, []),
  (1, 7745, .int, []),
  (1, 1549, .int, []),
  (1, 1549, .boolean, []),
  (1, 512, .int, []),
  (1, 1549, .int, []),
  (1, 4, .int, []),
  (2, 40, .long, []),
  (1, 40, .int, []),
  (1, 40, .int, []),
  (1, 40, .int, []),
  (1, 160, .int, []),
  (1, 40, .int, []),
  (1, 40, .boolean, []),
  (1, 41, .int, []),
  (1, 9080, .int, []),
  (1, 9080, .int, []),
  (1, 9080, .int, []),
  (1, 9080, .int, []),
  (0, 4, .int, [28, 0, 0, 43, 44, 0, 0, 37, 38, 39, 40, 41, 42, 45, 46, 47, 48]),
  (0, 3, .int, [0, 29, 30, 31, 32, 33, 34, 35]),
  (1, 1549, .int, []),
  (1, 1549, .int, []),
  (1, 7745, .int, []),
  (1, 1549, .int, []),
  (1, 1549, .boolean, []),
  (1, 512, .int, []),
  (1, 1549, .int, []),
  (1, 4, .int, []),
  (2, 40, .long, []),
  (1, 40, .int, []),
  (1, 40, .int, []),
  (1, 40, .int, []),
  (1, 160, .int, []),
  (1, 40, .int, []),
  (1, 40, .boolean, []),
  (1, 41, .int, []),
  (1, 9080, .int, []),
  (1, 9080, .int, []),
  (1, 9080, .int, []),
  (1, 9080, .int, []),
  (0, 5, .int, [50, 2, 0, 0, 0, 0, 0, 52, 53, 0, 54, 55, 56, 57]),
  (0, 7, .int, [2, 0, 0, 0, 0, 1, 0, 1]),
  (1, 0, .byte, []),
  (1, 40, .int, []),
  (2, 44, .long, []),
  (1, 126, .int, []),
  (1, 126, .int, []),
  (1, 126, .int, []),
  (1, 164, .int, []),
  (0, 0, .int, [59, 60, 61, 62, 63, 0]),
  (1, 3000, .int, []),
  (1, 3000, .int, []),
  (1, 3000, .int, []),
  (1, 3000, .int, []),
  (1, 3000, .int, []),
  (0, 2, .int, [2, 2, 2, 0, 0, 0, 65, 66, 67, 68, 69, 70, 71, 72, 0]),
  (1, 40, .boolean, []),
  (1, 160, .int, []),
  (1, 40, .int, []),
  (1, 40, .int, []),
  (1, 44, .int, []),
  (1, 3000, .int, []),
  (1, 3000, .int, []),
  (1, 3000, .int, []),
  (0, 6, .int, [2, 74, 2, 0, 0, 0, 0, 0, 0, 0, 0, 0, 85, 86, 87, 0, 88, 89, 0, 90]),
  (0, 1, .int, [0, 0, 0, 75, 76, 77, 78, 79, 80, 81, 82, 83, 84]),
  (1, 1000, .int, []),
  (1, 1000, .int, []),
  (2, 4000, .long, []),
  (2, 1000, .long, []),
  (1, 1000, .int, []),
  (1, 1000, .int, []),
  (1, 1000, .int, []),
  (1, 1000, .int, []),
  (1, 1000, .int, []),
  (1, 1000, .int, []),
  (1, 100, .int, []),
  (2, 4400, .long, []),
  (2, 20002, .long, []),
  (1, 20, .int, []),
  (1, 200, .int, []),
  (1, 1600, .int, [])]
theorem oCfA_3 : isO YC_11 3 3 8 := ⟨rfl, rfl, rfl⟩
section FfA
variable {ρ : Type} {Γ : Gx} {cc : ByteArray} {nL : Nat} {own : String} {ret : Option FieldType} {R0 : Room} {As rest : List Value} {q : QT ρ} {pc : Nat} {lv : List (Nat × Value)} {X : St} {F : Option (ρ × St)} {index : Nat}
end FfA
noncomputable def hfA_fill_5_s (r5 : Nat → Int32 → Int32 → Int32 → St → Option (Int32 × St)) (e_0 : Nat) (a_1 : Int32) (a_2 : Int32) (a_3 : Int32) (X : St) : Option (Int32 × St) :=
  if a_3.toInt ≤ a_2.toInt then
    some (0, X)
  else
    chk (inR a_2 (zY YC_11 e_0)) (letV (wI X e_0 (ix a_2) a_1) fun X2 =>
    letV (a_2 + Int32.ofInt (1)) fun x3 =>
    r5 e_0 a_1 x3 a_3 X2)
noncomputable def hfA_fill_5 (n : Nat) : Nat → Int32 → Int32 → Int32 → St → Option (Int32 × St) := lp (fun _ _ _ _ _ => none) (hfA_fill_5_s) n
set_option maxHeartbeats 4000000 in
set_option maxRecDepth 100000 in
theorem khfA_fill_5 (Γ : Gx) (As : List Value) (n : Nat) : ∀ (e_0 : Nat) (he_0 : isA YC_11 e_0 1 (zY YC_11 e_0) .int) (a_1 : Int32) (a_2 : Int32) (a_3 : Int32) (X : St), T YC_11 Γ cJ7_fill_53178 4 "java/util/Arrays" none { frames := 2, cells := 0, slots := 0, locals := 70 } As qV 5 [(0, .ref (Γ.2.2.2.1 e_0)), (1, .int a_1), (2, .int a_2), (3, .int a_3)] [] X (hfA_fill_5 n e_0 a_1 a_2 a_3 X) := by
  unfold hfA_fill_5
  refine lp_ind (P := fun (r5 : Nat → Int32 → Int32 → Int32 → St → Option (Int32 × St)) => ∀ (e_0 : Nat) (he_0 : isA YC_11 e_0 1 (zY YC_11 e_0) .int) (a_1 : Int32) (a_2 : Int32) (a_3 : Int32) (X : St), T YC_11 Γ cJ7_fill_53178 4 "java/util/Arrays" none { frames := 2, cells := 0, slots := 0, locals := 70 } As qV 5 [(0, .ref (Γ.2.2.2.1 e_0)), (1, .int a_1), (2, .int a_2), (3, .int a_3)] [] X (r5 e_0 a_1 a_2 a_3 X)) (fun _ _ _ _ _ _ => T.no) ?_ n
  intro r5 hr5 e_0 he_0 a_1 a_2 a_3 X
  unfold hfA_fill_5_s
  refine T.iload_n dJ7_fill_53178_5 rfl 2 rfl ?_
  refine T.iload_n dJ7_fill_53178_6 rfl 3 rfl ?_
  refine T.icmp_ge (pc1 := 20) dJ7_fill_53178_7 (by decide) rfl ?_ ?_
  · exact T.ret_v rfl dJ7_fill_53178_20
  · refine T.aload_n dJ7_fill_53178_10 rfl 0 rfl ?_
    refine T.iload_n dJ7_fill_53178_11 rfl 2 rfl ?_
    refine T.iload_n dJ7_fill_53178_12 rfl 1 rfl ?_
    refine T.iast e_0 he_0 dJ7_fill_53178_13 (fun X2 => ?_)
    refine T.iinc dJ7_fill_53178_14 2 rfl (by decide) (lvf := fun x3 => [(2, .int x3), (0, .ref (Γ.2.2.2.1 e_0)), (1, .int a_1), (3, .int a_3)]) (fun _ => rfl) (fun x3 => ?_)
    refine T.goto (pc1 := 5) dJ7_fill_53178_17 (by decide) ?_
    refine T.sub [1, 2, 0, 3] rfl ?_
    exact hr5 e_0 he_0 a_1 x3 a_3 X2
noncomputable def hfA_fill (o0 : Nat) (p1 : Int32) (X : St) : Option (Int32 × St) :=
  letV (Int32.ofNat (zY YC_11 o0)) fun x1 =>
  hfA_fill_5 BIG o0 p1 (0 : Int32) x1 X
set_option maxHeartbeats 4000000 in
set_option maxRecDepth 100000 in
theorem khfA_fill (Γ : Gx) (o0 : Nat) (ho0 : isA YC_11 o0 1 (zY YC_11 o0) .int) (p1 : Int32) (X : St) : TMV YC_11 Γ yJ7_fill_53178 cJ7_fill_53178 4 "java/util/Arrays" none { frames := 2, cells := 0, slots := 0, locals := 70 } [.ref (Γ.2.2.2.1 o0), .int p1] X (hfA_fill o0 p1 X) := by
  refine TMV.of (by decide) (Nat.le_of_ble_eq_true rfl) rfl ?_
  show T YC_11 Γ cJ7_fill_53178 4 "java/util/Arrays" none { frames := 2, cells := 0, slots := 0, locals := 70 } _ qV 0 [(0, .ref (Γ.2.2.2.1 o0)), (1, .int p1)] [] X (hfA_fill o0 p1 X)
  unfold hfA_fill
  refine T.iconst (w := 0) dJ7_fill_53178_0 (by decide) ?_
  refine T.istore_n (lv1 := [(2, .int 0), (0, .ref (Γ.2.2.2.1 o0)), (1, .int p1)]) dJ7_fill_53178_1 rfl (by decide) rfl ?_
  refine T.aload_n dJ7_fill_53178_2 rfl 1 rfl ?_
  refine T.alenV o0 ho0 dJ7_fill_53178_3 (fun x1 => ?_)
  refine T.istore_n (lv1 := [(3, .int x1), (2, .int 0), (0, .ref (Γ.2.2.2.1 o0)), (1, .int p1)]) dJ7_fill_53178_4 rfl (by decide) rfl ?_
  refine T.sub [2, 3, 1, 0] rfl ?_
  exact khfA_fill_5 Γ _ BIG o0 ho0 p1 (0 : Int32) x1 X
theorem oCA_3 : isO YC_12 3 3 8 := ⟨rfl, rfl, rfl⟩
section FA
variable {ρ : Type} {Γ : Gx} {cc : ByteArray} {nL : Nat} {own : String} {ret : Option FieldType} {R0 : Room} {As rest : List Value} {q : QT ρ} {pc : Nat} {lv : List (Nat × Value)} {X : St} {F : Option (ρ × St)} {index : Nat}
theorem alCA10 {x : Int32} (hdg : decode cc pc = .ok (.iaload, 1)) {Kf : Int32 → Option (ρ × St)} (kk : ∀ w : Int32, T YC_12 Γ cc nL own ret R0 As q (pc + 1) lv (.int w :: rest) X (Kf w)) : T YC_12 Γ cc nL own ret R0 As q pc lv (.int x :: .ref (Γ.2.2.2.1 10) :: rest) X (chk (inR x 1549) (letV (X.1 10 (ix x)) Kf)) := T.iald 10 ⟨rfl, rfl, rfl⟩ hdg kk
theorem alCA4 {x : Int32} (hdg : decode cc pc = .ok (.iaload, 1)) {Kf : Int32 → Option (ρ × St)} (kk : ∀ w : Int32, T YC_12 Γ cc nL own ret R0 As q (pc + 1) lv (.int w :: rest) X (Kf w)) : T YC_12 Γ cc nL own ret R0 As q pc lv (.int x :: .ref (Γ.2.2.2.1 4) :: rest) X (chk (inR x 1549) (letV (X.1 4 (ix x)) Kf)) := T.iald 4 ⟨rfl, rfl, rfl⟩ hdg kk
theorem alCA5 {x : Int32} (hdg : decode cc pc = .ok (.iaload, 1)) {Kf : Int32 → Option (ρ × St)} (kk : ∀ w : Int32, T YC_12 Γ cc nL own ret R0 As q (pc + 1) lv (.int w :: rest) X (Kf w)) : T YC_12 Γ cc nL own ret R0 As q pc lv (.int x :: .ref (Γ.2.2.2.1 5) :: rest) X (chk (inR x 1549) (letV (X.1 5 (ix x)) Kf)) := T.iald 5 ⟨rfl, rfl, rfl⟩ hdg kk
theorem alCA6 {x : Int32} (hdg : decode cc pc = .ok (.iaload, 1)) {Kf : Int32 → Option (ρ × St)} (kk : ∀ w : Int32, T YC_12 Γ cc nL own ret R0 As q (pc + 1) lv (.int w :: rest) X (Kf w)) : T YC_12 Γ cc nL own ret R0 As q pc lv (.int x :: .ref (Γ.2.2.2.1 6) :: rest) X (chk (inR x 7745) (letV (X.1 6 (ix x)) Kf)) := T.iald 6 ⟨rfl, rfl, rfl⟩ hdg kk
theorem alCA7 {x : Int32} (hdg : decode cc pc = .ok (.iaload, 1)) {Kf : Int32 → Option (ρ × St)} (kk : ∀ w : Int32, T YC_12 Γ cc nL own ret R0 As q (pc + 1) lv (.int w :: rest) X (Kf w)) : T YC_12 Γ cc nL own ret R0 As q pc lv (.int x :: .ref (Γ.2.2.2.1 7) :: rest) X (chk (inR x 1549) (letV (X.1 7 (ix x)) Kf)) := T.iald 7 ⟨rfl, rfl, rfl⟩ hdg kk
theorem alCA8 {x : Int32} (hdg : decode cc pc = .ok (.baload, 1)) {Kf : Int32 → Option (ρ × St)} (kk : ∀ w : Int32, T YC_12 Γ cc nL own ret R0 As q (pc + 1) lv (.int w :: rest) X (Kf w)) : T YC_12 Γ cc nL own ret R0 As q pc lv (.int x :: .ref (Γ.2.2.2.1 8) :: rest) X (chk (inR x 1549) (letV (X.1 8 (ix x)) Kf)) := T.zald 8 ⟨rfl, rfl, rfl⟩ hdg kk
theorem alCA9 {x : Int32} (hdg : decode cc pc = .ok (.iaload, 1)) {Kf : Int32 → Option (ρ × St)} (kk : ∀ w : Int32, T YC_12 Γ cc nL own ret R0 As q (pc + 1) lv (.int w :: rest) X (Kf w)) : T YC_12 Γ cc nL own ret R0 As q pc lv (.int x :: .ref (Γ.2.2.2.1 9) :: rest) X (chk (inR x 512) (letV (X.1 9 (ix x)) Kf)) := T.iald 9 ⟨rfl, rfl, rfl⟩ hdg kk
theorem asCA10 {x : Int32} {w : Int32} (hdg : decode cc pc = .ok (.iastore, 1)) {Kf : St → Option (ρ × St)} (kk : ∀ X1 : St, T YC_12 Γ cc nL own ret R0 As q (pc + 1) lv rest X1 (Kf X1)) : T YC_12 Γ cc nL own ret R0 As q pc lv (.int w :: .int x :: .ref (Γ.2.2.2.1 10) :: rest) X (chk (inR x 1549) (letV (wI X 10 (ix x) w) Kf)) := T.iast 10 ⟨rfl, rfl, rfl⟩ hdg kk
theorem asCA4 {x : Int32} {w : Int32} (hdg : decode cc pc = .ok (.iastore, 1)) {Kf : St → Option (ρ × St)} (kk : ∀ X1 : St, T YC_12 Γ cc nL own ret R0 As q (pc + 1) lv rest X1 (Kf X1)) : T YC_12 Γ cc nL own ret R0 As q pc lv (.int w :: .int x :: .ref (Γ.2.2.2.1 4) :: rest) X (chk (inR x 1549) (letV (wI X 4 (ix x) w) Kf)) := T.iast 4 ⟨rfl, rfl, rfl⟩ hdg kk
theorem asCA5 {x : Int32} {w : Int32} (hdg : decode cc pc = .ok (.iastore, 1)) {Kf : St → Option (ρ × St)} (kk : ∀ X1 : St, T YC_12 Γ cc nL own ret R0 As q (pc + 1) lv rest X1 (Kf X1)) : T YC_12 Γ cc nL own ret R0 As q pc lv (.int w :: .int x :: .ref (Γ.2.2.2.1 5) :: rest) X (chk (inR x 1549) (letV (wI X 5 (ix x) w) Kf)) := T.iast 5 ⟨rfl, rfl, rfl⟩ hdg kk
theorem asCA6 {x : Int32} {w : Int32} (hdg : decode cc pc = .ok (.iastore, 1)) {Kf : St → Option (ρ × St)} (kk : ∀ X1 : St, T YC_12 Γ cc nL own ret R0 As q (pc + 1) lv rest X1 (Kf X1)) : T YC_12 Γ cc nL own ret R0 As q pc lv (.int w :: .int x :: .ref (Γ.2.2.2.1 6) :: rest) X (chk (inR x 7745) (letV (wI X 6 (ix x) w) Kf)) := T.iast 6 ⟨rfl, rfl, rfl⟩ hdg kk
theorem asCA7 {x : Int32} {w : Int32} (hdg : decode cc pc = .ok (.iastore, 1)) {Kf : St → Option (ρ × St)} (kk : ∀ X1 : St, T YC_12 Γ cc nL own ret R0 As q (pc + 1) lv rest X1 (Kf X1)) : T YC_12 Γ cc nL own ret R0 As q pc lv (.int w :: .int x :: .ref (Γ.2.2.2.1 7) :: rest) X (chk (inR x 1549) (letV (wI X 7 (ix x) w) Kf)) := T.iast 7 ⟨rfl, rfl, rfl⟩ hdg kk
theorem asCA8 {x : Int32} {w : Int32} (hdg : decode cc pc = .ok (.bastore, 1)) {Kf : St → Option (ρ × St)} (kk : ∀ X1 : St, T YC_12 Γ cc nL own ret R0 As q (pc + 1) lv rest X1 (Kf X1)) : T YC_12 Γ cc nL own ret R0 As q pc lv (.int w :: .int x :: .ref (Γ.2.2.2.1 8) :: rest) X (chk (inR x 1549) (letV (wI X 8 (ix x) (vp_nar .boolean w)) Kf)) := T.zast 8 ⟨rfl, rfl, rfl⟩ hdg kk
theorem asCA9 {x : Int32} {w : Int32} (hdg : decode cc pc = .ok (.iastore, 1)) {Kf : St → Option (ρ × St)} (kk : ∀ X1 : St, T YC_12 Γ cc nL own ret R0 As q (pc + 1) lv rest X1 (Kf X1)) : T YC_12 Γ cc nL own ret R0 As q pc lv (.int w :: .int x :: .ref (Γ.2.2.2.1 9) :: rest) X (chk (inR x 512) (letV (wI X 9 (ix x) w) Kf)) := T.iast 9 ⟨rfl, rfl, rfl⟩ hdg kk
theorem cCA3_1 (hlink : Cond.fieldLink own index "BlameCourt$Kinds" "sort" "[I" ∈ gtb) (hdg : decode cc pc = .ok (.getfield index, 3)) (kk : T YC_12 Γ cc nL own ret R0 As q (pc + 3) lv (.ref (Γ.2.2.2.1 4) :: rest) X F) : T YC_12 Γ cc nL own ret R0 As q pc lv (.ref (Γ.2.2.2.1 3) :: rest) X F := T.getC 3 oCA_3 rfl iX3 1 (by decide) rfl hlink hdg kk
theorem cCA3_2 (hlink : Cond.fieldLink own index "BlameCourt$Kinds" "takes" "[I" ∈ gtb) (hdg : decode cc pc = .ok (.getfield index, 3)) (kk : T YC_12 Γ cc nL own ret R0 As q (pc + 3) lv (.ref (Γ.2.2.2.1 5) :: rest) X F) : T YC_12 Γ cc nL own ret R0 As q pc lv (.ref (Γ.2.2.2.1 3) :: rest) X F := T.getC 3 oCA_3 rfl iX3 2 (by decide) rfl hlink hdg kk
theorem cCA3_3 (hlink : Cond.fieldLink own index "BlameCourt$Kinds" "inne\x72" "[I" ∈ gtb) (hdg : decode cc pc = .ok (.getfield index, 3)) (kk : T YC_12 Γ cc nL own ret R0 As q (pc + 3) lv (.ref (Γ.2.2.2.1 6) :: rest) X F) : T YC_12 Γ cc nL own ret R0 As q pc lv (.ref (Γ.2.2.2.1 3) :: rest) X F := T.getC 3 oCA_3 rfl iX3 3 (by decide) rfl hlink hdg kk
theorem cCA3_4 (hlink : Cond.fieldLink own index "BlameCourt$Kinds" "code" "[I" ∈ gtb) (hdg : decode cc pc = .ok (.getfield index, 3)) (kk : T YC_12 Γ cc nL own ret R0 As q (pc + 3) lv (.ref (Γ.2.2.2.1 7) :: rest) X F) : T YC_12 Γ cc nL own ret R0 As q pc lv (.ref (Γ.2.2.2.1 3) :: rest) X F := T.getC 3 oCA_3 rfl iX3 4 (by decide) rfl hlink hdg kk
theorem cCA3_5 (hlink : Cond.fieldLink own index "BlameCourt$Kinds" "hasAny" "[Z" ∈ gtb) (hdg : decode cc pc = .ok (.getfield index, 3)) (kk : T YC_12 Γ cc nL own ret R0 As q (pc + 3) lv (.ref (Γ.2.2.2.1 8) :: rest) X F) : T YC_12 Γ cc nL own ret R0 As q pc lv (.ref (Γ.2.2.2.1 3) :: rest) X F := T.getC 3 oCA_3 rfl iX3 5 (by decide) rfl hlink hdg kk
theorem cCA3_6 (hlink : Cond.fieldLink own index "BlameCourt$Kinds" "bucket" "[I" ∈ gtb) (hdg : decode cc pc = .ok (.getfield index, 3)) (kk : T YC_12 Γ cc nL own ret R0 As q (pc + 3) lv (.ref (Γ.2.2.2.1 9) :: rest) X F) : T YC_12 Γ cc nL own ret R0 As q pc lv (.ref (Γ.2.2.2.1 3) :: rest) X F := T.getC 3 oCA_3 rfl iX3 6 (by decide) rfl hlink hdg kk
theorem cCA3_7 (hlink : Cond.fieldLink own index "BlameCourt$Kinds" "nextInBucket" "[I" ∈ gtb) (hdg : decode cc pc = .ok (.getfield index, 3)) (kk : T YC_12 Γ cc nL own ret R0 As q (pc + 3) lv (.ref (Γ.2.2.2.1 10) :: rest) X F) : T YC_12 Γ cc nL own ret R0 As q pc lv (.ref (Γ.2.2.2.1 3) :: rest) X F := T.getC 3 oCA_3 rfl iX3 7 (by decide) rfl hlink hdg kk
theorem gCA3_0 (hlink : Cond.fieldLink own index "BlameCourt$Kinds" "count" "I" ∈ gtb) (hdg : decode cc pc = .ok (.getfield index, 3)) {Kf : Int32 → Option (ρ × St)} (kk : ∀ w : Int32, T YC_12 Γ cc nL own ret R0 As q (pc + 3) lv (.int w :: rest) X (Kf w)) : T YC_12 Γ cc nL own ret R0 As q pc lv (.ref (Γ.2.2.2.1 3) :: rest) X (letV (X.1 3 0) Kf) := T.getI 3 oCA_3 rfl iX3 0 (by decide) rfl hlink hdg kk
theorem pCA3_0 {w : Int32} (hlink : Cond.fieldLink own index "BlameCourt$Kinds" "count" "I" ∈ gtb) (hdg : decode cc pc = .ok (.putfield index, 3)) {Kf : St → Option (ρ × St)} (kk : ∀ X1 : St, T YC_12 Γ cc nL own ret R0 As q (pc + 3) lv rest X1 (Kf X1)) : T YC_12 Γ cc nL own ret R0 As q pc lv (.int w :: .ref (Γ.2.2.2.1 3) :: rest) X (letV (wI X 3 0 w) Kf) := T.putI 3 oCA_3 rfl iX3 0 (by decide) rfl hlink tyX3 tyX3_ok nmX3 rfl rfl rfl hdg kk
end FA
noncomputable def hA_bucketOf (p0 : Int32) (X : St) : Option (Int32 × St) :=
  letV ((p0.toUInt32 >>> ((9 : Int32).toUInt32 &&& Int32.toUInt32 31)).toInt32) fun x1 =>
  letV (p0 ^^^ x1) fun x2 =>
  letV ((p0.toUInt32 >>> ((18 : Int32).toUInt32 &&& Int32.toUInt32 31)).toInt32) fun x3 =>
  letV (x2 ^^^ x3) fun x4 =>
  letV (x4 &&& (511 : Int32)) fun x5 =>
  some (x5, X)
set_option maxHeartbeats 4000000 in
set_option maxRecDepth 100000 in
theorem khA_bucketOf (Γ : Gx) (p0 : Int32) (X : St) : TMI YC_12 Γ yX3_bucketOf cX3_bucketOf 1 "BlameCourt$Kinds" (some .int) { frames := 2, cells := 0, slots := 0, locals := 70 } [.int p0] X (hA_bucketOf p0 X) := by
  refine TMI.of (by decide) (Nat.le_of_ble_eq_true rfl) rfl ?_
  show T YC_12 Γ cX3_bucketOf 1 "BlameCourt$Kinds" (some .int) { frames := 2, cells := 0, slots := 0, locals := 70 } _ qI 0 [(0, .int p0)] [] X (hA_bucketOf p0 X)
  unfold hA_bucketOf
  refine T.iload_n dX3_bucketOf_0 rfl 0 rfl ?_
  refine T.iload_n dX3_bucketOf_1 rfl 0 rfl ?_
  refine T.bipush (w := 9) dX3_bucketOf_2 (by decide) ?_
  refine T.iushr dX3_bucketOf_4 (fun x1 => ?_)
  refine T.ixor dX3_bucketOf_5 (fun x2 => ?_)
  refine T.iload_n dX3_bucketOf_6 rfl 0 rfl ?_
  refine T.bipush (w := 18) dX3_bucketOf_7 (by decide) ?_
  refine T.iushr dX3_bucketOf_9 (fun x3 => ?_)
  refine T.ixor dX3_bucketOf_10 (fun x4 => ?_)
  refine T.sipush (w := 511) dX3_bucketOf_11 (by decide) ?_
  refine T.iand dX3_bucketOf_14 (fun x5 => ?_)
  exact T.ret_i rfl dX3_bucketOf_15
noncomputable def hA_codeOf (p1 : Int32) (X : St) : Option (Int32 × St) :=
  if p1.toInt < 0 then
    some ((-1), X)
  else
    letV (X.1 3 0) fun x1 =>
    if x1.toInt ≤ p1.toInt then
      some ((-1), X)
    else
      chk (inR p1 1549) (letV (X.1 7 (ix p1)) fun x2 =>
      some (x2, X))
set_option maxHeartbeats 4000000 in
set_option maxRecDepth 100000 in
theorem khA_codeOf (Γ : Gx) (p1 : Int32) (X : St) : TMI YC_12 Γ yX3_codeOf cX3_codeOf 2 "BlameCourt$Kinds" (some .int) { frames := 2, cells := 0, slots := 0, locals := 70 } [.ref (Γ.2.2.2.1 3), .int p1] X (hA_codeOf p1 X) := by
  refine TMI.of (by decide) (Nat.le_of_ble_eq_true rfl) rfl ?_
  show T YC_12 Γ cX3_codeOf 2 "BlameCourt$Kinds" (some .int) { frames := 2, cells := 0, slots := 0, locals := 70 } _ qI 0 [(0, .ref (Γ.2.2.2.1 3)), (1, .int p1)] [] X (hA_codeOf p1 X)
  unfold hA_codeOf
  refine T.iload_n dX3_codeOf_0 rfl 1 rfl ?_
  refine T.if_lt (pc1 := 21) dX3_codeOf_1 (by decide) ?_ ?_
  · refine T.iconst (w := (-1)) dX3_codeOf_21 (by decide) ?_
    exact T.ret_i rfl dX3_codeOf_22
  · refine T.iload_n dX3_codeOf_4 rfl 1 rfl ?_
    refine T.aload_n dX3_codeOf_5 rfl 0 rfl ?_
    refine gCA3_0 k257 dX3_codeOf_6 (fun x1 => ?_)
    refine T.icmp_ge (pc1 := 21) dX3_codeOf_9 (by decide) rfl ?_ ?_
    · refine T.iconst (w := (-1)) dX3_codeOf_21 (by decide) ?_
      exact T.ret_i rfl dX3_codeOf_22
    · refine T.aload_n dX3_codeOf_12 rfl 0 rfl ?_
      refine cCA3_4 k253 dX3_codeOf_13 ?_
      refine T.iload_n dX3_codeOf_16 rfl 1 rfl ?_
      refine alCA7 dX3_codeOf_17 (fun x2 => ?_)
      refine T.goto (pc1 := 22) dX3_codeOf_18 (by decide) ?_
      exact T.ret_i rfl dX3_codeOf_22
noncomputable def hA_hasAny (p1 : Int32) (X : St) : Option (Int32 × St) :=
  if p1.toInt < 0 then
    some (0, X)
  else
    letV (X.1 3 0) fun x1 =>
    if x1.toInt ≤ p1.toInt then
      some (0, X)
    else
      chk (inR p1 1549) (letV (X.1 8 (ix p1)) fun x2 =>
      if x2.toInt = 0 then
        some (0, X)
      else
        some (1, X))
set_option maxHeartbeats 4000000 in
set_option maxRecDepth 100000 in
theorem khA_hasAny (Γ : Gx) (p1 : Int32) (X : St) : TMI YC_12 Γ yX3_hasAny cX3_hasAny 2 "BlameCourt$Kinds" (some .boolean) { frames := 2, cells := 0, slots := 0, locals := 70 } [.ref (Γ.2.2.2.1 3), .int p1] X (hA_hasAny p1 X) := by
  refine TMI.of (by decide) (Nat.le_of_ble_eq_true rfl) rfl ?_
  show T YC_12 Γ cX3_hasAny 2 "BlameCourt$Kinds" (some .boolean) { frames := 2, cells := 0, slots := 0, locals := 70 } _ qI 0 [(0, .ref (Γ.2.2.2.1 3)), (1, .int p1)] [] X (hA_hasAny p1 X)
  unfold hA_hasAny
  refine T.iload_n dX3_hasAny_0 rfl 1 rfl ?_
  refine T.if_lt (pc1 := 25) dX3_hasAny_1 (by decide) ?_ ?_
  · refine T.iconst (w := 0) dX3_hasAny_25 (by decide) ?_
    exact T.ret_z rfl dX3_hasAny_26 rfl
  · refine T.iload_n dX3_hasAny_4 rfl 1 rfl ?_
    refine T.aload_n dX3_hasAny_5 rfl 0 rfl ?_
    refine gCA3_0 k257 dX3_hasAny_6 (fun x1 => ?_)
    refine T.icmp_ge (pc1 := 25) dX3_hasAny_9 (by decide) rfl ?_ ?_
    · refine T.iconst (w := 0) dX3_hasAny_25 (by decide) ?_
      exact T.ret_z rfl dX3_hasAny_26 rfl
    · refine T.aload_n dX3_hasAny_12 rfl 0 rfl ?_
      refine cCA3_5 k254 dX3_hasAny_13 ?_
      refine T.iload_n dX3_hasAny_16 rfl 1 rfl ?_
      refine alCA8 dX3_hasAny_17 (fun x2 => ?_)
      refine T.if_eq (pc1 := 25) dX3_hasAny_18 (by decide) ?_ ?_
      · refine T.iconst (w := 0) dX3_hasAny_25 (by decide) ?_
        exact T.ret_z rfl dX3_hasAny_26 rfl
      · refine T.iconst (w := 1) dX3_hasAny_21 (by decide) ?_
        refine T.goto (pc1 := 26) dX3_hasAny_22 (by decide) ?_
        exact T.ret_z rfl dX3_hasAny_26 rfl
noncomputable def hA_isSame_30_s (r30 : Int32 → Int32 → Nat → Int32 → Int32 → St → Option (Int32 × St)) (a_1 : Int32) (a_2 : Int32) (e_3 : Nat) (a_4 : Int32) (a_6 : Int32) (X : St) : Option (Int32 × St) :=
  if a_2.toInt ≤ a_6.toInt then
    some (1, X)
  else
    letV (a_1 * (5 : Int32)) fun x5 =>
    letV (x5 + a_6) fun x6 =>
    chk (inR x6 7745) (letV (X.1 6 (ix x6)) fun x7 =>
    letV (a_4 + a_6) fun x8 =>
    chk (inR x8 (zY YC_12 e_3)) (letV (X.1 e_3 (ix x8)) fun x9 =>
    if x7.toInt = x9.toInt then
      letV (a_6 + Int32.ofInt (1)) fun x10 =>
      r30 a_1 a_2 e_3 a_4 x10 X
    else
      some (0, X)))
noncomputable def hA_isSame_30 (n : Nat) : Int32 → Int32 → Nat → Int32 → Int32 → St → Option (Int32 × St) := lp (fun _ _ _ _ _ _ => none) (hA_isSame_30_s) n
set_option maxHeartbeats 4000000 in
set_option maxRecDepth 100000 in
theorem khA_isSame_30 (Γ : Gx) (As : List Value) (n : Nat) : ∀ (a_1 : Int32) (a_2 : Int32) (e_3 : Nat) (he_3 : isA YC_12 e_3 1 (zY YC_12 e_3) .int) (a_4 : Int32) (a_6 : Int32) (X : St), T YC_12 Γ cX3_isSame 7 "BlameCourt$Kinds" (some .boolean) { frames := 2, cells := 0, slots := 0, locals := 70 } As qI 30 [(0, .ref (Γ.2.2.2.1 3)), (1, .int a_1), (2, .int a_2), (3, .ref (Γ.2.2.2.1 e_3)), (4, .int a_4), (6, .int a_6)] [] X (hA_isSame_30 n a_1 a_2 e_3 a_4 a_6 X) := by
  unfold hA_isSame_30
  refine lp_ind (P := fun (r30 : Int32 → Int32 → Nat → Int32 → Int32 → St → Option (Int32 × St)) => ∀ (a_1 : Int32) (a_2 : Int32) (e_3 : Nat) (he_3 : isA YC_12 e_3 1 (zY YC_12 e_3) .int) (a_4 : Int32) (a_6 : Int32) (X : St), T YC_12 Γ cX3_isSame 7 "BlameCourt$Kinds" (some .boolean) { frames := 2, cells := 0, slots := 0, locals := 70 } As qI 30 [(0, .ref (Γ.2.2.2.1 3)), (1, .int a_1), (2, .int a_2), (3, .ref (Γ.2.2.2.1 e_3)), (4, .int a_4), (6, .int a_6)] [] X (r30 a_1 a_2 e_3 a_4 a_6 X)) (fun _ _ _ _ _ _ _ => T.no) ?_ n
  intro r30 hr30 a_1 a_2 e_3 he_3 a_4 a_6 X
  unfold hA_isSame_30_s
  refine T.iload dX3_isSame_30 5 rfl ?_
  refine T.iload_n dX3_isSame_32 rfl 2 rfl ?_
  refine T.icmp_ge (pc1 := 65) dX3_isSame_33 (by decide) rfl ?_ ?_
  · refine T.iconst (w := 1) dX3_isSame_65 (by decide) ?_
    exact T.ret_z rfl dX3_isSame_66 rfl
  · refine T.aload_n dX3_isSame_36 rfl 0 rfl ?_
    refine cCA3_3 k252 dX3_isSame_37 ?_
    refine T.iload_n dX3_isSame_40 rfl 1 rfl ?_
    refine T.iconst (w := 5) dX3_isSame_41 (by decide) ?_
    refine T.imul dX3_isSame_42 (fun x5 => ?_)
    refine T.iload dX3_isSame_43 5 rfl ?_
    refine T.iadd dX3_isSame_45 (fun x6 => ?_)
    refine alCA6 dX3_isSame_46 (fun x7 => ?_)
    refine T.aload_n dX3_isSame_47 rfl 3 rfl ?_
    refine T.iload dX3_isSame_48 4 rfl ?_
    refine T.iload dX3_isSame_50 5 rfl ?_
    refine T.iadd dX3_isSame_52 (fun x8 => ?_)
    refine T.iald e_3 he_3 dX3_isSame_53 (fun x9 => ?_)
    refine T.icmp_eq (pc1 := 59) dX3_isSame_54 (by decide) rfl ?_ ?_
    · refine T.iinc dX3_isSame_59 5 rfl (by decide) (lvf := fun x10 => [(6, .int x10), (0, .ref (Γ.2.2.2.1 3)), (1, .int a_1), (2, .int a_2), (3, .ref (Γ.2.2.2.1 e_3)), (4, .int a_4)]) (fun _ => rfl) (fun x10 => ?_)
      refine T.goto (pc1 := 30) dX3_isSame_62 (by decide) ?_
      refine T.sub [1, 2, 3, 4, 5, 0] rfl ?_
      exact hr30 a_1 a_2 e_3 he_3 a_4 x10 X
    · refine T.iconst (w := 0) dX3_isSame_57 (by decide) ?_
      exact T.ret_z rfl dX3_isSame_58 rfl
noncomputable def hA_isSame (p1 : Int32) (p2 : Int32) (o3 : Nat) (p4 : Int32) (p5 : Int32) (X : St) : Option (Int32 × St) :=
  chk (inR p1 1549) (letV (X.1 5 (ix p1)) fun x1 =>
  if x1.toInt = p2.toInt then
    letV (p1 * (5 : Int32)) fun x2 =>
    letV (x2 + (4 : Int32)) fun x3 =>
    chk (inR x3 7745) (letV (X.1 6 (ix x3)) fun x4 =>
    if x4.toInt = p5.toInt then
      hA_isSame_30 BIG p1 p2 o3 p4 (0 : Int32) X
    else
      some (0, X))
  else
    some (0, X))
set_option maxHeartbeats 4000000 in
set_option maxRecDepth 100000 in
theorem khA_isSame (Γ : Gx) (p1 : Int32) (p2 : Int32) (o3 : Nat) (ho3 : isA YC_12 o3 1 (zY YC_12 o3) .int) (p4 : Int32) (p5 : Int32) (X : St) : TMI YC_12 Γ yX3_isSame cX3_isSame 7 "BlameCourt$Kinds" (some .boolean) { frames := 2, cells := 0, slots := 0, locals := 70 } [.ref (Γ.2.2.2.1 3), .int p1, .int p2, .ref (Γ.2.2.2.1 o3), .int p4, .int p5] X (hA_isSame p1 p2 o3 p4 p5 X) := by
  refine TMI.of (by decide) (Nat.le_of_ble_eq_true rfl) rfl ?_
  show T YC_12 Γ cX3_isSame 7 "BlameCourt$Kinds" (some .boolean) { frames := 2, cells := 0, slots := 0, locals := 70 } _ qI 0 [(0, .ref (Γ.2.2.2.1 3)), (1, .int p1), (2, .int p2), (3, .ref (Γ.2.2.2.1 o3)), (4, .int p4), (5, .int p5)] [] X (hA_isSame p1 p2 o3 p4 p5 X)
  unfold hA_isSame
  refine T.aload_n dX3_isSame_0 rfl 0 rfl ?_
  refine cCA3_2 k251 dX3_isSame_1 ?_
  refine T.iload_n dX3_isSame_4 rfl 1 rfl ?_
  refine alCA5 dX3_isSame_5 (fun x1 => ?_)
  refine T.iload_n dX3_isSame_6 rfl 2 rfl ?_
  refine T.icmp_ne (pc1 := 25) dX3_isSame_7 (by decide) rfl ?_ ?_
  · refine T.iconst (w := 0) dX3_isSame_25 (by decide) ?_
    exact T.ret_z rfl dX3_isSame_26 rfl
  · refine T.aload_n dX3_isSame_10 rfl 0 rfl ?_
    refine cCA3_3 k252 dX3_isSame_11 ?_
    refine T.iload_n dX3_isSame_14 rfl 1 rfl ?_
    refine T.iconst (w := 5) dX3_isSame_15 (by decide) ?_
    refine T.imul dX3_isSame_16 (fun x2 => ?_)
    refine T.iconst (w := 4) dX3_isSame_17 (by decide) ?_
    refine T.iadd dX3_isSame_18 (fun x3 => ?_)
    refine alCA6 dX3_isSame_19 (fun x4 => ?_)
    refine T.iload dX3_isSame_20 5 rfl ?_
    refine T.icmp_eq (pc1 := 27) dX3_isSame_22 (by decide) rfl ?_ ?_
    · refine T.iconst (w := 0) dX3_isSame_27 (by decide) ?_
      refine T.istore (lv1 := [(6, .int 0), (0, .ref (Γ.2.2.2.1 3)), (1, .int p1), (2, .int p2), (3, .ref (Γ.2.2.2.1 o3)), (4, .int p4), (5, .int p5)]) dX3_isSame_28 (by decide) rfl ?_
      refine T.sub [1, 2, 3, 4, 5, 0] rfl ?_
      exact khA_isSame_30 Γ _ BIG p1 p2 o3 ho3 p4 (0 : Int32) X
    · refine T.iconst (w := 0) dX3_isSame_25 (by decide) ?_
      exact T.ret_z rfl dX3_isSame_26 rfl
noncomputable def hA_findOrAdd_221 (r172 : Int32 → Nat → Int32 → Int32 → Int32 → Int32 → Int32 → St → Option (Int32 × St)) (a_2 : Int32) (e_3 : Nat) (a_4 : Int32) (a_7 : Int32) (a_8 : Int32) (a_10 : Int32) (b_0 : Int32) (X : St) : Option (Int32 × St) :=
  letV (a_10 + Int32.ofInt (1)) fun x24 =>
  r172 a_2 e_3 a_4 a_7 a_8 b_0 x24 X
set_option maxHeartbeats 4000000 in
set_option maxRecDepth 100000 in
theorem khA_findOrAdd_221 (Γ : Gx) (As : List Value) (r172 : Int32 → Nat → Int32 → Int32 → Int32 → Int32 → Int32 → St → Option (Int32 × St)) (hr172 : ∀ (a_2 : Int32) (e_3 : Nat) (he_3 : isA YC_12 e_3 1 (zY YC_12 e_3) .int) (a_4 : Int32) (a_7 : Int32) (a_8 : Int32) (a_9 : Int32) (a_10 : Int32) (X : St), T YC_12 Γ cX3_findOrAdd 11 "BlameCourt$Kinds" (some .int) { frames := 3, cells := 0, slots := 0, locals := 110 } As qI 172 [(0, .ref (Γ.2.2.2.1 3)), (2, .int a_2), (3, .ref (Γ.2.2.2.1 e_3)), (4, .int a_4), (7, .int a_7), (8, .int a_8), (9, .int a_9), (10, .int a_10)] [] X (r172 a_2 e_3 a_4 a_7 a_8 a_9 a_10 X)) (a_2 : Int32) (e_3 : Nat) (he_3 : isA YC_12 e_3 1 (zY YC_12 e_3) .int) (a_4 : Int32) (a_7 : Int32) (a_8 : Int32) (a_10 : Int32) (b_0 : Int32) (X : St) : T YC_12 Γ cX3_findOrAdd 11 "BlameCourt$Kinds" (some .int) { frames := 3, cells := 0, slots := 0, locals := 110 } As qI 221 [(0, .ref (Γ.2.2.2.1 3)), (2, .int a_2), (3, .ref (Γ.2.2.2.1 e_3)), (4, .int a_4), (7, .int a_7), (8, .int a_8), (10, .int a_10)] [.int b_0] X (hA_findOrAdd_221 r172 a_2 e_3 a_4 a_7 a_8 a_10 b_0 X) := by
  unfold hA_findOrAdd_221
  refine T.istore (lv1 := [(9, .int b_0), (0, .ref (Γ.2.2.2.1 3)), (2, .int a_2), (3, .ref (Γ.2.2.2.1 e_3)), (4, .int a_4), (7, .int a_7), (8, .int a_8), (10, .int a_10)]) dX3_findOrAdd_221 (by decide) rfl ?_
  refine T.iinc dX3_findOrAdd_223 7 rfl (by decide) (lvf := fun x24 => [(10, .int x24), (9, .int b_0), (0, .ref (Γ.2.2.2.1 3)), (2, .int a_2), (3, .ref (Γ.2.2.2.1 e_3)), (4, .int a_4), (7, .int a_7), (8, .int a_8)]) (fun _ => rfl) (fun x24 => ?_)
  refine T.goto (pc1 := 172) dX3_findOrAdd_226 (by decide) ?_
  refine T.sub [2, 3, 4, 5, 6, 7, 1, 0] rfl ?_
  exact hr172 a_2 e_3 he_3 a_4 a_7 a_8 b_0 x24 X
noncomputable def hA_findOrAdd_216 (r172 : Int32 → Nat → Int32 → Int32 → Int32 → Int32 → Int32 → St → Option (Int32 × St)) (a_2 : Int32) (e_3 : Nat) (a_4 : Int32) (a_7 : Int32) (a_8 : Int32) (a_10 : Int32) (X : St) : Option (Int32 × St) :=
  hA_findOrAdd_221 r172 a_2 e_3 a_4 a_7 a_8 a_10 (1 : Int32) X
set_option maxHeartbeats 4000000 in
set_option maxRecDepth 100000 in
theorem khA_findOrAdd_216 (Γ : Gx) (As : List Value) (r172 : Int32 → Nat → Int32 → Int32 → Int32 → Int32 → Int32 → St → Option (Int32 × St)) (hr172 : ∀ (a_2 : Int32) (e_3 : Nat) (he_3 : isA YC_12 e_3 1 (zY YC_12 e_3) .int) (a_4 : Int32) (a_7 : Int32) (a_8 : Int32) (a_9 : Int32) (a_10 : Int32) (X : St), T YC_12 Γ cX3_findOrAdd 11 "BlameCourt$Kinds" (some .int) { frames := 3, cells := 0, slots := 0, locals := 110 } As qI 172 [(0, .ref (Γ.2.2.2.1 3)), (2, .int a_2), (3, .ref (Γ.2.2.2.1 e_3)), (4, .int a_4), (7, .int a_7), (8, .int a_8), (9, .int a_9), (10, .int a_10)] [] X (r172 a_2 e_3 a_4 a_7 a_8 a_9 a_10 X)) (a_2 : Int32) (e_3 : Nat) (he_3 : isA YC_12 e_3 1 (zY YC_12 e_3) .int) (a_4 : Int32) (a_7 : Int32) (a_8 : Int32) (a_10 : Int32) (X : St) : T YC_12 Γ cX3_findOrAdd 11 "BlameCourt$Kinds" (some .int) { frames := 3, cells := 0, slots := 0, locals := 110 } As qI 216 [(0, .ref (Γ.2.2.2.1 3)), (2, .int a_2), (3, .ref (Γ.2.2.2.1 e_3)), (4, .int a_4), (7, .int a_7), (8, .int a_8), (10, .int a_10)] [] X (hA_findOrAdd_216 r172 a_2 e_3 a_4 a_7 a_8 a_10 X) := by
  unfold hA_findOrAdd_216
  refine T.iconst (w := 1) dX3_findOrAdd_216 (by decide) ?_
  refine T.goto (pc1 := 221) dX3_findOrAdd_217 (by decide) ?_
  exact khA_findOrAdd_221 Γ _ r172 hr172 a_2 e_3 he_3 a_4 a_7 a_8 a_10 (1 : Int32) X
noncomputable def hA_findOrAdd_172_s (r172 : Int32 → Nat → Int32 → Int32 → Int32 → Int32 → Int32 → St → Option (Int32 × St)) (a_2 : Int32) (e_3 : Nat) (a_4 : Int32) (a_7 : Int32) (a_8 : Int32) (a_9 : Int32) (a_10 : Int32) (X : St) : Option (Int32 × St) :=
  if a_2.toInt ≤ a_10.toInt then
    chk (inR a_8 1549) (letV (wI X 8 (ix a_8) (vp_nar .boolean a_9)) fun X15 =>
    chk (inR a_7 512) (letV (X15.1 9 (ix a_7)) fun x16 =>
    chk (inR a_8 1549) (letV (wI X15 10 (ix a_8) x16) fun X17 =>
    chk (inR a_7 512) (letV (wI X17 9 (ix a_7) a_8) fun X18 =>
    some (a_8, X18)))))
  else
    letV (a_8 * (5 : Int32)) fun x19 =>
    letV (x19 + a_10) fun x20 =>
    letV (a_4 + a_10) fun x21 =>
    chk (inR x21 (zY YC_12 e_3)) (letV (X.1 e_3 (ix x21)) fun x22 =>
    chk (inR x20 7745) (letV (wI X 6 (ix x20) x22) fun X23 =>
    if a_9.toInt = 0 then
      letV (a_4 + a_10) fun x25 =>
      chk (inR x25 (zY YC_12 e_3)) (letV (X23.1 e_3 (ix x25)) fun x26 =>
      bnd (hA_hasAny x26 X23) fun x27 X28 =>
      if x27.toInt = 0 then
        hA_findOrAdd_221 r172 a_2 e_3 a_4 a_7 a_8 a_10 (0 : Int32) X28
      else
        hA_findOrAdd_216 r172 a_2 e_3 a_4 a_7 a_8 a_10 X28)
    else
      hA_findOrAdd_216 r172 a_2 e_3 a_4 a_7 a_8 a_10 X23))
noncomputable def hA_findOrAdd_172 (n : Nat) : Int32 → Nat → Int32 → Int32 → Int32 → Int32 → Int32 → St → Option (Int32 × St) := lp (fun _ _ _ _ _ _ _ _ => none) (hA_findOrAdd_172_s) n
set_option maxHeartbeats 4000000 in
set_option maxRecDepth 100000 in
theorem khA_findOrAdd_172 (Γ : Gx) (As : List Value) (n : Nat) : ∀ (a_2 : Int32) (e_3 : Nat) (he_3 : isA YC_12 e_3 1 (zY YC_12 e_3) .int) (a_4 : Int32) (a_7 : Int32) (a_8 : Int32) (a_9 : Int32) (a_10 : Int32) (X : St), T YC_12 Γ cX3_findOrAdd 11 "BlameCourt$Kinds" (some .int) { frames := 3, cells := 0, slots := 0, locals := 110 } As qI 172 [(0, .ref (Γ.2.2.2.1 3)), (2, .int a_2), (3, .ref (Γ.2.2.2.1 e_3)), (4, .int a_4), (7, .int a_7), (8, .int a_8), (9, .int a_9), (10, .int a_10)] [] X (hA_findOrAdd_172 n a_2 e_3 a_4 a_7 a_8 a_9 a_10 X) := by
  unfold hA_findOrAdd_172
  refine lp_ind (P := fun (r172 : Int32 → Nat → Int32 → Int32 → Int32 → Int32 → Int32 → St → Option (Int32 × St)) => ∀ (a_2 : Int32) (e_3 : Nat) (he_3 : isA YC_12 e_3 1 (zY YC_12 e_3) .int) (a_4 : Int32) (a_7 : Int32) (a_8 : Int32) (a_9 : Int32) (a_10 : Int32) (X : St), T YC_12 Γ cX3_findOrAdd 11 "BlameCourt$Kinds" (some .int) { frames := 3, cells := 0, slots := 0, locals := 110 } As qI 172 [(0, .ref (Γ.2.2.2.1 3)), (2, .int a_2), (3, .ref (Γ.2.2.2.1 e_3)), (4, .int a_4), (7, .int a_7), (8, .int a_8), (9, .int a_9), (10, .int a_10)] [] X (r172 a_2 e_3 a_4 a_7 a_8 a_9 a_10 X)) (fun _ _ _ _ _ _ _ _ _ => T.no) ?_ n
  intro r172 hr172 a_2 e_3 he_3 a_4 a_7 a_8 a_9 a_10 X
  unfold hA_findOrAdd_172_s
  refine T.iload dX3_findOrAdd_172 7 rfl ?_
  refine T.iload_n dX3_findOrAdd_174 rfl 1 rfl ?_
  refine T.icmp_ge (pc1 := 229) dX3_findOrAdd_175 (by decide) rfl ?_ ?_
  · refine T.aload_n dX3_findOrAdd_229 rfl 0 rfl ?_
    refine cCA3_5 k254 dX3_findOrAdd_230 ?_
    refine T.iload dX3_findOrAdd_233 5 rfl ?_
    refine T.iload dX3_findOrAdd_235 6 rfl ?_
    refine asCA8 dX3_findOrAdd_237 (fun X15 => ?_)
    refine T.aload_n dX3_findOrAdd_238 rfl 0 rfl ?_
    refine cCA3_7 k256 dX3_findOrAdd_239 ?_
    refine T.iload dX3_findOrAdd_242 5 rfl ?_
    refine T.aload_n dX3_findOrAdd_244 rfl 0 rfl ?_
    refine cCA3_6 k255 dX3_findOrAdd_245 ?_
    refine T.iload dX3_findOrAdd_248 4 rfl ?_
    refine alCA9 dX3_findOrAdd_250 (fun x16 => ?_)
    refine asCA10 dX3_findOrAdd_251 (fun X17 => ?_)
    refine T.aload_n dX3_findOrAdd_252 rfl 0 rfl ?_
    refine cCA3_6 k255 dX3_findOrAdd_253 ?_
    refine T.iload dX3_findOrAdd_256 4 rfl ?_
    refine T.iload dX3_findOrAdd_258 5 rfl ?_
    refine asCA9 dX3_findOrAdd_260 (fun X18 => ?_)
    refine T.iload dX3_findOrAdd_261 5 rfl ?_
    exact T.ret_i rfl dX3_findOrAdd_263
  · refine T.aload_n dX3_findOrAdd_178 rfl 0 rfl ?_
    refine cCA3_3 k252 dX3_findOrAdd_179 ?_
    refine T.iload dX3_findOrAdd_182 5 rfl ?_
    refine T.iconst (w := 5) dX3_findOrAdd_184 (by decide) ?_
    refine T.imul dX3_findOrAdd_185 (fun x19 => ?_)
    refine T.iload dX3_findOrAdd_186 7 rfl ?_
    refine T.iadd dX3_findOrAdd_188 (fun x20 => ?_)
    refine T.aload_n dX3_findOrAdd_189 rfl 2 rfl ?_
    refine T.iload dX3_findOrAdd_190 3 rfl ?_
    refine T.iload dX3_findOrAdd_192 7 rfl ?_
    refine T.iadd dX3_findOrAdd_194 (fun x21 => ?_)
    refine T.iald e_3 he_3 dX3_findOrAdd_195 (fun x22 => ?_)
    refine asCA6 dX3_findOrAdd_196 (fun X23 => ?_)
    refine T.iload dX3_findOrAdd_197 6 rfl ?_
    refine T.if_ne (pc1 := 216) dX3_findOrAdd_199 (by decide) ?_ ?_
    · refine T.sub [0, 1, 2, 3, 4, 5, 7] rfl ?_
      exact khA_findOrAdd_216 Γ _ r172 hr172 a_2 e_3 he_3 a_4 a_7 a_8 a_10 X23
    · refine T.aload_n dX3_findOrAdd_202 rfl 0 rfl ?_
      refine T.aload_n dX3_findOrAdd_203 rfl 2 rfl ?_
      refine T.iload dX3_findOrAdd_204 3 rfl ?_
      refine T.iload dX3_findOrAdd_206 7 rfl ?_
      refine T.iadd dX3_findOrAdd_208 (fun x25 => ?_)
      refine T.iald e_3 he_3 dX3_findOrAdd_209 (fun x26 => ?_)
      refine T.callV_i 3 (As1 := [.int x26]) (rest := []) (khA_hasAny Γ x26 X23) ka_X3_hasAny kv_X3_hasAny oCA_3 rfl k234 rfl rfl rfl rfl (show 2 + 1 ≤ 3 ∧ 8 + (2 + 11) + 70 ≤ 110 from ⟨by omega, by omega⟩) (Nat.le_of_ble_eq_true rfl) dX3_findOrAdd_210 (fun x27 X28 => ?_)
      refine T.if_eq (pc1 := 220) dX3_findOrAdd_213 (by decide) ?_ ?_
      · refine T.iconst (w := 0) dX3_findOrAdd_220 (by decide) ?_
        refine T.sub [0, 1, 2, 3, 4, 5, 7] rfl ?_
        exact khA_findOrAdd_221 Γ _ r172 hr172 a_2 e_3 he_3 a_4 a_7 a_8 a_10 (0 : Int32) X28
      · refine T.sub [0, 1, 2, 3, 4, 5, 7] rfl ?_
        exact khA_findOrAdd_216 Γ _ r172 hr172 a_2 e_3 he_3 a_4 a_7 a_8 a_10 X28
noncomputable def hA_findOrAdd_167 (a_2 : Int32) (e_3 : Nat) (a_4 : Int32) (a_7 : Int32) (a_8 : Int32) (b_0 : Int32) (X : St) : Option (Int32 × St) :=
  hA_findOrAdd_172 BIG a_2 e_3 a_4 a_7 a_8 b_0 (0 : Int32) X
set_option maxHeartbeats 4000000 in
set_option maxRecDepth 100000 in
theorem khA_findOrAdd_167 (Γ : Gx) (As : List Value) (a_2 : Int32) (e_3 : Nat) (he_3 : isA YC_12 e_3 1 (zY YC_12 e_3) .int) (a_4 : Int32) (a_7 : Int32) (a_8 : Int32) (b_0 : Int32) (X : St) : T YC_12 Γ cX3_findOrAdd 11 "BlameCourt$Kinds" (some .int) { frames := 3, cells := 0, slots := 0, locals := 110 } As qI 167 [(0, .ref (Γ.2.2.2.1 3)), (2, .int a_2), (3, .ref (Γ.2.2.2.1 e_3)), (4, .int a_4), (7, .int a_7), (8, .int a_8)] [.int b_0] X (hA_findOrAdd_167 a_2 e_3 a_4 a_7 a_8 b_0 X) := by
  unfold hA_findOrAdd_167
  refine T.istore (lv1 := [(9, .int b_0), (0, .ref (Γ.2.2.2.1 3)), (2, .int a_2), (3, .ref (Γ.2.2.2.1 e_3)), (4, .int a_4), (7, .int a_7), (8, .int a_8)]) dX3_findOrAdd_167 (by decide) rfl ?_
  refine T.iconst (w := 0) dX3_findOrAdd_169 (by decide) ?_
  refine T.istore (lv1 := [(10, .int 0), (9, .int b_0), (0, .ref (Γ.2.2.2.1 3)), (2, .int a_2), (3, .ref (Γ.2.2.2.1 e_3)), (4, .int a_4), (7, .int a_7), (8, .int a_8)]) dX3_findOrAdd_170 (by decide) rfl ?_
  refine T.sub [2, 3, 4, 5, 6, 7, 1, 0] rfl ?_
  exact khA_findOrAdd_172 Γ _ BIG a_2 e_3 he_3 a_4 a_7 a_8 b_0 (0 : Int32) X
noncomputable def hA_findOrAdd_162 (a_2 : Int32) (e_3 : Nat) (a_4 : Int32) (a_7 : Int32) (a_8 : Int32) (X : St) : Option (Int32 × St) :=
  hA_findOrAdd_167 a_2 e_3 a_4 a_7 a_8 (1 : Int32) X
set_option maxHeartbeats 4000000 in
set_option maxRecDepth 100000 in
theorem khA_findOrAdd_162 (Γ : Gx) (As : List Value) (a_2 : Int32) (e_3 : Nat) (he_3 : isA YC_12 e_3 1 (zY YC_12 e_3) .int) (a_4 : Int32) (a_7 : Int32) (a_8 : Int32) (X : St) : T YC_12 Γ cX3_findOrAdd 11 "BlameCourt$Kinds" (some .int) { frames := 3, cells := 0, slots := 0, locals := 110 } As qI 162 [(0, .ref (Γ.2.2.2.1 3)), (2, .int a_2), (3, .ref (Γ.2.2.2.1 e_3)), (4, .int a_4), (7, .int a_7), (8, .int a_8)] [] X (hA_findOrAdd_162 a_2 e_3 a_4 a_7 a_8 X) := by
  unfold hA_findOrAdd_162
  refine T.iconst (w := 1) dX3_findOrAdd_162 (by decide) ?_
  refine T.goto (pc1 := 167) dX3_findOrAdd_163 (by decide) ?_
  exact khA_findOrAdd_167 Γ _ a_2 e_3 he_3 a_4 a_7 a_8 (1 : Int32) X
noncomputable def hA_findOrAdd_166 (a_2 : Int32) (e_3 : Nat) (a_4 : Int32) (a_7 : Int32) (a_8 : Int32) (X : St) : Option (Int32 × St) :=
  hA_findOrAdd_167 a_2 e_3 a_4 a_7 a_8 (0 : Int32) X
set_option maxHeartbeats 4000000 in
set_option maxRecDepth 100000 in
theorem khA_findOrAdd_166 (Γ : Gx) (As : List Value) (a_2 : Int32) (e_3 : Nat) (he_3 : isA YC_12 e_3 1 (zY YC_12 e_3) .int) (a_4 : Int32) (a_7 : Int32) (a_8 : Int32) (X : St) : T YC_12 Γ cX3_findOrAdd 11 "BlameCourt$Kinds" (some .int) { frames := 3, cells := 0, slots := 0, locals := 110 } As qI 166 [(0, .ref (Γ.2.2.2.1 3)), (2, .int a_2), (3, .ref (Γ.2.2.2.1 e_3)), (4, .int a_4), (7, .int a_7), (8, .int a_8)] [] X (hA_findOrAdd_166 a_2 e_3 a_4 a_7 a_8 X) := by
  unfold hA_findOrAdd_166
  refine T.iconst (w := 0) dX3_findOrAdd_166 (by decide) ?_
  exact khA_findOrAdd_167 Γ _ a_2 e_3 he_3 a_4 a_7 a_8 (0 : Int32) X
noncomputable def hA_findOrAdd_77 (a_1 : Int32) (a_2 : Int32) (e_3 : Nat) (a_4 : Int32) (a_5 : Int32) (a_6 : Int32) (a_7 : Int32) (X : St) : Option (Int32 × St) :=
  letV (X.1 3 0) fun x4 =>
  if x4.toInt < 1549 then
    letV (X.1 3 0) fun x5 =>
    letV (X.1 3 0) fun x6 =>
    letV (x6 + (1 : Int32)) fun x7 =>
    letV (wI X 3 0 x7) fun X8 =>
    chk (inR x5 1549) (letV (wI X8 4 (ix x5) a_1) fun X9 =>
    chk (inR x5 1549) (letV (wI X9 5 (ix x5) a_2) fun X10 =>
    chk (inR x5 1549) (letV (wI X10 7 (ix x5) a_6) fun X11 =>
    letV (x5 * (5 : Int32)) fun x12 =>
    letV (x12 + (4 : Int32)) fun x13 =>
    chk (inR x13 7745) (letV (wI X11 6 (ix x13) a_5) fun X14 =>
    if a_1.toInt = 2 then
      hA_findOrAdd_162 a_2 e_3 a_4 a_7 x5 X14
    else
      if a_1.toInt < 3 then
        hA_findOrAdd_166 a_2 e_3 a_4 a_7 x5 X14
      else
        bnd (hA_hasAny a_5 X14) fun x29 X30 =>
        if x29.toInt = 0 then
          hA_findOrAdd_166 a_2 e_3 a_4 a_7 x5 X30
        else
          hA_findOrAdd_162 a_2 e_3 a_4 a_7 x5 X30))))
  else
    some (2, X)
set_option maxHeartbeats 4000000 in
set_option maxRecDepth 100000 in
theorem khA_findOrAdd_77 (Γ : Gx) (As : List Value) (a_1 : Int32) (a_2 : Int32) (e_3 : Nat) (he_3 : isA YC_12 e_3 1 (zY YC_12 e_3) .int) (a_4 : Int32) (a_5 : Int32) (a_6 : Int32) (a_7 : Int32) (X : St) : T YC_12 Γ cX3_findOrAdd 11 "BlameCourt$Kinds" (some .int) { frames := 3, cells := 0, slots := 0, locals := 110 } As qI 77 [(0, .ref (Γ.2.2.2.1 3)), (1, .int a_1), (2, .int a_2), (3, .ref (Γ.2.2.2.1 e_3)), (4, .int a_4), (5, .int a_5), (6, .int a_6), (7, .int a_7)] [] X (hA_findOrAdd_77 a_1 a_2 e_3 a_4 a_5 a_6 a_7 X) := by
  unfold hA_findOrAdd_77
  refine T.aload_n dX3_findOrAdd_77 rfl 0 rfl ?_
  refine gCA3_0 k257 dX3_findOrAdd_78 (fun x4 => ?_)
  refine T.sipush (w := 1549) dX3_findOrAdd_81 (by decide) ?_
  refine T.icmp_lt (pc1 := 89) dX3_findOrAdd_84 (by decide) rfl ?_ ?_
  · refine T.aload_n dX3_findOrAdd_89 rfl 0 rfl ?_
    refine gCA3_0 k257 dX3_findOrAdd_90 (fun x5 => ?_)
    refine T.istore (lv1 := [(8, .int x5), (0, .ref (Γ.2.2.2.1 3)), (1, .int a_1), (2, .int a_2), (3, .ref (Γ.2.2.2.1 e_3)), (4, .int a_4), (5, .int a_5), (6, .int a_6), (7, .int a_7)]) dX3_findOrAdd_93 (by decide) rfl ?_
    refine T.aload_n dX3_findOrAdd_95 rfl 1 rfl ?_
    refine T.dupr dX3_findOrAdd_96 ?_
    refine gCA3_0 k257 dX3_findOrAdd_97 (fun x6 => ?_)
    refine T.iconst (w := 1) dX3_findOrAdd_100 (by decide) ?_
    refine T.iadd dX3_findOrAdd_101 (fun x7 => ?_)
    refine pCA3_0 k257 dX3_findOrAdd_102 (fun X8 => ?_)
    refine T.aload_n dX3_findOrAdd_105 rfl 1 rfl ?_
    refine cCA3_1 k250 dX3_findOrAdd_106 ?_
    refine T.iload dX3_findOrAdd_109 0 rfl ?_
    refine T.iload_n dX3_findOrAdd_111 rfl 2 rfl ?_
    refine asCA4 dX3_findOrAdd_112 (fun X9 => ?_)
    refine T.aload_n dX3_findOrAdd_113 rfl 1 rfl ?_
    refine cCA3_2 k251 dX3_findOrAdd_114 ?_
    refine T.iload dX3_findOrAdd_117 0 rfl ?_
    refine T.iload_n dX3_findOrAdd_119 rfl 3 rfl ?_
    refine asCA5 dX3_findOrAdd_120 (fun X10 => ?_)
    refine T.aload_n dX3_findOrAdd_121 rfl 1 rfl ?_
    refine cCA3_4 k253 dX3_findOrAdd_122 ?_
    refine T.iload dX3_findOrAdd_125 0 rfl ?_
    refine T.iload dX3_findOrAdd_127 7 rfl ?_
    refine asCA7 dX3_findOrAdd_129 (fun X11 => ?_)
    refine T.aload_n dX3_findOrAdd_130 rfl 1 rfl ?_
    refine cCA3_3 k252 dX3_findOrAdd_131 ?_
    refine T.iload dX3_findOrAdd_134 0 rfl ?_
    refine T.iconst (w := 5) dX3_findOrAdd_136 (by decide) ?_
    refine T.imul dX3_findOrAdd_137 (fun x12 => ?_)
    refine T.iconst (w := 4) dX3_findOrAdd_138 (by decide) ?_
    refine T.iadd dX3_findOrAdd_139 (fun x13 => ?_)
    refine T.iload dX3_findOrAdd_140 6 rfl ?_
    refine asCA6 dX3_findOrAdd_142 (fun X14 => ?_)
    refine T.iload_n dX3_findOrAdd_143 rfl 2 rfl ?_
    refine T.iconst (w := 2) dX3_findOrAdd_144 (by decide) ?_
    refine T.icmp_eq (pc1 := 162) dX3_findOrAdd_145 (by decide) rfl ?_ ?_
    · refine T.sub [1, 3, 4, 5, 8, 0] rfl ?_
      exact khA_findOrAdd_162 Γ _ a_2 e_3 he_3 a_4 a_7 x5 X14
    · refine T.iload_n dX3_findOrAdd_148 rfl 2 rfl ?_
      refine T.iconst (w := 3) dX3_findOrAdd_149 (by decide) ?_
      refine T.icmp_lt (pc1 := 166) dX3_findOrAdd_150 (by decide) rfl ?_ ?_
      · refine T.sub [1, 3, 4, 5, 8, 0] rfl ?_
        exact khA_findOrAdd_166 Γ _ a_2 e_3 he_3 a_4 a_7 x5 X14
      · refine T.aload_n dX3_findOrAdd_153 rfl 1 rfl ?_
        refine T.iload dX3_findOrAdd_154 6 rfl ?_
        refine T.callV_i 3 (As1 := [.int a_5]) (rest := []) (khA_hasAny Γ a_5 X14) ka_X3_hasAny kv_X3_hasAny oCA_3 rfl k234 rfl rfl rfl rfl (show 2 + 1 ≤ 3 ∧ 8 + (2 + 11) + 70 ≤ 110 from ⟨by omega, by omega⟩) (Nat.le_of_ble_eq_true rfl) dX3_findOrAdd_156 (fun x29 X30 => ?_)
        refine T.if_eq (pc1 := 166) dX3_findOrAdd_159 (by decide) ?_ ?_
        · refine T.sub [1, 3, 4, 5, 8, 0] rfl ?_
          exact khA_findOrAdd_166 Γ _ a_2 e_3 he_3 a_4 a_7 x5 X30
        · refine T.sub [1, 3, 4, 5, 8, 0] rfl ?_
          exact khA_findOrAdd_162 Γ _ a_2 e_3 he_3 a_4 a_7 x5 X30
  · refine T.iconst (w := 2) dX3_findOrAdd_87 (by decide) ?_
    exact T.ret_i rfl dX3_findOrAdd_88
noncomputable def hA_findOrAdd_62 (r19 : Int32 → Int32 → Nat → Int32 → Int32 → Int32 → Int32 → Int32 → Int32 → St → Option (Int32 × St)) (a_1 : Int32) (a_2 : Int32) (e_3 : Nat) (a_4 : Int32) (a_5 : Int32) (a_6 : Int32) (a_7 : Int32) (a_8 : Int32) (a_9 : Int32) (X : St) : Option (Int32 × St) :=
  chk (inR a_8 1549) (letV (X.1 10 (ix a_8)) fun x32 =>
  letV (a_9 + Int32.ofInt (1)) fun x33 =>
  r19 a_1 a_2 e_3 a_4 a_5 a_6 a_7 x32 x33 X)
set_option maxHeartbeats 4000000 in
set_option maxRecDepth 100000 in
theorem khA_findOrAdd_62 (Γ : Gx) (As : List Value) (r19 : Int32 → Int32 → Nat → Int32 → Int32 → Int32 → Int32 → Int32 → Int32 → St → Option (Int32 × St)) (hr19 : ∀ (a_1 : Int32) (a_2 : Int32) (e_3 : Nat) (he_3 : isA YC_12 e_3 1 (zY YC_12 e_3) .int) (a_4 : Int32) (a_5 : Int32) (a_6 : Int32) (a_7 : Int32) (a_8 : Int32) (a_9 : Int32) (X : St), T YC_12 Γ cX3_findOrAdd 11 "BlameCourt$Kinds" (some .int) { frames := 3, cells := 0, slots := 0, locals := 110 } As qI 19 [(0, .ref (Γ.2.2.2.1 3)), (1, .int a_1), (2, .int a_2), (3, .ref (Γ.2.2.2.1 e_3)), (4, .int a_4), (5, .int a_5), (6, .int a_6), (7, .int a_7), (8, .int a_8), (9, .int a_9)] [] X (r19 a_1 a_2 e_3 a_4 a_5 a_6 a_7 a_8 a_9 X)) (a_1 : Int32) (a_2 : Int32) (e_3 : Nat) (he_3 : isA YC_12 e_3 1 (zY YC_12 e_3) .int) (a_4 : Int32) (a_5 : Int32) (a_6 : Int32) (a_7 : Int32) (a_8 : Int32) (a_9 : Int32) (X : St) : T YC_12 Γ cX3_findOrAdd 11 "BlameCourt$Kinds" (some .int) { frames := 3, cells := 0, slots := 0, locals := 110 } As qI 62 [(0, .ref (Γ.2.2.2.1 3)), (1, .int a_1), (2, .int a_2), (3, .ref (Γ.2.2.2.1 e_3)), (4, .int a_4), (5, .int a_5), (6, .int a_6), (7, .int a_7), (8, .int a_8), (9, .int a_9)] [] X (hA_findOrAdd_62 r19 a_1 a_2 e_3 a_4 a_5 a_6 a_7 a_8 a_9 X) := by
  unfold hA_findOrAdd_62
  refine T.aload_n dX3_findOrAdd_62 rfl 0 rfl ?_
  refine cCA3_7 k256 dX3_findOrAdd_63 ?_
  refine T.iload dX3_findOrAdd_66 8 rfl ?_
  refine alCA10 dX3_findOrAdd_68 (fun x32 => ?_)
  refine T.istore (lv1 := [(8, .int x32), (0, .ref (Γ.2.2.2.1 3)), (1, .int a_1), (2, .int a_2), (3, .ref (Γ.2.2.2.1 e_3)), (4, .int a_4), (5, .int a_5), (6, .int a_6), (7, .int a_7), (9, .int a_9)]) dX3_findOrAdd_69 (by decide) rfl ?_
  refine T.iinc dX3_findOrAdd_71 9 rfl (by decide) (lvf := fun x33 => [(9, .int x33), (8, .int x32), (0, .ref (Γ.2.2.2.1 3)), (1, .int a_1), (2, .int a_2), (3, .ref (Γ.2.2.2.1 e_3)), (4, .int a_4), (5, .int a_5), (6, .int a_6), (7, .int a_7)]) (fun _ => rfl) (fun x33 => ?_)
  refine T.goto (pc1 := 19) dX3_findOrAdd_74 (by decide) ?_
  refine T.sub [2, 3, 4, 5, 6, 7, 8, 9, 1, 0] rfl ?_
  exact hr19 a_1 a_2 e_3 he_3 a_4 a_5 a_6 a_7 x32 x33 X
noncomputable def hA_findOrAdd_19_s (r19 : Int32 → Int32 → Nat → Int32 → Int32 → Int32 → Int32 → Int32 → Int32 → St → Option (Int32 × St)) (a_1 : Int32) (a_2 : Int32) (e_3 : Nat) (a_4 : Int32) (a_5 : Int32) (a_6 : Int32) (a_7 : Int32) (a_8 : Int32) (a_9 : Int32) (X : St) : Option (Int32 × St) :=
  if 1549 ≤ a_9.toInt then
    hA_findOrAdd_77 a_1 a_2 e_3 a_4 a_5 a_6 a_7 X
  else
    if a_8.toInt = -1 then
      hA_findOrAdd_77 a_1 a_2 e_3 a_4 a_5 a_6 a_7 X
    else
      chk (inR a_8 1549) (letV (X.1 4 (ix a_8)) fun x31 =>
      if x31.toInt = a_1.toInt then
        bnd (hA_isSame a_8 a_2 e_3 a_4 a_5 X) fun x34 X35 =>
        if x34.toInt = 0 then
          hA_findOrAdd_62 r19 a_1 a_2 e_3 a_4 a_5 a_6 a_7 a_8 a_9 X35
        else
          some (a_8, X35)
      else
        hA_findOrAdd_62 r19 a_1 a_2 e_3 a_4 a_5 a_6 a_7 a_8 a_9 X)
noncomputable def hA_findOrAdd_19 (n : Nat) : Int32 → Int32 → Nat → Int32 → Int32 → Int32 → Int32 → Int32 → Int32 → St → Option (Int32 × St) := lp (fun _ _ _ _ _ _ _ _ _ _ => none) (hA_findOrAdd_19_s) n
set_option maxHeartbeats 4000000 in
set_option maxRecDepth 100000 in
theorem khA_findOrAdd_19 (Γ : Gx) (As : List Value) (n : Nat) : ∀ (a_1 : Int32) (a_2 : Int32) (e_3 : Nat) (he_3 : isA YC_12 e_3 1 (zY YC_12 e_3) .int) (a_4 : Int32) (a_5 : Int32) (a_6 : Int32) (a_7 : Int32) (a_8 : Int32) (a_9 : Int32) (X : St), T YC_12 Γ cX3_findOrAdd 11 "BlameCourt$Kinds" (some .int) { frames := 3, cells := 0, slots := 0, locals := 110 } As qI 19 [(0, .ref (Γ.2.2.2.1 3)), (1, .int a_1), (2, .int a_2), (3, .ref (Γ.2.2.2.1 e_3)), (4, .int a_4), (5, .int a_5), (6, .int a_6), (7, .int a_7), (8, .int a_8), (9, .int a_9)] [] X (hA_findOrAdd_19 n a_1 a_2 e_3 a_4 a_5 a_6 a_7 a_8 a_9 X) := by
  unfold hA_findOrAdd_19
  refine lp_ind (P := fun (r19 : Int32 → Int32 → Nat → Int32 → Int32 → Int32 → Int32 → Int32 → Int32 → St → Option (Int32 × St)) => ∀ (a_1 : Int32) (a_2 : Int32) (e_3 : Nat) (he_3 : isA YC_12 e_3 1 (zY YC_12 e_3) .int) (a_4 : Int32) (a_5 : Int32) (a_6 : Int32) (a_7 : Int32) (a_8 : Int32) (a_9 : Int32) (X : St), T YC_12 Γ cX3_findOrAdd 11 "BlameCourt$Kinds" (some .int) { frames := 3, cells := 0, slots := 0, locals := 110 } As qI 19 [(0, .ref (Γ.2.2.2.1 3)), (1, .int a_1), (2, .int a_2), (3, .ref (Γ.2.2.2.1 e_3)), (4, .int a_4), (5, .int a_5), (6, .int a_6), (7, .int a_7), (8, .int a_8), (9, .int a_9)] [] X (r19 a_1 a_2 e_3 a_4 a_5 a_6 a_7 a_8 a_9 X)) (fun _ _ _ _ _ _ _ _ _ _ _ => T.no) ?_ n
  intro r19 hr19 a_1 a_2 e_3 he_3 a_4 a_5 a_6 a_7 a_8 a_9 X
  unfold hA_findOrAdd_19_s
  refine T.iload dX3_findOrAdd_19 9 rfl ?_
  refine T.sipush (w := 1549) dX3_findOrAdd_21 (by decide) ?_
  refine T.icmp_ge (pc1 := 77) dX3_findOrAdd_24 (by decide) rfl ?_ ?_
  · refine T.sub [0, 1, 2, 3, 4, 5, 6, 7] rfl ?_
    exact khA_findOrAdd_77 Γ _ a_1 a_2 e_3 he_3 a_4 a_5 a_6 a_7 X
  · refine T.iload dX3_findOrAdd_27 8 rfl ?_
    refine T.iconst (w := (-1)) dX3_findOrAdd_29 (by decide) ?_
    refine T.icmp_eq (pc1 := 77) dX3_findOrAdd_30 (by decide) rfl ?_ ?_
    · refine T.sub [0, 1, 2, 3, 4, 5, 6, 7] rfl ?_
      exact khA_findOrAdd_77 Γ _ a_1 a_2 e_3 he_3 a_4 a_5 a_6 a_7 X
    · refine T.aload_n dX3_findOrAdd_33 rfl 0 rfl ?_
      refine cCA3_1 k250 dX3_findOrAdd_34 ?_
      refine T.iload dX3_findOrAdd_37 8 rfl ?_
      refine alCA4 dX3_findOrAdd_39 (fun x31 => ?_)
      refine T.iload_n dX3_findOrAdd_40 rfl 1 rfl ?_
      refine T.icmp_ne (pc1 := 62) dX3_findOrAdd_41 (by decide) rfl ?_ ?_
      · exact khA_findOrAdd_62 Γ _ r19 hr19 a_1 a_2 e_3 he_3 a_4 a_5 a_6 a_7 a_8 a_9 X
      · refine T.aload_n dX3_findOrAdd_44 rfl 0 rfl ?_
        refine T.iload dX3_findOrAdd_45 8 rfl ?_
        refine T.iload_n dX3_findOrAdd_47 rfl 2 rfl ?_
        refine T.aload_n dX3_findOrAdd_48 rfl 3 rfl ?_
        refine T.iload dX3_findOrAdd_49 4 rfl ?_
        refine T.iload dX3_findOrAdd_51 5 rfl ?_
        refine T.callV_i 3 (As1 := [.int a_8, .int a_2, .ref (Γ.2.2.2.1 e_3), .int a_4, .int a_5]) (rest := []) (khA_isSame Γ a_8 a_2 e_3 he_3 a_4 a_5 X) ka_X3_isSame kv_X3_isSame oCA_3 rfl k230 rfl rfl rfl rfl (show 2 + 1 ≤ 3 ∧ 8 + (7 + 11) + 70 ≤ 110 from ⟨by omega, by omega⟩) (Nat.le_of_ble_eq_true rfl) dX3_findOrAdd_53 (fun x34 X35 => ?_)
        refine T.if_eq (pc1 := 62) dX3_findOrAdd_56 (by decide) ?_ ?_
        · exact khA_findOrAdd_62 Γ _ r19 hr19 a_1 a_2 e_3 he_3 a_4 a_5 a_6 a_7 a_8 a_9 X35
        · refine T.iload dX3_findOrAdd_59 8 rfl ?_
          exact T.ret_i rfl dX3_findOrAdd_61
noncomputable def hA_findOrAdd (p1 : Int32) (p2 : Int32) (o3 : Nat) (p4 : Int32) (p5 : Int32) (p6 : Int32) (X : St) : Option (Int32 × St) :=
  bnd (hA_bucketOf p6 X) fun x1 X2 =>
  chk (inR x1 512) (letV (X2.1 9 (ix x1)) fun x3 =>
  hA_findOrAdd_19 BIG p1 p2 o3 p4 p5 p6 x1 x3 (0 : Int32) X2)
set_option maxHeartbeats 4000000 in
set_option maxRecDepth 100000 in
theorem khA_findOrAdd (Γ : Gx) (p1 : Int32) (p2 : Int32) (o3 : Nat) (ho3 : isA YC_12 o3 1 (zY YC_12 o3) .int) (p4 : Int32) (p5 : Int32) (p6 : Int32) (X : St) : TMI YC_12 Γ yX3_findOrAdd cX3_findOrAdd 11 "BlameCourt$Kinds" (some .int) { frames := 3, cells := 0, slots := 0, locals := 110 } [.ref (Γ.2.2.2.1 3), .int p1, .int p2, .ref (Γ.2.2.2.1 o3), .int p4, .int p5, .int p6] X (hA_findOrAdd p1 p2 o3 p4 p5 p6 X) := by
  refine TMI.of (by decide) (Nat.le_of_ble_eq_true rfl) rfl ?_
  show T YC_12 Γ cX3_findOrAdd 11 "BlameCourt$Kinds" (some .int) { frames := 3, cells := 0, slots := 0, locals := 110 } _ qI 0 [(0, .ref (Γ.2.2.2.1 3)), (1, .int p1), (2, .int p2), (3, .ref (Γ.2.2.2.1 o3)), (4, .int p4), (5, .int p5), (6, .int p6)] [] X (hA_findOrAdd p1 p2 o3 p4 p5 p6 X)
  unfold hA_findOrAdd
  refine T.iload dX3_findOrAdd_0 6 rfl ?_
  refine T.callS_i (As1 := [.int p6]) (rest := []) (khA_bucketOf Γ p6 X) ka_X3_bucketOf k228 k227 rfl rfl rfl rfl (show 2 + 1 ≤ 3 ∧ 8 + (1 + 11) + 70 ≤ 110 from ⟨by omega, by omega⟩) (Nat.le_of_ble_eq_true rfl) dX3_findOrAdd_2 (fun x1 X2 => ?_)
  refine T.istore (lv1 := [(7, .int x1), (0, .ref (Γ.2.2.2.1 3)), (1, .int p1), (2, .int p2), (3, .ref (Γ.2.2.2.1 o3)), (4, .int p4), (5, .int p5), (6, .int p6)]) dX3_findOrAdd_5 (by decide) rfl ?_
  refine T.aload_n dX3_findOrAdd_7 rfl 1 rfl ?_
  refine cCA3_6 k255 dX3_findOrAdd_8 ?_
  refine T.iload dX3_findOrAdd_11 0 rfl ?_
  refine alCA9 dX3_findOrAdd_13 (fun x3 => ?_)
  refine T.istore (lv1 := [(8, .int x3), (7, .int x1), (0, .ref (Γ.2.2.2.1 3)), (1, .int p1), (2, .int p2), (3, .ref (Γ.2.2.2.1 o3)), (4, .int p4), (5, .int p5), (6, .int p6)]) dX3_findOrAdd_14 (by decide) rfl ?_
  refine T.iconst (w := 0) dX3_findOrAdd_16 (by decide) ?_
  refine T.istore (lv1 := [(9, .int 0), (8, .int x3), (7, .int x1), (0, .ref (Γ.2.2.2.1 3)), (1, .int p1), (2, .int p2), (3, .ref (Γ.2.2.2.1 o3)), (4, .int p4), (5, .int p5), (6, .int p6)]) dX3_findOrAdd_17 (by decide) rfl ?_
  refine T.sub [3, 4, 5, 6, 7, 8, 9, 2, 1, 0] rfl ?_
  exact khA_findOrAdd_19 Γ _ BIG p1 p2 o3 ho3 p4 p5 p6 x1 x3 (0 : Int32) X2
noncomputable def hA_rowOf (p1 : Int32) (X : St) : Option (Int32 × St) :=
  bnd (hA_codeOf p1 X) fun x1 X2 =>
  letV ((5 : Int32) * x1) fun x3 =>
  letV (x3 + (4 : Int32)) fun x4 =>
  bnd (hA_findOrAdd (3 : Int32) (0 : Int32) 6 (0 : Int32) p1 x4 X2) fun x5 X6 =>
  some (x5, X6)
set_option maxHeartbeats 4000000 in
set_option maxRecDepth 100000 in
theorem khA_rowOf (Γ : Gx) (p1 : Int32) (X : St) : TMI YC_12 Γ yX3_rowOf cX3_rowOf 3 "BlameCourt$Kinds" (some .int) { frames := 4, cells := 0, slots := 0, locals := 150 } [.ref (Γ.2.2.2.1 3), .int p1] X (hA_rowOf p1 X) := by
  refine TMI.of (by decide) (Nat.le_of_ble_eq_true rfl) rfl ?_
  show T YC_12 Γ cX3_rowOf 3 "BlameCourt$Kinds" (some .int) { frames := 4, cells := 0, slots := 0, locals := 150 } _ qI 0 [(0, .ref (Γ.2.2.2.1 3)), (1, .int p1)] [] X (hA_rowOf p1 X)
  unfold hA_rowOf
  refine T.iconst (w := 5) dX3_rowOf_0 (by decide) ?_
  refine T.aload_n dX3_rowOf_1 rfl 0 rfl ?_
  refine T.iload_n dX3_rowOf_2 rfl 1 rfl ?_
  refine T.callV_i 3 (As1 := [.int p1]) (rest := [.int 5]) (khA_codeOf Γ p1 X) ka_X3_codeOf kv_X3_codeOf oCA_3 rfl k242 rfl rfl rfl rfl (show 2 + 1 ≤ 4 ∧ 8 + (2 + 11) + 70 ≤ 150 from ⟨by omega, by omega⟩) (Nat.le_of_ble_eq_true rfl) dX3_rowOf_3 (fun x1 X2 => ?_)
  refine T.imul dX3_rowOf_6 (fun x3 => ?_)
  refine T.iconst (w := 4) dX3_rowOf_7 (by decide) ?_
  refine T.iadd dX3_rowOf_8 (fun x4 => ?_)
  refine T.istore_n (lv1 := [(2, .int x4), (0, .ref (Γ.2.2.2.1 3)), (1, .int p1)]) dX3_rowOf_9 rfl (by decide) rfl ?_
  refine T.aload_n dX3_rowOf_10 rfl 1 rfl ?_
  refine T.iconst (w := 3) dX3_rowOf_11 (by decide) ?_
  refine T.iconst (w := 0) dX3_rowOf_12 (by decide) ?_
  refine T.aload_n dX3_rowOf_13 rfl 1 rfl ?_
  refine cCA3_3 k252 dX3_rowOf_14 ?_
  refine T.iconst (w := 0) dX3_rowOf_17 (by decide) ?_
  refine T.iload_n dX3_rowOf_18 rfl 2 rfl ?_
  refine T.iload_n dX3_rowOf_19 rfl 0 rfl ?_
  refine T.callV_i 3 (As1 := [.int 3, .int 0, .ref (Γ.2.2.2.1 6), .int 0, .int p1, .int x4]) (rest := []) (khA_findOrAdd Γ (3 : Int32) (0 : Int32) 6 ⟨rfl, rfl, rfl⟩ (0 : Int32) p1 x4 X2) ka_X3_findOrAdd kv_X3_findOrAdd oCA_3 rfl k223 rfl rfl rfl rfl (show 3 + 1 ≤ 4 ∧ 8 + (11 + 11) + 110 ≤ 150 from ⟨by omega, by omega⟩) (Nat.le_of_ble_eq_true rfl) dX3_rowOf_20 (fun x5 X6 => ?_)
  exact T.ret_i rfl dX3_rowOf_23
noncomputable def hA_functionOf_32_s (r32 : Nat → Int32 → Int32 → Int32 → Int32 → Int32 → St → Option (Int32 × St)) (e_1 : Nat) (a_2 : Int32) (a_3 : Int32) (a_4 : Int32) (a_5 : Int32) (a_6 : Int32) (X : St) : Option (Int32 × St) :=
  if a_3.toInt ≤ a_6.toInt then
    letV ((31 : Int32) * a_5) fun x4 =>
    bnd (hA_codeOf a_4 X) fun x5 X6 =>
    letV (x4 + x5) fun x7 =>
    bnd (hA_findOrAdd (4 : Int32) a_3 e_1 a_2 a_4 x7 X6) fun x8 X9 =>
    some (x8, X9)
  else
    letV ((31 : Int32) * a_5) fun x10 =>
    letV (a_2 + a_6) fun x11 =>
    chk (inR x11 (zY YC_12 e_1)) (letV (X.1 e_1 (ix x11)) fun x12 =>
    bnd (hA_codeOf x12 X) fun x13 X14 =>
    letV (x10 + x13) fun x15 =>
    letV (a_6 + Int32.ofInt (1)) fun x16 =>
    r32 e_1 a_2 a_3 a_4 x15 x16 X14)
noncomputable def hA_functionOf_32 (n : Nat) : Nat → Int32 → Int32 → Int32 → Int32 → Int32 → St → Option (Int32 × St) := lp (fun _ _ _ _ _ _ _ => none) (hA_functionOf_32_s) n
set_option maxHeartbeats 4000000 in
set_option maxRecDepth 100000 in
theorem khA_functionOf_32 (Γ : Gx) (As : List Value) (n : Nat) : ∀ (e_1 : Nat) (he_1 : isA YC_12 e_1 1 (zY YC_12 e_1) .int) (a_2 : Int32) (a_3 : Int32) (a_4 : Int32) (a_5 : Int32) (a_6 : Int32) (X : St), T YC_12 Γ cX3_functionOf 7 "BlameCourt$Kinds" (some .int) { frames := 4, cells := 0, slots := 0, locals := 150 } As qI 32 [(0, .ref (Γ.2.2.2.1 3)), (1, .ref (Γ.2.2.2.1 e_1)), (2, .int a_2), (3, .int a_3), (4, .int a_4), (5, .int a_5), (6, .int a_6)] [] X (hA_functionOf_32 n e_1 a_2 a_3 a_4 a_5 a_6 X) := by
  unfold hA_functionOf_32
  refine lp_ind (P := fun (r32 : Nat → Int32 → Int32 → Int32 → Int32 → Int32 → St → Option (Int32 × St)) => ∀ (e_1 : Nat) (he_1 : isA YC_12 e_1 1 (zY YC_12 e_1) .int) (a_2 : Int32) (a_3 : Int32) (a_4 : Int32) (a_5 : Int32) (a_6 : Int32) (X : St), T YC_12 Γ cX3_functionOf 7 "BlameCourt$Kinds" (some .int) { frames := 4, cells := 0, slots := 0, locals := 150 } As qI 32 [(0, .ref (Γ.2.2.2.1 3)), (1, .ref (Γ.2.2.2.1 e_1)), (2, .int a_2), (3, .int a_3), (4, .int a_4), (5, .int a_5), (6, .int a_6)] [] X (r32 e_1 a_2 a_3 a_4 a_5 a_6 X)) (fun _ _ _ _ _ _ _ _ => T.no) ?_ n
  intro r32 hr32 e_1 he_1 a_2 a_3 a_4 a_5 a_6 X
  unfold hA_functionOf_32_s
  refine T.iload dX3_functionOf_32 6 rfl ?_
  refine T.iload_n dX3_functionOf_34 rfl 3 rfl ?_
  refine T.icmp_ge (pc1 := 62) dX3_functionOf_35 (by decide) rfl ?_ ?_
  · refine T.bipush (w := 31) dX3_functionOf_62 (by decide) ?_
    refine T.iload dX3_functionOf_64 5 rfl ?_
    refine T.imul dX3_functionOf_66 (fun x4 => ?_)
    refine T.aload_n dX3_functionOf_67 rfl 0 rfl ?_
    refine T.iload dX3_functionOf_68 4 rfl ?_
    refine T.callV_i 3 (As1 := [.int a_4]) (rest := [.int x4]) (khA_codeOf Γ a_4 X) ka_X3_codeOf kv_X3_codeOf oCA_3 rfl k242 rfl rfl rfl rfl (show 2 + 1 ≤ 4 ∧ 8 + (2 + 11) + 70 ≤ 150 from ⟨by omega, by omega⟩) (Nat.le_of_ble_eq_true rfl) dX3_functionOf_70 (fun x5 X6 => ?_)
    refine T.iadd dX3_functionOf_73 (fun x7 => ?_)
    refine T.istore (lv1 := [(5, .int x7), (0, .ref (Γ.2.2.2.1 3)), (1, .ref (Γ.2.2.2.1 e_1)), (2, .int a_2), (3, .int a_3), (4, .int a_4), (6, .int a_6)]) dX3_functionOf_74 (by decide) rfl ?_
    refine T.aload_n dX3_functionOf_76 rfl 1 rfl ?_
    refine T.iconst (w := 4) dX3_functionOf_77 (by decide) ?_
    refine T.iload_n dX3_functionOf_78 rfl 4 rfl ?_
    refine T.aload_n dX3_functionOf_79 rfl 2 rfl ?_
    refine T.iload_n dX3_functionOf_80 rfl 3 rfl ?_
    refine T.iload dX3_functionOf_81 5 rfl ?_
    refine T.iload dX3_functionOf_83 0 rfl ?_
    refine T.callV_i 3 (As1 := [.int 4, .int a_3, .ref (Γ.2.2.2.1 e_1), .int a_2, .int a_4, .int x7]) (rest := []) (khA_findOrAdd Γ (4 : Int32) a_3 e_1 he_1 a_2 a_4 x7 X6) ka_X3_findOrAdd kv_X3_findOrAdd oCA_3 rfl k223 rfl rfl rfl rfl (show 3 + 1 ≤ 4 ∧ 8 + (11 + 11) + 110 ≤ 150 from ⟨by omega, by omega⟩) (Nat.le_of_ble_eq_true rfl) dX3_functionOf_85 (fun x8 X9 => ?_)
    exact T.ret_i rfl dX3_functionOf_88
  · refine T.bipush (w := 31) dX3_functionOf_38 (by decide) ?_
    refine T.iload dX3_functionOf_40 5 rfl ?_
    refine T.imul dX3_functionOf_42 (fun x10 => ?_)
    refine T.aload_n dX3_functionOf_43 rfl 0 rfl ?_
    refine T.aload_n dX3_functionOf_44 rfl 1 rfl ?_
    refine T.iload_n dX3_functionOf_45 rfl 2 rfl ?_
    refine T.iload dX3_functionOf_46 6 rfl ?_
    refine T.iadd dX3_functionOf_48 (fun x11 => ?_)
    refine T.iald e_1 he_1 dX3_functionOf_49 (fun x12 => ?_)
    refine T.callV_i 3 (As1 := [.int x12]) (rest := [.int x10]) (khA_codeOf Γ x12 X) ka_X3_codeOf kv_X3_codeOf oCA_3 rfl k242 rfl rfl rfl rfl (show 2 + 1 ≤ 4 ∧ 8 + (2 + 11) + 70 ≤ 150 from ⟨by omega, by omega⟩) (Nat.le_of_ble_eq_true rfl) dX3_functionOf_50 (fun x13 X14 => ?_)
    refine T.iadd dX3_functionOf_53 (fun x15 => ?_)
    refine T.istore (lv1 := [(5, .int x15), (0, .ref (Γ.2.2.2.1 3)), (1, .ref (Γ.2.2.2.1 e_1)), (2, .int a_2), (3, .int a_3), (4, .int a_4), (6, .int a_6)]) dX3_functionOf_54 (by decide) rfl ?_
    refine T.iinc dX3_functionOf_56 6 rfl (by decide) (lvf := fun x16 => [(6, .int x16), (5, .int x15), (0, .ref (Γ.2.2.2.1 3)), (1, .ref (Γ.2.2.2.1 e_1)), (2, .int a_2), (3, .int a_3), (4, .int a_4)]) (fun _ => rfl) (fun x16 => ?_)
    refine T.goto (pc1 := 32) dX3_functionOf_59 (by decide) ?_
    refine T.sub [2, 3, 4, 5, 6, 1, 0] rfl ?_
    exact hr32 e_1 he_1 a_2 a_3 a_4 x15 x16 X14
noncomputable def hA_functionOf (o1 : Nat) (p2 : Int32) (p3 : Int32) (p4 : Int32) (X : St) : Option (Int32 × St) :=
  if p3.toInt < 0 then
    some (2, X)
  else
    if 4 < p3.toInt then
      some (2, X)
    else
      if p2.toInt < 0 then
        some (2, X)
      else
        letV (Int32.ofNat (zY YC_12 o1)) fun x1 =>
        letV (x1 - p3) fun x2 =>
        if p2.toInt ≤ x2.toInt then
          letV ((7 : Int32) + p3) fun x3 =>
          hA_functionOf_32 BIG o1 p2 p3 p4 x3 (0 : Int32) X
        else
          some (2, X)
set_option maxHeartbeats 4000000 in
set_option maxRecDepth 100000 in
theorem khA_functionOf (Γ : Gx) (o1 : Nat) (ho1 : isA YC_12 o1 1 (zY YC_12 o1) .int) (p2 : Int32) (p3 : Int32) (p4 : Int32) (X : St) : TMI YC_12 Γ yX3_functionOf cX3_functionOf 7 "BlameCourt$Kinds" (some .int) { frames := 4, cells := 0, slots := 0, locals := 150 } [.ref (Γ.2.2.2.1 3), .ref (Γ.2.2.2.1 o1), .int p2, .int p3, .int p4] X (hA_functionOf o1 p2 p3 p4 X) := by
  refine TMI.of (by decide) (Nat.le_of_ble_eq_true rfl) rfl ?_
  show T YC_12 Γ cX3_functionOf 7 "BlameCourt$Kinds" (some .int) { frames := 4, cells := 0, slots := 0, locals := 150 } _ qI 0 [(0, .ref (Γ.2.2.2.1 3)), (1, .ref (Γ.2.2.2.1 o1)), (2, .int p2), (3, .int p3), (4, .int p4)] [] X (hA_functionOf o1 p2 p3 p4 X)
  unfold hA_functionOf
  refine T.iload_n dX3_functionOf_0 rfl 3 rfl ?_
  refine T.if_lt (pc1 := 21) dX3_functionOf_1 (by decide) ?_ ?_
  · refine T.iconst (w := 2) dX3_functionOf_21 (by decide) ?_
    exact T.ret_i rfl dX3_functionOf_22
  · refine T.iload_n dX3_functionOf_4 rfl 3 rfl ?_
    refine T.iconst (w := 4) dX3_functionOf_5 (by decide) ?_
    refine T.icmp_gt (pc1 := 21) dX3_functionOf_6 (by decide) rfl ?_ ?_
    · refine T.iconst (w := 2) dX3_functionOf_21 (by decide) ?_
      exact T.ret_i rfl dX3_functionOf_22
    · refine T.iload_n dX3_functionOf_9 rfl 2 rfl ?_
      refine T.if_lt (pc1 := 21) dX3_functionOf_10 (by decide) ?_ ?_
      · refine T.iconst (w := 2) dX3_functionOf_21 (by decide) ?_
        exact T.ret_i rfl dX3_functionOf_22
      · refine T.iload_n dX3_functionOf_13 rfl 2 rfl ?_
        refine T.aload_n dX3_functionOf_14 rfl 1 rfl ?_
        refine T.alenV o1 ho1 dX3_functionOf_15 (fun x1 => ?_)
        refine T.iload_n dX3_functionOf_16 rfl 3 rfl ?_
        refine T.isub dX3_functionOf_17 (fun x2 => ?_)
        refine T.icmp_le (pc1 := 23) dX3_functionOf_18 (by decide) rfl ?_ ?_
        · refine T.bipush (w := 7) dX3_functionOf_23 (by decide) ?_
          refine T.iload_n dX3_functionOf_25 rfl 3 rfl ?_
          refine T.iadd dX3_functionOf_26 (fun x3 => ?_)
          refine T.istore (lv1 := [(5, .int x3), (0, .ref (Γ.2.2.2.1 3)), (1, .ref (Γ.2.2.2.1 o1)), (2, .int p2), (3, .int p3), (4, .int p4)]) dX3_functionOf_27 (by decide) rfl ?_
          refine T.iconst (w := 0) dX3_functionOf_29 (by decide) ?_
          refine T.istore (lv1 := [(6, .int 0), (5, .int x3), (0, .ref (Γ.2.2.2.1 3)), (1, .ref (Γ.2.2.2.1 o1)), (2, .int p2), (3, .int p3), (4, .int p4)]) dX3_functionOf_30 (by decide) rfl ?_
          refine T.sub [2, 3, 4, 5, 6, 1, 0] rfl ?_
          exact khA_functionOf_32 Γ _ BIG o1 ho1 p2 p3 p4 x3 (0 : Int32) X
        · refine T.iconst (w := 2) dX3_functionOf_21 (by decide) ?_
          exact T.ret_i rfl dX3_functionOf_22
noncomputable def ctor_C_3 (X : St) : Option St :=
  chk (RB X 4 = true) (letV (zE X 4) fun X2 =>
  chk (RB X2 5 = true) (letV (zE X2 5) fun X9 =>
  chk (RB X9 6 = true) (letV (zE X9 6) fun X16 =>
  chk (RB X16 7 = true) (letV (zE X16 7) fun X23 =>
  chk (RB X23 8 = true) (letV (zE X23 8) fun X30 =>
  chk (RB X30 9 = true) (letV (zE X30 9) fun X37 =>
  chk (RB X37 10 = true) (letV (zE X37 10) fun X44 =>
  letV (wI X44 3 0 (0)) fun X50 =>
  bnd (hfA_fill 9 (-1 : Int32) X50) fun _ X52 =>
  chk (RB X52 11 = true) (letV (zE X52 11) fun X54 =>
  letV (wI X54 11 (ix 0) 2) fun X60 =>
  letV (wI X60 11 (ix 1) 2) fun X61 =>
  letV (wI X61 11 (ix 2) 2) fun X62 =>
  letV (wI X62 11 (ix 3) 2) fun X63 =>
  bnd (hA_findOrAdd (0 : Int32) (0 : Int32) 11 (0 : Int32) (2 : Int32) (1 : Int32) X63) fun _ X65 =>
  bnd (hA_findOrAdd (1 : Int32) (0 : Int32) 11 (0 : Int32) (2 : Int32) (2 : Int32) X65) fun _ X67 =>
  bnd (hA_findOrAdd (2 : Int32) (0 : Int32) 11 (0 : Int32) (2 : Int32) (3 : Int32) X67) fun _ X69 =>
  bnd (hA_rowOf (2 : Int32) X69) fun _ X71 =>
  bnd (hA_functionOf 11 (0 : Int32) (0 : Int32) (2 : Int32) X71) fun _ X73 =>
  bnd (hA_functionOf 11 (0 : Int32) (1 : Int32) (2 : Int32) X73) fun _ X75 =>
  bnd (hA_functionOf 11 (0 : Int32) (2 : Int32) (2 : Int32) X75) fun _ X77 =>
  bnd (hA_functionOf 11 (0 : Int32) (3 : Int32) (2 : Int32) X77) fun _ X79 =>
  bnd (hA_functionOf 11 (0 : Int32) (4 : Int32) (2 : Int32) X79) fun _ X81 =>
  some X81))))))))
set_option maxHeartbeats 4000000 in
set_option maxRecDepth 100000 in
theorem kctor_C_3 (Λ : Lx) (ad : Nat → Nat) (cA : Nat → ClassId) (X : St) (b0 : Addr) (h0 : ad 3 = b0) : NM Λ yX3_init cX3_init 3 { frames := 5, cells := 8, slots := 16006, locals := 176 } [.ref b0] (YC_4, ad, cA, X) YC_12 (ctor_C_3 X) := by
  refine NM.of (by decide) rfl (Nat.le_of_ble_eq_true rfl) rfl ?_
  show N Λ cX3_init 3 "BlameCourt$Kinds" { frames := 5, cells := 8, slots := 16006, locals := 176 } _ _ _ 0 [(0, .ref b0)] [] _ 0 0 (ctor_C_3 X)
  unfold ctor_C_3
  refine N.aload_n dX3_init_0 rfl 0 rfl ?_
  refine N.obj k219 k206 k207 dX3_init_1 (Nat.le_of_ble_eq_true rfl) (Nat.le_of_ble_eq_true rfl) ?_
  refine N.aload_n dX3_init_4 rfl 0 rfl ?_
  refine N.sipush (w := 1549) dX3_init_5 (by decide) ?_
  refine N.newa (atype := .int) (ty := .int) k277 rfl 1 rfl (a0 := (1549, .inl (fun _ => 0))) (z := 1549) rfl (fun _ => rfl) (by decide) rfl (Nat.le_of_ble_eq_true rfl) (n := 4) rfl (by decide +kernel) (ce' := 1) (sl' := 1549) rfl rfl (Nat.le_of_ble_eq_true rfl) (Nat.le_of_ble_eq_true rfl) (Nat.le_of_ble_eq_true rfl) dX3_init_8 (fun q1 c3 X2 => ?_)
  have gb0 := (adU_ne ad 4 q1 (show (3 : Nat) ≠ 4 by decide)).trans h0
  have gq1 := adU_at ad 4 q1
  generalize adU ad 4 q1 = ad4 at gb0 gq1 ⊢
  generalize adU cA 4 c3 = cA5
  have h6 := gb0
  clear gb0
  have h7 := gq1
  clear gq1
  refine N.putC 3 h6 4 h7 (show isO (YC_4 ++ [(1, 1549, .int, [])]) 3 3 8 from ⟨rfl, rfl, rfl⟩) rfl iX3 1 (by decide) k250 tyX3 tyX3_ok nmX3 rfl rfl rfl rfl dX3_init_10 ?_
  refine N.eqY (Y1 := YC_5) rfl ?_
  refine N.aload_n dX3_init_13 rfl 0 rfl ?_
  refine N.sipush (w := 1549) dX3_init_14 (by decide) ?_
  refine N.newa (atype := .int) (ty := .int) k277 rfl 1 rfl (a0 := (1549, .inl (fun _ => 0))) (z := 1549) rfl (fun _ => rfl) (by decide) rfl (Nat.le_of_ble_eq_true rfl) (n := 5) rfl (by decide +kernel) (ce' := 2) (sl' := 3098) rfl rfl (Nat.le_of_ble_eq_true rfl) (Nat.le_of_ble_eq_true rfl) (Nat.le_of_ble_eq_true rfl) dX3_init_17 (fun q8 c10 X9 => ?_)
  have gb0 := (adU_ne ad4 5 q8 (show (3 : Nat) ≠ 5 by decide)).trans h6
  have gq8 := adU_at ad4 5 q8
  generalize adU ad4 5 q8 = ad11 at gb0 gq8 ⊢
  generalize adU cA5 5 c10 = cA12
  have h13 := gb0
  clear gb0
  have h14 := gq8
  clear gq8
  refine N.putC 3 h13 5 h14 (show isO (YC_5 ++ [(1, 1549, .int, [])]) 3 3 8 from ⟨rfl, rfl, rfl⟩) rfl iX3 2 (by decide) k251 tyX3 tyX3_ok nmX3 rfl rfl rfl rfl dX3_init_19 ?_
  refine N.eqY (Y1 := YC_6) rfl ?_
  refine N.aload_n dX3_init_22 rfl 0 rfl ?_
  refine N.sipush (w := 7745) dX3_init_23 (by decide) ?_
  refine N.newa (atype := .int) (ty := .int) k277 rfl 1 rfl (a0 := (7745, .inl (fun _ => 0))) (z := 7745) rfl (fun _ => rfl) (by decide) rfl (Nat.le_of_ble_eq_true rfl) (n := 6) rfl (by decide +kernel) (ce' := 3) (sl' := 10843) rfl rfl (Nat.le_of_ble_eq_true rfl) (Nat.le_of_ble_eq_true rfl) (Nat.le_of_ble_eq_true rfl) dX3_init_26 (fun q15 c17 X16 => ?_)
  have gb0 := (adU_ne ad11 6 q15 (show (3 : Nat) ≠ 6 by decide)).trans h13
  have gq15 := adU_at ad11 6 q15
  generalize adU ad11 6 q15 = ad18 at gb0 gq15 ⊢
  generalize adU cA12 6 c17 = cA19
  have h20 := gb0
  clear gb0
  have h21 := gq15
  clear gq15
  refine N.putC 3 h20 6 h21 (show isO (YC_6 ++ [(1, 7745, .int, [])]) 3 3 8 from ⟨rfl, rfl, rfl⟩) rfl iX3 3 (by decide) k252 tyX3 tyX3_ok nmX3 rfl rfl rfl rfl dX3_init_28 ?_
  refine N.eqY (Y1 := YC_7) rfl ?_
  refine N.aload_n dX3_init_31 rfl 0 rfl ?_
  refine N.sipush (w := 1549) dX3_init_32 (by decide) ?_
  refine N.newa (atype := .int) (ty := .int) k277 rfl 1 rfl (a0 := (1549, .inl (fun _ => 0))) (z := 1549) rfl (fun _ => rfl) (by decide) rfl (Nat.le_of_ble_eq_true rfl) (n := 7) rfl (by decide +kernel) (ce' := 4) (sl' := 12392) rfl rfl (Nat.le_of_ble_eq_true rfl) (Nat.le_of_ble_eq_true rfl) (Nat.le_of_ble_eq_true rfl) dX3_init_35 (fun q22 c24 X23 => ?_)
  have gb0 := (adU_ne ad18 7 q22 (show (3 : Nat) ≠ 7 by decide)).trans h20
  have gq22 := adU_at ad18 7 q22
  generalize adU ad18 7 q22 = ad25 at gb0 gq22 ⊢
  generalize adU cA19 7 c24 = cA26
  have h27 := gb0
  clear gb0
  have h28 := gq22
  clear gq22
  refine N.putC 3 h27 7 h28 (show isO (YC_7 ++ [(1, 1549, .int, [])]) 3 3 8 from ⟨rfl, rfl, rfl⟩) rfl iX3 4 (by decide) k253 tyX3 tyX3_ok nmX3 rfl rfl rfl rfl dX3_init_37 ?_
  refine N.eqY (Y1 := YC_8) rfl ?_
  refine N.aload_n dX3_init_40 rfl 0 rfl ?_
  refine N.sipush (w := 1549) dX3_init_41 (by decide) ?_
  refine N.newa (atype := .boolean) (ty := .boolean) k278 rfl 1 rfl (a0 := (1549, .inl (fun _ => 0))) (z := 1549) rfl (fun _ => rfl) (by decide) rfl (Nat.le_of_ble_eq_true rfl) (n := 8) rfl (by decide +kernel) (ce' := 5) (sl' := 13941) rfl rfl (Nat.le_of_ble_eq_true rfl) (Nat.le_of_ble_eq_true rfl) (Nat.le_of_ble_eq_true rfl) dX3_init_44 (fun q29 c31 X30 => ?_)
  have gb0 := (adU_ne ad25 8 q29 (show (3 : Nat) ≠ 8 by decide)).trans h27
  have gq29 := adU_at ad25 8 q29
  generalize adU ad25 8 q29 = ad32 at gb0 gq29 ⊢
  generalize adU cA26 8 c31 = cA33
  have h34 := gb0
  clear gb0
  have h35 := gq29
  clear gq29
  refine N.putC 3 h34 8 h35 (show isO (YC_8 ++ [(1, 1549, .boolean, [])]) 3 3 8 from ⟨rfl, rfl, rfl⟩) rfl iX3 5 (by decide) k254 tyX3 tyX3_ok nmX3 rfl rfl rfl rfl dX3_init_46 ?_
  refine N.eqY (Y1 := YC_9) rfl ?_
  refine N.aload_n dX3_init_49 rfl 0 rfl ?_
  refine N.sipush (w := 512) dX3_init_50 (by decide) ?_
  refine N.newa (atype := .int) (ty := .int) k277 rfl 1 rfl (a0 := (512, .inl (fun _ => 0))) (z := 512) rfl (fun _ => rfl) (by decide) rfl (Nat.le_of_ble_eq_true rfl) (n := 9) rfl (by decide +kernel) (ce' := 6) (sl' := 14453) rfl rfl (Nat.le_of_ble_eq_true rfl) (Nat.le_of_ble_eq_true rfl) (Nat.le_of_ble_eq_true rfl) dX3_init_53 (fun q36 c38 X37 => ?_)
  have gb0 := (adU_ne ad32 9 q36 (show (3 : Nat) ≠ 9 by decide)).trans h34
  have gq36 := adU_at ad32 9 q36
  generalize adU ad32 9 q36 = ad39 at gb0 gq36 ⊢
  generalize adU cA33 9 c38 = cA40
  have h41 := gb0
  clear gb0
  have h42 := gq36
  clear gq36
  refine N.putC 3 h41 9 h42 (show isO (YC_9 ++ [(1, 512, .int, [])]) 3 3 8 from ⟨rfl, rfl, rfl⟩) rfl iX3 6 (by decide) k255 tyX3 tyX3_ok nmX3 rfl rfl rfl rfl dX3_init_55 ?_
  refine N.eqY (Y1 := YC_10) rfl ?_
  refine N.aload_n dX3_init_58 rfl 0 rfl ?_
  refine N.sipush (w := 1549) dX3_init_59 (by decide) ?_
  refine N.newa (atype := .int) (ty := .int) k277 rfl 1 rfl (a0 := (1549, .inl (fun _ => 0))) (z := 1549) rfl (fun _ => rfl) (by decide) rfl (Nat.le_of_ble_eq_true rfl) (n := 10) rfl (by decide +kernel) (ce' := 7) (sl' := 16002) rfl rfl (Nat.le_of_ble_eq_true rfl) (Nat.le_of_ble_eq_true rfl) (Nat.le_of_ble_eq_true rfl) dX3_init_62 (fun q43 c45 X44 => ?_)
  have gb0 := (adU_ne ad39 10 q43 (show (3 : Nat) ≠ 10 by decide)).trans h41
  have gq43 := adU_at ad39 10 q43
  generalize adU ad39 10 q43 = ad46 at gb0 gq43 ⊢
  generalize adU cA40 10 c45 = cA47
  have h48 := gb0
  clear gb0
  have h49 := gq43
  clear gq43
  refine N.putC 3 h48 10 h49 (show isO (YC_10 ++ [(1, 1549, .int, [])]) 3 3 8 from ⟨rfl, rfl, rfl⟩) rfl iX3 7 (by decide) k256 tyX3 tyX3_ok nmX3 rfl rfl rfl rfl dX3_init_64 ?_
  refine N.eqY (Y1 := YC_11) rfl ?_
  refine N.aload_n dX3_init_67 rfl 0 rfl ?_
  refine N.iconst (w := 0) dX3_init_68 (by decide) ?_
  refine N.putI 3 h48 (show isO YC_11 3 3 8 from ⟨rfl, rfl, rfl⟩) rfl iX3 0 (by decide) rfl k257 tyX3 tyX3_ok nmX3 rfl rfl rfl dX3_init_69 (fun X50 => ?_)
  refine N.aload_n dX3_init_72 rfl 0 rfl ?_
  refine N.getC 3 h48 (rfl : ad46 9 = ad46 9) (show isO YC_11 3 3 8 from ⟨rfl, rfl, rfl⟩) rfl iX3 6 (by decide) rfl k255 dX3_init_73 ?_
  refine N.iconst (w := (-1)) dX3_init_76 (by decide) ?_
  refine N.callS (As1 := [.ref (ad46 9), .int (-1)]) (rest := []) (khfA_fill (Λ.1, Λ.2.1, Λ.2.2, ad46, cA47) 9 ⟨rfl, rfl, rfl⟩ (-1 : Int32) X50) ka_J7_fill_53178 k221 k220 rfl rfl rfl rfl ⟨(Nat.le_of_ble_eq_true rfl), (Nat.le_of_ble_eq_true rfl)⟩ (Nat.le_of_ble_eq_true rfl) ⟨(Nat.le_of_ble_eq_true rfl), (Nat.le_of_ble_eq_true rfl)⟩ dX3_init_77 (fun _ X52 => ?_)
  refine N.iconst (w := 4) dX3_init_80 (by decide) ?_
  refine N.newa (atype := .int) (ty := .int) k277 rfl 1 rfl (a0 := (4, .inl (fun _ => 0))) (z := 4) rfl (fun _ => rfl) (by decide) rfl (Nat.le_of_ble_eq_true rfl) (n := 11) rfl (by decide +kernel) (ce' := 8) (sl' := 16006) rfl rfl (Nat.le_of_ble_eq_true rfl) (Nat.le_of_ble_eq_true rfl) (Nat.le_of_ble_eq_true rfl) dX3_init_81 (fun q53 c55 X54 => ?_)
  have gb0 := (adU_ne ad46 11 q53 (show (3 : Nat) ≠ 11 by decide)).trans h48
  have gq53 := adU_at ad46 11 q53
  generalize adU ad46 11 q53 = ad56 at gb0 gq53 ⊢
  generalize adU cA47 11 c55 = cA57
  have h58 := gb0
  clear gb0
  have h59 := gq53
  clear gq53
  refine N.eqY (Y1 := YC_12) rfl ?_
  refine N.dupr dX3_init_83 ?_
  refine N.iconst (w := 0) dX3_init_84 (by decide) ?_
  refine N.iconst (w := 2) dX3_init_85 (by decide) ?_
  refine N.iast 11 h59 ⟨rfl, rfl, rfl⟩ (by decide) dX3_init_86 (fun X60 => ?_)
  refine N.dupr dX3_init_87 ?_
  refine N.iconst (w := 1) dX3_init_88 (by decide) ?_
  refine N.iconst (w := 2) dX3_init_89 (by decide) ?_
  refine N.iast 11 h59 ⟨rfl, rfl, rfl⟩ (by decide) dX3_init_90 (fun X61 => ?_)
  refine N.dupr dX3_init_91 ?_
  refine N.iconst (w := 2) dX3_init_92 (by decide) ?_
  refine N.iconst (w := 2) dX3_init_93 (by decide) ?_
  refine N.iast 11 h59 ⟨rfl, rfl, rfl⟩ (by decide) dX3_init_94 (fun X62 => ?_)
  refine N.dupr dX3_init_95 ?_
  refine N.iconst (w := 3) dX3_init_96 (by decide) ?_
  refine N.iconst (w := 2) dX3_init_97 (by decide) ?_
  refine N.iast 11 h59 ⟨rfl, rfl, rfl⟩ (by decide) dX3_init_98 (fun X63 => ?_)
  refine N.astore_n (lv1 := [(1, .ref q53), (0, .ref b0)]) dX3_init_99 rfl (by decide) rfl ?_
  refine N.aload_n dX3_init_100 rfl 1 rfl ?_
  refine N.iconst (w := 0) dX3_init_101 (by decide) ?_
  refine N.iconst (w := 0) dX3_init_102 (by decide) ?_
  refine N.aload_n dX3_init_103 rfl 0 rfl ?_
  refine N.iconst (w := 0) dX3_init_104 (by decide) ?_
  refine N.iconst (w := 2) dX3_init_105 (by decide) ?_
  refine N.iconst (w := 1) dX3_init_106 (by decide) ?_
  subst h58
  subst h59
  refine N.callTi 3 rfl (As1 := [.int 0, .int 0, .ref (ad56 11), .int 0, .int 2, .int 1]) (rest := []) (khA_findOrAdd (Λ.1, Λ.2.1, Λ.2.2, ad56, cA57) (0 : Int32) (0 : Int32) 11 ⟨rfl, rfl, rfl⟩ (0 : Int32) (2 : Int32) (1 : Int32) X63) ka_X3_findOrAdd kv_X3_findOrAdd ⟨rfl, rfl, rfl⟩ rfl k223 rfl rfl rfl rfl ⟨(Nat.le_of_ble_eq_true rfl), (Nat.le_of_ble_eq_true rfl)⟩ (Nat.le_of_ble_eq_true rfl) ⟨(Nat.le_of_ble_eq_true rfl), (Nat.le_of_ble_eq_true rfl)⟩ dX3_init_107 (fun r64 X65 => ?_)
  refine N.pop dX3_init_110 ?_
  refine N.aload_n dX3_init_111 rfl 1 rfl ?_
  refine N.iconst (w := 1) dX3_init_112 (by decide) ?_
  refine N.iconst (w := 0) dX3_init_113 (by decide) ?_
  refine N.aload_n dX3_init_114 rfl 0 rfl ?_
  refine N.iconst (w := 0) dX3_init_115 (by decide) ?_
  refine N.iconst (w := 2) dX3_init_116 (by decide) ?_
  refine N.iconst (w := 2) dX3_init_117 (by decide) ?_
  refine N.callTi 3 rfl (As1 := [.int 1, .int 0, .ref (ad56 11), .int 0, .int 2, .int 2]) (rest := []) (khA_findOrAdd (Λ.1, Λ.2.1, Λ.2.2, ad56, cA57) (1 : Int32) (0 : Int32) 11 ⟨rfl, rfl, rfl⟩ (0 : Int32) (2 : Int32) (2 : Int32) X65) ka_X3_findOrAdd kv_X3_findOrAdd ⟨rfl, rfl, rfl⟩ rfl k223 rfl rfl rfl rfl ⟨(Nat.le_of_ble_eq_true rfl), (Nat.le_of_ble_eq_true rfl)⟩ (Nat.le_of_ble_eq_true rfl) ⟨(Nat.le_of_ble_eq_true rfl), (Nat.le_of_ble_eq_true rfl)⟩ dX3_init_118 (fun r66 X67 => ?_)
  refine N.pop dX3_init_121 ?_
  refine N.aload_n dX3_init_122 rfl 1 rfl ?_
  refine N.iconst (w := 2) dX3_init_123 (by decide) ?_
  refine N.iconst (w := 0) dX3_init_124 (by decide) ?_
  refine N.aload_n dX3_init_125 rfl 0 rfl ?_
  refine N.iconst (w := 0) dX3_init_126 (by decide) ?_
  refine N.iconst (w := 2) dX3_init_127 (by decide) ?_
  refine N.iconst (w := 3) dX3_init_128 (by decide) ?_
  refine N.callTi 3 rfl (As1 := [.int 2, .int 0, .ref (ad56 11), .int 0, .int 2, .int 3]) (rest := []) (khA_findOrAdd (Λ.1, Λ.2.1, Λ.2.2, ad56, cA57) (2 : Int32) (0 : Int32) 11 ⟨rfl, rfl, rfl⟩ (0 : Int32) (2 : Int32) (3 : Int32) X67) ka_X3_findOrAdd kv_X3_findOrAdd ⟨rfl, rfl, rfl⟩ rfl k223 rfl rfl rfl rfl ⟨(Nat.le_of_ble_eq_true rfl), (Nat.le_of_ble_eq_true rfl)⟩ (Nat.le_of_ble_eq_true rfl) ⟨(Nat.le_of_ble_eq_true rfl), (Nat.le_of_ble_eq_true rfl)⟩ dX3_init_129 (fun r68 X69 => ?_)
  refine N.pop dX3_init_132 ?_
  refine N.aload_n dX3_init_133 rfl 1 rfl ?_
  refine N.iconst (w := 2) dX3_init_134 (by decide) ?_
  refine N.callTi 3 rfl (As1 := [.int 2]) (rest := []) (khA_rowOf (Λ.1, Λ.2.1, Λ.2.2, ad56, cA57) (2 : Int32) X69) ka_X3_rowOf kv_X3_rowOf ⟨rfl, rfl, rfl⟩ rfl k238 rfl rfl rfl rfl ⟨(Nat.le_of_ble_eq_true rfl), (Nat.le_of_ble_eq_true rfl)⟩ (Nat.le_of_ble_eq_true rfl) ⟨(Nat.le_of_ble_eq_true rfl), (Nat.le_of_ble_eq_true rfl)⟩ dX3_init_135 (fun r70 X71 => ?_)
  refine N.pop dX3_init_138 ?_
  refine N.iconst (w := 0) dX3_init_139 (by decide) ?_
  refine N.istore_n (lv1 := [(2, .int 0), (1, .ref (ad56 11)), (0, .ref (ad56 3))]) dX3_init_140 rfl (by decide) rfl ?_
  refine N.iload_n dX3_init_141 rfl 0 rfl ?_
  refine N.iconst (w := 4) dX3_init_142 (by decide) ?_
  refine N.icmp_gt (pc1 := 161) dX3_init_143 (by decide) (by decide) ?_
  refine N.aload_n dX3_init_146 rfl 2 rfl ?_
  refine N.aload_n dX3_init_147 rfl 1 rfl ?_
  refine N.iconst (w := 0) dX3_init_148 (by decide) ?_
  refine N.iload_n dX3_init_149 rfl 0 rfl ?_
  refine N.iconst (w := 2) dX3_init_150 (by decide) ?_
  refine N.callTi 3 rfl (As1 := [.ref (ad56 11), .int 0, .int 0, .int 2]) (rest := []) (khA_functionOf (Λ.1, Λ.2.1, Λ.2.2, ad56, cA57) 11 ⟨rfl, rfl, rfl⟩ (0 : Int32) (0 : Int32) (2 : Int32) X71) ka_X3_functionOf kv_X3_functionOf ⟨rfl, rfl, rfl⟩ rfl k246 rfl rfl rfl rfl ⟨(Nat.le_of_ble_eq_true rfl), (Nat.le_of_ble_eq_true rfl)⟩ (Nat.le_of_ble_eq_true rfl) ⟨(Nat.le_of_ble_eq_true rfl), (Nat.le_of_ble_eq_true rfl)⟩ dX3_init_151 (fun r72 X73 => ?_)
  refine N.pop dX3_init_154 ?_
  refine N.iinc (lv1 := [(2, .int 1), (1, .ref (ad56 11)), (0, .ref (ad56 3))]) dX3_init_155 0 rfl (w := 1) (by decide) (by decide) rfl ?_
  refine N.goto (pc1 := 141) dX3_init_158 (by decide) ?_
  refine N.iload_n dX3_init_141 rfl 0 rfl ?_
  refine N.iconst (w := 4) dX3_init_142 (by decide) ?_
  refine N.icmp_gt (pc1 := 161) dX3_init_143 (by decide) (by decide) ?_
  refine N.aload_n dX3_init_146 rfl 2 rfl ?_
  refine N.aload_n dX3_init_147 rfl 1 rfl ?_
  refine N.iconst (w := 0) dX3_init_148 (by decide) ?_
  refine N.iload_n dX3_init_149 rfl 0 rfl ?_
  refine N.iconst (w := 2) dX3_init_150 (by decide) ?_
  refine N.callTi 3 rfl (As1 := [.ref (ad56 11), .int 0, .int 1, .int 2]) (rest := []) (khA_functionOf (Λ.1, Λ.2.1, Λ.2.2, ad56, cA57) 11 ⟨rfl, rfl, rfl⟩ (0 : Int32) (1 : Int32) (2 : Int32) X73) ka_X3_functionOf kv_X3_functionOf ⟨rfl, rfl, rfl⟩ rfl k246 rfl rfl rfl rfl ⟨(Nat.le_of_ble_eq_true rfl), (Nat.le_of_ble_eq_true rfl)⟩ (Nat.le_of_ble_eq_true rfl) ⟨(Nat.le_of_ble_eq_true rfl), (Nat.le_of_ble_eq_true rfl)⟩ dX3_init_151 (fun r74 X75 => ?_)
  refine N.pop dX3_init_154 ?_
  refine N.iinc (lv1 := [(2, .int 2), (1, .ref (ad56 11)), (0, .ref (ad56 3))]) dX3_init_155 0 rfl (w := 2) (by decide) (by decide) rfl ?_
  refine N.goto (pc1 := 141) dX3_init_158 (by decide) ?_
  refine N.iload_n dX3_init_141 rfl 0 rfl ?_
  refine N.iconst (w := 4) dX3_init_142 (by decide) ?_
  refine N.icmp_gt (pc1 := 161) dX3_init_143 (by decide) (by decide) ?_
  refine N.aload_n dX3_init_146 rfl 2 rfl ?_
  refine N.aload_n dX3_init_147 rfl 1 rfl ?_
  refine N.iconst (w := 0) dX3_init_148 (by decide) ?_
  refine N.iload_n dX3_init_149 rfl 0 rfl ?_
  refine N.iconst (w := 2) dX3_init_150 (by decide) ?_
  refine N.callTi 3 rfl (As1 := [.ref (ad56 11), .int 0, .int 2, .int 2]) (rest := []) (khA_functionOf (Λ.1, Λ.2.1, Λ.2.2, ad56, cA57) 11 ⟨rfl, rfl, rfl⟩ (0 : Int32) (2 : Int32) (2 : Int32) X75) ka_X3_functionOf kv_X3_functionOf ⟨rfl, rfl, rfl⟩ rfl k246 rfl rfl rfl rfl ⟨(Nat.le_of_ble_eq_true rfl), (Nat.le_of_ble_eq_true rfl)⟩ (Nat.le_of_ble_eq_true rfl) ⟨(Nat.le_of_ble_eq_true rfl), (Nat.le_of_ble_eq_true rfl)⟩ dX3_init_151 (fun r76 X77 => ?_)
  refine N.pop dX3_init_154 ?_
  refine N.iinc (lv1 := [(2, .int 3), (1, .ref (ad56 11)), (0, .ref (ad56 3))]) dX3_init_155 0 rfl (w := 3) (by decide) (by decide) rfl ?_
  refine N.goto (pc1 := 141) dX3_init_158 (by decide) ?_
  refine N.iload_n dX3_init_141 rfl 0 rfl ?_
  refine N.iconst (w := 4) dX3_init_142 (by decide) ?_
  refine N.icmp_gt (pc1 := 161) dX3_init_143 (by decide) (by decide) ?_
  refine N.aload_n dX3_init_146 rfl 2 rfl ?_
  refine N.aload_n dX3_init_147 rfl 1 rfl ?_
  refine N.iconst (w := 0) dX3_init_148 (by decide) ?_
  refine N.iload_n dX3_init_149 rfl 0 rfl ?_
  refine N.iconst (w := 2) dX3_init_150 (by decide) ?_
  refine N.callTi 3 rfl (As1 := [.ref (ad56 11), .int 0, .int 3, .int 2]) (rest := []) (khA_functionOf (Λ.1, Λ.2.1, Λ.2.2, ad56, cA57) 11 ⟨rfl, rfl, rfl⟩ (0 : Int32) (3 : Int32) (2 : Int32) X77) ka_X3_functionOf kv_X3_functionOf ⟨rfl, rfl, rfl⟩ rfl k246 rfl rfl rfl rfl ⟨(Nat.le_of_ble_eq_true rfl), (Nat.le_of_ble_eq_true rfl)⟩ (Nat.le_of_ble_eq_true rfl) ⟨(Nat.le_of_ble_eq_true rfl), (Nat.le_of_ble_eq_true rfl)⟩ dX3_init_151 (fun r78 X79 => ?_)
  refine N.pop dX3_init_154 ?_
  refine N.iinc (lv1 := [(2, .int 4), (1, .ref (ad56 11)), (0, .ref (ad56 3))]) dX3_init_155 0 rfl (w := 4) (by decide) (by decide) rfl ?_
  refine N.goto (pc1 := 141) dX3_init_158 (by decide) ?_
  refine N.iload_n dX3_init_141 rfl 0 rfl ?_
  refine N.iconst (w := 4) dX3_init_142 (by decide) ?_
  refine N.icmp_gt (pc1 := 161) dX3_init_143 (by decide) (by decide) ?_
  refine N.aload_n dX3_init_146 rfl 2 rfl ?_
  refine N.aload_n dX3_init_147 rfl 1 rfl ?_
  refine N.iconst (w := 0) dX3_init_148 (by decide) ?_
  refine N.iload_n dX3_init_149 rfl 0 rfl ?_
  refine N.iconst (w := 2) dX3_init_150 (by decide) ?_
  refine N.callTi 3 rfl (As1 := [.ref (ad56 11), .int 0, .int 4, .int 2]) (rest := []) (khA_functionOf (Λ.1, Λ.2.1, Λ.2.2, ad56, cA57) 11 ⟨rfl, rfl, rfl⟩ (0 : Int32) (4 : Int32) (2 : Int32) X79) ka_X3_functionOf kv_X3_functionOf ⟨rfl, rfl, rfl⟩ rfl k246 rfl rfl rfl rfl ⟨(Nat.le_of_ble_eq_true rfl), (Nat.le_of_ble_eq_true rfl)⟩ (Nat.le_of_ble_eq_true rfl) ⟨(Nat.le_of_ble_eq_true rfl), (Nat.le_of_ble_eq_true rfl)⟩ dX3_init_151 (fun r80 X81 => ?_)
  refine N.pop dX3_init_154 ?_
  refine N.iinc (lv1 := [(2, .int 5), (1, .ref (ad56 11)), (0, .ref (ad56 3))]) dX3_init_155 0 rfl (w := 5) (by decide) (by decide) rfl ?_
  refine N.goto (pc1 := 141) dX3_init_158 (by decide) ?_
  refine N.iload_n dX3_init_141 rfl 0 rfl ?_
  refine N.iconst (w := 4) dX3_init_142 (by decide) ?_
  refine N.icmp_gtT (pc1 := 161) dX3_init_143 (by decide) (by decide) ?_
  exact N.ret rfl (Nat.le_of_ble_eq_true rfl) (Nat.le_of_ble_eq_true rfl) dX3_init_161
noncomputable def ctor_C_2 (X : St) : Option St :=
  chk (RB X 3 = true) (letV (zE X 3) fun X2 =>
  bndN (ctor_C_3 X2) fun X11 =>
  letV (wI X11 2 1 (0)) fun X14 =>
  letV (wI X14 2 2 ((-1))) fun X15 =>
  chk (RB X15 12 = true) (letV (zE X15 12) fun X17 =>
  chk (RB X17 13 = true) (letV (zE X17 13) fun X24 =>
  chk (RB X24 14 = true) (letV (zE X24 14) fun X31 =>
  chk (RB X31 15 = true) (letV (zE X31 15) fun X38 =>
  chk (RB X38 16 = true) (letV (zE X38 16) fun X45 =>
  chk (RB X45 17 = true) (letV (zE X45 17) fun X52 =>
  chk (RB X52 18 = true) (letV (zE X52 18) fun X59 =>
  chk (RB X59 19 = true) (letV (zE X59 19) fun X66 =>
  letV (wI X66 2 5 (0)) fun X72 =>
  chk (RB X72 20 = true) (letV (zE X72 20) fun X74 =>
  chk (RB X74 21 = true) (letV (zE X74 21) fun X81 =>
  chk (RB X81 22 = true) (letV (zE X81 22) fun X88 =>
  chk (RB X88 23 = true) (letV (zE X88 23) fun X95 =>
  letV (wI X95 2 6 (0)) fun X101 =>
  some X101)))))))))))))
set_option maxHeartbeats 4000000 in
set_option maxRecDepth 100000 in
theorem kctor_C_2 (Λ : Lx) (ad : Nat → Nat) (cA : Nat → ClassId) (X : St) (b0 : Addr) (h0 : ad 2 = b0) : NM Λ yX5_init cX5_init 1 { frames := 6, cells := 21, slots := 52775, locals := 198 } [.ref b0] (YC_3, ad, cA, X) YC_25 (ctor_C_2 X) := by
  refine NM.of (by decide) rfl (Nat.le_of_ble_eq_true rfl) rfl ?_
  show N Λ cX5_init 1 "BlameCourt$Program" { frames := 6, cells := 21, slots := 52775, locals := 198 } _ _ _ 0 [(0, .ref b0)] [] _ 0 0 (ctor_C_2 X)
  unfold ctor_C_2
  refine N.aload_n dX5_init_0 rfl 0 rfl ?_
  refine N.obj k213 k206 k207 dX5_init_1 (Nat.le_of_ble_eq_true rfl) (Nat.le_of_ble_eq_true rfl) ?_
  refine N.aload_n dX5_init_4 rfl 0 rfl ?_
  refine N.new (ci := 3) iX3 tyX3 tyX3_ok k214 k215 k189 rfl [0, 2, 2, 2, 2, 2, 2, 2] rfl (fs := [.int 0, .null, .null, .null, .null, .null, .null, .null]) (hfs_of dfX3_ok) rfl rfl (n := 3) rfl (by decide +kernel) (ce' := 1) (sl' := 8) rfl rfl (Nat.le_of_ble_eq_true rfl) (Nat.le_of_ble_eq_true rfl) (Nat.le_of_ble_eq_true rfl) dX5_init_5 (fun q1 c3 X2 => ?_)
  have gb0 := (adU_ne ad 3 q1 (show (2 : Nat) ≠ 3 by decide)).trans h0
  have gq1 := adU_at ad 3 q1
  generalize adU ad 3 q1 = ad4 at gb0 gq1 ⊢
  generalize adU cA 3 c3 = cA5
  have h6 := gb0
  clear gb0
  have h7 := gq1
  clear gq1
  refine N.eqY (Y1 := YC_4) rfl ?_
  refine N.dupr dX5_init_8 ?_
  refine N.ctor 3 h7 (rest := [.ref q1, .ref b0]) (As1 := []) (kctor_C_3 Λ ad4 cA5 X2 q1 h7) ka_X3_init k217 rfl (host := "") (Or.inl k216) rfl rfl ⟨(Nat.le_of_ble_eq_true rfl), (Nat.le_of_ble_eq_true rfl)⟩ (Nat.le_of_ble_eq_true rfl) (ce' := 9) (sl' := 16014) rfl rfl ⟨(Nat.le_of_ble_eq_true rfl), (Nat.le_of_ble_eq_true rfl)⟩ dX5_init_9 (fun ad8 cA9 hx10 X11 => ?_) (Nat.le_of_ble_eq_true rfl)
  have h12 := (hx10 2 (by decide)).trans h6
  have h13 := (hx10 3 (by decide)).trans h7
  refine N.putC 2 h12 3 h13 (show isO YC_12 2 4 17 from ⟨rfl, rfl, rfl⟩) rfl iX5 0 (by decide) k279 tyX5 tyX5_ok nmX5 rfl rfl rfl rfl dX5_init_12 ?_
  refine N.eqY (Y1 := YC_13) rfl ?_
  refine N.aload_n dX5_init_15 rfl 0 rfl ?_
  refine N.iconst (w := 0) dX5_init_16 (by decide) ?_
  refine N.putI 2 h12 (show isO YC_13 2 4 17 from ⟨rfl, rfl, rfl⟩) rfl iX5 1 (by decide) rfl k284 tyX5 tyX5_ok nmX5 rfl rfl rfl dX5_init_17 (fun X14 => ?_)
  refine N.aload_n dX5_init_20 rfl 0 rfl ?_
  refine N.iconst (w := (-1)) dX5_init_21 (by decide) ?_
  refine N.putI 2 h12 (show isO YC_13 2 4 17 from ⟨rfl, rfl, rfl⟩) rfl iX5 2 (by decide) rfl k289 tyX5 tyX5_ok nmX5 rfl rfl rfl dX5_init_22 (fun X15 => ?_)
  refine N.aload_n dX5_init_25 rfl 0 rfl ?_
  refine N.bipush (w := 40) dX5_init_26 (by decide) ?_
  refine N.newa (atype := .long) (ty := .long) k373 rfl 2 rfl (a0 := (40, .inr (.inl (fun _ => 0)))) (z := 40) rfl (fun _ => rfl) (by decide) rfl (Nat.le_of_ble_eq_true rfl) (n := 12) rfl (by decide +kernel) (ce' := 10) (sl' := 16054) rfl rfl (Nat.le_of_ble_eq_true rfl) (Nat.le_of_ble_eq_true rfl) (Nat.le_of_ble_eq_true rfl) dX5_init_28 (fun q16 c18 X17 => ?_)
  have gb0 := (adU_ne ad8 12 q16 (show (2 : Nat) ≠ 12 by decide)).trans h12
  have gq16 := adU_at ad8 12 q16
  generalize adU ad8 12 q16 = ad19 at gb0 gq16 ⊢
  generalize adU cA9 12 c18 = cA20
  have h21 := gb0
  clear gb0
  have h22 := gq16
  clear gq16
  refine N.putC 2 h21 12 h22 (show isO (YC_13 ++ [(2, 40, .long, [])]) 2 4 17 from ⟨rfl, rfl, rfl⟩) rfl iX5 7 (by decide) k292 tyX5 tyX5_ok nmX5 rfl rfl rfl rfl dX5_init_30 ?_
  refine N.eqY (Y1 := YC_14) rfl ?_
  refine N.aload_n dX5_init_33 rfl 0 rfl ?_
  refine N.bipush (w := 40) dX5_init_34 (by decide) ?_
  refine N.newa (atype := .int) (ty := .int) k277 rfl 1 rfl (a0 := (40, .inl (fun _ => 0))) (z := 40) rfl (fun _ => rfl) (by decide) rfl (Nat.le_of_ble_eq_true rfl) (n := 13) rfl (by decide +kernel) (ce' := 11) (sl' := 16094) rfl rfl (Nat.le_of_ble_eq_true rfl) (Nat.le_of_ble_eq_true rfl) (Nat.le_of_ble_eq_true rfl) dX5_init_36 (fun q23 c25 X24 => ?_)
  have gb0 := (adU_ne ad19 13 q23 (show (2 : Nat) ≠ 13 by decide)).trans h21
  have gq23 := adU_at ad19 13 q23
  generalize adU ad19 13 q23 = ad26 at gb0 gq23 ⊢
  generalize adU cA20 13 c25 = cA27
  have h28 := gb0
  clear gb0
  have h29 := gq23
  clear gq23
  refine N.putC 2 h28 13 h29 (show isO (YC_14 ++ [(1, 40, .int, [])]) 2 4 17 from ⟨rfl, rfl, rfl⟩) rfl iX5 8 (by decide) k294 tyX5 tyX5_ok nmX5 rfl rfl rfl rfl dX5_init_38 ?_
  refine N.eqY (Y1 := YC_15) rfl ?_
  refine N.aload_n dX5_init_41 rfl 0 rfl ?_
  refine N.bipush (w := 40) dX5_init_42 (by decide) ?_
  refine N.newa (atype := .int) (ty := .int) k277 rfl 1 rfl (a0 := (40, .inl (fun _ => 0))) (z := 40) rfl (fun _ => rfl) (by decide) rfl (Nat.le_of_ble_eq_true rfl) (n := 14) rfl (by decide +kernel) (ce' := 12) (sl' := 16134) rfl rfl (Nat.le_of_ble_eq_true rfl) (Nat.le_of_ble_eq_true rfl) (Nat.le_of_ble_eq_true rfl) dX5_init_44 (fun q30 c32 X31 => ?_)
  have gb0 := (adU_ne ad26 14 q30 (show (2 : Nat) ≠ 14 by decide)).trans h28
  have gq30 := adU_at ad26 14 q30
  generalize adU ad26 14 q30 = ad33 at gb0 gq30 ⊢
  generalize adU cA27 14 c32 = cA34
  have h35 := gb0
  clear gb0
  have h36 := gq30
  clear gq30
  refine N.putC 2 h35 14 h36 (show isO (YC_15 ++ [(1, 40, .int, [])]) 2 4 17 from ⟨rfl, rfl, rfl⟩) rfl iX5 9 (by decide) k297 tyX5 tyX5_ok nmX5 rfl rfl rfl rfl dX5_init_46 ?_
  refine N.eqY (Y1 := YC_16) rfl ?_
  refine N.aload_n dX5_init_49 rfl 0 rfl ?_
  refine N.bipush (w := 40) dX5_init_50 (by decide) ?_
  refine N.newa (atype := .int) (ty := .int) k277 rfl 1 rfl (a0 := (40, .inl (fun _ => 0))) (z := 40) rfl (fun _ => rfl) (by decide) rfl (Nat.le_of_ble_eq_true rfl) (n := 15) rfl (by decide +kernel) (ce' := 13) (sl' := 16174) rfl rfl (Nat.le_of_ble_eq_true rfl) (Nat.le_of_ble_eq_true rfl) (Nat.le_of_ble_eq_true rfl) dX5_init_52 (fun q37 c39 X38 => ?_)
  have gb0 := (adU_ne ad33 15 q37 (show (2 : Nat) ≠ 15 by decide)).trans h35
  have gq37 := adU_at ad33 15 q37
  generalize adU ad33 15 q37 = ad40 at gb0 gq37 ⊢
  generalize adU cA34 15 c39 = cA41
  have h42 := gb0
  clear gb0
  have h43 := gq37
  clear gq37
  refine N.putC 2 h42 15 h43 (show isO (YC_16 ++ [(1, 40, .int, [])]) 2 4 17 from ⟨rfl, rfl, rfl⟩) rfl iX5 10 (by decide) k300 tyX5 tyX5_ok nmX5 rfl rfl rfl rfl dX5_init_54 ?_
  refine N.eqY (Y1 := YC_17) rfl ?_
  refine N.aload_n dX5_init_57 rfl 0 rfl ?_
  refine N.sipush (w := 160) dX5_init_58 (by decide) ?_
  refine N.newa (atype := .int) (ty := .int) k277 rfl 1 rfl (a0 := (160, .inl (fun _ => 0))) (z := 160) rfl (fun _ => rfl) (by decide) rfl (Nat.le_of_ble_eq_true rfl) (n := 16) rfl (by decide +kernel) (ce' := 14) (sl' := 16334) rfl rfl (Nat.le_of_ble_eq_true rfl) (Nat.le_of_ble_eq_true rfl) (Nat.le_of_ble_eq_true rfl) dX5_init_61 (fun q44 c46 X45 => ?_)
  have gb0 := (adU_ne ad40 16 q44 (show (2 : Nat) ≠ 16 by decide)).trans h42
  have gq44 := adU_at ad40 16 q44
  generalize adU ad40 16 q44 = ad47 at gb0 gq44 ⊢
  generalize adU cA41 16 c46 = cA48
  have h49 := gb0
  clear gb0
  have h50 := gq44
  clear gq44
  refine N.putC 2 h49 16 h50 (show isO (YC_17 ++ [(1, 160, .int, [])]) 2 4 17 from ⟨rfl, rfl, rfl⟩) rfl iX5 11 (by decide) k304 tyX5 tyX5_ok nmX5 rfl rfl rfl rfl dX5_init_63 ?_
  refine N.eqY (Y1 := YC_18) rfl ?_
  refine N.aload_n dX5_init_66 rfl 0 rfl ?_
  refine N.bipush (w := 40) dX5_init_67 (by decide) ?_
  refine N.newa (atype := .int) (ty := .int) k277 rfl 1 rfl (a0 := (40, .inl (fun _ => 0))) (z := 40) rfl (fun _ => rfl) (by decide) rfl (Nat.le_of_ble_eq_true rfl) (n := 17) rfl (by decide +kernel) (ce' := 15) (sl' := 16374) rfl rfl (Nat.le_of_ble_eq_true rfl) (Nat.le_of_ble_eq_true rfl) (Nat.le_of_ble_eq_true rfl) dX5_init_69 (fun q51 c53 X52 => ?_)
  have gb0 := (adU_ne ad47 17 q51 (show (2 : Nat) ≠ 17 by decide)).trans h49
  have gq51 := adU_at ad47 17 q51
  generalize adU ad47 17 q51 = ad54 at gb0 gq51 ⊢
  generalize adU cA48 17 c53 = cA55
  have h56 := gb0
  clear gb0
  have h57 := gq51
  clear gq51
  refine N.putC 2 h56 17 h57 (show isO (YC_18 ++ [(1, 40, .int, [])]) 2 4 17 from ⟨rfl, rfl, rfl⟩) rfl iX5 12 (by decide) k307 tyX5 tyX5_ok nmX5 rfl rfl rfl rfl dX5_init_71 ?_
  refine N.eqY (Y1 := YC_19) rfl ?_
  refine N.aload_n dX5_init_74 rfl 0 rfl ?_
  refine N.bipush (w := 40) dX5_init_75 (by decide) ?_
  refine N.newa (atype := .boolean) (ty := .boolean) k278 rfl 1 rfl (a0 := (40, .inl (fun _ => 0))) (z := 40) rfl (fun _ => rfl) (by decide) rfl (Nat.le_of_ble_eq_true rfl) (n := 18) rfl (by decide +kernel) (ce' := 16) (sl' := 16414) rfl rfl (Nat.le_of_ble_eq_true rfl) (Nat.le_of_ble_eq_true rfl) (Nat.le_of_ble_eq_true rfl) dX5_init_77 (fun q58 c60 X59 => ?_)
  have gb0 := (adU_ne ad54 18 q58 (show (2 : Nat) ≠ 18 by decide)).trans h56
  have gq58 := adU_at ad54 18 q58
  generalize adU ad54 18 q58 = ad61 at gb0 gq58 ⊢
  generalize adU cA55 18 c60 = cA62
  have h63 := gb0
  clear gb0
  have h64 := gq58
  clear gq58
  refine N.putC 2 h63 18 h64 (show isO (YC_19 ++ [(1, 40, .boolean, [])]) 2 4 17 from ⟨rfl, rfl, rfl⟩) rfl iX5 3 (by decide) k310 tyX5 tyX5_ok nmX5 rfl rfl rfl rfl dX5_init_79 ?_
  refine N.eqY (Y1 := YC_20) rfl ?_
  refine N.aload_n dX5_init_82 rfl 0 rfl ?_
  refine N.bipush (w := 41) dX5_init_83 (by decide) ?_
  refine N.newa (atype := .int) (ty := .int) k277 rfl 1 rfl (a0 := (41, .inl (fun _ => 0))) (z := 41) rfl (fun _ => rfl) (by decide) rfl (Nat.le_of_ble_eq_true rfl) (n := 19) rfl (by decide +kernel) (ce' := 17) (sl' := 16455) rfl rfl (Nat.le_of_ble_eq_true rfl) (Nat.le_of_ble_eq_true rfl) (Nat.le_of_ble_eq_true rfl) dX5_init_85 (fun q65 c67 X66 => ?_)
  have gb0 := (adU_ne ad61 19 q65 (show (2 : Nat) ≠ 19 by decide)).trans h63
  have gq65 := adU_at ad61 19 q65
  generalize adU ad61 19 q65 = ad68 at gb0 gq65 ⊢
  generalize adU cA62 19 c67 = cA69
  have h70 := gb0
  clear gb0
  have h71 := gq65
  clear gq65
  refine N.putC 2 h70 19 h71 (show isO (YC_20 ++ [(1, 41, .int, [])]) 2 4 17 from ⟨rfl, rfl, rfl⟩) rfl iX5 4 (by decide) k313 tyX5 tyX5_ok nmX5 rfl rfl rfl rfl dX5_init_87 ?_
  refine N.eqY (Y1 := YC_21) rfl ?_
  refine N.aload_n dX5_init_90 rfl 0 rfl ?_
  refine N.iconst (w := 0) dX5_init_91 (by decide) ?_
  refine N.putI 2 h70 (show isO YC_21 2 4 17 from ⟨rfl, rfl, rfl⟩) rfl iX5 5 (by decide) rfl k317 tyX5 tyX5_ok nmX5 rfl rfl rfl dX5_init_92 (fun X72 => ?_)
  refine N.aload_n dX5_init_95 rfl 0 rfl ?_
  refine N.sipush (w := 9080) dX5_init_96 (by decide) ?_
  refine N.newa (atype := .int) (ty := .int) k277 rfl 1 rfl (a0 := (9080, .inl (fun _ => 0))) (z := 9080) rfl (fun _ => rfl) (by decide) rfl (Nat.le_of_ble_eq_true rfl) (n := 20) rfl (by decide +kernel) (ce' := 18) (sl' := 25535) rfl rfl (Nat.le_of_ble_eq_true rfl) (Nat.le_of_ble_eq_true rfl) (Nat.le_of_ble_eq_true rfl) dX5_init_99 (fun q73 c75 X74 => ?_)
  have gb0 := (adU_ne ad68 20 q73 (show (2 : Nat) ≠ 20 by decide)).trans h70
  have gq73 := adU_at ad68 20 q73
  generalize adU ad68 20 q73 = ad76 at gb0 gq73 ⊢
  generalize adU cA69 20 c75 = cA77
  have h78 := gb0
  clear gb0
  have h79 := gq73
  clear gq73
  refine N.putC 2 h78 20 h79 (show isO (YC_21 ++ [(1, 9080, .int, [])]) 2 4 17 from ⟨rfl, rfl, rfl⟩) rfl iX5 13 (by decide) k320 tyX5 tyX5_ok nmX5 rfl rfl rfl rfl dX5_init_101 ?_
  refine N.eqY (Y1 := YC_22) rfl ?_
  refine N.aload_n dX5_init_104 rfl 0 rfl ?_
  refine N.sipush (w := 9080) dX5_init_105 (by decide) ?_
  refine N.newa (atype := .int) (ty := .int) k277 rfl 1 rfl (a0 := (9080, .inl (fun _ => 0))) (z := 9080) rfl (fun _ => rfl) (by decide) rfl (Nat.le_of_ble_eq_true rfl) (n := 21) rfl (by decide +kernel) (ce' := 19) (sl' := 34615) rfl rfl (Nat.le_of_ble_eq_true rfl) (Nat.le_of_ble_eq_true rfl) (Nat.le_of_ble_eq_true rfl) dX5_init_108 (fun q80 c82 X81 => ?_)
  have gb0 := (adU_ne ad76 21 q80 (show (2 : Nat) ≠ 21 by decide)).trans h78
  have gq80 := adU_at ad76 21 q80
  generalize adU ad76 21 q80 = ad83 at gb0 gq80 ⊢
  generalize adU cA77 21 c82 = cA84
  have h85 := gb0
  clear gb0
  have h86 := gq80
  clear gq80
  refine N.putC 2 h85 21 h86 (show isO (YC_22 ++ [(1, 9080, .int, [])]) 2 4 17 from ⟨rfl, rfl, rfl⟩) rfl iX5 14 (by decide) k324 tyX5 tyX5_ok nmX5 rfl rfl rfl rfl dX5_init_110 ?_
  refine N.eqY (Y1 := YC_23) rfl ?_
  refine N.aload_n dX5_init_113 rfl 0 rfl ?_
  refine N.sipush (w := 9080) dX5_init_114 (by decide) ?_
  refine N.newa (atype := .int) (ty := .int) k277 rfl 1 rfl (a0 := (9080, .inl (fun _ => 0))) (z := 9080) rfl (fun _ => rfl) (by decide) rfl (Nat.le_of_ble_eq_true rfl) (n := 22) rfl (by decide +kernel) (ce' := 20) (sl' := 43695) rfl rfl (Nat.le_of_ble_eq_true rfl) (Nat.le_of_ble_eq_true rfl) (Nat.le_of_ble_eq_true rfl) dX5_init_117 (fun q87 c89 X88 => ?_)
  have gb0 := (adU_ne ad83 22 q87 (show (2 : Nat) ≠ 22 by decide)).trans h85
  have gq87 := adU_at ad83 22 q87
  generalize adU ad83 22 q87 = ad90 at gb0 gq87 ⊢
  generalize adU cA84 22 c89 = cA91
  have h92 := gb0
  clear gb0
  have h93 := gq87
  clear gq87
  refine N.putC 2 h92 22 h93 (show isO (YC_23 ++ [(1, 9080, .int, [])]) 2 4 17 from ⟨rfl, rfl, rfl⟩) rfl iX5 15 (by decide) k328 tyX5 tyX5_ok nmX5 rfl rfl rfl rfl dX5_init_119 ?_
  refine N.eqY (Y1 := YC_24) rfl ?_
  refine N.aload_n dX5_init_122 rfl 0 rfl ?_
  refine N.sipush (w := 9080) dX5_init_123 (by decide) ?_
  refine N.newa (atype := .int) (ty := .int) k277 rfl 1 rfl (a0 := (9080, .inl (fun _ => 0))) (z := 9080) rfl (fun _ => rfl) (by decide) rfl (Nat.le_of_ble_eq_true rfl) (n := 23) rfl (by decide +kernel) (ce' := 21) (sl' := 52775) rfl rfl (Nat.le_of_ble_eq_true rfl) (Nat.le_of_ble_eq_true rfl) (Nat.le_of_ble_eq_true rfl) dX5_init_126 (fun q94 c96 X95 => ?_)
  have gb0 := (adU_ne ad90 23 q94 (show (2 : Nat) ≠ 23 by decide)).trans h92
  have gq94 := adU_at ad90 23 q94
  generalize adU ad90 23 q94 = ad97 at gb0 gq94 ⊢
  generalize adU cA91 23 c96 = cA98
  have h99 := gb0
  clear gb0
  have h100 := gq94
  clear gq94
  refine N.putC 2 h99 23 h100 (show isO (YC_24 ++ [(1, 9080, .int, [])]) 2 4 17 from ⟨rfl, rfl, rfl⟩) rfl iX5 16 (by decide) k331 tyX5 tyX5_ok nmX5 rfl rfl rfl rfl dX5_init_128 ?_
  refine N.eqY (Y1 := YC_25) rfl ?_
  refine N.aload_n dX5_init_131 rfl 0 rfl ?_
  refine N.iconst (w := 0) dX5_init_132 (by decide) ?_
  refine N.putI 2 h99 (show isO YC_25 2 4 17 from ⟨rfl, rfl, rfl⟩) rfl iX5 6 (by decide) rfl k335 tyX5 tyX5_ok nmX5 rfl rfl rfl dX5_init_133 (fun X101 => ?_)
  exact N.ret rfl (Nat.le_of_ble_eq_true rfl) (Nat.le_of_ble_eq_true rfl) dX5_init_136
theorem oCfB_25 : isO YC_34 25 3 8 := ⟨rfl, rfl, rfl⟩
section FfB
variable {ρ : Type} {Γ : Gx} {cc : ByteArray} {nL : Nat} {own : String} {ret : Option FieldType} {R0 : Room} {As rest : List Value} {q : QT ρ} {pc : Nat} {lv : List (Nat × Value)} {X : St} {F : Option (ρ × St)} {index : Nat}
end FfB
noncomputable def hfB_fill_5_s (r5 : Nat → Int32 → Int32 → Int32 → St → Option (Int32 × St)) (e_0 : Nat) (a_1 : Int32) (a_2 : Int32) (a_3 : Int32) (X : St) : Option (Int32 × St) :=
  if a_3.toInt ≤ a_2.toInt then
    some (0, X)
  else
    chk (inR a_2 (zY YC_34 e_0)) (letV (wI X e_0 (ix a_2) a_1) fun X2 =>
    letV (a_2 + Int32.ofInt (1)) fun x3 =>
    r5 e_0 a_1 x3 a_3 X2)
noncomputable def hfB_fill_5 (n : Nat) : Nat → Int32 → Int32 → Int32 → St → Option (Int32 × St) := lp (fun _ _ _ _ _ => none) (hfB_fill_5_s) n
set_option maxHeartbeats 4000000 in
set_option maxRecDepth 100000 in
theorem khfB_fill_5 (Γ : Gx) (As : List Value) (n : Nat) : ∀ (e_0 : Nat) (he_0 : isA YC_34 e_0 1 (zY YC_34 e_0) .int) (a_1 : Int32) (a_2 : Int32) (a_3 : Int32) (X : St), T YC_34 Γ cJ7_fill_53178 4 "java/util/Arrays" none { frames := 2, cells := 0, slots := 0, locals := 70 } As qV 5 [(0, .ref (Γ.2.2.2.1 e_0)), (1, .int a_1), (2, .int a_2), (3, .int a_3)] [] X (hfB_fill_5 n e_0 a_1 a_2 a_3 X) := by
  unfold hfB_fill_5
  refine lp_ind (P := fun (r5 : Nat → Int32 → Int32 → Int32 → St → Option (Int32 × St)) => ∀ (e_0 : Nat) (he_0 : isA YC_34 e_0 1 (zY YC_34 e_0) .int) (a_1 : Int32) (a_2 : Int32) (a_3 : Int32) (X : St), T YC_34 Γ cJ7_fill_53178 4 "java/util/Arrays" none { frames := 2, cells := 0, slots := 0, locals := 70 } As qV 5 [(0, .ref (Γ.2.2.2.1 e_0)), (1, .int a_1), (2, .int a_2), (3, .int a_3)] [] X (r5 e_0 a_1 a_2 a_3 X)) (fun _ _ _ _ _ _ => T.no) ?_ n
  intro r5 hr5 e_0 he_0 a_1 a_2 a_3 X
  unfold hfB_fill_5_s
  refine T.iload_n dJ7_fill_53178_5 rfl 2 rfl ?_
  refine T.iload_n dJ7_fill_53178_6 rfl 3 rfl ?_
  refine T.icmp_ge (pc1 := 20) dJ7_fill_53178_7 (by decide) rfl ?_ ?_
  · exact T.ret_v rfl dJ7_fill_53178_20
  · refine T.aload_n dJ7_fill_53178_10 rfl 0 rfl ?_
    refine T.iload_n dJ7_fill_53178_11 rfl 2 rfl ?_
    refine T.iload_n dJ7_fill_53178_12 rfl 1 rfl ?_
    refine T.iast e_0 he_0 dJ7_fill_53178_13 (fun X2 => ?_)
    refine T.iinc dJ7_fill_53178_14 2 rfl (by decide) (lvf := fun x3 => [(2, .int x3), (0, .ref (Γ.2.2.2.1 e_0)), (1, .int a_1), (3, .int a_3)]) (fun _ => rfl) (fun x3 => ?_)
    refine T.goto (pc1 := 5) dJ7_fill_53178_17 (by decide) ?_
    refine T.sub [1, 2, 0, 3] rfl ?_
    exact hr5 e_0 he_0 a_1 x3 a_3 X2
noncomputable def hfB_fill (o0 : Nat) (p1 : Int32) (X : St) : Option (Int32 × St) :=
  letV (Int32.ofNat (zY YC_34 o0)) fun x1 =>
  hfB_fill_5 BIG o0 p1 (0 : Int32) x1 X
set_option maxHeartbeats 4000000 in
set_option maxRecDepth 100000 in
theorem khfB_fill (Γ : Gx) (o0 : Nat) (ho0 : isA YC_34 o0 1 (zY YC_34 o0) .int) (p1 : Int32) (X : St) : TMV YC_34 Γ yJ7_fill_53178 cJ7_fill_53178 4 "java/util/Arrays" none { frames := 2, cells := 0, slots := 0, locals := 70 } [.ref (Γ.2.2.2.1 o0), .int p1] X (hfB_fill o0 p1 X) := by
  refine TMV.of (by decide) (Nat.le_of_ble_eq_true rfl) rfl ?_
  show T YC_34 Γ cJ7_fill_53178 4 "java/util/Arrays" none { frames := 2, cells := 0, slots := 0, locals := 70 } _ qV 0 [(0, .ref (Γ.2.2.2.1 o0)), (1, .int p1)] [] X (hfB_fill o0 p1 X)
  unfold hfB_fill
  refine T.iconst (w := 0) dJ7_fill_53178_0 (by decide) ?_
  refine T.istore_n (lv1 := [(2, .int 0), (0, .ref (Γ.2.2.2.1 o0)), (1, .int p1)]) dJ7_fill_53178_1 rfl (by decide) rfl ?_
  refine T.aload_n dJ7_fill_53178_2 rfl 1 rfl ?_
  refine T.alenV o0 ho0 dJ7_fill_53178_3 (fun x1 => ?_)
  refine T.istore_n (lv1 := [(3, .int x1), (2, .int 0), (0, .ref (Γ.2.2.2.1 o0)), (1, .int p1)]) dJ7_fill_53178_4 rfl (by decide) rfl ?_
  refine T.sub [2, 3, 1, 0] rfl ?_
  exact khfB_fill_5 Γ _ BIG o0 ho0 p1 (0 : Int32) x1 X
theorem oCB_25 : isO YC_35 25 3 8 := ⟨rfl, rfl, rfl⟩
section FB
variable {ρ : Type} {Γ : Gx} {cc : ByteArray} {nL : Nat} {own : String} {ret : Option FieldType} {R0 : Room} {As rest : List Value} {q : QT ρ} {pc : Nat} {lv : List (Nat × Value)} {X : St} {F : Option (ρ × St)} {index : Nat}
theorem alCB26 {x : Int32} (hdg : decode cc pc = .ok (.iaload, 1)) {Kf : Int32 → Option (ρ × St)} (kk : ∀ w : Int32, T YC_35 Γ cc nL own ret R0 As q (pc + 1) lv (.int w :: rest) X (Kf w)) : T YC_35 Γ cc nL own ret R0 As q pc lv (.int x :: .ref (Γ.2.2.2.1 26) :: rest) X (chk (inR x 1549) (letV (X.1 26 (ix x)) Kf)) := T.iald 26 ⟨rfl, rfl, rfl⟩ hdg kk
theorem alCB27 {x : Int32} (hdg : decode cc pc = .ok (.iaload, 1)) {Kf : Int32 → Option (ρ × St)} (kk : ∀ w : Int32, T YC_35 Γ cc nL own ret R0 As q (pc + 1) lv (.int w :: rest) X (Kf w)) : T YC_35 Γ cc nL own ret R0 As q pc lv (.int x :: .ref (Γ.2.2.2.1 27) :: rest) X (chk (inR x 1549) (letV (X.1 27 (ix x)) Kf)) := T.iald 27 ⟨rfl, rfl, rfl⟩ hdg kk
theorem alCB28 {x : Int32} (hdg : decode cc pc = .ok (.iaload, 1)) {Kf : Int32 → Option (ρ × St)} (kk : ∀ w : Int32, T YC_35 Γ cc nL own ret R0 As q (pc + 1) lv (.int w :: rest) X (Kf w)) : T YC_35 Γ cc nL own ret R0 As q pc lv (.int x :: .ref (Γ.2.2.2.1 28) :: rest) X (chk (inR x 7745) (letV (X.1 28 (ix x)) Kf)) := T.iald 28 ⟨rfl, rfl, rfl⟩ hdg kk
theorem alCB29 {x : Int32} (hdg : decode cc pc = .ok (.iaload, 1)) {Kf : Int32 → Option (ρ × St)} (kk : ∀ w : Int32, T YC_35 Γ cc nL own ret R0 As q (pc + 1) lv (.int w :: rest) X (Kf w)) : T YC_35 Γ cc nL own ret R0 As q pc lv (.int x :: .ref (Γ.2.2.2.1 29) :: rest) X (chk (inR x 1549) (letV (X.1 29 (ix x)) Kf)) := T.iald 29 ⟨rfl, rfl, rfl⟩ hdg kk
theorem alCB30 {x : Int32} (hdg : decode cc pc = .ok (.baload, 1)) {Kf : Int32 → Option (ρ × St)} (kk : ∀ w : Int32, T YC_35 Γ cc nL own ret R0 As q (pc + 1) lv (.int w :: rest) X (Kf w)) : T YC_35 Γ cc nL own ret R0 As q pc lv (.int x :: .ref (Γ.2.2.2.1 30) :: rest) X (chk (inR x 1549) (letV (X.1 30 (ix x)) Kf)) := T.zald 30 ⟨rfl, rfl, rfl⟩ hdg kk
theorem alCB31 {x : Int32} (hdg : decode cc pc = .ok (.iaload, 1)) {Kf : Int32 → Option (ρ × St)} (kk : ∀ w : Int32, T YC_35 Γ cc nL own ret R0 As q (pc + 1) lv (.int w :: rest) X (Kf w)) : T YC_35 Γ cc nL own ret R0 As q pc lv (.int x :: .ref (Γ.2.2.2.1 31) :: rest) X (chk (inR x 512) (letV (X.1 31 (ix x)) Kf)) := T.iald 31 ⟨rfl, rfl, rfl⟩ hdg kk
theorem alCB32 {x : Int32} (hdg : decode cc pc = .ok (.iaload, 1)) {Kf : Int32 → Option (ρ × St)} (kk : ∀ w : Int32, T YC_35 Γ cc nL own ret R0 As q (pc + 1) lv (.int w :: rest) X (Kf w)) : T YC_35 Γ cc nL own ret R0 As q pc lv (.int x :: .ref (Γ.2.2.2.1 32) :: rest) X (chk (inR x 1549) (letV (X.1 32 (ix x)) Kf)) := T.iald 32 ⟨rfl, rfl, rfl⟩ hdg kk
theorem asCB26 {x : Int32} {w : Int32} (hdg : decode cc pc = .ok (.iastore, 1)) {Kf : St → Option (ρ × St)} (kk : ∀ X1 : St, T YC_35 Γ cc nL own ret R0 As q (pc + 1) lv rest X1 (Kf X1)) : T YC_35 Γ cc nL own ret R0 As q pc lv (.int w :: .int x :: .ref (Γ.2.2.2.1 26) :: rest) X (chk (inR x 1549) (letV (wI X 26 (ix x) w) Kf)) := T.iast 26 ⟨rfl, rfl, rfl⟩ hdg kk
theorem asCB27 {x : Int32} {w : Int32} (hdg : decode cc pc = .ok (.iastore, 1)) {Kf : St → Option (ρ × St)} (kk : ∀ X1 : St, T YC_35 Γ cc nL own ret R0 As q (pc + 1) lv rest X1 (Kf X1)) : T YC_35 Γ cc nL own ret R0 As q pc lv (.int w :: .int x :: .ref (Γ.2.2.2.1 27) :: rest) X (chk (inR x 1549) (letV (wI X 27 (ix x) w) Kf)) := T.iast 27 ⟨rfl, rfl, rfl⟩ hdg kk
theorem asCB28 {x : Int32} {w : Int32} (hdg : decode cc pc = .ok (.iastore, 1)) {Kf : St → Option (ρ × St)} (kk : ∀ X1 : St, T YC_35 Γ cc nL own ret R0 As q (pc + 1) lv rest X1 (Kf X1)) : T YC_35 Γ cc nL own ret R0 As q pc lv (.int w :: .int x :: .ref (Γ.2.2.2.1 28) :: rest) X (chk (inR x 7745) (letV (wI X 28 (ix x) w) Kf)) := T.iast 28 ⟨rfl, rfl, rfl⟩ hdg kk
theorem asCB29 {x : Int32} {w : Int32} (hdg : decode cc pc = .ok (.iastore, 1)) {Kf : St → Option (ρ × St)} (kk : ∀ X1 : St, T YC_35 Γ cc nL own ret R0 As q (pc + 1) lv rest X1 (Kf X1)) : T YC_35 Γ cc nL own ret R0 As q pc lv (.int w :: .int x :: .ref (Γ.2.2.2.1 29) :: rest) X (chk (inR x 1549) (letV (wI X 29 (ix x) w) Kf)) := T.iast 29 ⟨rfl, rfl, rfl⟩ hdg kk
theorem asCB30 {x : Int32} {w : Int32} (hdg : decode cc pc = .ok (.bastore, 1)) {Kf : St → Option (ρ × St)} (kk : ∀ X1 : St, T YC_35 Γ cc nL own ret R0 As q (pc + 1) lv rest X1 (Kf X1)) : T YC_35 Γ cc nL own ret R0 As q pc lv (.int w :: .int x :: .ref (Γ.2.2.2.1 30) :: rest) X (chk (inR x 1549) (letV (wI X 30 (ix x) (vp_nar .boolean w)) Kf)) := T.zast 30 ⟨rfl, rfl, rfl⟩ hdg kk
theorem asCB31 {x : Int32} {w : Int32} (hdg : decode cc pc = .ok (.iastore, 1)) {Kf : St → Option (ρ × St)} (kk : ∀ X1 : St, T YC_35 Γ cc nL own ret R0 As q (pc + 1) lv rest X1 (Kf X1)) : T YC_35 Γ cc nL own ret R0 As q pc lv (.int w :: .int x :: .ref (Γ.2.2.2.1 31) :: rest) X (chk (inR x 512) (letV (wI X 31 (ix x) w) Kf)) := T.iast 31 ⟨rfl, rfl, rfl⟩ hdg kk
theorem asCB32 {x : Int32} {w : Int32} (hdg : decode cc pc = .ok (.iastore, 1)) {Kf : St → Option (ρ × St)} (kk : ∀ X1 : St, T YC_35 Γ cc nL own ret R0 As q (pc + 1) lv rest X1 (Kf X1)) : T YC_35 Γ cc nL own ret R0 As q pc lv (.int w :: .int x :: .ref (Γ.2.2.2.1 32) :: rest) X (chk (inR x 1549) (letV (wI X 32 (ix x) w) Kf)) := T.iast 32 ⟨rfl, rfl, rfl⟩ hdg kk
theorem cCB3_1 (hlink : Cond.fieldLink own index "BlameCourt$Kinds" "sort" "[I" ∈ gtb) (hdg : decode cc pc = .ok (.getfield index, 3)) (kk : T YC_35 Γ cc nL own ret R0 As q (pc + 3) lv (.ref (Γ.2.2.2.1 26) :: rest) X F) : T YC_35 Γ cc nL own ret R0 As q pc lv (.ref (Γ.2.2.2.1 25) :: rest) X F := T.getC 25 oCB_25 rfl iX3 1 (by decide) rfl hlink hdg kk
theorem cCB3_2 (hlink : Cond.fieldLink own index "BlameCourt$Kinds" "takes" "[I" ∈ gtb) (hdg : decode cc pc = .ok (.getfield index, 3)) (kk : T YC_35 Γ cc nL own ret R0 As q (pc + 3) lv (.ref (Γ.2.2.2.1 27) :: rest) X F) : T YC_35 Γ cc nL own ret R0 As q pc lv (.ref (Γ.2.2.2.1 25) :: rest) X F := T.getC 25 oCB_25 rfl iX3 2 (by decide) rfl hlink hdg kk
theorem cCB3_3 (hlink : Cond.fieldLink own index "BlameCourt$Kinds" "inne\x72" "[I" ∈ gtb) (hdg : decode cc pc = .ok (.getfield index, 3)) (kk : T YC_35 Γ cc nL own ret R0 As q (pc + 3) lv (.ref (Γ.2.2.2.1 28) :: rest) X F) : T YC_35 Γ cc nL own ret R0 As q pc lv (.ref (Γ.2.2.2.1 25) :: rest) X F := T.getC 25 oCB_25 rfl iX3 3 (by decide) rfl hlink hdg kk
theorem cCB3_4 (hlink : Cond.fieldLink own index "BlameCourt$Kinds" "code" "[I" ∈ gtb) (hdg : decode cc pc = .ok (.getfield index, 3)) (kk : T YC_35 Γ cc nL own ret R0 As q (pc + 3) lv (.ref (Γ.2.2.2.1 29) :: rest) X F) : T YC_35 Γ cc nL own ret R0 As q pc lv (.ref (Γ.2.2.2.1 25) :: rest) X F := T.getC 25 oCB_25 rfl iX3 4 (by decide) rfl hlink hdg kk
theorem cCB3_5 (hlink : Cond.fieldLink own index "BlameCourt$Kinds" "hasAny" "[Z" ∈ gtb) (hdg : decode cc pc = .ok (.getfield index, 3)) (kk : T YC_35 Γ cc nL own ret R0 As q (pc + 3) lv (.ref (Γ.2.2.2.1 30) :: rest) X F) : T YC_35 Γ cc nL own ret R0 As q pc lv (.ref (Γ.2.2.2.1 25) :: rest) X F := T.getC 25 oCB_25 rfl iX3 5 (by decide) rfl hlink hdg kk
theorem cCB3_6 (hlink : Cond.fieldLink own index "BlameCourt$Kinds" "bucket" "[I" ∈ gtb) (hdg : decode cc pc = .ok (.getfield index, 3)) (kk : T YC_35 Γ cc nL own ret R0 As q (pc + 3) lv (.ref (Γ.2.2.2.1 31) :: rest) X F) : T YC_35 Γ cc nL own ret R0 As q pc lv (.ref (Γ.2.2.2.1 25) :: rest) X F := T.getC 25 oCB_25 rfl iX3 6 (by decide) rfl hlink hdg kk
theorem cCB3_7 (hlink : Cond.fieldLink own index "BlameCourt$Kinds" "nextInBucket" "[I" ∈ gtb) (hdg : decode cc pc = .ok (.getfield index, 3)) (kk : T YC_35 Γ cc nL own ret R0 As q (pc + 3) lv (.ref (Γ.2.2.2.1 32) :: rest) X F) : T YC_35 Γ cc nL own ret R0 As q pc lv (.ref (Γ.2.2.2.1 25) :: rest) X F := T.getC 25 oCB_25 rfl iX3 7 (by decide) rfl hlink hdg kk
theorem gCB3_0 (hlink : Cond.fieldLink own index "BlameCourt$Kinds" "count" "I" ∈ gtb) (hdg : decode cc pc = .ok (.getfield index, 3)) {Kf : Int32 → Option (ρ × St)} (kk : ∀ w : Int32, T YC_35 Γ cc nL own ret R0 As q (pc + 3) lv (.int w :: rest) X (Kf w)) : T YC_35 Γ cc nL own ret R0 As q pc lv (.ref (Γ.2.2.2.1 25) :: rest) X (letV (X.1 25 0) Kf) := T.getI 25 oCB_25 rfl iX3 0 (by decide) rfl hlink hdg kk
theorem pCB3_0 {w : Int32} (hlink : Cond.fieldLink own index "BlameCourt$Kinds" "count" "I" ∈ gtb) (hdg : decode cc pc = .ok (.putfield index, 3)) {Kf : St → Option (ρ × St)} (kk : ∀ X1 : St, T YC_35 Γ cc nL own ret R0 As q (pc + 3) lv rest X1 (Kf X1)) : T YC_35 Γ cc nL own ret R0 As q pc lv (.int w :: .ref (Γ.2.2.2.1 25) :: rest) X (letV (wI X 25 0 w) Kf) := T.putI 25 oCB_25 rfl iX3 0 (by decide) rfl hlink tyX3 tyX3_ok nmX3 rfl rfl rfl hdg kk
end FB
noncomputable def hB_bucketOf (p0 : Int32) (X : St) : Option (Int32 × St) :=
  letV ((p0.toUInt32 >>> ((9 : Int32).toUInt32 &&& Int32.toUInt32 31)).toInt32) fun x1 =>
  letV (p0 ^^^ x1) fun x2 =>
  letV ((p0.toUInt32 >>> ((18 : Int32).toUInt32 &&& Int32.toUInt32 31)).toInt32) fun x3 =>
  letV (x2 ^^^ x3) fun x4 =>
  letV (x4 &&& (511 : Int32)) fun x5 =>
  some (x5, X)
set_option maxHeartbeats 4000000 in
set_option maxRecDepth 100000 in
theorem khB_bucketOf (Γ : Gx) (p0 : Int32) (X : St) : TMI YC_35 Γ yX3_bucketOf cX3_bucketOf 1 "BlameCourt$Kinds" (some .int) { frames := 2, cells := 0, slots := 0, locals := 70 } [.int p0] X (hB_bucketOf p0 X) := by
  refine TMI.of (by decide) (Nat.le_of_ble_eq_true rfl) rfl ?_
  show T YC_35 Γ cX3_bucketOf 1 "BlameCourt$Kinds" (some .int) { frames := 2, cells := 0, slots := 0, locals := 70 } _ qI 0 [(0, .int p0)] [] X (hB_bucketOf p0 X)
  unfold hB_bucketOf
  refine T.iload_n dX3_bucketOf_0 rfl 0 rfl ?_
  refine T.iload_n dX3_bucketOf_1 rfl 0 rfl ?_
  refine T.bipush (w := 9) dX3_bucketOf_2 (by decide) ?_
  refine T.iushr dX3_bucketOf_4 (fun x1 => ?_)
  refine T.ixor dX3_bucketOf_5 (fun x2 => ?_)
  refine T.iload_n dX3_bucketOf_6 rfl 0 rfl ?_
  refine T.bipush (w := 18) dX3_bucketOf_7 (by decide) ?_
  refine T.iushr dX3_bucketOf_9 (fun x3 => ?_)
  refine T.ixor dX3_bucketOf_10 (fun x4 => ?_)
  refine T.sipush (w := 511) dX3_bucketOf_11 (by decide) ?_
  refine T.iand dX3_bucketOf_14 (fun x5 => ?_)
  exact T.ret_i rfl dX3_bucketOf_15
noncomputable def hB_codeOf (p1 : Int32) (X : St) : Option (Int32 × St) :=
  if p1.toInt < 0 then
    some ((-1), X)
  else
    letV (X.1 25 0) fun x1 =>
    if x1.toInt ≤ p1.toInt then
      some ((-1), X)
    else
      chk (inR p1 1549) (letV (X.1 29 (ix p1)) fun x2 =>
      some (x2, X))
set_option maxHeartbeats 4000000 in
set_option maxRecDepth 100000 in
theorem khB_codeOf (Γ : Gx) (p1 : Int32) (X : St) : TMI YC_35 Γ yX3_codeOf cX3_codeOf 2 "BlameCourt$Kinds" (some .int) { frames := 2, cells := 0, slots := 0, locals := 70 } [.ref (Γ.2.2.2.1 25), .int p1] X (hB_codeOf p1 X) := by
  refine TMI.of (by decide) (Nat.le_of_ble_eq_true rfl) rfl ?_
  show T YC_35 Γ cX3_codeOf 2 "BlameCourt$Kinds" (some .int) { frames := 2, cells := 0, slots := 0, locals := 70 } _ qI 0 [(0, .ref (Γ.2.2.2.1 25)), (1, .int p1)] [] X (hB_codeOf p1 X)
  unfold hB_codeOf
  refine T.iload_n dX3_codeOf_0 rfl 1 rfl ?_
  refine T.if_lt (pc1 := 21) dX3_codeOf_1 (by decide) ?_ ?_
  · refine T.iconst (w := (-1)) dX3_codeOf_21 (by decide) ?_
    exact T.ret_i rfl dX3_codeOf_22
  · refine T.iload_n dX3_codeOf_4 rfl 1 rfl ?_
    refine T.aload_n dX3_codeOf_5 rfl 0 rfl ?_
    refine gCB3_0 k257 dX3_codeOf_6 (fun x1 => ?_)
    refine T.icmp_ge (pc1 := 21) dX3_codeOf_9 (by decide) rfl ?_ ?_
    · refine T.iconst (w := (-1)) dX3_codeOf_21 (by decide) ?_
      exact T.ret_i rfl dX3_codeOf_22
    · refine T.aload_n dX3_codeOf_12 rfl 0 rfl ?_
      refine cCB3_4 k253 dX3_codeOf_13 ?_
      refine T.iload_n dX3_codeOf_16 rfl 1 rfl ?_
      refine alCB29 dX3_codeOf_17 (fun x2 => ?_)
      refine T.goto (pc1 := 22) dX3_codeOf_18 (by decide) ?_
      exact T.ret_i rfl dX3_codeOf_22
noncomputable def hB_hasAny (p1 : Int32) (X : St) : Option (Int32 × St) :=
  if p1.toInt < 0 then
    some (0, X)
  else
    letV (X.1 25 0) fun x1 =>
    if x1.toInt ≤ p1.toInt then
      some (0, X)
    else
      chk (inR p1 1549) (letV (X.1 30 (ix p1)) fun x2 =>
      if x2.toInt = 0 then
        some (0, X)
      else
        some (1, X))
set_option maxHeartbeats 4000000 in
set_option maxRecDepth 100000 in
theorem khB_hasAny (Γ : Gx) (p1 : Int32) (X : St) : TMI YC_35 Γ yX3_hasAny cX3_hasAny 2 "BlameCourt$Kinds" (some .boolean) { frames := 2, cells := 0, slots := 0, locals := 70 } [.ref (Γ.2.2.2.1 25), .int p1] X (hB_hasAny p1 X) := by
  refine TMI.of (by decide) (Nat.le_of_ble_eq_true rfl) rfl ?_
  show T YC_35 Γ cX3_hasAny 2 "BlameCourt$Kinds" (some .boolean) { frames := 2, cells := 0, slots := 0, locals := 70 } _ qI 0 [(0, .ref (Γ.2.2.2.1 25)), (1, .int p1)] [] X (hB_hasAny p1 X)
  unfold hB_hasAny
  refine T.iload_n dX3_hasAny_0 rfl 1 rfl ?_
  refine T.if_lt (pc1 := 25) dX3_hasAny_1 (by decide) ?_ ?_
  · refine T.iconst (w := 0) dX3_hasAny_25 (by decide) ?_
    exact T.ret_z rfl dX3_hasAny_26 rfl
  · refine T.iload_n dX3_hasAny_4 rfl 1 rfl ?_
    refine T.aload_n dX3_hasAny_5 rfl 0 rfl ?_
    refine gCB3_0 k257 dX3_hasAny_6 (fun x1 => ?_)
    refine T.icmp_ge (pc1 := 25) dX3_hasAny_9 (by decide) rfl ?_ ?_
    · refine T.iconst (w := 0) dX3_hasAny_25 (by decide) ?_
      exact T.ret_z rfl dX3_hasAny_26 rfl
    · refine T.aload_n dX3_hasAny_12 rfl 0 rfl ?_
      refine cCB3_5 k254 dX3_hasAny_13 ?_
      refine T.iload_n dX3_hasAny_16 rfl 1 rfl ?_
      refine alCB30 dX3_hasAny_17 (fun x2 => ?_)
      refine T.if_eq (pc1 := 25) dX3_hasAny_18 (by decide) ?_ ?_
      · refine T.iconst (w := 0) dX3_hasAny_25 (by decide) ?_
        exact T.ret_z rfl dX3_hasAny_26 rfl
      · refine T.iconst (w := 1) dX3_hasAny_21 (by decide) ?_
        refine T.goto (pc1 := 26) dX3_hasAny_22 (by decide) ?_
        exact T.ret_z rfl dX3_hasAny_26 rfl
noncomputable def hB_isSame_30_s (r30 : Int32 → Int32 → Nat → Int32 → Int32 → St → Option (Int32 × St)) (a_1 : Int32) (a_2 : Int32) (e_3 : Nat) (a_4 : Int32) (a_6 : Int32) (X : St) : Option (Int32 × St) :=
  if a_2.toInt ≤ a_6.toInt then
    some (1, X)
  else
    letV (a_1 * (5 : Int32)) fun x5 =>
    letV (x5 + a_6) fun x6 =>
    chk (inR x6 7745) (letV (X.1 28 (ix x6)) fun x7 =>
    letV (a_4 + a_6) fun x8 =>
    chk (inR x8 (zY YC_35 e_3)) (letV (X.1 e_3 (ix x8)) fun x9 =>
    if x7.toInt = x9.toInt then
      letV (a_6 + Int32.ofInt (1)) fun x10 =>
      r30 a_1 a_2 e_3 a_4 x10 X
    else
      some (0, X)))
noncomputable def hB_isSame_30 (n : Nat) : Int32 → Int32 → Nat → Int32 → Int32 → St → Option (Int32 × St) := lp (fun _ _ _ _ _ _ => none) (hB_isSame_30_s) n
set_option maxHeartbeats 4000000 in
set_option maxRecDepth 100000 in
theorem khB_isSame_30 (Γ : Gx) (As : List Value) (n : Nat) : ∀ (a_1 : Int32) (a_2 : Int32) (e_3 : Nat) (he_3 : isA YC_35 e_3 1 (zY YC_35 e_3) .int) (a_4 : Int32) (a_6 : Int32) (X : St), T YC_35 Γ cX3_isSame 7 "BlameCourt$Kinds" (some .boolean) { frames := 2, cells := 0, slots := 0, locals := 70 } As qI 30 [(0, .ref (Γ.2.2.2.1 25)), (1, .int a_1), (2, .int a_2), (3, .ref (Γ.2.2.2.1 e_3)), (4, .int a_4), (6, .int a_6)] [] X (hB_isSame_30 n a_1 a_2 e_3 a_4 a_6 X) := by
  unfold hB_isSame_30
  refine lp_ind (P := fun (r30 : Int32 → Int32 → Nat → Int32 → Int32 → St → Option (Int32 × St)) => ∀ (a_1 : Int32) (a_2 : Int32) (e_3 : Nat) (he_3 : isA YC_35 e_3 1 (zY YC_35 e_3) .int) (a_4 : Int32) (a_6 : Int32) (X : St), T YC_35 Γ cX3_isSame 7 "BlameCourt$Kinds" (some .boolean) { frames := 2, cells := 0, slots := 0, locals := 70 } As qI 30 [(0, .ref (Γ.2.2.2.1 25)), (1, .int a_1), (2, .int a_2), (3, .ref (Γ.2.2.2.1 e_3)), (4, .int a_4), (6, .int a_6)] [] X (r30 a_1 a_2 e_3 a_4 a_6 X)) (fun _ _ _ _ _ _ _ => T.no) ?_ n
  intro r30 hr30 a_1 a_2 e_3 he_3 a_4 a_6 X
  unfold hB_isSame_30_s
  refine T.iload dX3_isSame_30 5 rfl ?_
  refine T.iload_n dX3_isSame_32 rfl 2 rfl ?_
  refine T.icmp_ge (pc1 := 65) dX3_isSame_33 (by decide) rfl ?_ ?_
  · refine T.iconst (w := 1) dX3_isSame_65 (by decide) ?_
    exact T.ret_z rfl dX3_isSame_66 rfl
  · refine T.aload_n dX3_isSame_36 rfl 0 rfl ?_
    refine cCB3_3 k252 dX3_isSame_37 ?_
    refine T.iload_n dX3_isSame_40 rfl 1 rfl ?_
    refine T.iconst (w := 5) dX3_isSame_41 (by decide) ?_
    refine T.imul dX3_isSame_42 (fun x5 => ?_)
    refine T.iload dX3_isSame_43 5 rfl ?_
    refine T.iadd dX3_isSame_45 (fun x6 => ?_)
    refine alCB28 dX3_isSame_46 (fun x7 => ?_)
    refine T.aload_n dX3_isSame_47 rfl 3 rfl ?_
    refine T.iload dX3_isSame_48 4 rfl ?_
    refine T.iload dX3_isSame_50 5 rfl ?_
    refine T.iadd dX3_isSame_52 (fun x8 => ?_)
    refine T.iald e_3 he_3 dX3_isSame_53 (fun x9 => ?_)
    refine T.icmp_eq (pc1 := 59) dX3_isSame_54 (by decide) rfl ?_ ?_
    · refine T.iinc dX3_isSame_59 5 rfl (by decide) (lvf := fun x10 => [(6, .int x10), (0, .ref (Γ.2.2.2.1 25)), (1, .int a_1), (2, .int a_2), (3, .ref (Γ.2.2.2.1 e_3)), (4, .int a_4)]) (fun _ => rfl) (fun x10 => ?_)
      refine T.goto (pc1 := 30) dX3_isSame_62 (by decide) ?_
      refine T.sub [1, 2, 3, 4, 5, 0] rfl ?_
      exact hr30 a_1 a_2 e_3 he_3 a_4 x10 X
    · refine T.iconst (w := 0) dX3_isSame_57 (by decide) ?_
      exact T.ret_z rfl dX3_isSame_58 rfl
noncomputable def hB_isSame (p1 : Int32) (p2 : Int32) (o3 : Nat) (p4 : Int32) (p5 : Int32) (X : St) : Option (Int32 × St) :=
  chk (inR p1 1549) (letV (X.1 27 (ix p1)) fun x1 =>
  if x1.toInt = p2.toInt then
    letV (p1 * (5 : Int32)) fun x2 =>
    letV (x2 + (4 : Int32)) fun x3 =>
    chk (inR x3 7745) (letV (X.1 28 (ix x3)) fun x4 =>
    if x4.toInt = p5.toInt then
      hB_isSame_30 BIG p1 p2 o3 p4 (0 : Int32) X
    else
      some (0, X))
  else
    some (0, X))
set_option maxHeartbeats 4000000 in
set_option maxRecDepth 100000 in
theorem khB_isSame (Γ : Gx) (p1 : Int32) (p2 : Int32) (o3 : Nat) (ho3 : isA YC_35 o3 1 (zY YC_35 o3) .int) (p4 : Int32) (p5 : Int32) (X : St) : TMI YC_35 Γ yX3_isSame cX3_isSame 7 "BlameCourt$Kinds" (some .boolean) { frames := 2, cells := 0, slots := 0, locals := 70 } [.ref (Γ.2.2.2.1 25), .int p1, .int p2, .ref (Γ.2.2.2.1 o3), .int p4, .int p5] X (hB_isSame p1 p2 o3 p4 p5 X) := by
  refine TMI.of (by decide) (Nat.le_of_ble_eq_true rfl) rfl ?_
  show T YC_35 Γ cX3_isSame 7 "BlameCourt$Kinds" (some .boolean) { frames := 2, cells := 0, slots := 0, locals := 70 } _ qI 0 [(0, .ref (Γ.2.2.2.1 25)), (1, .int p1), (2, .int p2), (3, .ref (Γ.2.2.2.1 o3)), (4, .int p4), (5, .int p5)] [] X (hB_isSame p1 p2 o3 p4 p5 X)
  unfold hB_isSame
  refine T.aload_n dX3_isSame_0 rfl 0 rfl ?_
  refine cCB3_2 k251 dX3_isSame_1 ?_
  refine T.iload_n dX3_isSame_4 rfl 1 rfl ?_
  refine alCB27 dX3_isSame_5 (fun x1 => ?_)
  refine T.iload_n dX3_isSame_6 rfl 2 rfl ?_
  refine T.icmp_ne (pc1 := 25) dX3_isSame_7 (by decide) rfl ?_ ?_
  · refine T.iconst (w := 0) dX3_isSame_25 (by decide) ?_
    exact T.ret_z rfl dX3_isSame_26 rfl
  · refine T.aload_n dX3_isSame_10 rfl 0 rfl ?_
    refine cCB3_3 k252 dX3_isSame_11 ?_
    refine T.iload_n dX3_isSame_14 rfl 1 rfl ?_
    refine T.iconst (w := 5) dX3_isSame_15 (by decide) ?_
    refine T.imul dX3_isSame_16 (fun x2 => ?_)
    refine T.iconst (w := 4) dX3_isSame_17 (by decide) ?_
    refine T.iadd dX3_isSame_18 (fun x3 => ?_)
    refine alCB28 dX3_isSame_19 (fun x4 => ?_)
    refine T.iload dX3_isSame_20 5 rfl ?_
    refine T.icmp_eq (pc1 := 27) dX3_isSame_22 (by decide) rfl ?_ ?_
    · refine T.iconst (w := 0) dX3_isSame_27 (by decide) ?_
      refine T.istore (lv1 := [(6, .int 0), (0, .ref (Γ.2.2.2.1 25)), (1, .int p1), (2, .int p2), (3, .ref (Γ.2.2.2.1 o3)), (4, .int p4), (5, .int p5)]) dX3_isSame_28 (by decide) rfl ?_
      refine T.sub [1, 2, 3, 4, 5, 0] rfl ?_
      exact khB_isSame_30 Γ _ BIG p1 p2 o3 ho3 p4 (0 : Int32) X
    · refine T.iconst (w := 0) dX3_isSame_25 (by decide) ?_
      exact T.ret_z rfl dX3_isSame_26 rfl
noncomputable def hB_findOrAdd_221 (r172 : Int32 → Nat → Int32 → Int32 → Int32 → Int32 → Int32 → St → Option (Int32 × St)) (a_2 : Int32) (e_3 : Nat) (a_4 : Int32) (a_7 : Int32) (a_8 : Int32) (a_10 : Int32) (b_0 : Int32) (X : St) : Option (Int32 × St) :=
  letV (a_10 + Int32.ofInt (1)) fun x24 =>
  r172 a_2 e_3 a_4 a_7 a_8 b_0 x24 X
set_option maxHeartbeats 4000000 in
set_option maxRecDepth 100000 in
theorem khB_findOrAdd_221 (Γ : Gx) (As : List Value) (r172 : Int32 → Nat → Int32 → Int32 → Int32 → Int32 → Int32 → St → Option (Int32 × St)) (hr172 : ∀ (a_2 : Int32) (e_3 : Nat) (he_3 : isA YC_35 e_3 1 (zY YC_35 e_3) .int) (a_4 : Int32) (a_7 : Int32) (a_8 : Int32) (a_9 : Int32) (a_10 : Int32) (X : St), T YC_35 Γ cX3_findOrAdd 11 "BlameCourt$Kinds" (some .int) { frames := 3, cells := 0, slots := 0, locals := 110 } As qI 172 [(0, .ref (Γ.2.2.2.1 25)), (2, .int a_2), (3, .ref (Γ.2.2.2.1 e_3)), (4, .int a_4), (7, .int a_7), (8, .int a_8), (9, .int a_9), (10, .int a_10)] [] X (r172 a_2 e_3 a_4 a_7 a_8 a_9 a_10 X)) (a_2 : Int32) (e_3 : Nat) (he_3 : isA YC_35 e_3 1 (zY YC_35 e_3) .int) (a_4 : Int32) (a_7 : Int32) (a_8 : Int32) (a_10 : Int32) (b_0 : Int32) (X : St) : T YC_35 Γ cX3_findOrAdd 11 "BlameCourt$Kinds" (some .int) { frames := 3, cells := 0, slots := 0, locals := 110 } As qI 221 [(0, .ref (Γ.2.2.2.1 25)), (2, .int a_2), (3, .ref (Γ.2.2.2.1 e_3)), (4, .int a_4), (7, .int a_7), (8, .int a_8), (10, .int a_10)] [.int b_0] X (hB_findOrAdd_221 r172 a_2 e_3 a_4 a_7 a_8 a_10 b_0 X) := by
  unfold hB_findOrAdd_221
  refine T.istore (lv1 := [(9, .int b_0), (0, .ref (Γ.2.2.2.1 25)), (2, .int a_2), (3, .ref (Γ.2.2.2.1 e_3)), (4, .int a_4), (7, .int a_7), (8, .int a_8), (10, .int a_10)]) dX3_findOrAdd_221 (by decide) rfl ?_
  refine T.iinc dX3_findOrAdd_223 7 rfl (by decide) (lvf := fun x24 => [(10, .int x24), (9, .int b_0), (0, .ref (Γ.2.2.2.1 25)), (2, .int a_2), (3, .ref (Γ.2.2.2.1 e_3)), (4, .int a_4), (7, .int a_7), (8, .int a_8)]) (fun _ => rfl) (fun x24 => ?_)
  refine T.goto (pc1 := 172) dX3_findOrAdd_226 (by decide) ?_
  refine T.sub [2, 3, 4, 5, 6, 7, 1, 0] rfl ?_
  exact hr172 a_2 e_3 he_3 a_4 a_7 a_8 b_0 x24 X
noncomputable def hB_findOrAdd_216 (r172 : Int32 → Nat → Int32 → Int32 → Int32 → Int32 → Int32 → St → Option (Int32 × St)) (a_2 : Int32) (e_3 : Nat) (a_4 : Int32) (a_7 : Int32) (a_8 : Int32) (a_10 : Int32) (X : St) : Option (Int32 × St) :=
  hB_findOrAdd_221 r172 a_2 e_3 a_4 a_7 a_8 a_10 (1 : Int32) X
set_option maxHeartbeats 4000000 in
set_option maxRecDepth 100000 in
theorem khB_findOrAdd_216 (Γ : Gx) (As : List Value) (r172 : Int32 → Nat → Int32 → Int32 → Int32 → Int32 → Int32 → St → Option (Int32 × St)) (hr172 : ∀ (a_2 : Int32) (e_3 : Nat) (he_3 : isA YC_35 e_3 1 (zY YC_35 e_3) .int) (a_4 : Int32) (a_7 : Int32) (a_8 : Int32) (a_9 : Int32) (a_10 : Int32) (X : St), T YC_35 Γ cX3_findOrAdd 11 "BlameCourt$Kinds" (some .int) { frames := 3, cells := 0, slots := 0, locals := 110 } As qI 172 [(0, .ref (Γ.2.2.2.1 25)), (2, .int a_2), (3, .ref (Γ.2.2.2.1 e_3)), (4, .int a_4), (7, .int a_7), (8, .int a_8), (9, .int a_9), (10, .int a_10)] [] X (r172 a_2 e_3 a_4 a_7 a_8 a_9 a_10 X)) (a_2 : Int32) (e_3 : Nat) (he_3 : isA YC_35 e_3 1 (zY YC_35 e_3) .int) (a_4 : Int32) (a_7 : Int32) (a_8 : Int32) (a_10 : Int32) (X : St) : T YC_35 Γ cX3_findOrAdd 11 "BlameCourt$Kinds" (some .int) { frames := 3, cells := 0, slots := 0, locals := 110 } As qI 216 [(0, .ref (Γ.2.2.2.1 25)), (2, .int a_2), (3, .ref (Γ.2.2.2.1 e_3)), (4, .int a_4), (7, .int a_7), (8, .int a_8), (10, .int a_10)] [] X (hB_findOrAdd_216 r172 a_2 e_3 a_4 a_7 a_8 a_10 X) := by
  unfold hB_findOrAdd_216
  refine T.iconst (w := 1) dX3_findOrAdd_216 (by decide) ?_
  refine T.goto (pc1 := 221) dX3_findOrAdd_217 (by decide) ?_
  exact khB_findOrAdd_221 Γ _ r172 hr172 a_2 e_3 he_3 a_4 a_7 a_8 a_10 (1 : Int32) X
noncomputable def hB_findOrAdd_172_s (r172 : Int32 → Nat → Int32 → Int32 → Int32 → Int32 → Int32 → St → Option (Int32 × St)) (a_2 : Int32) (e_3 : Nat) (a_4 : Int32) (a_7 : Int32) (a_8 : Int32) (a_9 : Int32) (a_10 : Int32) (X : St) : Option (Int32 × St) :=
  if a_2.toInt ≤ a_10.toInt then
    chk (inR a_8 1549) (letV (wI X 30 (ix a_8) (vp_nar .boolean a_9)) fun X15 =>
    chk (inR a_7 512) (letV (X15.1 31 (ix a_7)) fun x16 =>
    chk (inR a_8 1549) (letV (wI X15 32 (ix a_8) x16) fun X17 =>
    chk (inR a_7 512) (letV (wI X17 31 (ix a_7) a_8) fun X18 =>
    some (a_8, X18)))))
  else
    letV (a_8 * (5 : Int32)) fun x19 =>
    letV (x19 + a_10) fun x20 =>
    letV (a_4 + a_10) fun x21 =>
    chk (inR x21 (zY YC_35 e_3)) (letV (X.1 e_3 (ix x21)) fun x22 =>
    chk (inR x20 7745) (letV (wI X 28 (ix x20) x22) fun X23 =>
    if a_9.toInt = 0 then
      letV (a_4 + a_10) fun x25 =>
      chk (inR x25 (zY YC_35 e_3)) (letV (X23.1 e_3 (ix x25)) fun x26 =>
      bnd (hB_hasAny x26 X23) fun x27 X28 =>
      if x27.toInt = 0 then
        hB_findOrAdd_221 r172 a_2 e_3 a_4 a_7 a_8 a_10 (0 : Int32) X28
      else
        hB_findOrAdd_216 r172 a_2 e_3 a_4 a_7 a_8 a_10 X28)
    else
      hB_findOrAdd_216 r172 a_2 e_3 a_4 a_7 a_8 a_10 X23))
noncomputable def hB_findOrAdd_172 (n : Nat) : Int32 → Nat → Int32 → Int32 → Int32 → Int32 → Int32 → St → Option (Int32 × St) := lp (fun _ _ _ _ _ _ _ _ => none) (hB_findOrAdd_172_s) n
set_option maxHeartbeats 4000000 in
set_option maxRecDepth 100000 in
theorem khB_findOrAdd_172 (Γ : Gx) (As : List Value) (n : Nat) : ∀ (a_2 : Int32) (e_3 : Nat) (he_3 : isA YC_35 e_3 1 (zY YC_35 e_3) .int) (a_4 : Int32) (a_7 : Int32) (a_8 : Int32) (a_9 : Int32) (a_10 : Int32) (X : St), T YC_35 Γ cX3_findOrAdd 11 "BlameCourt$Kinds" (some .int) { frames := 3, cells := 0, slots := 0, locals := 110 } As qI 172 [(0, .ref (Γ.2.2.2.1 25)), (2, .int a_2), (3, .ref (Γ.2.2.2.1 e_3)), (4, .int a_4), (7, .int a_7), (8, .int a_8), (9, .int a_9), (10, .int a_10)] [] X (hB_findOrAdd_172 n a_2 e_3 a_4 a_7 a_8 a_9 a_10 X) := by
  unfold hB_findOrAdd_172
  refine lp_ind (P := fun (r172 : Int32 → Nat → Int32 → Int32 → Int32 → Int32 → Int32 → St → Option (Int32 × St)) => ∀ (a_2 : Int32) (e_3 : Nat) (he_3 : isA YC_35 e_3 1 (zY YC_35 e_3) .int) (a_4 : Int32) (a_7 : Int32) (a_8 : Int32) (a_9 : Int32) (a_10 : Int32) (X : St), T YC_35 Γ cX3_findOrAdd 11 "BlameCourt$Kinds" (some .int) { frames := 3, cells := 0, slots := 0, locals := 110 } As qI 172 [(0, .ref (Γ.2.2.2.1 25)), (2, .int a_2), (3, .ref (Γ.2.2.2.1 e_3)), (4, .int a_4), (7, .int a_7), (8, .int a_8), (9, .int a_9), (10, .int a_10)] [] X (r172 a_2 e_3 a_4 a_7 a_8 a_9 a_10 X)) (fun _ _ _ _ _ _ _ _ _ => T.no) ?_ n
  intro r172 hr172 a_2 e_3 he_3 a_4 a_7 a_8 a_9 a_10 X
  unfold hB_findOrAdd_172_s
  refine T.iload dX3_findOrAdd_172 7 rfl ?_
  refine T.iload_n dX3_findOrAdd_174 rfl 1 rfl ?_
  refine T.icmp_ge (pc1 := 229) dX3_findOrAdd_175 (by decide) rfl ?_ ?_
  · refine T.aload_n dX3_findOrAdd_229 rfl 0 rfl ?_
    refine cCB3_5 k254 dX3_findOrAdd_230 ?_
    refine T.iload dX3_findOrAdd_233 5 rfl ?_
    refine T.iload dX3_findOrAdd_235 6 rfl ?_
    refine asCB30 dX3_findOrAdd_237 (fun X15 => ?_)
    refine T.aload_n dX3_findOrAdd_238 rfl 0 rfl ?_
    refine cCB3_7 k256 dX3_findOrAdd_239 ?_
    refine T.iload dX3_findOrAdd_242 5 rfl ?_
    refine T.aload_n dX3_findOrAdd_244 rfl 0 rfl ?_
    refine cCB3_6 k255 dX3_findOrAdd_245 ?_
    refine T.iload dX3_findOrAdd_248 4 rfl ?_
    refine alCB31 dX3_findOrAdd_250 (fun x16 => ?_)
    refine asCB32 dX3_findOrAdd_251 (fun X17 => ?_)
    refine T.aload_n dX3_findOrAdd_252 rfl 0 rfl ?_
    refine cCB3_6 k255 dX3_findOrAdd_253 ?_
    refine T.iload dX3_findOrAdd_256 4 rfl ?_
    refine T.iload dX3_findOrAdd_258 5 rfl ?_
    refine asCB31 dX3_findOrAdd_260 (fun X18 => ?_)
    refine T.iload dX3_findOrAdd_261 5 rfl ?_
    exact T.ret_i rfl dX3_findOrAdd_263
  · refine T.aload_n dX3_findOrAdd_178 rfl 0 rfl ?_
    refine cCB3_3 k252 dX3_findOrAdd_179 ?_
    refine T.iload dX3_findOrAdd_182 5 rfl ?_
    refine T.iconst (w := 5) dX3_findOrAdd_184 (by decide) ?_
    refine T.imul dX3_findOrAdd_185 (fun x19 => ?_)
    refine T.iload dX3_findOrAdd_186 7 rfl ?_
    refine T.iadd dX3_findOrAdd_188 (fun x20 => ?_)
    refine T.aload_n dX3_findOrAdd_189 rfl 2 rfl ?_
    refine T.iload dX3_findOrAdd_190 3 rfl ?_
    refine T.iload dX3_findOrAdd_192 7 rfl ?_
    refine T.iadd dX3_findOrAdd_194 (fun x21 => ?_)
    refine T.iald e_3 he_3 dX3_findOrAdd_195 (fun x22 => ?_)
    refine asCB28 dX3_findOrAdd_196 (fun X23 => ?_)
    refine T.iload dX3_findOrAdd_197 6 rfl ?_
    refine T.if_ne (pc1 := 216) dX3_findOrAdd_199 (by decide) ?_ ?_
    · refine T.sub [0, 1, 2, 3, 4, 5, 7] rfl ?_
      exact khB_findOrAdd_216 Γ _ r172 hr172 a_2 e_3 he_3 a_4 a_7 a_8 a_10 X23
    · refine T.aload_n dX3_findOrAdd_202 rfl 0 rfl ?_
      refine T.aload_n dX3_findOrAdd_203 rfl 2 rfl ?_
      refine T.iload dX3_findOrAdd_204 3 rfl ?_
      refine T.iload dX3_findOrAdd_206 7 rfl ?_
      refine T.iadd dX3_findOrAdd_208 (fun x25 => ?_)
      refine T.iald e_3 he_3 dX3_findOrAdd_209 (fun x26 => ?_)
      refine T.callV_i 25 (As1 := [.int x26]) (rest := []) (khB_hasAny Γ x26 X23) ka_X3_hasAny kv_X3_hasAny oCB_25 rfl k234 rfl rfl rfl rfl (show 2 + 1 ≤ 3 ∧ 8 + (2 + 11) + 70 ≤ 110 from ⟨by omega, by omega⟩) (Nat.le_of_ble_eq_true rfl) dX3_findOrAdd_210 (fun x27 X28 => ?_)
      refine T.if_eq (pc1 := 220) dX3_findOrAdd_213 (by decide) ?_ ?_
      · refine T.iconst (w := 0) dX3_findOrAdd_220 (by decide) ?_
        refine T.sub [0, 1, 2, 3, 4, 5, 7] rfl ?_
        exact khB_findOrAdd_221 Γ _ r172 hr172 a_2 e_3 he_3 a_4 a_7 a_8 a_10 (0 : Int32) X28
      · refine T.sub [0, 1, 2, 3, 4, 5, 7] rfl ?_
        exact khB_findOrAdd_216 Γ _ r172 hr172 a_2 e_3 he_3 a_4 a_7 a_8 a_10 X28
noncomputable def hB_findOrAdd_167 (a_2 : Int32) (e_3 : Nat) (a_4 : Int32) (a_7 : Int32) (a_8 : Int32) (b_0 : Int32) (X : St) : Option (Int32 × St) :=
  hB_findOrAdd_172 BIG a_2 e_3 a_4 a_7 a_8 b_0 (0 : Int32) X
set_option maxHeartbeats 4000000 in
set_option maxRecDepth 100000 in
theorem khB_findOrAdd_167 (Γ : Gx) (As : List Value) (a_2 : Int32) (e_3 : Nat) (he_3 : isA YC_35 e_3 1 (zY YC_35 e_3) .int) (a_4 : Int32) (a_7 : Int32) (a_8 : Int32) (b_0 : Int32) (X : St) : T YC_35 Γ cX3_findOrAdd 11 "BlameCourt$Kinds" (some .int) { frames := 3, cells := 0, slots := 0, locals := 110 } As qI 167 [(0, .ref (Γ.2.2.2.1 25)), (2, .int a_2), (3, .ref (Γ.2.2.2.1 e_3)), (4, .int a_4), (7, .int a_7), (8, .int a_8)] [.int b_0] X (hB_findOrAdd_167 a_2 e_3 a_4 a_7 a_8 b_0 X) := by
  unfold hB_findOrAdd_167
  refine T.istore (lv1 := [(9, .int b_0), (0, .ref (Γ.2.2.2.1 25)), (2, .int a_2), (3, .ref (Γ.2.2.2.1 e_3)), (4, .int a_4), (7, .int a_7), (8, .int a_8)]) dX3_findOrAdd_167 (by decide) rfl ?_
  refine T.iconst (w := 0) dX3_findOrAdd_169 (by decide) ?_
  refine T.istore (lv1 := [(10, .int 0), (9, .int b_0), (0, .ref (Γ.2.2.2.1 25)), (2, .int a_2), (3, .ref (Γ.2.2.2.1 e_3)), (4, .int a_4), (7, .int a_7), (8, .int a_8)]) dX3_findOrAdd_170 (by decide) rfl ?_
  refine T.sub [2, 3, 4, 5, 6, 7, 1, 0] rfl ?_
  exact khB_findOrAdd_172 Γ _ BIG a_2 e_3 he_3 a_4 a_7 a_8 b_0 (0 : Int32) X
noncomputable def hB_findOrAdd_162 (a_2 : Int32) (e_3 : Nat) (a_4 : Int32) (a_7 : Int32) (a_8 : Int32) (X : St) : Option (Int32 × St) :=
  hB_findOrAdd_167 a_2 e_3 a_4 a_7 a_8 (1 : Int32) X
set_option maxHeartbeats 4000000 in
set_option maxRecDepth 100000 in
theorem khB_findOrAdd_162 (Γ : Gx) (As : List Value) (a_2 : Int32) (e_3 : Nat) (he_3 : isA YC_35 e_3 1 (zY YC_35 e_3) .int) (a_4 : Int32) (a_7 : Int32) (a_8 : Int32) (X : St) : T YC_35 Γ cX3_findOrAdd 11 "BlameCourt$Kinds" (some .int) { frames := 3, cells := 0, slots := 0, locals := 110 } As qI 162 [(0, .ref (Γ.2.2.2.1 25)), (2, .int a_2), (3, .ref (Γ.2.2.2.1 e_3)), (4, .int a_4), (7, .int a_7), (8, .int a_8)] [] X (hB_findOrAdd_162 a_2 e_3 a_4 a_7 a_8 X) := by
  unfold hB_findOrAdd_162
  refine T.iconst (w := 1) dX3_findOrAdd_162 (by decide) ?_
  refine T.goto (pc1 := 167) dX3_findOrAdd_163 (by decide) ?_
  exact khB_findOrAdd_167 Γ _ a_2 e_3 he_3 a_4 a_7 a_8 (1 : Int32) X
noncomputable def hB_findOrAdd_166 (a_2 : Int32) (e_3 : Nat) (a_4 : Int32) (a_7 : Int32) (a_8 : Int32) (X : St) : Option (Int32 × St) :=
  hB_findOrAdd_167 a_2 e_3 a_4 a_7 a_8 (0 : Int32) X
set_option maxHeartbeats 4000000 in
set_option maxRecDepth 100000 in
theorem khB_findOrAdd_166 (Γ : Gx) (As : List Value) (a_2 : Int32) (e_3 : Nat) (he_3 : isA YC_35 e_3 1 (zY YC_35 e_3) .int) (a_4 : Int32) (a_7 : Int32) (a_8 : Int32) (X : St) : T YC_35 Γ cX3_findOrAdd 11 "BlameCourt$Kinds" (some .int) { frames := 3, cells := 0, slots := 0, locals := 110 } As qI 166 [(0, .ref (Γ.2.2.2.1 25)), (2, .int a_2), (3, .ref (Γ.2.2.2.1 e_3)), (4, .int a_4), (7, .int a_7), (8, .int a_8)] [] X (hB_findOrAdd_166 a_2 e_3 a_4 a_7 a_8 X) := by
  unfold hB_findOrAdd_166
  refine T.iconst (w := 0) dX3_findOrAdd_166 (by decide) ?_
  exact khB_findOrAdd_167 Γ _ a_2 e_3 he_3 a_4 a_7 a_8 (0 : Int32) X
noncomputable def hB_findOrAdd_77 (a_1 : Int32) (a_2 : Int32) (e_3 : Nat) (a_4 : Int32) (a_5 : Int32) (a_6 : Int32) (a_7 : Int32) (X : St) : Option (Int32 × St) :=
  letV (X.1 25 0) fun x4 =>
  if x4.toInt < 1549 then
    letV (X.1 25 0) fun x5 =>
    letV (X.1 25 0) fun x6 =>
    letV (x6 + (1 : Int32)) fun x7 =>
    letV (wI X 25 0 x7) fun X8 =>
    chk (inR x5 1549) (letV (wI X8 26 (ix x5) a_1) fun X9 =>
    chk (inR x5 1549) (letV (wI X9 27 (ix x5) a_2) fun X10 =>
    chk (inR x5 1549) (letV (wI X10 29 (ix x5) a_6) fun X11 =>
    letV (x5 * (5 : Int32)) fun x12 =>
    letV (x12 + (4 : Int32)) fun x13 =>
    chk (inR x13 7745) (letV (wI X11 28 (ix x13) a_5) fun X14 =>
    if a_1.toInt = 2 then
      hB_findOrAdd_162 a_2 e_3 a_4 a_7 x5 X14
    else
      if a_1.toInt < 3 then
        hB_findOrAdd_166 a_2 e_3 a_4 a_7 x5 X14
      else
        bnd (hB_hasAny a_5 X14) fun x29 X30 =>
        if x29.toInt = 0 then
          hB_findOrAdd_166 a_2 e_3 a_4 a_7 x5 X30
        else
          hB_findOrAdd_162 a_2 e_3 a_4 a_7 x5 X30))))
  else
    some (2, X)
set_option maxHeartbeats 4000000 in
set_option maxRecDepth 100000 in
theorem khB_findOrAdd_77 (Γ : Gx) (As : List Value) (a_1 : Int32) (a_2 : Int32) (e_3 : Nat) (he_3 : isA YC_35 e_3 1 (zY YC_35 e_3) .int) (a_4 : Int32) (a_5 : Int32) (a_6 : Int32) (a_7 : Int32) (X : St) : T YC_35 Γ cX3_findOrAdd 11 "BlameCourt$Kinds" (some .int) { frames := 3, cells := 0, slots := 0, locals := 110 } As qI 77 [(0, .ref (Γ.2.2.2.1 25)), (1, .int a_1), (2, .int a_2), (3, .ref (Γ.2.2.2.1 e_3)), (4, .int a_4), (5, .int a_5), (6, .int a_6), (7, .int a_7)] [] X (hB_findOrAdd_77 a_1 a_2 e_3 a_4 a_5 a_6 a_7 X) := by
  unfold hB_findOrAdd_77
  refine T.aload_n dX3_findOrAdd_77 rfl 0 rfl ?_
  refine gCB3_0 k257 dX3_findOrAdd_78 (fun x4 => ?_)
  refine T.sipush (w := 1549) dX3_findOrAdd_81 (by decide) ?_
  refine T.icmp_lt (pc1 := 89) dX3_findOrAdd_84 (by decide) rfl ?_ ?_
  · refine T.aload_n dX3_findOrAdd_89 rfl 0 rfl ?_
    refine gCB3_0 k257 dX3_findOrAdd_90 (fun x5 => ?_)
    refine T.istore (lv1 := [(8, .int x5), (0, .ref (Γ.2.2.2.1 25)), (1, .int a_1), (2, .int a_2), (3, .ref (Γ.2.2.2.1 e_3)), (4, .int a_4), (5, .int a_5), (6, .int a_6), (7, .int a_7)]) dX3_findOrAdd_93 (by decide) rfl ?_
    refine T.aload_n dX3_findOrAdd_95 rfl 1 rfl ?_
    refine T.dupr dX3_findOrAdd_96 ?_
    refine gCB3_0 k257 dX3_findOrAdd_97 (fun x6 => ?_)
    refine T.iconst (w := 1) dX3_findOrAdd_100 (by decide) ?_
    refine T.iadd dX3_findOrAdd_101 (fun x7 => ?_)
    refine pCB3_0 k257 dX3_findOrAdd_102 (fun X8 => ?_)
    refine T.aload_n dX3_findOrAdd_105 rfl 1 rfl ?_
    refine cCB3_1 k250 dX3_findOrAdd_106 ?_
    refine T.iload dX3_findOrAdd_109 0 rfl ?_
    refine T.iload_n dX3_findOrAdd_111 rfl 2 rfl ?_
    refine asCB26 dX3_findOrAdd_112 (fun X9 => ?_)
    refine T.aload_n dX3_findOrAdd_113 rfl 1 rfl ?_
    refine cCB3_2 k251 dX3_findOrAdd_114 ?_
    refine T.iload dX3_findOrAdd_117 0 rfl ?_
    refine T.iload_n dX3_findOrAdd_119 rfl 3 rfl ?_
    refine asCB27 dX3_findOrAdd_120 (fun X10 => ?_)
    refine T.aload_n dX3_findOrAdd_121 rfl 1 rfl ?_
    refine cCB3_4 k253 dX3_findOrAdd_122 ?_
    refine T.iload dX3_findOrAdd_125 0 rfl ?_
    refine T.iload dX3_findOrAdd_127 7 rfl ?_
    refine asCB29 dX3_findOrAdd_129 (fun X11 => ?_)
    refine T.aload_n dX3_findOrAdd_130 rfl 1 rfl ?_
    refine cCB3_3 k252 dX3_findOrAdd_131 ?_
    refine T.iload dX3_findOrAdd_134 0 rfl ?_
    refine T.iconst (w := 5) dX3_findOrAdd_136 (by decide) ?_
    refine T.imul dX3_findOrAdd_137 (fun x12 => ?_)
    refine T.iconst (w := 4) dX3_findOrAdd_138 (by decide) ?_
    refine T.iadd dX3_findOrAdd_139 (fun x13 => ?_)
    refine T.iload dX3_findOrAdd_140 6 rfl ?_
    refine asCB28 dX3_findOrAdd_142 (fun X14 => ?_)
    refine T.iload_n dX3_findOrAdd_143 rfl 2 rfl ?_
    refine T.iconst (w := 2) dX3_findOrAdd_144 (by decide) ?_
    refine T.icmp_eq (pc1 := 162) dX3_findOrAdd_145 (by decide) rfl ?_ ?_
    · refine T.sub [1, 3, 4, 5, 8, 0] rfl ?_
      exact khB_findOrAdd_162 Γ _ a_2 e_3 he_3 a_4 a_7 x5 X14
    · refine T.iload_n dX3_findOrAdd_148 rfl 2 rfl ?_
      refine T.iconst (w := 3) dX3_findOrAdd_149 (by decide) ?_
      refine T.icmp_lt (pc1 := 166) dX3_findOrAdd_150 (by decide) rfl ?_ ?_
      · refine T.sub [1, 3, 4, 5, 8, 0] rfl ?_
        exact khB_findOrAdd_166 Γ _ a_2 e_3 he_3 a_4 a_7 x5 X14
      · refine T.aload_n dX3_findOrAdd_153 rfl 1 rfl ?_
        refine T.iload dX3_findOrAdd_154 6 rfl ?_
        refine T.callV_i 25 (As1 := [.int a_5]) (rest := []) (khB_hasAny Γ a_5 X14) ka_X3_hasAny kv_X3_hasAny oCB_25 rfl k234 rfl rfl rfl rfl (show 2 + 1 ≤ 3 ∧ 8 + (2 + 11) + 70 ≤ 110 from ⟨by omega, by omega⟩) (Nat.le_of_ble_eq_true rfl) dX3_findOrAdd_156 (fun x29 X30 => ?_)
        refine T.if_eq (pc1 := 166) dX3_findOrAdd_159 (by decide) ?_ ?_
        · refine T.sub [1, 3, 4, 5, 8, 0] rfl ?_
          exact khB_findOrAdd_166 Γ _ a_2 e_3 he_3 a_4 a_7 x5 X30
        · refine T.sub [1, 3, 4, 5, 8, 0] rfl ?_
          exact khB_findOrAdd_162 Γ _ a_2 e_3 he_3 a_4 a_7 x5 X30
  · refine T.iconst (w := 2) dX3_findOrAdd_87 (by decide) ?_
    exact T.ret_i rfl dX3_findOrAdd_88
noncomputable def hB_findOrAdd_62 (r19 : Int32 → Int32 → Nat → Int32 → Int32 → Int32 → Int32 → Int32 → Int32 → St → Option (Int32 × St)) (a_1 : Int32) (a_2 : Int32) (e_3 : Nat) (a_4 : Int32) (a_5 : Int32) (a_6 : Int32) (a_7 : Int32) (a_8 : Int32) (a_9 : Int32) (X : St) : Option (Int32 × St) :=
  chk (inR a_8 1549) (letV (X.1 32 (ix a_8)) fun x32 =>
  letV (a_9 + Int32.ofInt (1)) fun x33 =>
  r19 a_1 a_2 e_3 a_4 a_5 a_6 a_7 x32 x33 X)
set_option maxHeartbeats 4000000 in
set_option maxRecDepth 100000 in
theorem khB_findOrAdd_62 (Γ : Gx) (As : List Value) (r19 : Int32 → Int32 → Nat → Int32 → Int32 → Int32 → Int32 → Int32 → Int32 → St → Option (Int32 × St)) (hr19 : ∀ (a_1 : Int32) (a_2 : Int32) (e_3 : Nat) (he_3 : isA YC_35 e_3 1 (zY YC_35 e_3) .int) (a_4 : Int32) (a_5 : Int32) (a_6 : Int32) (a_7 : Int32) (a_8 : Int32) (a_9 : Int32) (X : St), T YC_35 Γ cX3_findOrAdd 11 "BlameCourt$Kinds" (some .int) { frames := 3, cells := 0, slots := 0, locals := 110 } As qI 19 [(0, .ref (Γ.2.2.2.1 25)), (1, .int a_1), (2, .int a_2), (3, .ref (Γ.2.2.2.1 e_3)), (4, .int a_4), (5, .int a_5), (6, .int a_6), (7, .int a_7), (8, .int a_8), (9, .int a_9)] [] X (r19 a_1 a_2 e_3 a_4 a_5 a_6 a_7 a_8 a_9 X)) (a_1 : Int32) (a_2 : Int32) (e_3 : Nat) (he_3 : isA YC_35 e_3 1 (zY YC_35 e_3) .int) (a_4 : Int32) (a_5 : Int32) (a_6 : Int32) (a_7 : Int32) (a_8 : Int32) (a_9 : Int32) (X : St) : T YC_35 Γ cX3_findOrAdd 11 "BlameCourt$Kinds" (some .int) { frames := 3, cells := 0, slots := 0, locals := 110 } As qI 62 [(0, .ref (Γ.2.2.2.1 25)), (1, .int a_1), (2, .int a_2), (3, .ref (Γ.2.2.2.1 e_3)), (4, .int a_4), (5, .int a_5), (6, .int a_6), (7, .int a_7), (8, .int a_8), (9, .int a_9)] [] X (hB_findOrAdd_62 r19 a_1 a_2 e_3 a_4 a_5 a_6 a_7 a_8 a_9 X) := by
  unfold hB_findOrAdd_62
  refine T.aload_n dX3_findOrAdd_62 rfl 0 rfl ?_
  refine cCB3_7 k256 dX3_findOrAdd_63 ?_
  refine T.iload dX3_findOrAdd_66 8 rfl ?_
  refine alCB32 dX3_findOrAdd_68 (fun x32 => ?_)
  refine T.istore (lv1 := [(8, .int x32), (0, .ref (Γ.2.2.2.1 25)), (1, .int a_1), (2, .int a_2), (3, .ref (Γ.2.2.2.1 e_3)), (4, .int a_4), (5, .int a_5), (6, .int a_6), (7, .int a_7), (9, .int a_9)]) dX3_findOrAdd_69 (by decide) rfl ?_
  refine T.iinc dX3_findOrAdd_71 9 rfl (by decide) (lvf := fun x33 => [(9, .int x33), (8, .int x32), (0, .ref (Γ.2.2.2.1 25)), (1, .int a_1), (2, .int a_2), (3, .ref (Γ.2.2.2.1 e_3)), (4, .int a_4), (5, .int a_5), (6, .int a_6), (7, .int a_7)]) (fun _ => rfl) (fun x33 => ?_)
  refine T.goto (pc1 := 19) dX3_findOrAdd_74 (by decide) ?_
  refine T.sub [2, 3, 4, 5, 6, 7, 8, 9, 1, 0] rfl ?_
  exact hr19 a_1 a_2 e_3 he_3 a_4 a_5 a_6 a_7 x32 x33 X
noncomputable def hB_findOrAdd_19_s (r19 : Int32 → Int32 → Nat → Int32 → Int32 → Int32 → Int32 → Int32 → Int32 → St → Option (Int32 × St)) (a_1 : Int32) (a_2 : Int32) (e_3 : Nat) (a_4 : Int32) (a_5 : Int32) (a_6 : Int32) (a_7 : Int32) (a_8 : Int32) (a_9 : Int32) (X : St) : Option (Int32 × St) :=
  if 1549 ≤ a_9.toInt then
    hB_findOrAdd_77 a_1 a_2 e_3 a_4 a_5 a_6 a_7 X
  else
    if a_8.toInt = -1 then
      hB_findOrAdd_77 a_1 a_2 e_3 a_4 a_5 a_6 a_7 X
    else
      chk (inR a_8 1549) (letV (X.1 26 (ix a_8)) fun x31 =>
      if x31.toInt = a_1.toInt then
        bnd (hB_isSame a_8 a_2 e_3 a_4 a_5 X) fun x34 X35 =>
        if x34.toInt = 0 then
          hB_findOrAdd_62 r19 a_1 a_2 e_3 a_4 a_5 a_6 a_7 a_8 a_9 X35
        else
          some (a_8, X35)
      else
        hB_findOrAdd_62 r19 a_1 a_2 e_3 a_4 a_5 a_6 a_7 a_8 a_9 X)
noncomputable def hB_findOrAdd_19 (n : Nat) : Int32 → Int32 → Nat → Int32 → Int32 → Int32 → Int32 → Int32 → Int32 → St → Option (Int32 × St) := lp (fun _ _ _ _ _ _ _ _ _ _ => none) (hB_findOrAdd_19_s) n
set_option maxHeartbeats 4000000 in
set_option maxRecDepth 100000 in
theorem khB_findOrAdd_19 (Γ : Gx) (As : List Value) (n : Nat) : ∀ (a_1 : Int32) (a_2 : Int32) (e_3 : Nat) (he_3 : isA YC_35 e_3 1 (zY YC_35 e_3) .int) (a_4 : Int32) (a_5 : Int32) (a_6 : Int32) (a_7 : Int32) (a_8 : Int32) (a_9 : Int32) (X : St), T YC_35 Γ cX3_findOrAdd 11 "BlameCourt$Kinds" (some .int) { frames := 3, cells := 0, slots := 0, locals := 110 } As qI 19 [(0, .ref (Γ.2.2.2.1 25)), (1, .int a_1), (2, .int a_2), (3, .ref (Γ.2.2.2.1 e_3)), (4, .int a_4), (5, .int a_5), (6, .int a_6), (7, .int a_7), (8, .int a_8), (9, .int a_9)] [] X (hB_findOrAdd_19 n a_1 a_2 e_3 a_4 a_5 a_6 a_7 a_8 a_9 X) := by
  unfold hB_findOrAdd_19
  refine lp_ind (P := fun (r19 : Int32 → Int32 → Nat → Int32 → Int32 → Int32 → Int32 → Int32 → Int32 → St → Option (Int32 × St)) => ∀ (a_1 : Int32) (a_2 : Int32) (e_3 : Nat) (he_3 : isA YC_35 e_3 1 (zY YC_35 e_3) .int) (a_4 : Int32) (a_5 : Int32) (a_6 : Int32) (a_7 : Int32) (a_8 : Int32) (a_9 : Int32) (X : St), T YC_35 Γ cX3_findOrAdd 11 "BlameCourt$Kinds" (some .int) { frames := 3, cells := 0, slots := 0, locals := 110 } As qI 19 [(0, .ref (Γ.2.2.2.1 25)), (1, .int a_1), (2, .int a_2), (3, .ref (Γ.2.2.2.1 e_3)), (4, .int a_4), (5, .int a_5), (6, .int a_6), (7, .int a_7), (8, .int a_8), (9, .int a_9)] [] X (r19 a_1 a_2 e_3 a_4 a_5 a_6 a_7 a_8 a_9 X)) (fun _ _ _ _ _ _ _ _ _ _ _ => T.no) ?_ n
  intro r19 hr19 a_1 a_2 e_3 he_3 a_4 a_5 a_6 a_7 a_8 a_9 X
  unfold hB_findOrAdd_19_s
  refine T.iload dX3_findOrAdd_19 9 rfl ?_
  refine T.sipush (w := 1549) dX3_findOrAdd_21 (by decide) ?_
  refine T.icmp_ge (pc1 := 77) dX3_findOrAdd_24 (by decide) rfl ?_ ?_
  · refine T.sub [0, 1, 2, 3, 4, 5, 6, 7] rfl ?_
    exact khB_findOrAdd_77 Γ _ a_1 a_2 e_3 he_3 a_4 a_5 a_6 a_7 X
  · refine T.iload dX3_findOrAdd_27 8 rfl ?_
    refine T.iconst (w := (-1)) dX3_findOrAdd_29 (by decide) ?_
    refine T.icmp_eq (pc1 := 77) dX3_findOrAdd_30 (by decide) rfl ?_ ?_
    · refine T.sub [0, 1, 2, 3, 4, 5, 6, 7] rfl ?_
      exact khB_findOrAdd_77 Γ _ a_1 a_2 e_3 he_3 a_4 a_5 a_6 a_7 X
    · refine T.aload_n dX3_findOrAdd_33 rfl 0 rfl ?_
      refine cCB3_1 k250 dX3_findOrAdd_34 ?_
      refine T.iload dX3_findOrAdd_37 8 rfl ?_
      refine alCB26 dX3_findOrAdd_39 (fun x31 => ?_)
      refine T.iload_n dX3_findOrAdd_40 rfl 1 rfl ?_
      refine T.icmp_ne (pc1 := 62) dX3_findOrAdd_41 (by decide) rfl ?_ ?_
      · exact khB_findOrAdd_62 Γ _ r19 hr19 a_1 a_2 e_3 he_3 a_4 a_5 a_6 a_7 a_8 a_9 X
      · refine T.aload_n dX3_findOrAdd_44 rfl 0 rfl ?_
        refine T.iload dX3_findOrAdd_45 8 rfl ?_
        refine T.iload_n dX3_findOrAdd_47 rfl 2 rfl ?_
        refine T.aload_n dX3_findOrAdd_48 rfl 3 rfl ?_
        refine T.iload dX3_findOrAdd_49 4 rfl ?_
        refine T.iload dX3_findOrAdd_51 5 rfl ?_
        refine T.callV_i 25 (As1 := [.int a_8, .int a_2, .ref (Γ.2.2.2.1 e_3), .int a_4, .int a_5]) (rest := []) (khB_isSame Γ a_8 a_2 e_3 he_3 a_4 a_5 X) ka_X3_isSame kv_X3_isSame oCB_25 rfl k230 rfl rfl rfl rfl (show 2 + 1 ≤ 3 ∧ 8 + (7 + 11) + 70 ≤ 110 from ⟨by omega, by omega⟩) (Nat.le_of_ble_eq_true rfl) dX3_findOrAdd_53 (fun x34 X35 => ?_)
        refine T.if_eq (pc1 := 62) dX3_findOrAdd_56 (by decide) ?_ ?_
        · exact khB_findOrAdd_62 Γ _ r19 hr19 a_1 a_2 e_3 he_3 a_4 a_5 a_6 a_7 a_8 a_9 X35
        · refine T.iload dX3_findOrAdd_59 8 rfl ?_
          exact T.ret_i rfl dX3_findOrAdd_61
noncomputable def hB_findOrAdd (p1 : Int32) (p2 : Int32) (o3 : Nat) (p4 : Int32) (p5 : Int32) (p6 : Int32) (X : St) : Option (Int32 × St) :=
  bnd (hB_bucketOf p6 X) fun x1 X2 =>
  chk (inR x1 512) (letV (X2.1 31 (ix x1)) fun x3 =>
  hB_findOrAdd_19 BIG p1 p2 o3 p4 p5 p6 x1 x3 (0 : Int32) X2)
set_option maxHeartbeats 4000000 in
set_option maxRecDepth 100000 in
theorem khB_findOrAdd (Γ : Gx) (p1 : Int32) (p2 : Int32) (o3 : Nat) (ho3 : isA YC_35 o3 1 (zY YC_35 o3) .int) (p4 : Int32) (p5 : Int32) (p6 : Int32) (X : St) : TMI YC_35 Γ yX3_findOrAdd cX3_findOrAdd 11 "BlameCourt$Kinds" (some .int) { frames := 3, cells := 0, slots := 0, locals := 110 } [.ref (Γ.2.2.2.1 25), .int p1, .int p2, .ref (Γ.2.2.2.1 o3), .int p4, .int p5, .int p6] X (hB_findOrAdd p1 p2 o3 p4 p5 p6 X) := by
  refine TMI.of (by decide) (Nat.le_of_ble_eq_true rfl) rfl ?_
  show T YC_35 Γ cX3_findOrAdd 11 "BlameCourt$Kinds" (some .int) { frames := 3, cells := 0, slots := 0, locals := 110 } _ qI 0 [(0, .ref (Γ.2.2.2.1 25)), (1, .int p1), (2, .int p2), (3, .ref (Γ.2.2.2.1 o3)), (4, .int p4), (5, .int p5), (6, .int p6)] [] X (hB_findOrAdd p1 p2 o3 p4 p5 p6 X)
  unfold hB_findOrAdd
  refine T.iload dX3_findOrAdd_0 6 rfl ?_
  refine T.callS_i (As1 := [.int p6]) (rest := []) (khB_bucketOf Γ p6 X) ka_X3_bucketOf k228 k227 rfl rfl rfl rfl (show 2 + 1 ≤ 3 ∧ 8 + (1 + 11) + 70 ≤ 110 from ⟨by omega, by omega⟩) (Nat.le_of_ble_eq_true rfl) dX3_findOrAdd_2 (fun x1 X2 => ?_)
  refine T.istore (lv1 := [(7, .int x1), (0, .ref (Γ.2.2.2.1 25)), (1, .int p1), (2, .int p2), (3, .ref (Γ.2.2.2.1 o3)), (4, .int p4), (5, .int p5), (6, .int p6)]) dX3_findOrAdd_5 (by decide) rfl ?_
  refine T.aload_n dX3_findOrAdd_7 rfl 1 rfl ?_
  refine cCB3_6 k255 dX3_findOrAdd_8 ?_
  refine T.iload dX3_findOrAdd_11 0 rfl ?_
  refine alCB31 dX3_findOrAdd_13 (fun x3 => ?_)
  refine T.istore (lv1 := [(8, .int x3), (7, .int x1), (0, .ref (Γ.2.2.2.1 25)), (1, .int p1), (2, .int p2), (3, .ref (Γ.2.2.2.1 o3)), (4, .int p4), (5, .int p5), (6, .int p6)]) dX3_findOrAdd_14 (by decide) rfl ?_
  refine T.iconst (w := 0) dX3_findOrAdd_16 (by decide) ?_
  refine T.istore (lv1 := [(9, .int 0), (8, .int x3), (7, .int x1), (0, .ref (Γ.2.2.2.1 25)), (1, .int p1), (2, .int p2), (3, .ref (Γ.2.2.2.1 o3)), (4, .int p4), (5, .int p5), (6, .int p6)]) dX3_findOrAdd_17 (by decide) rfl ?_
  refine T.sub [3, 4, 5, 6, 7, 8, 9, 2, 1, 0] rfl ?_
  exact khB_findOrAdd_19 Γ _ BIG p1 p2 o3 ho3 p4 p5 p6 x1 x3 (0 : Int32) X2
noncomputable def hB_rowOf (p1 : Int32) (X : St) : Option (Int32 × St) :=
  bnd (hB_codeOf p1 X) fun x1 X2 =>
  letV ((5 : Int32) * x1) fun x3 =>
  letV (x3 + (4 : Int32)) fun x4 =>
  bnd (hB_findOrAdd (3 : Int32) (0 : Int32) 28 (0 : Int32) p1 x4 X2) fun x5 X6 =>
  some (x5, X6)
set_option maxHeartbeats 4000000 in
set_option maxRecDepth 100000 in
theorem khB_rowOf (Γ : Gx) (p1 : Int32) (X : St) : TMI YC_35 Γ yX3_rowOf cX3_rowOf 3 "BlameCourt$Kinds" (some .int) { frames := 4, cells := 0, slots := 0, locals := 150 } [.ref (Γ.2.2.2.1 25), .int p1] X (hB_rowOf p1 X) := by
  refine TMI.of (by decide) (Nat.le_of_ble_eq_true rfl) rfl ?_
  show T YC_35 Γ cX3_rowOf 3 "BlameCourt$Kinds" (some .int) { frames := 4, cells := 0, slots := 0, locals := 150 } _ qI 0 [(0, .ref (Γ.2.2.2.1 25)), (1, .int p1)] [] X (hB_rowOf p1 X)
  unfold hB_rowOf
  refine T.iconst (w := 5) dX3_rowOf_0 (by decide) ?_
  refine T.aload_n dX3_rowOf_1 rfl 0 rfl ?_
  refine T.iload_n dX3_rowOf_2 rfl 1 rfl ?_
  refine T.callV_i 25 (As1 := [.int p1]) (rest := [.int 5]) (khB_codeOf Γ p1 X) ka_X3_codeOf kv_X3_codeOf oCB_25 rfl k242 rfl rfl rfl rfl (show 2 + 1 ≤ 4 ∧ 8 + (2 + 11) + 70 ≤ 150 from ⟨by omega, by omega⟩) (Nat.le_of_ble_eq_true rfl) dX3_rowOf_3 (fun x1 X2 => ?_)
  refine T.imul dX3_rowOf_6 (fun x3 => ?_)
  refine T.iconst (w := 4) dX3_rowOf_7 (by decide) ?_
  refine T.iadd dX3_rowOf_8 (fun x4 => ?_)
  refine T.istore_n (lv1 := [(2, .int x4), (0, .ref (Γ.2.2.2.1 25)), (1, .int p1)]) dX3_rowOf_9 rfl (by decide) rfl ?_
  refine T.aload_n dX3_rowOf_10 rfl 1 rfl ?_
  refine T.iconst (w := 3) dX3_rowOf_11 (by decide) ?_
  refine T.iconst (w := 0) dX3_rowOf_12 (by decide) ?_
  refine T.aload_n dX3_rowOf_13 rfl 1 rfl ?_
  refine cCB3_3 k252 dX3_rowOf_14 ?_
  refine T.iconst (w := 0) dX3_rowOf_17 (by decide) ?_
  refine T.iload_n dX3_rowOf_18 rfl 2 rfl ?_
  refine T.iload_n dX3_rowOf_19 rfl 0 rfl ?_
  refine T.callV_i 25 (As1 := [.int 3, .int 0, .ref (Γ.2.2.2.1 28), .int 0, .int p1, .int x4]) (rest := []) (khB_findOrAdd Γ (3 : Int32) (0 : Int32) 28 ⟨rfl, rfl, rfl⟩ (0 : Int32) p1 x4 X2) ka_X3_findOrAdd kv_X3_findOrAdd oCB_25 rfl k223 rfl rfl rfl rfl (show 3 + 1 ≤ 4 ∧ 8 + (11 + 11) + 110 ≤ 150 from ⟨by omega, by omega⟩) (Nat.le_of_ble_eq_true rfl) dX3_rowOf_20 (fun x5 X6 => ?_)
  exact T.ret_i rfl dX3_rowOf_23
noncomputable def hB_functionOf_32_s (r32 : Nat → Int32 → Int32 → Int32 → Int32 → Int32 → St → Option (Int32 × St)) (e_1 : Nat) (a_2 : Int32) (a_3 : Int32) (a_4 : Int32) (a_5 : Int32) (a_6 : Int32) (X : St) : Option (Int32 × St) :=
  if a_3.toInt ≤ a_6.toInt then
    letV ((31 : Int32) * a_5) fun x4 =>
    bnd (hB_codeOf a_4 X) fun x5 X6 =>
    letV (x4 + x5) fun x7 =>
    bnd (hB_findOrAdd (4 : Int32) a_3 e_1 a_2 a_4 x7 X6) fun x8 X9 =>
    some (x8, X9)
  else
    letV ((31 : Int32) * a_5) fun x10 =>
    letV (a_2 + a_6) fun x11 =>
    chk (inR x11 (zY YC_35 e_1)) (letV (X.1 e_1 (ix x11)) fun x12 =>
    bnd (hB_codeOf x12 X) fun x13 X14 =>
    letV (x10 + x13) fun x15 =>
    letV (a_6 + Int32.ofInt (1)) fun x16 =>
    r32 e_1 a_2 a_3 a_4 x15 x16 X14)
noncomputable def hB_functionOf_32 (n : Nat) : Nat → Int32 → Int32 → Int32 → Int32 → Int32 → St → Option (Int32 × St) := lp (fun _ _ _ _ _ _ _ => none) (hB_functionOf_32_s) n
set_option maxHeartbeats 4000000 in
set_option maxRecDepth 100000 in
theorem khB_functionOf_32 (Γ : Gx) (As : List Value) (n : Nat) : ∀ (e_1 : Nat) (he_1 : isA YC_35 e_1 1 (zY YC_35 e_1) .int) (a_2 : Int32) (a_3 : Int32) (a_4 : Int32) (a_5 : Int32) (a_6 : Int32) (X : St), T YC_35 Γ cX3_functionOf 7 "BlameCourt$Kinds" (some .int) { frames := 4, cells := 0, slots := 0, locals := 150 } As qI 32 [(0, .ref (Γ.2.2.2.1 25)), (1, .ref (Γ.2.2.2.1 e_1)), (2, .int a_2), (3, .int a_3), (4, .int a_4), (5, .int a_5), (6, .int a_6)] [] X (hB_functionOf_32 n e_1 a_2 a_3 a_4 a_5 a_6 X) := by
  unfold hB_functionOf_32
  refine lp_ind (P := fun (r32 : Nat → Int32 → Int32 → Int32 → Int32 → Int32 → St → Option (Int32 × St)) => ∀ (e_1 : Nat) (he_1 : isA YC_35 e_1 1 (zY YC_35 e_1) .int) (a_2 : Int32) (a_3 : Int32) (a_4 : Int32) (a_5 : Int32) (a_6 : Int32) (X : St), T YC_35 Γ cX3_functionOf 7 "BlameCourt$Kinds" (some .int) { frames := 4, cells := 0, slots := 0, locals := 150 } As qI 32 [(0, .ref (Γ.2.2.2.1 25)), (1, .ref (Γ.2.2.2.1 e_1)), (2, .int a_2), (3, .int a_3), (4, .int a_4), (5, .int a_5), (6, .int a_6)] [] X (r32 e_1 a_2 a_3 a_4 a_5 a_6 X)) (fun _ _ _ _ _ _ _ _ => T.no) ?_ n
  intro r32 hr32 e_1 he_1 a_2 a_3 a_4 a_5 a_6 X
  unfold hB_functionOf_32_s
  refine T.iload dX3_functionOf_32 6 rfl ?_
  refine T.iload_n dX3_functionOf_34 rfl 3 rfl ?_
  refine T.icmp_ge (pc1 := 62) dX3_functionOf_35 (by decide) rfl ?_ ?_
  · refine T.bipush (w := 31) dX3_functionOf_62 (by decide) ?_
    refine T.iload dX3_functionOf_64 5 rfl ?_
    refine T.imul dX3_functionOf_66 (fun x4 => ?_)
    refine T.aload_n dX3_functionOf_67 rfl 0 rfl ?_
    refine T.iload dX3_functionOf_68 4 rfl ?_
    refine T.callV_i 25 (As1 := [.int a_4]) (rest := [.int x4]) (khB_codeOf Γ a_4 X) ka_X3_codeOf kv_X3_codeOf oCB_25 rfl k242 rfl rfl rfl rfl (show 2 + 1 ≤ 4 ∧ 8 + (2 + 11) + 70 ≤ 150 from ⟨by omega, by omega⟩) (Nat.le_of_ble_eq_true rfl) dX3_functionOf_70 (fun x5 X6 => ?_)
    refine T.iadd dX3_functionOf_73 (fun x7 => ?_)
    refine T.istore (lv1 := [(5, .int x7), (0, .ref (Γ.2.2.2.1 25)), (1, .ref (Γ.2.2.2.1 e_1)), (2, .int a_2), (3, .int a_3), (4, .int a_4), (6, .int a_6)]) dX3_functionOf_74 (by decide) rfl ?_
    refine T.aload_n dX3_functionOf_76 rfl 1 rfl ?_
    refine T.iconst (w := 4) dX3_functionOf_77 (by decide) ?_
    refine T.iload_n dX3_functionOf_78 rfl 4 rfl ?_
    refine T.aload_n dX3_functionOf_79 rfl 2 rfl ?_
    refine T.iload_n dX3_functionOf_80 rfl 3 rfl ?_
    refine T.iload dX3_functionOf_81 5 rfl ?_
    refine T.iload dX3_functionOf_83 0 rfl ?_
    refine T.callV_i 25 (As1 := [.int 4, .int a_3, .ref (Γ.2.2.2.1 e_1), .int a_2, .int a_4, .int x7]) (rest := []) (khB_findOrAdd Γ (4 : Int32) a_3 e_1 he_1 a_2 a_4 x7 X6) ka_X3_findOrAdd kv_X3_findOrAdd oCB_25 rfl k223 rfl rfl rfl rfl (show 3 + 1 ≤ 4 ∧ 8 + (11 + 11) + 110 ≤ 150 from ⟨by omega, by omega⟩) (Nat.le_of_ble_eq_true rfl) dX3_functionOf_85 (fun x8 X9 => ?_)
    exact T.ret_i rfl dX3_functionOf_88
  · refine T.bipush (w := 31) dX3_functionOf_38 (by decide) ?_
    refine T.iload dX3_functionOf_40 5 rfl ?_
    refine T.imul dX3_functionOf_42 (fun x10 => ?_)
    refine T.aload_n dX3_functionOf_43 rfl 0 rfl ?_
    refine T.aload_n dX3_functionOf_44 rfl 1 rfl ?_
    refine T.iload_n dX3_functionOf_45 rfl 2 rfl ?_
    refine T.iload dX3_functionOf_46 6 rfl ?_
    refine T.iadd dX3_functionOf_48 (fun x11 => ?_)
    refine T.iald e_1 he_1 dX3_functionOf_49 (fun x12 => ?_)
    refine T.callV_i 25 (As1 := [.int x12]) (rest := [.int x10]) (khB_codeOf Γ x12 X) ka_X3_codeOf kv_X3_codeOf oCB_25 rfl k242 rfl rfl rfl rfl (show 2 + 1 ≤ 4 ∧ 8 + (2 + 11) + 70 ≤ 150 from ⟨by omega, by omega⟩) (Nat.le_of_ble_eq_true rfl) dX3_functionOf_50 (fun x13 X14 => ?_)
    refine T.iadd dX3_functionOf_53 (fun x15 => ?_)
    refine T.istore (lv1 := [(5, .int x15), (0, .ref (Γ.2.2.2.1 25)), (1, .ref (Γ.2.2.2.1 e_1)), (2, .int a_2), (3, .int a_3), (4, .int a_4), (6, .int a_6)]) dX3_functionOf_54 (by decide) rfl ?_
    refine T.iinc dX3_functionOf_56 6 rfl (by decide) (lvf := fun x16 => [(6, .int x16), (5, .int x15), (0, .ref (Γ.2.2.2.1 25)), (1, .ref (Γ.2.2.2.1 e_1)), (2, .int a_2), (3, .int a_3), (4, .int a_4)]) (fun _ => rfl) (fun x16 => ?_)
    refine T.goto (pc1 := 32) dX3_functionOf_59 (by decide) ?_
    refine T.sub [2, 3, 4, 5, 6, 1, 0] rfl ?_
    exact hr32 e_1 he_1 a_2 a_3 a_4 x15 x16 X14
noncomputable def hB_functionOf (o1 : Nat) (p2 : Int32) (p3 : Int32) (p4 : Int32) (X : St) : Option (Int32 × St) :=
  if p3.toInt < 0 then
    some (2, X)
  else
    if 4 < p3.toInt then
      some (2, X)
    else
      if p2.toInt < 0 then
        some (2, X)
      else
        letV (Int32.ofNat (zY YC_35 o1)) fun x1 =>
        letV (x1 - p3) fun x2 =>
        if p2.toInt ≤ x2.toInt then
          letV ((7 : Int32) + p3) fun x3 =>
          hB_functionOf_32 BIG o1 p2 p3 p4 x3 (0 : Int32) X
        else
          some (2, X)
set_option maxHeartbeats 4000000 in
set_option maxRecDepth 100000 in
theorem khB_functionOf (Γ : Gx) (o1 : Nat) (ho1 : isA YC_35 o1 1 (zY YC_35 o1) .int) (p2 : Int32) (p3 : Int32) (p4 : Int32) (X : St) : TMI YC_35 Γ yX3_functionOf cX3_functionOf 7 "BlameCourt$Kinds" (some .int) { frames := 4, cells := 0, slots := 0, locals := 150 } [.ref (Γ.2.2.2.1 25), .ref (Γ.2.2.2.1 o1), .int p2, .int p3, .int p4] X (hB_functionOf o1 p2 p3 p4 X) := by
  refine TMI.of (by decide) (Nat.le_of_ble_eq_true rfl) rfl ?_
  show T YC_35 Γ cX3_functionOf 7 "BlameCourt$Kinds" (some .int) { frames := 4, cells := 0, slots := 0, locals := 150 } _ qI 0 [(0, .ref (Γ.2.2.2.1 25)), (1, .ref (Γ.2.2.2.1 o1)), (2, .int p2), (3, .int p3), (4, .int p4)] [] X (hB_functionOf o1 p2 p3 p4 X)
  unfold hB_functionOf
  refine T.iload_n dX3_functionOf_0 rfl 3 rfl ?_
  refine T.if_lt (pc1 := 21) dX3_functionOf_1 (by decide) ?_ ?_
  · refine T.iconst (w := 2) dX3_functionOf_21 (by decide) ?_
    exact T.ret_i rfl dX3_functionOf_22
  · refine T.iload_n dX3_functionOf_4 rfl 3 rfl ?_
    refine T.iconst (w := 4) dX3_functionOf_5 (by decide) ?_
    refine T.icmp_gt (pc1 := 21) dX3_functionOf_6 (by decide) rfl ?_ ?_
    · refine T.iconst (w := 2) dX3_functionOf_21 (by decide) ?_
      exact T.ret_i rfl dX3_functionOf_22
    · refine T.iload_n dX3_functionOf_9 rfl 2 rfl ?_
      refine T.if_lt (pc1 := 21) dX3_functionOf_10 (by decide) ?_ ?_
      · refine T.iconst (w := 2) dX3_functionOf_21 (by decide) ?_
        exact T.ret_i rfl dX3_functionOf_22
      · refine T.iload_n dX3_functionOf_13 rfl 2 rfl ?_
        refine T.aload_n dX3_functionOf_14 rfl 1 rfl ?_
        refine T.alenV o1 ho1 dX3_functionOf_15 (fun x1 => ?_)
        refine T.iload_n dX3_functionOf_16 rfl 3 rfl ?_
        refine T.isub dX3_functionOf_17 (fun x2 => ?_)
        refine T.icmp_le (pc1 := 23) dX3_functionOf_18 (by decide) rfl ?_ ?_
        · refine T.bipush (w := 7) dX3_functionOf_23 (by decide) ?_
          refine T.iload_n dX3_functionOf_25 rfl 3 rfl ?_
          refine T.iadd dX3_functionOf_26 (fun x3 => ?_)
          refine T.istore (lv1 := [(5, .int x3), (0, .ref (Γ.2.2.2.1 25)), (1, .ref (Γ.2.2.2.1 o1)), (2, .int p2), (3, .int p3), (4, .int p4)]) dX3_functionOf_27 (by decide) rfl ?_
          refine T.iconst (w := 0) dX3_functionOf_29 (by decide) ?_
          refine T.istore (lv1 := [(6, .int 0), (5, .int x3), (0, .ref (Γ.2.2.2.1 25)), (1, .ref (Γ.2.2.2.1 o1)), (2, .int p2), (3, .int p3), (4, .int p4)]) dX3_functionOf_30 (by decide) rfl ?_
          refine T.sub [2, 3, 4, 5, 6, 1, 0] rfl ?_
          exact khB_functionOf_32 Γ _ BIG o1 ho1 p2 p3 p4 x3 (0 : Int32) X
        · refine T.iconst (w := 2) dX3_functionOf_21 (by decide) ?_
          exact T.ret_i rfl dX3_functionOf_22
noncomputable def ctor_C_25 (X : St) : Option St :=
  chk (RB X 26 = true) (letV (zE X 26) fun X2 =>
  chk (RB X2 27 = true) (letV (zE X2 27) fun X9 =>
  chk (RB X9 28 = true) (letV (zE X9 28) fun X16 =>
  chk (RB X16 29 = true) (letV (zE X16 29) fun X23 =>
  chk (RB X23 30 = true) (letV (zE X23 30) fun X30 =>
  chk (RB X30 31 = true) (letV (zE X30 31) fun X37 =>
  chk (RB X37 32 = true) (letV (zE X37 32) fun X44 =>
  letV (wI X44 25 0 (0)) fun X50 =>
  bnd (hfB_fill 31 (-1 : Int32) X50) fun _ X52 =>
  chk (RB X52 33 = true) (letV (zE X52 33) fun X54 =>
  letV (wI X54 33 (ix 0) 2) fun X60 =>
  letV (wI X60 33 (ix 1) 2) fun X61 =>
  letV (wI X61 33 (ix 2) 2) fun X62 =>
  letV (wI X62 33 (ix 3) 2) fun X63 =>
  bnd (hB_findOrAdd (0 : Int32) (0 : Int32) 33 (0 : Int32) (2 : Int32) (1 : Int32) X63) fun _ X65 =>
  bnd (hB_findOrAdd (1 : Int32) (0 : Int32) 33 (0 : Int32) (2 : Int32) (2 : Int32) X65) fun _ X67 =>
  bnd (hB_findOrAdd (2 : Int32) (0 : Int32) 33 (0 : Int32) (2 : Int32) (3 : Int32) X67) fun _ X69 =>
  bnd (hB_rowOf (2 : Int32) X69) fun _ X71 =>
  bnd (hB_functionOf 33 (0 : Int32) (0 : Int32) (2 : Int32) X71) fun _ X73 =>
  bnd (hB_functionOf 33 (0 : Int32) (1 : Int32) (2 : Int32) X73) fun _ X75 =>
  bnd (hB_functionOf 33 (0 : Int32) (2 : Int32) (2 : Int32) X75) fun _ X77 =>
  bnd (hB_functionOf 33 (0 : Int32) (3 : Int32) (2 : Int32) X77) fun _ X79 =>
  bnd (hB_functionOf 33 (0 : Int32) (4 : Int32) (2 : Int32) X79) fun _ X81 =>
  some X81))))))))
set_option maxHeartbeats 4000000 in
set_option maxRecDepth 100000 in
theorem kctor_C_25 (Λ : Lx) (ad : Nat → Nat) (cA : Nat → ClassId) (X : St) (b0 : Addr) (h0 : ad 25 = b0) : NM Λ yX3_init cX3_init 3 { frames := 5, cells := 8, slots := 16006, locals := 176 } [.ref b0] (YC_27, ad, cA, X) YC_35 (ctor_C_25 X) := by
  refine NM.of (by decide) rfl (Nat.le_of_ble_eq_true rfl) rfl ?_
  show N Λ cX3_init 3 "BlameCourt$Kinds" { frames := 5, cells := 8, slots := 16006, locals := 176 } _ _ _ 0 [(0, .ref b0)] [] _ 0 0 (ctor_C_25 X)
  unfold ctor_C_25
  refine N.aload_n dX3_init_0 rfl 0 rfl ?_
  refine N.obj k219 k206 k207 dX3_init_1 (Nat.le_of_ble_eq_true rfl) (Nat.le_of_ble_eq_true rfl) ?_
  refine N.aload_n dX3_init_4 rfl 0 rfl ?_
  refine N.sipush (w := 1549) dX3_init_5 (by decide) ?_
  refine N.newa (atype := .int) (ty := .int) k277 rfl 1 rfl (a0 := (1549, .inl (fun _ => 0))) (z := 1549) rfl (fun _ => rfl) (by decide) rfl (Nat.le_of_ble_eq_true rfl) (n := 26) rfl (by decide +kernel) (ce' := 1) (sl' := 1549) rfl rfl (Nat.le_of_ble_eq_true rfl) (Nat.le_of_ble_eq_true rfl) (Nat.le_of_ble_eq_true rfl) dX3_init_8 (fun q1 c3 X2 => ?_)
  have gb0 := (adU_ne ad 26 q1 (show (25 : Nat) ≠ 26 by decide)).trans h0
  have gq1 := adU_at ad 26 q1
  generalize adU ad 26 q1 = ad4 at gb0 gq1 ⊢
  generalize adU cA 26 c3 = cA5
  have h6 := gb0
  clear gb0
  have h7 := gq1
  clear gq1
  refine N.putC 25 h6 26 h7 (show isO (YC_27 ++ [(1, 1549, .int, [])]) 25 3 8 from ⟨rfl, rfl, rfl⟩) rfl iX3 1 (by decide) k250 tyX3 tyX3_ok nmX3 rfl rfl rfl rfl dX3_init_10 ?_
  refine N.eqY (Y1 := YC_28) rfl ?_
  refine N.aload_n dX3_init_13 rfl 0 rfl ?_
  refine N.sipush (w := 1549) dX3_init_14 (by decide) ?_
  refine N.newa (atype := .int) (ty := .int) k277 rfl 1 rfl (a0 := (1549, .inl (fun _ => 0))) (z := 1549) rfl (fun _ => rfl) (by decide) rfl (Nat.le_of_ble_eq_true rfl) (n := 27) rfl (by decide +kernel) (ce' := 2) (sl' := 3098) rfl rfl (Nat.le_of_ble_eq_true rfl) (Nat.le_of_ble_eq_true rfl) (Nat.le_of_ble_eq_true rfl) dX3_init_17 (fun q8 c10 X9 => ?_)
  have gb0 := (adU_ne ad4 27 q8 (show (25 : Nat) ≠ 27 by decide)).trans h6
  have gq8 := adU_at ad4 27 q8
  generalize adU ad4 27 q8 = ad11 at gb0 gq8 ⊢
  generalize adU cA5 27 c10 = cA12
  have h13 := gb0
  clear gb0
  have h14 := gq8
  clear gq8
  refine N.putC 25 h13 27 h14 (show isO (YC_28 ++ [(1, 1549, .int, [])]) 25 3 8 from ⟨rfl, rfl, rfl⟩) rfl iX3 2 (by decide) k251 tyX3 tyX3_ok nmX3 rfl rfl rfl rfl dX3_init_19 ?_
  refine N.eqY (Y1 := YC_29) rfl ?_
  refine N.aload_n dX3_init_22 rfl 0 rfl ?_
  refine N.sipush (w := 7745) dX3_init_23 (by decide) ?_
  refine N.newa (atype := .int) (ty := .int) k277 rfl 1 rfl (a0 := (7745, .inl (fun _ => 0))) (z := 7745) rfl (fun _ => rfl) (by decide) rfl (Nat.le_of_ble_eq_true rfl) (n := 28) rfl (by decide +kernel) (ce' := 3) (sl' := 10843) rfl rfl (Nat.le_of_ble_eq_true rfl) (Nat.le_of_ble_eq_true rfl) (Nat.le_of_ble_eq_true rfl) dX3_init_26 (fun q15 c17 X16 => ?_)
  have gb0 := (adU_ne ad11 28 q15 (show (25 : Nat) ≠ 28 by decide)).trans h13
  have gq15 := adU_at ad11 28 q15
  generalize adU ad11 28 q15 = ad18 at gb0 gq15 ⊢
  generalize adU cA12 28 c17 = cA19
  have h20 := gb0
  clear gb0
  have h21 := gq15
  clear gq15
  refine N.putC 25 h20 28 h21 (show isO (YC_29 ++ [(1, 7745, .int, [])]) 25 3 8 from ⟨rfl, rfl, rfl⟩) rfl iX3 3 (by decide) k252 tyX3 tyX3_ok nmX3 rfl rfl rfl rfl dX3_init_28 ?_
  refine N.eqY (Y1 := YC_30) rfl ?_
  refine N.aload_n dX3_init_31 rfl 0 rfl ?_
  refine N.sipush (w := 1549) dX3_init_32 (by decide) ?_
  refine N.newa (atype := .int) (ty := .int) k277 rfl 1 rfl (a0 := (1549, .inl (fun _ => 0))) (z := 1549) rfl (fun _ => rfl) (by decide) rfl (Nat.le_of_ble_eq_true rfl) (n := 29) rfl (by decide +kernel) (ce' := 4) (sl' := 12392) rfl rfl (Nat.le_of_ble_eq_true rfl) (Nat.le_of_ble_eq_true rfl) (Nat.le_of_ble_eq_true rfl) dX3_init_35 (fun q22 c24 X23 => ?_)
  have gb0 := (adU_ne ad18 29 q22 (show (25 : Nat) ≠ 29 by decide)).trans h20
  have gq22 := adU_at ad18 29 q22
  generalize adU ad18 29 q22 = ad25 at gb0 gq22 ⊢
  generalize adU cA19 29 c24 = cA26
  have h27 := gb0
  clear gb0
  have h28 := gq22
  clear gq22
  refine N.putC 25 h27 29 h28 (show isO (YC_30 ++ [(1, 1549, .int, [])]) 25 3 8 from ⟨rfl, rfl, rfl⟩) rfl iX3 4 (by decide) k253 tyX3 tyX3_ok nmX3 rfl rfl rfl rfl dX3_init_37 ?_
  refine N.eqY (Y1 := YC_31) rfl ?_
  refine N.aload_n dX3_init_40 rfl 0 rfl ?_
  refine N.sipush (w := 1549) dX3_init_41 (by decide) ?_
  refine N.newa (atype := .boolean) (ty := .boolean) k278 rfl 1 rfl (a0 := (1549, .inl (fun _ => 0))) (z := 1549) rfl (fun _ => rfl) (by decide) rfl (Nat.le_of_ble_eq_true rfl) (n := 30) rfl (by decide +kernel) (ce' := 5) (sl' := 13941) rfl rfl (Nat.le_of_ble_eq_true rfl) (Nat.le_of_ble_eq_true rfl) (Nat.le_of_ble_eq_true rfl) dX3_init_44 (fun q29 c31 X30 => ?_)
  have gb0 := (adU_ne ad25 30 q29 (show (25 : Nat) ≠ 30 by decide)).trans h27
  have gq29 := adU_at ad25 30 q29
  generalize adU ad25 30 q29 = ad32 at gb0 gq29 ⊢
  generalize adU cA26 30 c31 = cA33
  have h34 := gb0
  clear gb0
  have h35 := gq29
  clear gq29
  refine N.putC 25 h34 30 h35 (show isO (YC_31 ++ [(1, 1549, .boolean, [])]) 25 3 8 from ⟨rfl, rfl, rfl⟩) rfl iX3 5 (by decide) k254 tyX3 tyX3_ok nmX3 rfl rfl rfl rfl dX3_init_46 ?_
  refine N.eqY (Y1 := YC_32) rfl ?_
  refine N.aload_n dX3_init_49 rfl 0 rfl ?_
  refine N.sipush (w := 512) dX3_init_50 (by decide) ?_
  refine N.newa (atype := .int) (ty := .int) k277 rfl 1 rfl (a0 := (512, .inl (fun _ => 0))) (z := 512) rfl (fun _ => rfl) (by decide) rfl (Nat.le_of_ble_eq_true rfl) (n := 31) rfl (by decide +kernel) (ce' := 6) (sl' := 14453) rfl rfl (Nat.le_of_ble_eq_true rfl) (Nat.le_of_ble_eq_true rfl) (Nat.le_of_ble_eq_true rfl) dX3_init_53 (fun q36 c38 X37 => ?_)
  have gb0 := (adU_ne ad32 31 q36 (show (25 : Nat) ≠ 31 by decide)).trans h34
  have gq36 := adU_at ad32 31 q36
  generalize adU ad32 31 q36 = ad39 at gb0 gq36 ⊢
  generalize adU cA33 31 c38 = cA40
  have h41 := gb0
  clear gb0
  have h42 := gq36
  clear gq36
  refine N.putC 25 h41 31 h42 (show isO (YC_32 ++ [(1, 512, .int, [])]) 25 3 8 from ⟨rfl, rfl, rfl⟩) rfl iX3 6 (by decide) k255 tyX3 tyX3_ok nmX3 rfl rfl rfl rfl dX3_init_55 ?_
  refine N.eqY (Y1 := YC_33) rfl ?_
  refine N.aload_n dX3_init_58 rfl 0 rfl ?_
  refine N.sipush (w := 1549) dX3_init_59 (by decide) ?_
  refine N.newa (atype := .int) (ty := .int) k277 rfl 1 rfl (a0 := (1549, .inl (fun _ => 0))) (z := 1549) rfl (fun _ => rfl) (by decide) rfl (Nat.le_of_ble_eq_true rfl) (n := 32) rfl (by decide +kernel) (ce' := 7) (sl' := 16002) rfl rfl (Nat.le_of_ble_eq_true rfl) (Nat.le_of_ble_eq_true rfl) (Nat.le_of_ble_eq_true rfl) dX3_init_62 (fun q43 c45 X44 => ?_)
  have gb0 := (adU_ne ad39 32 q43 (show (25 : Nat) ≠ 32 by decide)).trans h41
  have gq43 := adU_at ad39 32 q43
  generalize adU ad39 32 q43 = ad46 at gb0 gq43 ⊢
  generalize adU cA40 32 c45 = cA47
  have h48 := gb0
  clear gb0
  have h49 := gq43
  clear gq43
  refine N.putC 25 h48 32 h49 (show isO (YC_33 ++ [(1, 1549, .int, [])]) 25 3 8 from ⟨rfl, rfl, rfl⟩) rfl iX3 7 (by decide) k256 tyX3 tyX3_ok nmX3 rfl rfl rfl rfl dX3_init_64 ?_
  refine N.eqY (Y1 := YC_34) rfl ?_
  refine N.aload_n dX3_init_67 rfl 0 rfl ?_
  refine N.iconst (w := 0) dX3_init_68 (by decide) ?_
  refine N.putI 25 h48 (show isO YC_34 25 3 8 from ⟨rfl, rfl, rfl⟩) rfl iX3 0 (by decide) rfl k257 tyX3 tyX3_ok nmX3 rfl rfl rfl dX3_init_69 (fun X50 => ?_)
  refine N.aload_n dX3_init_72 rfl 0 rfl ?_
  refine N.getC 25 h48 (rfl : ad46 31 = ad46 31) (show isO YC_34 25 3 8 from ⟨rfl, rfl, rfl⟩) rfl iX3 6 (by decide) rfl k255 dX3_init_73 ?_
  refine N.iconst (w := (-1)) dX3_init_76 (by decide) ?_
  refine N.callS (As1 := [.ref (ad46 31), .int (-1)]) (rest := []) (khfB_fill (Λ.1, Λ.2.1, Λ.2.2, ad46, cA47) 31 ⟨rfl, rfl, rfl⟩ (-1 : Int32) X50) ka_J7_fill_53178 k221 k220 rfl rfl rfl rfl ⟨(Nat.le_of_ble_eq_true rfl), (Nat.le_of_ble_eq_true rfl)⟩ (Nat.le_of_ble_eq_true rfl) ⟨(Nat.le_of_ble_eq_true rfl), (Nat.le_of_ble_eq_true rfl)⟩ dX3_init_77 (fun _ X52 => ?_)
  refine N.iconst (w := 4) dX3_init_80 (by decide) ?_
  refine N.newa (atype := .int) (ty := .int) k277 rfl 1 rfl (a0 := (4, .inl (fun _ => 0))) (z := 4) rfl (fun _ => rfl) (by decide) rfl (Nat.le_of_ble_eq_true rfl) (n := 33) rfl (by decide +kernel) (ce' := 8) (sl' := 16006) rfl rfl (Nat.le_of_ble_eq_true rfl) (Nat.le_of_ble_eq_true rfl) (Nat.le_of_ble_eq_true rfl) dX3_init_81 (fun q53 c55 X54 => ?_)
  have gb0 := (adU_ne ad46 33 q53 (show (25 : Nat) ≠ 33 by decide)).trans h48
  have gq53 := adU_at ad46 33 q53
  generalize adU ad46 33 q53 = ad56 at gb0 gq53 ⊢
  generalize adU cA47 33 c55 = cA57
  have h58 := gb0
  clear gb0
  have h59 := gq53
  clear gq53
  refine N.eqY (Y1 := YC_35) rfl ?_
  refine N.dupr dX3_init_83 ?_
  refine N.iconst (w := 0) dX3_init_84 (by decide) ?_
  refine N.iconst (w := 2) dX3_init_85 (by decide) ?_
  refine N.iast 33 h59 ⟨rfl, rfl, rfl⟩ (by decide) dX3_init_86 (fun X60 => ?_)
  refine N.dupr dX3_init_87 ?_
  refine N.iconst (w := 1) dX3_init_88 (by decide) ?_
  refine N.iconst (w := 2) dX3_init_89 (by decide) ?_
  refine N.iast 33 h59 ⟨rfl, rfl, rfl⟩ (by decide) dX3_init_90 (fun X61 => ?_)
  refine N.dupr dX3_init_91 ?_
  refine N.iconst (w := 2) dX3_init_92 (by decide) ?_
  refine N.iconst (w := 2) dX3_init_93 (by decide) ?_
  refine N.iast 33 h59 ⟨rfl, rfl, rfl⟩ (by decide) dX3_init_94 (fun X62 => ?_)
  refine N.dupr dX3_init_95 ?_
  refine N.iconst (w := 3) dX3_init_96 (by decide) ?_
  refine N.iconst (w := 2) dX3_init_97 (by decide) ?_
  refine N.iast 33 h59 ⟨rfl, rfl, rfl⟩ (by decide) dX3_init_98 (fun X63 => ?_)
  refine N.astore_n (lv1 := [(1, .ref q53), (0, .ref b0)]) dX3_init_99 rfl (by decide) rfl ?_
  refine N.aload_n dX3_init_100 rfl 1 rfl ?_
  refine N.iconst (w := 0) dX3_init_101 (by decide) ?_
  refine N.iconst (w := 0) dX3_init_102 (by decide) ?_
  refine N.aload_n dX3_init_103 rfl 0 rfl ?_
  refine N.iconst (w := 0) dX3_init_104 (by decide) ?_
  refine N.iconst (w := 2) dX3_init_105 (by decide) ?_
  refine N.iconst (w := 1) dX3_init_106 (by decide) ?_
  subst h58
  subst h59
  refine N.callTi 25 rfl (As1 := [.int 0, .int 0, .ref (ad56 33), .int 0, .int 2, .int 1]) (rest := []) (khB_findOrAdd (Λ.1, Λ.2.1, Λ.2.2, ad56, cA57) (0 : Int32) (0 : Int32) 33 ⟨rfl, rfl, rfl⟩ (0 : Int32) (2 : Int32) (1 : Int32) X63) ka_X3_findOrAdd kv_X3_findOrAdd ⟨rfl, rfl, rfl⟩ rfl k223 rfl rfl rfl rfl ⟨(Nat.le_of_ble_eq_true rfl), (Nat.le_of_ble_eq_true rfl)⟩ (Nat.le_of_ble_eq_true rfl) ⟨(Nat.le_of_ble_eq_true rfl), (Nat.le_of_ble_eq_true rfl)⟩ dX3_init_107 (fun r64 X65 => ?_)
  refine N.pop dX3_init_110 ?_
  refine N.aload_n dX3_init_111 rfl 1 rfl ?_
  refine N.iconst (w := 1) dX3_init_112 (by decide) ?_
  refine N.iconst (w := 0) dX3_init_113 (by decide) ?_
  refine N.aload_n dX3_init_114 rfl 0 rfl ?_
  refine N.iconst (w := 0) dX3_init_115 (by decide) ?_
  refine N.iconst (w := 2) dX3_init_116 (by decide) ?_
  refine N.iconst (w := 2) dX3_init_117 (by decide) ?_
  refine N.callTi 25 rfl (As1 := [.int 1, .int 0, .ref (ad56 33), .int 0, .int 2, .int 2]) (rest := []) (khB_findOrAdd (Λ.1, Λ.2.1, Λ.2.2, ad56, cA57) (1 : Int32) (0 : Int32) 33 ⟨rfl, rfl, rfl⟩ (0 : Int32) (2 : Int32) (2 : Int32) X65) ka_X3_findOrAdd kv_X3_findOrAdd ⟨rfl, rfl, rfl⟩ rfl k223 rfl rfl rfl rfl ⟨(Nat.le_of_ble_eq_true rfl), (Nat.le_of_ble_eq_true rfl)⟩ (Nat.le_of_ble_eq_true rfl) ⟨(Nat.le_of_ble_eq_true rfl), (Nat.le_of_ble_eq_true rfl)⟩ dX3_init_118 (fun r66 X67 => ?_)
  refine N.pop dX3_init_121 ?_
  refine N.aload_n dX3_init_122 rfl 1 rfl ?_
  refine N.iconst (w := 2) dX3_init_123 (by decide) ?_
  refine N.iconst (w := 0) dX3_init_124 (by decide) ?_
  refine N.aload_n dX3_init_125 rfl 0 rfl ?_
  refine N.iconst (w := 0) dX3_init_126 (by decide) ?_
  refine N.iconst (w := 2) dX3_init_127 (by decide) ?_
  refine N.iconst (w := 3) dX3_init_128 (by decide) ?_
  refine N.callTi 25 rfl (As1 := [.int 2, .int 0, .ref (ad56 33), .int 0, .int 2, .int 3]) (rest := []) (khB_findOrAdd (Λ.1, Λ.2.1, Λ.2.2, ad56, cA57) (2 : Int32) (0 : Int32) 33 ⟨rfl, rfl, rfl⟩ (0 : Int32) (2 : Int32) (3 : Int32) X67) ka_X3_findOrAdd kv_X3_findOrAdd ⟨rfl, rfl, rfl⟩ rfl k223 rfl rfl rfl rfl ⟨(Nat.le_of_ble_eq_true rfl), (Nat.le_of_ble_eq_true rfl)⟩ (Nat.le_of_ble_eq_true rfl) ⟨(Nat.le_of_ble_eq_true rfl), (Nat.le_of_ble_eq_true rfl)⟩ dX3_init_129 (fun r68 X69 => ?_)
  refine N.pop dX3_init_132 ?_
  refine N.aload_n dX3_init_133 rfl 1 rfl ?_
  refine N.iconst (w := 2) dX3_init_134 (by decide) ?_
  refine N.callTi 25 rfl (As1 := [.int 2]) (rest := []) (khB_rowOf (Λ.1, Λ.2.1, Λ.2.2, ad56, cA57) (2 : Int32) X69) ka_X3_rowOf kv_X3_rowOf ⟨rfl, rfl, rfl⟩ rfl k238 rfl rfl rfl rfl ⟨(Nat.le_of_ble_eq_true rfl), (Nat.le_of_ble_eq_true rfl)⟩ (Nat.le_of_ble_eq_true rfl) ⟨(Nat.le_of_ble_eq_true rfl), (Nat.le_of_ble_eq_true rfl)⟩ dX3_init_135 (fun r70 X71 => ?_)
  refine N.pop dX3_init_138 ?_
  refine N.iconst (w := 0) dX3_init_139 (by decide) ?_
  refine N.istore_n (lv1 := [(2, .int 0), (1, .ref (ad56 33)), (0, .ref (ad56 25))]) dX3_init_140 rfl (by decide) rfl ?_
  refine N.iload_n dX3_init_141 rfl 0 rfl ?_
  refine N.iconst (w := 4) dX3_init_142 (by decide) ?_
  refine N.icmp_gt (pc1 := 161) dX3_init_143 (by decide) (by decide) ?_
  refine N.aload_n dX3_init_146 rfl 2 rfl ?_
  refine N.aload_n dX3_init_147 rfl 1 rfl ?_
  refine N.iconst (w := 0) dX3_init_148 (by decide) ?_
  refine N.iload_n dX3_init_149 rfl 0 rfl ?_
  refine N.iconst (w := 2) dX3_init_150 (by decide) ?_
  refine N.callTi 25 rfl (As1 := [.ref (ad56 33), .int 0, .int 0, .int 2]) (rest := []) (khB_functionOf (Λ.1, Λ.2.1, Λ.2.2, ad56, cA57) 33 ⟨rfl, rfl, rfl⟩ (0 : Int32) (0 : Int32) (2 : Int32) X71) ka_X3_functionOf kv_X3_functionOf ⟨rfl, rfl, rfl⟩ rfl k246 rfl rfl rfl rfl ⟨(Nat.le_of_ble_eq_true rfl), (Nat.le_of_ble_eq_true rfl)⟩ (Nat.le_of_ble_eq_true rfl) ⟨(Nat.le_of_ble_eq_true rfl), (Nat.le_of_ble_eq_true rfl)⟩ dX3_init_151 (fun r72 X73 => ?_)
  refine N.pop dX3_init_154 ?_
  refine N.iinc (lv1 := [(2, .int 1), (1, .ref (ad56 33)), (0, .ref (ad56 25))]) dX3_init_155 0 rfl (w := 1) (by decide) (by decide) rfl ?_
  refine N.goto (pc1 := 141) dX3_init_158 (by decide) ?_
  refine N.iload_n dX3_init_141 rfl 0 rfl ?_
  refine N.iconst (w := 4) dX3_init_142 (by decide) ?_
  refine N.icmp_gt (pc1 := 161) dX3_init_143 (by decide) (by decide) ?_
  refine N.aload_n dX3_init_146 rfl 2 rfl ?_
  refine N.aload_n dX3_init_147 rfl 1 rfl ?_
  refine N.iconst (w := 0) dX3_init_148 (by decide) ?_
  refine N.iload_n dX3_init_149 rfl 0 rfl ?_
  refine N.iconst (w := 2) dX3_init_150 (by decide) ?_
  refine N.callTi 25 rfl (As1 := [.ref (ad56 33), .int 0, .int 1, .int 2]) (rest := []) (khB_functionOf (Λ.1, Λ.2.1, Λ.2.2, ad56, cA57) 33 ⟨rfl, rfl, rfl⟩ (0 : Int32) (1 : Int32) (2 : Int32) X73) ka_X3_functionOf kv_X3_functionOf ⟨rfl, rfl, rfl⟩ rfl k246 rfl rfl rfl rfl ⟨(Nat.le_of_ble_eq_true rfl), (Nat.le_of_ble_eq_true rfl)⟩ (Nat.le_of_ble_eq_true rfl) ⟨(Nat.le_of_ble_eq_true rfl), (Nat.le_of_ble_eq_true rfl)⟩ dX3_init_151 (fun r74 X75 => ?_)
  refine N.pop dX3_init_154 ?_
  refine N.iinc (lv1 := [(2, .int 2), (1, .ref (ad56 33)), (0, .ref (ad56 25))]) dX3_init_155 0 rfl (w := 2) (by decide) (by decide) rfl ?_
  refine N.goto (pc1 := 141) dX3_init_158 (by decide) ?_
  refine N.iload_n dX3_init_141 rfl 0 rfl ?_
  refine N.iconst (w := 4) dX3_init_142 (by decide) ?_
  refine N.icmp_gt (pc1 := 161) dX3_init_143 (by decide) (by decide) ?_
  refine N.aload_n dX3_init_146 rfl 2 rfl ?_
  refine N.aload_n dX3_init_147 rfl 1 rfl ?_
  refine N.iconst (w := 0) dX3_init_148 (by decide) ?_
  refine N.iload_n dX3_init_149 rfl 0 rfl ?_
  refine N.iconst (w := 2) dX3_init_150 (by decide) ?_
  refine N.callTi 25 rfl (As1 := [.ref (ad56 33), .int 0, .int 2, .int 2]) (rest := []) (khB_functionOf (Λ.1, Λ.2.1, Λ.2.2, ad56, cA57) 33 ⟨rfl, rfl, rfl⟩ (0 : Int32) (2 : Int32) (2 : Int32) X75) ka_X3_functionOf kv_X3_functionOf ⟨rfl, rfl, rfl⟩ rfl k246 rfl rfl rfl rfl ⟨(Nat.le_of_ble_eq_true rfl), (Nat.le_of_ble_eq_true rfl)⟩ (Nat.le_of_ble_eq_true rfl) ⟨(Nat.le_of_ble_eq_true rfl), (Nat.le_of_ble_eq_true rfl)⟩ dX3_init_151 (fun r76 X77 => ?_)
  refine N.pop dX3_init_154 ?_
  refine N.iinc (lv1 := [(2, .int 3), (1, .ref (ad56 33)), (0, .ref (ad56 25))]) dX3_init_155 0 rfl (w := 3) (by decide) (by decide) rfl ?_
  refine N.goto (pc1 := 141) dX3_init_158 (by decide) ?_
  refine N.iload_n dX3_init_141 rfl 0 rfl ?_
  refine N.iconst (w := 4) dX3_init_142 (by decide) ?_
  refine N.icmp_gt (pc1 := 161) dX3_init_143 (by decide) (by decide) ?_
  refine N.aload_n dX3_init_146 rfl 2 rfl ?_
  refine N.aload_n dX3_init_147 rfl 1 rfl ?_
  refine N.iconst (w := 0) dX3_init_148 (by decide) ?_
  refine N.iload_n dX3_init_149 rfl 0 rfl ?_
  refine N.iconst (w := 2) dX3_init_150 (by decide) ?_
  refine N.callTi 25 rfl (As1 := [.ref (ad56 33), .int 0, .int 3, .int 2]) (rest := []) (khB_functionOf (Λ.1, Λ.2.1, Λ.2.2, ad56, cA57) 33 ⟨rfl, rfl, rfl⟩ (0 : Int32) (3 : Int32) (2 : Int32) X77) ka_X3_functionOf kv_X3_functionOf ⟨rfl, rfl, rfl⟩ rfl k246 rfl rfl rfl rfl ⟨(Nat.le_of_ble_eq_true rfl), (Nat.le_of_ble_eq_true rfl)⟩ (Nat.le_of_ble_eq_true rfl) ⟨(Nat.le_of_ble_eq_true rfl), (Nat.le_of_ble_eq_true rfl)⟩ dX3_init_151 (fun r78 X79 => ?_)
  refine N.pop dX3_init_154 ?_
  refine N.iinc (lv1 := [(2, .int 4), (1, .ref (ad56 33)), (0, .ref (ad56 25))]) dX3_init_155 0 rfl (w := 4) (by decide) (by decide) rfl ?_
  refine N.goto (pc1 := 141) dX3_init_158 (by decide) ?_
  refine N.iload_n dX3_init_141 rfl 0 rfl ?_
  refine N.iconst (w := 4) dX3_init_142 (by decide) ?_
  refine N.icmp_gt (pc1 := 161) dX3_init_143 (by decide) (by decide) ?_
  refine N.aload_n dX3_init_146 rfl 2 rfl ?_
  refine N.aload_n dX3_init_147 rfl 1 rfl ?_
  refine N.iconst (w := 0) dX3_init_148 (by decide) ?_
  refine N.iload_n dX3_init_149 rfl 0 rfl ?_
  refine N.iconst (w := 2) dX3_init_150 (by decide) ?_
  refine N.callTi 25 rfl (As1 := [.ref (ad56 33), .int 0, .int 4, .int 2]) (rest := []) (khB_functionOf (Λ.1, Λ.2.1, Λ.2.2, ad56, cA57) 33 ⟨rfl, rfl, rfl⟩ (0 : Int32) (4 : Int32) (2 : Int32) X79) ka_X3_functionOf kv_X3_functionOf ⟨rfl, rfl, rfl⟩ rfl k246 rfl rfl rfl rfl ⟨(Nat.le_of_ble_eq_true rfl), (Nat.le_of_ble_eq_true rfl)⟩ (Nat.le_of_ble_eq_true rfl) ⟨(Nat.le_of_ble_eq_true rfl), (Nat.le_of_ble_eq_true rfl)⟩ dX3_init_151 (fun r80 X81 => ?_)
  refine N.pop dX3_init_154 ?_
  refine N.iinc (lv1 := [(2, .int 5), (1, .ref (ad56 33)), (0, .ref (ad56 25))]) dX3_init_155 0 rfl (w := 5) (by decide) (by decide) rfl ?_
  refine N.goto (pc1 := 141) dX3_init_158 (by decide) ?_
  refine N.iload_n dX3_init_141 rfl 0 rfl ?_
  refine N.iconst (w := 4) dX3_init_142 (by decide) ?_
  refine N.icmp_gtT (pc1 := 161) dX3_init_143 (by decide) (by decide) ?_
  exact N.ret rfl (Nat.le_of_ble_eq_true rfl) (Nat.le_of_ble_eq_true rfl) dX3_init_161
noncomputable def ctor_C_24 (X : St) : Option St :=
  chk (RB X 25 = true) (letV (zE X 25) fun X2 =>
  bndN (ctor_C_25 X2) fun X11 =>
  letV (wI X11 24 1 (0)) fun X14 =>
  letV (wI X14 24 2 ((-1))) fun X15 =>
  chk (RB X15 34 = true) (letV (zE X15 34) fun X17 =>
  chk (RB X17 35 = true) (letV (zE X17 35) fun X24 =>
  chk (RB X24 36 = true) (letV (zE X24 36) fun X31 =>
  chk (RB X31 37 = true) (letV (zE X31 37) fun X38 =>
  chk (RB X38 38 = true) (letV (zE X38 38) fun X45 =>
  chk (RB X45 39 = true) (letV (zE X45 39) fun X52 =>
  chk (RB X52 40 = true) (letV (zE X52 40) fun X59 =>
  chk (RB X59 41 = true) (letV (zE X59 41) fun X66 =>
  letV (wI X66 24 5 (0)) fun X72 =>
  chk (RB X72 42 = true) (letV (zE X72 42) fun X74 =>
  chk (RB X74 43 = true) (letV (zE X74 43) fun X81 =>
  chk (RB X81 44 = true) (letV (zE X81 44) fun X88 =>
  chk (RB X88 45 = true) (letV (zE X88 45) fun X95 =>
  letV (wI X95 24 6 (0)) fun X101 =>
  some X101)))))))))))))
set_option maxHeartbeats 4000000 in
set_option maxRecDepth 100000 in
theorem kctor_C_24 (Λ : Lx) (ad : Nat → Nat) (cA : Nat → ClassId) (X : St) (b0 : Addr) (h0 : ad 24 = b0) : NM Λ yX5_init cX5_init 1 { frames := 6, cells := 21, slots := 52775, locals := 198 } [.ref b0] (YC_26, ad, cA, X) YC_48 (ctor_C_24 X) := by
  refine NM.of (by decide) rfl (Nat.le_of_ble_eq_true rfl) rfl ?_
  show N Λ cX5_init 1 "BlameCourt$Program" { frames := 6, cells := 21, slots := 52775, locals := 198 } _ _ _ 0 [(0, .ref b0)] [] _ 0 0 (ctor_C_24 X)
  unfold ctor_C_24
  refine N.aload_n dX5_init_0 rfl 0 rfl ?_
  refine N.obj k213 k206 k207 dX5_init_1 (Nat.le_of_ble_eq_true rfl) (Nat.le_of_ble_eq_true rfl) ?_
  refine N.aload_n dX5_init_4 rfl 0 rfl ?_
  refine N.new (ci := 3) iX3 tyX3 tyX3_ok k214 k215 k189 rfl [0, 2, 2, 2, 2, 2, 2, 2] rfl (fs := [.int 0, .null, .null, .null, .null, .null, .null, .null]) (hfs_of dfX3_ok) rfl rfl (n := 25) rfl (by decide +kernel) (ce' := 1) (sl' := 8) rfl rfl (Nat.le_of_ble_eq_true rfl) (Nat.le_of_ble_eq_true rfl) (Nat.le_of_ble_eq_true rfl) dX5_init_5 (fun q1 c3 X2 => ?_)
  have gb0 := (adU_ne ad 25 q1 (show (24 : Nat) ≠ 25 by decide)).trans h0
  have gq1 := adU_at ad 25 q1
  generalize adU ad 25 q1 = ad4 at gb0 gq1 ⊢
  generalize adU cA 25 c3 = cA5
  have h6 := gb0
  clear gb0
  have h7 := gq1
  clear gq1
  refine N.eqY (Y1 := YC_27) rfl ?_
  refine N.dupr dX5_init_8 ?_
  refine N.ctor 25 h7 (rest := [.ref q1, .ref b0]) (As1 := []) (kctor_C_25 Λ ad4 cA5 X2 q1 h7) ka_X3_init k217 rfl (host := "") (Or.inl k216) rfl rfl ⟨(Nat.le_of_ble_eq_true rfl), (Nat.le_of_ble_eq_true rfl)⟩ (Nat.le_of_ble_eq_true rfl) (ce' := 9) (sl' := 16014) rfl rfl ⟨(Nat.le_of_ble_eq_true rfl), (Nat.le_of_ble_eq_true rfl)⟩ dX5_init_9 (fun ad8 cA9 hx10 X11 => ?_) (Nat.le_of_ble_eq_true rfl)
  have h12 := (hx10 24 (by decide)).trans h6
  have h13 := (hx10 25 (by decide)).trans h7
  refine N.putC 24 h12 25 h13 (show isO YC_35 24 4 17 from ⟨rfl, rfl, rfl⟩) rfl iX5 0 (by decide) k279 tyX5 tyX5_ok nmX5 rfl rfl rfl rfl dX5_init_12 ?_
  refine N.eqY (Y1 := YC_36) rfl ?_
  refine N.aload_n dX5_init_15 rfl 0 rfl ?_
  refine N.iconst (w := 0) dX5_init_16 (by decide) ?_
  refine N.putI 24 h12 (show isO YC_36 24 4 17 from ⟨rfl, rfl, rfl⟩) rfl iX5 1 (by decide) rfl k284 tyX5 tyX5_ok nmX5 rfl rfl rfl dX5_init_17 (fun X14 => ?_)
  refine N.aload_n dX5_init_20 rfl 0 rfl ?_
  refine N.iconst (w := (-1)) dX5_init_21 (by decide) ?_
  refine N.putI 24 h12 (show isO YC_36 24 4 17 from ⟨rfl, rfl, rfl⟩) rfl iX5 2 (by decide) rfl k289 tyX5 tyX5_ok nmX5 rfl rfl rfl dX5_init_22 (fun X15 => ?_)
  refine N.aload_n dX5_init_25 rfl 0 rfl ?_
  refine N.bipush (w := 40) dX5_init_26 (by decide) ?_
  refine N.newa (atype := .long) (ty := .long) k373 rfl 2 rfl (a0 := (40, .inr (.inl (fun _ => 0)))) (z := 40) rfl (fun _ => rfl) (by decide) rfl (Nat.le_of_ble_eq_true rfl) (n := 34) rfl (by decide +kernel) (ce' := 10) (sl' := 16054) rfl rfl (Nat.le_of_ble_eq_true rfl) (Nat.le_of_ble_eq_true rfl) (Nat.le_of_ble_eq_true rfl) dX5_init_28 (fun q16 c18 X17 => ?_)
  have gb0 := (adU_ne ad8 34 q16 (show (24 : Nat) ≠ 34 by decide)).trans h12
  have gq16 := adU_at ad8 34 q16
  generalize adU ad8 34 q16 = ad19 at gb0 gq16 ⊢
  generalize adU cA9 34 c18 = cA20
  have h21 := gb0
  clear gb0
  have h22 := gq16
  clear gq16
  refine N.putC 24 h21 34 h22 (show isO (YC_36 ++ [(2, 40, .long, [])]) 24 4 17 from ⟨rfl, rfl, rfl⟩) rfl iX5 7 (by decide) k292 tyX5 tyX5_ok nmX5 rfl rfl rfl rfl dX5_init_30 ?_
  refine N.eqY (Y1 := YC_37) rfl ?_
  refine N.aload_n dX5_init_33 rfl 0 rfl ?_
  refine N.bipush (w := 40) dX5_init_34 (by decide) ?_
  refine N.newa (atype := .int) (ty := .int) k277 rfl 1 rfl (a0 := (40, .inl (fun _ => 0))) (z := 40) rfl (fun _ => rfl) (by decide) rfl (Nat.le_of_ble_eq_true rfl) (n := 35) rfl (by decide +kernel) (ce' := 11) (sl' := 16094) rfl rfl (Nat.le_of_ble_eq_true rfl) (Nat.le_of_ble_eq_true rfl) (Nat.le_of_ble_eq_true rfl) dX5_init_36 (fun q23 c25 X24 => ?_)
  have gb0 := (adU_ne ad19 35 q23 (show (24 : Nat) ≠ 35 by decide)).trans h21
  have gq23 := adU_at ad19 35 q23
  generalize adU ad19 35 q23 = ad26 at gb0 gq23 ⊢
  generalize adU cA20 35 c25 = cA27
  have h28 := gb0
  clear gb0
  have h29 := gq23
  clear gq23
  refine N.putC 24 h28 35 h29 (show isO (YC_37 ++ [(1, 40, .int, [])]) 24 4 17 from ⟨rfl, rfl, rfl⟩) rfl iX5 8 (by decide) k294 tyX5 tyX5_ok nmX5 rfl rfl rfl rfl dX5_init_38 ?_
  refine N.eqY (Y1 := YC_38) rfl ?_
  refine N.aload_n dX5_init_41 rfl 0 rfl ?_
  refine N.bipush (w := 40) dX5_init_42 (by decide) ?_
  refine N.newa (atype := .int) (ty := .int) k277 rfl 1 rfl (a0 := (40, .inl (fun _ => 0))) (z := 40) rfl (fun _ => rfl) (by decide) rfl (Nat.le_of_ble_eq_true rfl) (n := 36) rfl (by decide +kernel) (ce' := 12) (sl' := 16134) rfl rfl (Nat.le_of_ble_eq_true rfl) (Nat.le_of_ble_eq_true rfl) (Nat.le_of_ble_eq_true rfl) dX5_init_44 (fun q30 c32 X31 => ?_)
  have gb0 := (adU_ne ad26 36 q30 (show (24 : Nat) ≠ 36 by decide)).trans h28
  have gq30 := adU_at ad26 36 q30
  generalize adU ad26 36 q30 = ad33 at gb0 gq30 ⊢
  generalize adU cA27 36 c32 = cA34
  have h35 := gb0
  clear gb0
  have h36 := gq30
  clear gq30
  refine N.putC 24 h35 36 h36 (show isO (YC_38 ++ [(1, 40, .int, [])]) 24 4 17 from ⟨rfl, rfl, rfl⟩) rfl iX5 9 (by decide) k297 tyX5 tyX5_ok nmX5 rfl rfl rfl rfl dX5_init_46 ?_
  refine N.eqY (Y1 := YC_39) rfl ?_
  refine N.aload_n dX5_init_49 rfl 0 rfl ?_
  refine N.bipush (w := 40) dX5_init_50 (by decide) ?_
  refine N.newa (atype := .int) (ty := .int) k277 rfl 1 rfl (a0 := (40, .inl (fun _ => 0))) (z := 40) rfl (fun _ => rfl) (by decide) rfl (Nat.le_of_ble_eq_true rfl) (n := 37) rfl (by decide +kernel) (ce' := 13) (sl' := 16174) rfl rfl (Nat.le_of_ble_eq_true rfl) (Nat.le_of_ble_eq_true rfl) (Nat.le_of_ble_eq_true rfl) dX5_init_52 (fun q37 c39 X38 => ?_)
  have gb0 := (adU_ne ad33 37 q37 (show (24 : Nat) ≠ 37 by decide)).trans h35
  have gq37 := adU_at ad33 37 q37
  generalize adU ad33 37 q37 = ad40 at gb0 gq37 ⊢
  generalize adU cA34 37 c39 = cA41
  have h42 := gb0
  clear gb0
  have h43 := gq37
  clear gq37
  refine N.putC 24 h42 37 h43 (show isO (YC_39 ++ [(1, 40, .int, [])]) 24 4 17 from ⟨rfl, rfl, rfl⟩) rfl iX5 10 (by decide) k300 tyX5 tyX5_ok nmX5 rfl rfl rfl rfl dX5_init_54 ?_
  refine N.eqY (Y1 := YC_40) rfl ?_
  refine N.aload_n dX5_init_57 rfl 0 rfl ?_
  refine N.sipush (w := 160) dX5_init_58 (by decide) ?_
  refine N.newa (atype := .int) (ty := .int) k277 rfl 1 rfl (a0 := (160, .inl (fun _ => 0))) (z := 160) rfl (fun _ => rfl) (by decide) rfl (Nat.le_of_ble_eq_true rfl) (n := 38) rfl (by decide +kernel) (ce' := 14) (sl' := 16334) rfl rfl (Nat.le_of_ble_eq_true rfl) (Nat.le_of_ble_eq_true rfl) (Nat.le_of_ble_eq_true rfl) dX5_init_61 (fun q44 c46 X45 => ?_)
  have gb0 := (adU_ne ad40 38 q44 (show (24 : Nat) ≠ 38 by decide)).trans h42
  have gq44 := adU_at ad40 38 q44
  generalize adU ad40 38 q44 = ad47 at gb0 gq44 ⊢
  generalize adU cA41 38 c46 = cA48
  have h49 := gb0
  clear gb0
  have h50 := gq44
  clear gq44
  refine N.putC 24 h49 38 h50 (show isO (YC_40 ++ [(1, 160, .int, [])]) 24 4 17 from ⟨rfl, rfl, rfl⟩) rfl iX5 11 (by decide) k304 tyX5 tyX5_ok nmX5 rfl rfl rfl rfl dX5_init_63 ?_
  refine N.eqY (Y1 := YC_41) rfl ?_
  refine N.aload_n dX5_init_66 rfl 0 rfl ?_
  refine N.bipush (w := 40) dX5_init_67 (by decide) ?_
  refine N.newa (atype := .int) (ty := .int) k277 rfl 1 rfl (a0 := (40, .inl (fun _ => 0))) (z := 40) rfl (fun _ => rfl) (by decide) rfl (Nat.le_of_ble_eq_true rfl) (n := 39) rfl (by decide +kernel) (ce' := 15) (sl' := 16374) rfl rfl (Nat.le_of_ble_eq_true rfl) (Nat.le_of_ble_eq_true rfl) (Nat.le_of_ble_eq_true rfl) dX5_init_69 (fun q51 c53 X52 => ?_)
  have gb0 := (adU_ne ad47 39 q51 (show (24 : Nat) ≠ 39 by decide)).trans h49
  have gq51 := adU_at ad47 39 q51
  generalize adU ad47 39 q51 = ad54 at gb0 gq51 ⊢
  generalize adU cA48 39 c53 = cA55
  have h56 := gb0
  clear gb0
  have h57 := gq51
  clear gq51
  refine N.putC 24 h56 39 h57 (show isO (YC_41 ++ [(1, 40, .int, [])]) 24 4 17 from ⟨rfl, rfl, rfl⟩) rfl iX5 12 (by decide) k307 tyX5 tyX5_ok nmX5 rfl rfl rfl rfl dX5_init_71 ?_
  refine N.eqY (Y1 := YC_42) rfl ?_
  refine N.aload_n dX5_init_74 rfl 0 rfl ?_
  refine N.bipush (w := 40) dX5_init_75 (by decide) ?_
  refine N.newa (atype := .boolean) (ty := .boolean) k278 rfl 1 rfl (a0 := (40, .inl (fun _ => 0))) (z := 40) rfl (fun _ => rfl) (by decide) rfl (Nat.le_of_ble_eq_true rfl) (n := 40) rfl (by decide +kernel) (ce' := 16) (sl' := 16414) rfl rfl (Nat.le_of_ble_eq_true rfl) (Nat.le_of_ble_eq_true rfl) (Nat.le_of_ble_eq_true rfl) dX5_init_77 (fun q58 c60 X59 => ?_)
  have gb0 := (adU_ne ad54 40 q58 (show (24 : Nat) ≠ 40 by decide)).trans h56
  have gq58 := adU_at ad54 40 q58
  generalize adU ad54 40 q58 = ad61 at gb0 gq58 ⊢
  generalize adU cA55 40 c60 = cA62
  have h63 := gb0
  clear gb0
  have h64 := gq58
  clear gq58
  refine N.putC 24 h63 40 h64 (show isO (YC_42 ++ [(1, 40, .boolean, [])]) 24 4 17 from ⟨rfl, rfl, rfl⟩) rfl iX5 3 (by decide) k310 tyX5 tyX5_ok nmX5 rfl rfl rfl rfl dX5_init_79 ?_
  refine N.eqY (Y1 := YC_43) rfl ?_
  refine N.aload_n dX5_init_82 rfl 0 rfl ?_
  refine N.bipush (w := 41) dX5_init_83 (by decide) ?_
  refine N.newa (atype := .int) (ty := .int) k277 rfl 1 rfl (a0 := (41, .inl (fun _ => 0))) (z := 41) rfl (fun _ => rfl) (by decide) rfl (Nat.le_of_ble_eq_true rfl) (n := 41) rfl (by decide +kernel) (ce' := 17) (sl' := 16455) rfl rfl (Nat.le_of_ble_eq_true rfl) (Nat.le_of_ble_eq_true rfl) (Nat.le_of_ble_eq_true rfl) dX5_init_85 (fun q65 c67 X66 => ?_)
  have gb0 := (adU_ne ad61 41 q65 (show (24 : Nat) ≠ 41 by decide)).trans h63
  have gq65 := adU_at ad61 41 q65
  generalize adU ad61 41 q65 = ad68 at gb0 gq65 ⊢
  generalize adU cA62 41 c67 = cA69
  have h70 := gb0
  clear gb0
  have h71 := gq65
  clear gq65
  refine N.putC 24 h70 41 h71 (show isO (YC_43 ++ [(1, 41, .int, [])]) 24 4 17 from ⟨rfl, rfl, rfl⟩) rfl iX5 4 (by decide) k313 tyX5 tyX5_ok nmX5 rfl rfl rfl rfl dX5_init_87 ?_
  refine N.eqY (Y1 := YC_44) rfl ?_
  refine N.aload_n dX5_init_90 rfl 0 rfl ?_
  refine N.iconst (w := 0) dX5_init_91 (by decide) ?_
  refine N.putI 24 h70 (show isO YC_44 24 4 17 from ⟨rfl, rfl, rfl⟩) rfl iX5 5 (by decide) rfl k317 tyX5 tyX5_ok nmX5 rfl rfl rfl dX5_init_92 (fun X72 => ?_)
  refine N.aload_n dX5_init_95 rfl 0 rfl ?_
  refine N.sipush (w := 9080) dX5_init_96 (by decide) ?_
  refine N.newa (atype := .int) (ty := .int) k277 rfl 1 rfl (a0 := (9080, .inl (fun _ => 0))) (z := 9080) rfl (fun _ => rfl) (by decide) rfl (Nat.le_of_ble_eq_true rfl) (n := 42) rfl (by decide +kernel) (ce' := 18) (sl' := 25535) rfl rfl (Nat.le_of_ble_eq_true rfl) (Nat.le_of_ble_eq_true rfl) (Nat.le_of_ble_eq_true rfl) dX5_init_99 (fun q73 c75 X74 => ?_)
  have gb0 := (adU_ne ad68 42 q73 (show (24 : Nat) ≠ 42 by decide)).trans h70
  have gq73 := adU_at ad68 42 q73
  generalize adU ad68 42 q73 = ad76 at gb0 gq73 ⊢
  generalize adU cA69 42 c75 = cA77
  have h78 := gb0
  clear gb0
  have h79 := gq73
  clear gq73
  refine N.putC 24 h78 42 h79 (show isO (YC_44 ++ [(1, 9080, .int, [])]) 24 4 17 from ⟨rfl, rfl, rfl⟩) rfl iX5 13 (by decide) k320 tyX5 tyX5_ok nmX5 rfl rfl rfl rfl dX5_init_101 ?_
  refine N.eqY (Y1 := YC_45) rfl ?_
  refine N.aload_n dX5_init_104 rfl 0 rfl ?_
  refine N.sipush (w := 9080) dX5_init_105 (by decide) ?_
  refine N.newa (atype := .int) (ty := .int) k277 rfl 1 rfl (a0 := (9080, .inl (fun _ => 0))) (z := 9080) rfl (fun _ => rfl) (by decide) rfl (Nat.le_of_ble_eq_true rfl) (n := 43) rfl (by decide +kernel) (ce' := 19) (sl' := 34615) rfl rfl (Nat.le_of_ble_eq_true rfl) (Nat.le_of_ble_eq_true rfl) (Nat.le_of_ble_eq_true rfl) dX5_init_108 (fun q80 c82 X81 => ?_)
  have gb0 := (adU_ne ad76 43 q80 (show (24 : Nat) ≠ 43 by decide)).trans h78
  have gq80 := adU_at ad76 43 q80
  generalize adU ad76 43 q80 = ad83 at gb0 gq80 ⊢
  generalize adU cA77 43 c82 = cA84
  have h85 := gb0
  clear gb0
  have h86 := gq80
  clear gq80
  refine N.putC 24 h85 43 h86 (show isO (YC_45 ++ [(1, 9080, .int, [])]) 24 4 17 from ⟨rfl, rfl, rfl⟩) rfl iX5 14 (by decide) k324 tyX5 tyX5_ok nmX5 rfl rfl rfl rfl dX5_init_110 ?_
  refine N.eqY (Y1 := YC_46) rfl ?_
  refine N.aload_n dX5_init_113 rfl 0 rfl ?_
  refine N.sipush (w := 9080) dX5_init_114 (by decide) ?_
  refine N.newa (atype := .int) (ty := .int) k277 rfl 1 rfl (a0 := (9080, .inl (fun _ => 0))) (z := 9080) rfl (fun _ => rfl) (by decide) rfl (Nat.le_of_ble_eq_true rfl) (n := 44) rfl (by decide +kernel) (ce' := 20) (sl' := 43695) rfl rfl (Nat.le_of_ble_eq_true rfl) (Nat.le_of_ble_eq_true rfl) (Nat.le_of_ble_eq_true rfl) dX5_init_117 (fun q87 c89 X88 => ?_)
  have gb0 := (adU_ne ad83 44 q87 (show (24 : Nat) ≠ 44 by decide)).trans h85
  have gq87 := adU_at ad83 44 q87
  generalize adU ad83 44 q87 = ad90 at gb0 gq87 ⊢
  generalize adU cA84 44 c89 = cA91
  have h92 := gb0
  clear gb0
  have h93 := gq87
  clear gq87
  refine N.putC 24 h92 44 h93 (show isO (YC_46 ++ [(1, 9080, .int, [])]) 24 4 17 from ⟨rfl, rfl, rfl⟩) rfl iX5 15 (by decide) k328 tyX5 tyX5_ok nmX5 rfl rfl rfl rfl dX5_init_119 ?_
  refine N.eqY (Y1 := YC_47) rfl ?_
  refine N.aload_n dX5_init_122 rfl 0 rfl ?_
  refine N.sipush (w := 9080) dX5_init_123 (by decide) ?_
  refine N.newa (atype := .int) (ty := .int) k277 rfl 1 rfl (a0 := (9080, .inl (fun _ => 0))) (z := 9080) rfl (fun _ => rfl) (by decide) rfl (Nat.le_of_ble_eq_true rfl) (n := 45) rfl (by decide +kernel) (ce' := 21) (sl' := 52775) rfl rfl (Nat.le_of_ble_eq_true rfl) (Nat.le_of_ble_eq_true rfl) (Nat.le_of_ble_eq_true rfl) dX5_init_126 (fun q94 c96 X95 => ?_)
  have gb0 := (adU_ne ad90 45 q94 (show (24 : Nat) ≠ 45 by decide)).trans h92
  have gq94 := adU_at ad90 45 q94
  generalize adU ad90 45 q94 = ad97 at gb0 gq94 ⊢
  generalize adU cA91 45 c96 = cA98
  have h99 := gb0
  clear gb0
  have h100 := gq94
  clear gq94
  refine N.putC 24 h99 45 h100 (show isO (YC_47 ++ [(1, 9080, .int, [])]) 24 4 17 from ⟨rfl, rfl, rfl⟩) rfl iX5 16 (by decide) k331 tyX5 tyX5_ok nmX5 rfl rfl rfl rfl dX5_init_128 ?_
  refine N.eqY (Y1 := YC_48) rfl ?_
  refine N.aload_n dX5_init_131 rfl 0 rfl ?_
  refine N.iconst (w := 0) dX5_init_132 (by decide) ?_
  refine N.putI 24 h99 (show isO YC_48 24 4 17 from ⟨rfl, rfl, rfl⟩) rfl iX5 6 (by decide) rfl k335 tyX5 tyX5_ok nmX5 rfl rfl rfl dX5_init_133 (fun X101 => ?_)
  exact N.ret rfl (Nat.le_of_ble_eq_true rfl) (Nat.le_of_ble_eq_true rfl) dX5_init_136
noncomputable def ctor_C_47 (X : St) : Option St :=
  chk (RB X 48 = true) (letV (zE X 48) fun X2 =>
  letV (wR X2 47 0 (48 + 1)) fun X8 =>
  letV (wI X8 47 1 (0)) fun X9 =>
  letV (wI X9 47 2 (0)) fun X10 =>
  letV (wI X10 47 3 (257)) fun X11 =>
  letV (wI X11 47 4 (0)) fun X12 =>
  letV (wL X12 47 5 (0)) fun X13 =>
  letV (wI X13 47 6 (0)) fun X14 =>
  letV (wL X14 47 7 (0)) fun X15 =>
  some X15)
set_option maxHeartbeats 4000000 in
set_option maxRecDepth 100000 in
theorem kctor_C_47 (Λ : Lx) (ad : Nat → Nat) (cA : Nat → ClassId) (X : St) (b0 : Addr) (h0 : ad 47 = b0) : NM Λ yX9_init cX9_init 1 { frames := 1, cells := 1, slots := 0, locals := 12 } [.ref b0] (YC_50, ad, cA, X) YC_51 (ctor_C_47 X) := by
  refine NM.of (by decide) rfl (Nat.le_of_ble_eq_true rfl) rfl ?_
  show N Λ cX9_init 1 "BlameCourt$Tokens" { frames := 1, cells := 1, slots := 0, locals := 12 } _ _ _ 0 [(0, .ref b0)] [] _ 0 0 (ctor_C_47 X)
  unfold ctor_C_47
  refine N.aload_n dX9_init_0 rfl 0 rfl ?_
  refine N.obj k385 k206 k207 dX9_init_1 (Nat.le_of_ble_eq_true rfl) (Nat.le_of_ble_eq_true rfl) ?_
  refine N.aload_n dX9_init_4 rfl 0 rfl ?_
  refine N.iconst (w := 0) dX9_init_5 (by decide) ?_
  refine N.newa (atype := .byte) (ty := .byte) k276 rfl 1 rfl (a0 := (0, .inl (fun _ => 0))) (z := 0) rfl (fun _ => rfl) (by decide) rfl (Nat.le_of_ble_eq_true rfl) (n := 48) rfl (by decide +kernel) (ce' := 1) (sl' := 0) rfl rfl (Nat.le_of_ble_eq_true rfl) (Nat.le_of_ble_eq_true rfl) (Nat.le_of_ble_eq_true rfl) dX9_init_6 (fun q1 c3 X2 => ?_)
  have gb0 := (adU_ne ad 48 q1 (show (47 : Nat) ≠ 48 by decide)).trans h0
  have gq1 := adU_at ad 48 q1
  generalize adU ad 48 q1 = ad4 at gb0 gq1 ⊢
  generalize adU cA 48 c3 = cA5
  have h6 := gb0
  clear gb0
  have h7 := gq1
  clear gq1
  refine N.eqY (Y1 := YC_51) rfl ?_
  refine N.putR 47 h6 48 h7 (show isO YC_51 47 7 8 from ⟨rfl, rfl, rfl⟩) rfl iX9 0 (by decide) rfl k386 tyX9 tyX9_ok nmX9 rfl rfl rfl dX9_init_8 (fun X8 => ?_)
  refine N.aload_n dX9_init_11 rfl 0 rfl ?_
  refine N.iconst (w := 0) dX9_init_12 (by decide) ?_
  refine N.putI 47 h6 (show isO YC_51 47 7 8 from ⟨rfl, rfl, rfl⟩) rfl iX9 1 (by decide) rfl k387 tyX9 tyX9_ok nmX9 rfl rfl rfl dX9_init_13 (fun X9 => ?_)
  refine N.aload_n dX9_init_16 rfl 0 rfl ?_
  refine N.iconst (w := 0) dX9_init_17 (by decide) ?_
  refine N.putI 47 h6 (show isO YC_51 47 7 8 from ⟨rfl, rfl, rfl⟩) rfl iX9 2 (by decide) rfl k388 tyX9 tyX9_ok nmX9 rfl rfl rfl dX9_init_18 (fun X10 => ?_)
  refine N.aload_n dX9_init_21 rfl 0 rfl ?_
  refine N.sipush (w := 257) dX9_init_22 (by decide) ?_
  refine N.putI 47 h6 (show isO YC_51 47 7 8 from ⟨rfl, rfl, rfl⟩) rfl iX9 3 (by decide) rfl k389 tyX9 tyX9_ok nmX9 rfl rfl rfl dX9_init_25 (fun X11 => ?_)
  refine N.aload_n dX9_init_28 rfl 0 rfl ?_
  refine N.iconst (w := 0) dX9_init_29 (by decide) ?_
  refine N.putI 47 h6 (show isO YC_51 47 7 8 from ⟨rfl, rfl, rfl⟩) rfl iX9 4 (by decide) rfl k391 tyX9 tyX9_ok nmX9 rfl rfl rfl dX9_init_30 (fun X12 => ?_)
  refine N.aload_n dX9_init_33 rfl 0 rfl ?_
  refine N.lconst (w := 0) dX9_init_34 (by decide) ?_
  refine N.putL 47 h6 (show isO YC_51 47 7 8 from ⟨rfl, rfl, rfl⟩) rfl iX9 5 (by decide) rfl k393 tyX9 tyX9_ok nmX9 rfl rfl rfl dX9_init_35 (fun X13 => ?_)
  refine N.aload_n dX9_init_38 rfl 0 rfl ?_
  refine N.iconst (w := 0) dX9_init_39 (by decide) ?_
  refine N.putI 47 h6 (show isO YC_51 47 7 8 from ⟨rfl, rfl, rfl⟩) rfl iX9 6 (by decide) rfl k395 tyX9 tyX9_ok nmX9 rfl rfl rfl dX9_init_40 (fun X14 => ?_)
  refine N.aload_n dX9_init_43 rfl 0 rfl ?_
  refine N.lconst (w := 0) dX9_init_44 (by decide) ?_
  refine N.putL 47 h6 (show isO YC_51 47 7 8 from ⟨rfl, rfl, rfl⟩) rfl iX9 7 (by decide) rfl k397 tyX9 tyX9_ok nmX9 rfl rfl rfl dX9_init_45 (fun X15 => ?_)
  exact N.ret rfl (Nat.le_of_ble_eq_true rfl) (Nat.le_of_ble_eq_true rfl) dX9_init_48
noncomputable def ctor_C_46 (X : St) : Option St :=
  chk (RB X 47 = true) (letV (zE X 47) fun X2 =>
  bndN (ctor_C_47 X2) fun X11 =>
  letV (wR X11 46 1 0) fun X14 =>
  letV (wI X14 46 2 (0)) fun X15 =>
  letV (wI X15 46 3 (0)) fun X16 =>
  letV (wI X16 46 4 ((-1))) fun X17 =>
  chk (RB X17 49 = true) (letV (zE X17 49) fun X19 =>
  chk (RB X19 50 = true) (letV (zE X19 50) fun X26 =>
  letV (wI X26 46 9 (0)) fun X32 =>
  chk (RB X32 51 = true) (letV (zE X32 51) fun X34 =>
  chk (RB X34 52 = true) (letV (zE X34 52) fun X41 =>
  chk (RB X41 53 = true) (letV (zE X41 53) fun X48 =>
  letV (wI X48 46 5 (0)) fun X54 =>
  chk (RB X54 54 = true) (letV (zE X54 54) fun X56 =>
  letV (wI X56 46 6 (0)) fun X62 =>
  some X62)))))))
set_option maxHeartbeats 4000000 in
set_option maxRecDepth 100000 in
theorem kctor_C_46 (Λ : Lx) (ad : Nat → Nat) (cA : Nat → ClassId) (X : St) (b0 : Addr) (h0 : ad 46 = b0) : NM Λ yX6_init cX6_init 1 { frames := 2, cells := 8, slots := 634, locals := 32 } [.ref b0] (YC_49, ad, cA, X) YC_58 (ctor_C_46 X) := by
  refine NM.of (by decide) rfl (Nat.le_of_ble_eq_true rfl) rfl ?_
  show N Λ cX6_init 1 "BlameCourt$Reade\x72" { frames := 2, cells := 8, slots := 634, locals := 32 } _ _ _ 0 [(0, .ref b0)] [] _ 0 0 (ctor_C_46 X)
  unfold ctor_C_46
  refine N.aload_n dX6_init_0 rfl 0 rfl ?_
  refine N.obj k379 k206 k207 dX6_init_1 (Nat.le_of_ble_eq_true rfl) (Nat.le_of_ble_eq_true rfl) ?_
  refine N.aload_n dX6_init_4 rfl 0 rfl ?_
  refine N.new (ci := 7) iX9 tyX9 tyX9_ok k380 k381 k192 rfl [2, 0, 0, 0, 0, 1, 0, 1] rfl (fs := [.null, .int 0, .int 0, .int 0, .int 0, .long 0, .int 0, .long 0]) (hfs_of dfX9_ok) rfl rfl (n := 47) rfl (by decide +kernel) (ce' := 1) (sl' := 8) rfl rfl (Nat.le_of_ble_eq_true rfl) (Nat.le_of_ble_eq_true rfl) (Nat.le_of_ble_eq_true rfl) dX6_init_5 (fun q1 c3 X2 => ?_)
  have gb0 := (adU_ne ad 47 q1 (show (46 : Nat) ≠ 47 by decide)).trans h0
  have gq1 := adU_at ad 47 q1
  generalize adU ad 47 q1 = ad4 at gb0 gq1 ⊢
  generalize adU cA 47 c3 = cA5
  have h6 := gb0
  clear gb0
  have h7 := gq1
  clear gq1
  refine N.eqY (Y1 := YC_50) rfl ?_
  refine N.dupr dX6_init_8 ?_
  refine N.ctor 47 h7 (rest := [.ref q1, .ref b0]) (As1 := []) (kctor_C_47 Λ ad4 cA5 X2 q1 h7) ka_X9_init k383 rfl (Or.inr n382) rfl rfl ⟨(Nat.le_of_ble_eq_true rfl), (Nat.le_of_ble_eq_true rfl)⟩ (Nat.le_of_ble_eq_true rfl) (ce' := 2) (sl' := 8) rfl rfl ⟨(Nat.le_of_ble_eq_true rfl), (Nat.le_of_ble_eq_true rfl)⟩ dX6_init_9 (fun ad8 cA9 hx10 X11 => ?_) (Nat.le_of_ble_eq_true rfl)
  have h12 := (hx10 46 (by decide)).trans h6
  have h13 := (hx10 47 (by decide)).trans h7
  refine N.putC 46 h12 47 h13 (show isO YC_51 46 5 14 from ⟨rfl, rfl, rfl⟩) rfl iX6 0 (by decide) k416 tyX6 tyX6_ok nmX6 rfl rfl rfl rfl dX6_init_12 ?_
  refine N.eqY (Y1 := YC_52) rfl ?_
  refine N.aload_n dX6_init_15 rfl 0 rfl ?_
  refine N.null dX6_init_16 ?_
  refine N.putN 46 h12 (show isO YC_52 46 5 14 from ⟨rfl, rfl, rfl⟩) rfl iX6 1 (by decide) rfl k417 tyX6 tyX6_ok nmX6 rfl rfl rfl dX6_init_17 (fun X14 => ?_)
  refine N.aload_n dX6_init_20 rfl 0 rfl ?_
  refine N.iconst (w := 0) dX6_init_21 (by decide) ?_
  refine N.putI 46 h12 (show isO YC_52 46 5 14 from ⟨rfl, rfl, rfl⟩) rfl iX6 2 (by decide) rfl k418 tyX6 tyX6_ok nmX6 rfl rfl rfl dX6_init_22 (fun X15 => ?_)
  refine N.aload_n dX6_init_25 rfl 0 rfl ?_
  refine N.iconst (w := 0) dX6_init_26 (by decide) ?_
  refine N.putI 46 h12 (show isO YC_52 46 5 14 from ⟨rfl, rfl, rfl⟩) rfl iX6 3 (by decide) rfl k419 tyX6 tyX6_ok nmX6 rfl rfl rfl dX6_init_27 (fun X16 => ?_)
  refine N.aload_n dX6_init_30 rfl 0 rfl ?_
  refine N.iconst (w := (-1)) dX6_init_31 (by decide) ?_
  refine N.putI 46 h12 (show isO YC_52 46 5 14 from ⟨rfl, rfl, rfl⟩) rfl iX6 4 (by decide) rfl k421 tyX6 tyX6_ok nmX6 rfl rfl rfl dX6_init_32 (fun X17 => ?_)
  refine N.aload_n dX6_init_35 rfl 0 rfl ?_
  refine N.bipush (w := 40) dX6_init_36 (by decide) ?_
  refine N.newa (atype := .int) (ty := .int) k277 rfl 1 rfl (a0 := (40, .inl (fun _ => 0))) (z := 40) rfl (fun _ => rfl) (by decide) rfl (Nat.le_of_ble_eq_true rfl) (n := 49) rfl (by decide +kernel) (ce' := 3) (sl' := 48) rfl rfl (Nat.le_of_ble_eq_true rfl) (Nat.le_of_ble_eq_true rfl) (Nat.le_of_ble_eq_true rfl) dX6_init_38 (fun q18 c20 X19 => ?_)
  have gb0 := (adU_ne ad8 49 q18 (show (46 : Nat) ≠ 49 by decide)).trans h12
  have gq18 := adU_at ad8 49 q18
  generalize adU ad8 49 q18 = ad21 at gb0 gq18 ⊢
  generalize adU cA9 49 c20 = cA22
  have h23 := gb0
  clear gb0
  have h24 := gq18
  clear gq18
  refine N.putC 46 h23 49 h24 (show isO (YC_52 ++ [(1, 40, .int, [])]) 46 5 14 from ⟨rfl, rfl, rfl⟩) rfl iX6 7 (by decide) k423 tyX6 tyX6_ok nmX6 rfl rfl rfl rfl dX6_init_40 ?_
  refine N.eqY (Y1 := YC_53) rfl ?_
  refine N.aload_n dX6_init_43 rfl 0 rfl ?_
  refine N.bipush (w := 44) dX6_init_44 (by decide) ?_
  refine N.newa (atype := .long) (ty := .long) k373 rfl 2 rfl (a0 := (44, .inr (.inl (fun _ => 0)))) (z := 44) rfl (fun _ => rfl) (by decide) rfl (Nat.le_of_ble_eq_true rfl) (n := 50) rfl (by decide +kernel) (ce' := 4) (sl' := 92) rfl rfl (Nat.le_of_ble_eq_true rfl) (Nat.le_of_ble_eq_true rfl) (Nat.le_of_ble_eq_true rfl) dX6_init_46 (fun q25 c27 X26 => ?_)
  have gb0 := (adU_ne ad21 50 q25 (show (46 : Nat) ≠ 50 by decide)).trans h23
  have gq25 := adU_at ad21 50 q25
  generalize adU ad21 50 q25 = ad28 at gb0 gq25 ⊢
  generalize adU cA22 50 c27 = cA29
  have h30 := gb0
  clear gb0
  have h31 := gq25
  clear gq25
  refine N.putC 46 h30 50 h31 (show isO (YC_53 ++ [(2, 44, .long, [])]) 46 5 14 from ⟨rfl, rfl, rfl⟩) rfl iX6 8 (by decide) k424 tyX6 tyX6_ok nmX6 rfl rfl rfl rfl dX6_init_48 ?_
  refine N.eqY (Y1 := YC_54) rfl ?_
  refine N.aload_n dX6_init_51 rfl 0 rfl ?_
  refine N.iconst (w := 0) dX6_init_52 (by decide) ?_
  refine N.putI 46 h30 (show isO YC_54 46 5 14 from ⟨rfl, rfl, rfl⟩) rfl iX6 9 (by decide) rfl k425 tyX6 tyX6_ok nmX6 rfl rfl rfl dX6_init_53 (fun X32 => ?_)
  refine N.aload_n dX6_init_56 rfl 0 rfl ?_
  refine N.bipush (w := 126) dX6_init_57 (by decide) ?_
  refine N.newa (atype := .int) (ty := .int) k277 rfl 1 rfl (a0 := (126, .inl (fun _ => 0))) (z := 126) rfl (fun _ => rfl) (by decide) rfl (Nat.le_of_ble_eq_true rfl) (n := 51) rfl (by decide +kernel) (ce' := 5) (sl' := 218) rfl rfl (Nat.le_of_ble_eq_true rfl) (Nat.le_of_ble_eq_true rfl) (Nat.le_of_ble_eq_true rfl) dX6_init_59 (fun q33 c35 X34 => ?_)
  have gb0 := (adU_ne ad28 51 q33 (show (46 : Nat) ≠ 51 by decide)).trans h30
  have gq33 := adU_at ad28 51 q33
  generalize adU ad28 51 q33 = ad36 at gb0 gq33 ⊢
  generalize adU cA29 51 c35 = cA37
  have h38 := gb0
  clear gb0
  have h39 := gq33
  clear gq33
  refine N.putC 46 h38 51 h39 (show isO (YC_54 ++ [(1, 126, .int, [])]) 46 5 14 from ⟨rfl, rfl, rfl⟩) rfl iX6 10 (by decide) k426 tyX6 tyX6_ok nmX6 rfl rfl rfl rfl dX6_init_61 ?_
  refine N.eqY (Y1 := YC_55) rfl ?_
  refine N.aload_n dX6_init_64 rfl 0 rfl ?_
  refine N.bipush (w := 126) dX6_init_65 (by decide) ?_
  refine N.newa (atype := .int) (ty := .int) k277 rfl 1 rfl (a0 := (126, .inl (fun _ => 0))) (z := 126) rfl (fun _ => rfl) (by decide) rfl (Nat.le_of_ble_eq_true rfl) (n := 52) rfl (by decide +kernel) (ce' := 6) (sl' := 344) rfl rfl (Nat.le_of_ble_eq_true rfl) (Nat.le_of_ble_eq_true rfl) (Nat.le_of_ble_eq_true rfl) dX6_init_67 (fun q40 c42 X41 => ?_)
  have gb0 := (adU_ne ad36 52 q40 (show (46 : Nat) ≠ 52 by decide)).trans h38
  have gq40 := adU_at ad36 52 q40
  generalize adU ad36 52 q40 = ad43 at gb0 gq40 ⊢
  generalize adU cA37 52 c42 = cA44
  have h45 := gb0
  clear gb0
  have h46 := gq40
  clear gq40
  refine N.putC 46 h45 52 h46 (show isO (YC_55 ++ [(1, 126, .int, [])]) 46 5 14 from ⟨rfl, rfl, rfl⟩) rfl iX6 11 (by decide) k427 tyX6 tyX6_ok nmX6 rfl rfl rfl rfl dX6_init_69 ?_
  refine N.eqY (Y1 := YC_56) rfl ?_
  refine N.aload_n dX6_init_72 rfl 0 rfl ?_
  refine N.bipush (w := 126) dX6_init_73 (by decide) ?_
  refine N.newa (atype := .int) (ty := .int) k277 rfl 1 rfl (a0 := (126, .inl (fun _ => 0))) (z := 126) rfl (fun _ => rfl) (by decide) rfl (Nat.le_of_ble_eq_true rfl) (n := 53) rfl (by decide +kernel) (ce' := 7) (sl' := 470) rfl rfl (Nat.le_of_ble_eq_true rfl) (Nat.le_of_ble_eq_true rfl) (Nat.le_of_ble_eq_true rfl) dX6_init_75 (fun q47 c49 X48 => ?_)
  have gb0 := (adU_ne ad43 53 q47 (show (46 : Nat) ≠ 53 by decide)).trans h45
  have gq47 := adU_at ad43 53 q47
  generalize adU ad43 53 q47 = ad50 at gb0 gq47 ⊢
  generalize adU cA44 53 c49 = cA51
  have h52 := gb0
  clear gb0
  have h53 := gq47
  clear gq47
  refine N.putC 46 h52 53 h53 (show isO (YC_56 ++ [(1, 126, .int, [])]) 46 5 14 from ⟨rfl, rfl, rfl⟩) rfl iX6 12 (by decide) k428 tyX6 tyX6_ok nmX6 rfl rfl rfl rfl dX6_init_77 ?_
  refine N.eqY (Y1 := YC_57) rfl ?_
  refine N.aload_n dX6_init_80 rfl 0 rfl ?_
  refine N.iconst (w := 0) dX6_init_81 (by decide) ?_
  refine N.putI 46 h52 (show isO YC_57 46 5 14 from ⟨rfl, rfl, rfl⟩) rfl iX6 5 (by decide) rfl k429 tyX6 tyX6_ok nmX6 rfl rfl rfl dX6_init_82 (fun X54 => ?_)
  refine N.aload_n dX6_init_85 rfl 0 rfl ?_
  refine N.sipush (w := 164) dX6_init_86 (by decide) ?_
  refine N.newa (atype := .int) (ty := .int) k277 rfl 1 rfl (a0 := (164, .inl (fun _ => 0))) (z := 164) rfl (fun _ => rfl) (by decide) rfl (Nat.le_of_ble_eq_true rfl) (n := 54) rfl (by decide +kernel) (ce' := 8) (sl' := 634) rfl rfl (Nat.le_of_ble_eq_true rfl) (Nat.le_of_ble_eq_true rfl) (Nat.le_of_ble_eq_true rfl) dX6_init_89 (fun q55 c57 X56 => ?_)
  have gb0 := (adU_ne ad50 54 q55 (show (46 : Nat) ≠ 54 by decide)).trans h52
  have gq55 := adU_at ad50 54 q55
  generalize adU ad50 54 q55 = ad58 at gb0 gq55 ⊢
  generalize adU cA51 54 c57 = cA59
  have h60 := gb0
  clear gb0
  have h61 := gq55
  clear gq55
  refine N.putC 46 h60 54 h61 (show isO (YC_57 ++ [(1, 164, .int, [])]) 46 5 14 from ⟨rfl, rfl, rfl⟩) rfl iX6 13 (by decide) k430 tyX6 tyX6_ok nmX6 rfl rfl rfl rfl dX6_init_91 ?_
  refine N.eqY (Y1 := YC_58) rfl ?_
  refine N.aload_n dX6_init_94 rfl 0 rfl ?_
  refine N.iconst (w := 0) dX6_init_95 (by decide) ?_
  refine N.putI 46 h60 (show isO YC_58 46 5 14 from ⟨rfl, rfl, rfl⟩) rfl iX6 6 (by decide) rfl k431 tyX6 tyX6_ok nmX6 rfl rfl rfl dX6_init_96 (fun X62 => ?_)
  exact N.ret rfl (Nat.le_of_ble_eq_true rfl) (Nat.le_of_ble_eq_true rfl) dX6_init_99
noncomputable def ctor_C_55 (X : St) : Option St :=
  chk (RB X 56 = true) (letV (zE X 56) fun X2 =>
  chk (RB X2 57 = true) (letV (zE X2 57) fun X9 =>
  chk (RB X9 58 = true) (letV (zE X9 58) fun X16 =>
  chk (RB X16 59 = true) (letV (zE X16 59) fun X23 =>
  chk (RB X23 60 = true) (letV (zE X23 60) fun X30 =>
  letV (wI X30 55 5 (0)) fun X36 =>
  some X36)))))
set_option maxHeartbeats 4000000 in
set_option maxRecDepth 100000 in
theorem kctor_C_55 (Λ : Lx) (ad : Nat → Nat) (cA : Nat → ClassId) (X : St) (b0 : Addr) (h0 : ad 55 = b0) : NM Λ yX0_init cX0_init 1 { frames := 1, cells := 5, slots := 15000, locals := 12 } [.ref b0] (YC_60, ad, cA, X) YC_65 (ctor_C_55 X) := by
  refine NM.of (by decide) rfl (Nat.le_of_ble_eq_true rfl) rfl ?_
  show N Λ cX0_init 1 "BlameCourt$Guards" { frames := 1, cells := 5, slots := 15000, locals := 12 } _ _ _ 0 [(0, .ref b0)] [] _ 0 0 (ctor_C_55 X)
  unfold ctor_C_55
  refine N.aload_n dX0_init_0 rfl 0 rfl ?_
  refine N.obj k466 k206 k207 dX0_init_1 (Nat.le_of_ble_eq_true rfl) (Nat.le_of_ble_eq_true rfl) ?_
  refine N.aload_n dX0_init_4 rfl 0 rfl ?_
  refine N.sipush (w := 3000) dX0_init_5 (by decide) ?_
  refine N.newa (atype := .int) (ty := .int) k277 rfl 1 rfl (a0 := (3000, .inl (fun _ => 0))) (z := 3000) rfl (fun _ => rfl) (by decide) rfl (Nat.le_of_ble_eq_true rfl) (n := 56) rfl (by decide +kernel) (ce' := 1) (sl' := 3000) rfl rfl (Nat.le_of_ble_eq_true rfl) (Nat.le_of_ble_eq_true rfl) (Nat.le_of_ble_eq_true rfl) dX0_init_8 (fun q1 c3 X2 => ?_)
  have gb0 := (adU_ne ad 56 q1 (show (55 : Nat) ≠ 56 by decide)).trans h0
  have gq1 := adU_at ad 56 q1
  generalize adU ad 56 q1 = ad4 at gb0 gq1 ⊢
  generalize adU cA 56 c3 = cA5
  have h6 := gb0
  clear gb0
  have h7 := gq1
  clear gq1
  refine N.putC 55 h6 56 h7 (show isO (YC_60 ++ [(1, 3000, .int, [])]) 55 0 6 from ⟨rfl, rfl, rfl⟩) rfl iX0 0 (by decide) k467 tyX0 tyX0_ok nmX0 rfl rfl rfl rfl dX0_init_10 ?_
  refine N.eqY (Y1 := YC_61) rfl ?_
  refine N.aload_n dX0_init_13 rfl 0 rfl ?_
  refine N.sipush (w := 3000) dX0_init_14 (by decide) ?_
  refine N.newa (atype := .int) (ty := .int) k277 rfl 1 rfl (a0 := (3000, .inl (fun _ => 0))) (z := 3000) rfl (fun _ => rfl) (by decide) rfl (Nat.le_of_ble_eq_true rfl) (n := 57) rfl (by decide +kernel) (ce' := 2) (sl' := 6000) rfl rfl (Nat.le_of_ble_eq_true rfl) (Nat.le_of_ble_eq_true rfl) (Nat.le_of_ble_eq_true rfl) dX0_init_17 (fun q8 c10 X9 => ?_)
  have gb0 := (adU_ne ad4 57 q8 (show (55 : Nat) ≠ 57 by decide)).trans h6
  have gq8 := adU_at ad4 57 q8
  generalize adU ad4 57 q8 = ad11 at gb0 gq8 ⊢
  generalize adU cA5 57 c10 = cA12
  have h13 := gb0
  clear gb0
  have h14 := gq8
  clear gq8
  refine N.putC 55 h13 57 h14 (show isO (YC_61 ++ [(1, 3000, .int, [])]) 55 0 6 from ⟨rfl, rfl, rfl⟩) rfl iX0 1 (by decide) k470 tyX0 tyX0_ok nmX0 rfl rfl rfl rfl dX0_init_19 ?_
  refine N.eqY (Y1 := YC_62) rfl ?_
  refine N.aload_n dX0_init_22 rfl 0 rfl ?_
  refine N.sipush (w := 3000) dX0_init_23 (by decide) ?_
  refine N.newa (atype := .int) (ty := .int) k277 rfl 1 rfl (a0 := (3000, .inl (fun _ => 0))) (z := 3000) rfl (fun _ => rfl) (by decide) rfl (Nat.le_of_ble_eq_true rfl) (n := 58) rfl (by decide +kernel) (ce' := 3) (sl' := 9000) rfl rfl (Nat.le_of_ble_eq_true rfl) (Nat.le_of_ble_eq_true rfl) (Nat.le_of_ble_eq_true rfl) dX0_init_26 (fun q15 c17 X16 => ?_)
  have gb0 := (adU_ne ad11 58 q15 (show (55 : Nat) ≠ 58 by decide)).trans h13
  have gq15 := adU_at ad11 58 q15
  generalize adU ad11 58 q15 = ad18 at gb0 gq15 ⊢
  generalize adU cA12 58 c17 = cA19
  have h20 := gb0
  clear gb0
  have h21 := gq15
  clear gq15
  refine N.putC 55 h20 58 h21 (show isO (YC_62 ++ [(1, 3000, .int, [])]) 55 0 6 from ⟨rfl, rfl, rfl⟩) rfl iX0 2 (by decide) k473 tyX0 tyX0_ok nmX0 rfl rfl rfl rfl dX0_init_28 ?_
  refine N.eqY (Y1 := YC_63) rfl ?_
  refine N.aload_n dX0_init_31 rfl 0 rfl ?_
  refine N.sipush (w := 3000) dX0_init_32 (by decide) ?_
  refine N.newa (atype := .int) (ty := .int) k277 rfl 1 rfl (a0 := (3000, .inl (fun _ => 0))) (z := 3000) rfl (fun _ => rfl) (by decide) rfl (Nat.le_of_ble_eq_true rfl) (n := 59) rfl (by decide +kernel) (ce' := 4) (sl' := 12000) rfl rfl (Nat.le_of_ble_eq_true rfl) (Nat.le_of_ble_eq_true rfl) (Nat.le_of_ble_eq_true rfl) dX0_init_35 (fun q22 c24 X23 => ?_)
  have gb0 := (adU_ne ad18 59 q22 (show (55 : Nat) ≠ 59 by decide)).trans h20
  have gq22 := adU_at ad18 59 q22
  generalize adU ad18 59 q22 = ad25 at gb0 gq22 ⊢
  generalize adU cA19 59 c24 = cA26
  have h27 := gb0
  clear gb0
  have h28 := gq22
  clear gq22
  refine N.putC 55 h27 59 h28 (show isO (YC_63 ++ [(1, 3000, .int, [])]) 55 0 6 from ⟨rfl, rfl, rfl⟩) rfl iX0 3 (by decide) k476 tyX0 tyX0_ok nmX0 rfl rfl rfl rfl dX0_init_37 ?_
  refine N.eqY (Y1 := YC_64) rfl ?_
  refine N.aload_n dX0_init_40 rfl 0 rfl ?_
  refine N.sipush (w := 3000) dX0_init_41 (by decide) ?_
  refine N.newa (atype := .int) (ty := .int) k277 rfl 1 rfl (a0 := (3000, .inl (fun _ => 0))) (z := 3000) rfl (fun _ => rfl) (by decide) rfl (Nat.le_of_ble_eq_true rfl) (n := 60) rfl (by decide +kernel) (ce' := 5) (sl' := 15000) rfl rfl (Nat.le_of_ble_eq_true rfl) (Nat.le_of_ble_eq_true rfl) (Nat.le_of_ble_eq_true rfl) dX0_init_44 (fun q29 c31 X30 => ?_)
  have gb0 := (adU_ne ad25 60 q29 (show (55 : Nat) ≠ 60 by decide)).trans h27
  have gq29 := adU_at ad25 60 q29
  generalize adU ad25 60 q29 = ad32 at gb0 gq29 ⊢
  generalize adU cA26 60 c31 = cA33
  have h34 := gb0
  clear gb0
  have h35 := gq29
  clear gq29
  refine N.putC 55 h34 60 h35 (show isO (YC_64 ++ [(1, 3000, .int, [])]) 55 0 6 from ⟨rfl, rfl, rfl⟩) rfl iX0 4 (by decide) k479 tyX0 tyX0_ok nmX0 rfl rfl rfl rfl dX0_init_46 ?_
  refine N.eqY (Y1 := YC_65) rfl ?_
  refine N.aload_n dX0_init_49 rfl 0 rfl ?_
  refine N.iconst (w := 0) dX0_init_50 (by decide) ?_
  refine N.putI 55 h34 (show isO YC_65 55 0 6 from ⟨rfl, rfl, rfl⟩) rfl iX0 5 (by decide) rfl k482 tyX0 tyX0_ok nmX0 rfl rfl rfl dX0_init_51 (fun X36 => ?_)
  exact N.ret rfl (Nat.le_of_ble_eq_true rfl) (Nat.le_of_ble_eq_true rfl) dX0_init_54
noncomputable def ctor_C_61 (X : St) : Option St :=
  letV (wR X 61 0 0) fun X1 =>
  letV (wR X1 61 1 0) fun X2 =>
  letV (wR X2 61 2 0) fun X3 =>
  letV (wI X3 61 3 (0)) fun X4 =>
  letV (wI X4 61 4 (0)) fun X5 =>
  letV (wI X5 61 5 ((-1))) fun X6 =>
  chk (RB X6 62 = true) (letV (zE X6 62) fun X8 =>
  chk (RB X8 63 = true) (letV (zE X8 63) fun X15 =>
  chk (RB X15 64 = true) (letV (zE X15 64) fun X22 =>
  chk (RB X22 65 = true) (letV (zE X22 65) fun X29 =>
  chk (RB X29 66 = true) (letV (zE X29 66) fun X36 =>
  chk (RB X36 67 = true) (letV (zE X36 67) fun X43 =>
  chk (RB X43 68 = true) (letV (zE X43 68) fun X50 =>
  chk (RB X50 69 = true) (letV (zE X50 69) fun X57 =>
  letV (wI X57 61 14 (0)) fun X63 =>
  some X63))))))))
set_option maxHeartbeats 4000000 in
set_option maxRecDepth 100000 in
theorem kctor_C_61 (Λ : Lx) (ad : Nat → Nat) (cA : Nat → ClassId) (X : St) (b0 : Addr) (h0 : ad 61 = b0) : NM Λ yX2_init cX2_init 1 { frames := 1, cells := 8, slots := 9324, locals := 12 } [.ref b0] (YC_67, ad, cA, X) YC_75 (ctor_C_61 X) := by
  refine NM.of (by decide) rfl (Nat.le_of_ble_eq_true rfl) rfl ?_
  show N Λ cX2_init 1 "BlameCourt$Judging" { frames := 1, cells := 8, slots := 9324, locals := 12 } _ _ _ 0 [(0, .ref b0)] [] _ 0 0 (ctor_C_61 X)
  unfold ctor_C_61
  refine N.aload_n dX2_init_0 rfl 0 rfl ?_
  refine N.obj k504 k206 k207 dX2_init_1 (Nat.le_of_ble_eq_true rfl) (Nat.le_of_ble_eq_true rfl) ?_
  refine N.aload_n dX2_init_4 rfl 0 rfl ?_
  refine N.null dX2_init_5 ?_
  refine N.putN 61 h0 (show isO YC_67 61 2 15 from ⟨rfl, rfl, rfl⟩) rfl iX2 0 (by decide) rfl k505 tyX2 tyX2_ok nmX2 rfl rfl rfl dX2_init_6 (fun X1 => ?_)
  refine N.aload_n dX2_init_9 rfl 0 rfl ?_
  refine N.null dX2_init_10 ?_
  refine N.putN 61 h0 (show isO YC_67 61 2 15 from ⟨rfl, rfl, rfl⟩) rfl iX2 1 (by decide) rfl k506 tyX2 tyX2_ok nmX2 rfl rfl rfl dX2_init_11 (fun X2 => ?_)
  refine N.aload_n dX2_init_14 rfl 0 rfl ?_
  refine N.null dX2_init_15 ?_
  refine N.putN 61 h0 (show isO YC_67 61 2 15 from ⟨rfl, rfl, rfl⟩) rfl iX2 2 (by decide) rfl k507 tyX2 tyX2_ok nmX2 rfl rfl rfl dX2_init_16 (fun X3 => ?_)
  refine N.aload_n dX2_init_19 rfl 0 rfl ?_
  refine N.iconst (w := 0) dX2_init_20 (by decide) ?_
  refine N.putI 61 h0 (show isO YC_67 61 2 15 from ⟨rfl, rfl, rfl⟩) rfl iX2 3 (by decide) rfl k508 tyX2 tyX2_ok nmX2 rfl rfl rfl dX2_init_21 (fun X4 => ?_)
  refine N.aload_n dX2_init_24 rfl 0 rfl ?_
  refine N.iconst (w := 0) dX2_init_25 (by decide) ?_
  refine N.putI 61 h0 (show isO YC_67 61 2 15 from ⟨rfl, rfl, rfl⟩) rfl iX2 4 (by decide) rfl k509 tyX2 tyX2_ok nmX2 rfl rfl rfl dX2_init_26 (fun X5 => ?_)
  refine N.aload_n dX2_init_29 rfl 0 rfl ?_
  refine N.iconst (w := (-1)) dX2_init_30 (by decide) ?_
  refine N.putI 61 h0 (show isO YC_67 61 2 15 from ⟨rfl, rfl, rfl⟩) rfl iX2 5 (by decide) rfl k511 tyX2 tyX2_ok nmX2 rfl rfl rfl dX2_init_31 (fun X6 => ?_)
  refine N.aload_n dX2_init_34 rfl 0 rfl ?_
  refine N.bipush (w := 40) dX2_init_35 (by decide) ?_
  refine N.newa (atype := .boolean) (ty := .boolean) k278 rfl 1 rfl (a0 := (40, .inl (fun _ => 0))) (z := 40) rfl (fun _ => rfl) (by decide) rfl (Nat.le_of_ble_eq_true rfl) (n := 62) rfl (by decide +kernel) (ce' := 1) (sl' := 40) rfl rfl (Nat.le_of_ble_eq_true rfl) (Nat.le_of_ble_eq_true rfl) (Nat.le_of_ble_eq_true rfl) dX2_init_37 (fun q7 c9 X8 => ?_)
  have gb0 := (adU_ne ad 62 q7 (show (61 : Nat) ≠ 62 by decide)).trans h0
  have gq7 := adU_at ad 62 q7
  generalize adU ad 62 q7 = ad10 at gb0 gq7 ⊢
  generalize adU cA 62 c9 = cA11
  have h12 := gb0
  clear gb0
  have h13 := gq7
  clear gq7
  refine N.putC 61 h12 62 h13 (show isO (YC_67 ++ [(1, 40, .boolean, [])]) 61 2 15 from ⟨rfl, rfl, rfl⟩) rfl iX2 6 (by decide) k513 tyX2 tyX2_ok nmX2 rfl rfl rfl rfl dX2_init_39 ?_
  refine N.eqY (Y1 := YC_68) rfl ?_
  refine N.aload_n dX2_init_42 rfl 0 rfl ?_
  refine N.sipush (w := 160) dX2_init_43 (by decide) ?_
  refine N.newa (atype := .int) (ty := .int) k277 rfl 1 rfl (a0 := (160, .inl (fun _ => 0))) (z := 160) rfl (fun _ => rfl) (by decide) rfl (Nat.le_of_ble_eq_true rfl) (n := 63) rfl (by decide +kernel) (ce' := 2) (sl' := 200) rfl rfl (Nat.le_of_ble_eq_true rfl) (Nat.le_of_ble_eq_true rfl) (Nat.le_of_ble_eq_true rfl) dX2_init_46 (fun q14 c16 X15 => ?_)
  have gb0 := (adU_ne ad10 63 q14 (show (61 : Nat) ≠ 63 by decide)).trans h12
  have gq14 := adU_at ad10 63 q14
  generalize adU ad10 63 q14 = ad17 at gb0 gq14 ⊢
  generalize adU cA11 63 c16 = cA18
  have h19 := gb0
  clear gb0
  have h20 := gq14
  clear gq14
  refine N.putC 61 h19 63 h20 (show isO (YC_68 ++ [(1, 160, .int, [])]) 61 2 15 from ⟨rfl, rfl, rfl⟩) rfl iX2 7 (by decide) k515 tyX2 tyX2_ok nmX2 rfl rfl rfl rfl dX2_init_48 ?_
  refine N.eqY (Y1 := YC_69) rfl ?_
  refine N.aload_n dX2_init_51 rfl 0 rfl ?_
  refine N.bipush (w := 40) dX2_init_52 (by decide) ?_
  refine N.newa (atype := .int) (ty := .int) k277 rfl 1 rfl (a0 := (40, .inl (fun _ => 0))) (z := 40) rfl (fun _ => rfl) (by decide) rfl (Nat.le_of_ble_eq_true rfl) (n := 64) rfl (by decide +kernel) (ce' := 3) (sl' := 240) rfl rfl (Nat.le_of_ble_eq_true rfl) (Nat.le_of_ble_eq_true rfl) (Nat.le_of_ble_eq_true rfl) dX2_init_54 (fun q21 c23 X22 => ?_)
  have gb0 := (adU_ne ad17 64 q21 (show (61 : Nat) ≠ 64 by decide)).trans h19
  have gq21 := adU_at ad17 64 q21
  generalize adU ad17 64 q21 = ad24 at gb0 gq21 ⊢
  generalize adU cA18 64 c23 = cA25
  have h26 := gb0
  clear gb0
  have h27 := gq21
  clear gq21
  refine N.putC 61 h26 64 h27 (show isO (YC_69 ++ [(1, 40, .int, [])]) 61 2 15 from ⟨rfl, rfl, rfl⟩) rfl iX2 8 (by decide) k516 tyX2 tyX2_ok nmX2 rfl rfl rfl rfl dX2_init_56 ?_
  refine N.eqY (Y1 := YC_70) rfl ?_
  refine N.aload_n dX2_init_59 rfl 0 rfl ?_
  refine N.bipush (w := 40) dX2_init_60 (by decide) ?_
  refine N.newa (atype := .int) (ty := .int) k277 rfl 1 rfl (a0 := (40, .inl (fun _ => 0))) (z := 40) rfl (fun _ => rfl) (by decide) rfl (Nat.le_of_ble_eq_true rfl) (n := 65) rfl (by decide +kernel) (ce' := 4) (sl' := 280) rfl rfl (Nat.le_of_ble_eq_true rfl) (Nat.le_of_ble_eq_true rfl) (Nat.le_of_ble_eq_true rfl) dX2_init_62 (fun q28 c30 X29 => ?_)
  have gb0 := (adU_ne ad24 65 q28 (show (61 : Nat) ≠ 65 by decide)).trans h26
  have gq28 := adU_at ad24 65 q28
  generalize adU ad24 65 q28 = ad31 at gb0 gq28 ⊢
  generalize adU cA25 65 c30 = cA32
  have h33 := gb0
  clear gb0
  have h34 := gq28
  clear gq28
  refine N.putC 61 h33 65 h34 (show isO (YC_70 ++ [(1, 40, .int, [])]) 61 2 15 from ⟨rfl, rfl, rfl⟩) rfl iX2 9 (by decide) k517 tyX2 tyX2_ok nmX2 rfl rfl rfl rfl dX2_init_64 ?_
  refine N.eqY (Y1 := YC_71) rfl ?_
  refine N.aload_n dX2_init_67 rfl 0 rfl ?_
  refine N.bipush (w := 44) dX2_init_68 (by decide) ?_
  refine N.newa (atype := .int) (ty := .int) k277 rfl 1 rfl (a0 := (44, .inl (fun _ => 0))) (z := 44) rfl (fun _ => rfl) (by decide) rfl (Nat.le_of_ble_eq_true rfl) (n := 66) rfl (by decide +kernel) (ce' := 5) (sl' := 324) rfl rfl (Nat.le_of_ble_eq_true rfl) (Nat.le_of_ble_eq_true rfl) (Nat.le_of_ble_eq_true rfl) dX2_init_70 (fun q35 c37 X36 => ?_)
  have gb0 := (adU_ne ad31 66 q35 (show (61 : Nat) ≠ 66 by decide)).trans h33
  have gq35 := adU_at ad31 66 q35
  generalize adU ad31 66 q35 = ad38 at gb0 gq35 ⊢
  generalize adU cA32 66 c37 = cA39
  have h40 := gb0
  clear gb0
  have h41 := gq35
  clear gq35
  refine N.putC 61 h40 66 h41 (show isO (YC_71 ++ [(1, 44, .int, [])]) 61 2 15 from ⟨rfl, rfl, rfl⟩) rfl iX2 10 (by decide) k518 tyX2 tyX2_ok nmX2 rfl rfl rfl rfl dX2_init_72 ?_
  refine N.eqY (Y1 := YC_72) rfl ?_
  refine N.aload_n dX2_init_75 rfl 0 rfl ?_
  refine N.sipush (w := 3000) dX2_init_76 (by decide) ?_
  refine N.newa (atype := .int) (ty := .int) k277 rfl 1 rfl (a0 := (3000, .inl (fun _ => 0))) (z := 3000) rfl (fun _ => rfl) (by decide) rfl (Nat.le_of_ble_eq_true rfl) (n := 67) rfl (by decide +kernel) (ce' := 6) (sl' := 3324) rfl rfl (Nat.le_of_ble_eq_true rfl) (Nat.le_of_ble_eq_true rfl) (Nat.le_of_ble_eq_true rfl) dX2_init_79 (fun q42 c44 X43 => ?_)
  have gb0 := (adU_ne ad38 67 q42 (show (61 : Nat) ≠ 67 by decide)).trans h40
  have gq42 := adU_at ad38 67 q42
  generalize adU ad38 67 q42 = ad45 at gb0 gq42 ⊢
  generalize adU cA39 67 c44 = cA46
  have h47 := gb0
  clear gb0
  have h48 := gq42
  clear gq42
  refine N.putC 61 h47 67 h48 (show isO (YC_72 ++ [(1, 3000, .int, [])]) 61 2 15 from ⟨rfl, rfl, rfl⟩) rfl iX2 11 (by decide) k519 tyX2 tyX2_ok nmX2 rfl rfl rfl rfl dX2_init_81 ?_
  refine N.eqY (Y1 := YC_73) rfl ?_
  refine N.aload_n dX2_init_84 rfl 0 rfl ?_
  refine N.sipush (w := 3000) dX2_init_85 (by decide) ?_
  refine N.newa (atype := .int) (ty := .int) k277 rfl 1 rfl (a0 := (3000, .inl (fun _ => 0))) (z := 3000) rfl (fun _ => rfl) (by decide) rfl (Nat.le_of_ble_eq_true rfl) (n := 68) rfl (by decide +kernel) (ce' := 7) (sl' := 6324) rfl rfl (Nat.le_of_ble_eq_true rfl) (Nat.le_of_ble_eq_true rfl) (Nat.le_of_ble_eq_true rfl) dX2_init_88 (fun q49 c51 X50 => ?_)
  have gb0 := (adU_ne ad45 68 q49 (show (61 : Nat) ≠ 68 by decide)).trans h47
  have gq49 := adU_at ad45 68 q49
  generalize adU ad45 68 q49 = ad52 at gb0 gq49 ⊢
  generalize adU cA46 68 c51 = cA53
  have h54 := gb0
  clear gb0
  have h55 := gq49
  clear gq49
  refine N.putC 61 h54 68 h55 (show isO (YC_73 ++ [(1, 3000, .int, [])]) 61 2 15 from ⟨rfl, rfl, rfl⟩) rfl iX2 12 (by decide) k520 tyX2 tyX2_ok nmX2 rfl rfl rfl rfl dX2_init_90 ?_
  refine N.eqY (Y1 := YC_74) rfl ?_
  refine N.aload_n dX2_init_93 rfl 0 rfl ?_
  refine N.sipush (w := 3000) dX2_init_94 (by decide) ?_
  refine N.newa (atype := .int) (ty := .int) k277 rfl 1 rfl (a0 := (3000, .inl (fun _ => 0))) (z := 3000) rfl (fun _ => rfl) (by decide) rfl (Nat.le_of_ble_eq_true rfl) (n := 69) rfl (by decide +kernel) (ce' := 8) (sl' := 9324) rfl rfl (Nat.le_of_ble_eq_true rfl) (Nat.le_of_ble_eq_true rfl) (Nat.le_of_ble_eq_true rfl) dX2_init_97 (fun q56 c58 X57 => ?_)
  have gb0 := (adU_ne ad52 69 q56 (show (61 : Nat) ≠ 69 by decide)).trans h54
  have gq56 := adU_at ad52 69 q56
  generalize adU ad52 69 q56 = ad59 at gb0 gq56 ⊢
  generalize adU cA53 69 c58 = cA60
  have h61 := gb0
  clear gb0
  have h62 := gq56
  clear gq56
  refine N.putC 61 h61 69 h62 (show isO (YC_74 ++ [(1, 3000, .int, [])]) 61 2 15 from ⟨rfl, rfl, rfl⟩) rfl iX2 13 (by decide) k521 tyX2 tyX2_ok nmX2 rfl rfl rfl rfl dX2_init_99 ?_
  refine N.eqY (Y1 := YC_75) rfl ?_
  refine N.aload_n dX2_init_102 rfl 0 rfl ?_
  refine N.iconst (w := 0) dX2_init_103 (by decide) ?_
  refine N.putI 61 h61 (show isO YC_75 61 2 15 from ⟨rfl, rfl, rfl⟩) rfl iX2 14 (by decide) rfl k522 tyX2 tyX2_ok nmX2 rfl rfl rfl dX2_init_104 (fun X63 => ?_)
  exact N.ret rfl (Nat.le_of_ble_eq_true rfl) (Nat.le_of_ble_eq_true rfl) dX2_init_107
noncomputable def ctor_C_71 (X : St) : Option St :=
  letV (wI X 71 0 (0)) fun X1 =>
  letV (wI X1 71 1 (0)) fun X2 =>
  letV (wI X2 71 2 (0)) fun X3 =>
  chk (RB X3 72 = true) (letV (zE X3 72) fun X5 =>
  chk (RB X5 73 = true) (letV (zE X5 73) fun X12 =>
  chk (RB X12 74 = true) (letV (zE X12 74) fun X19 =>
  chk (RB X19 75 = true) (letV (zE X19 75) fun X26 =>
  chk (RB X26 76 = true) (letV (zE X26 76) fun X33 =>
  chk (RB X33 77 = true) (letV (zE X33 77) fun X40 =>
  chk (RB X40 78 = true) (letV (zE X40 78) fun X47 =>
  chk (RB X47 79 = true) (letV (zE X47 79) fun X54 =>
  chk (RB X54 80 = true) (letV (zE X54 80) fun X61 =>
  chk (RB X61 81 = true) (letV (zE X61 81) fun X68 =>
  some X68))))))))))
set_option maxHeartbeats 4000000 in
set_option maxRecDepth 100000 in
theorem kctor_C_71 (Λ : Lx) (ad : Nat → Nat) (cA : Nat → ClassId) (X : St) (b0 : Addr) (h0 : ad 71 = b0) : NM Λ yX1_init cX1_init 1 { frames := 1, cells := 10, slots := 13000, locals := 12 } [.ref b0] (YC_78, ad, cA, X) YC_88 (ctor_C_71 X) := by
  refine NM.of (by decide) rfl (Nat.le_of_ble_eq_true rfl) rfl ?_
  show N Λ cX1_init 1 "BlameCourt$Heap" { frames := 1, cells := 10, slots := 13000, locals := 12 } _ _ _ 0 [(0, .ref b0)] [] _ 0 0 (ctor_C_71 X)
  unfold ctor_C_71
  refine N.aload_n dX1_init_0 rfl 0 rfl ?_
  refine N.obj k565 k206 k207 dX1_init_1 (Nat.le_of_ble_eq_true rfl) (Nat.le_of_ble_eq_true rfl) ?_
  refine N.aload_n dX1_init_4 rfl 0 rfl ?_
  refine N.iconst (w := 0) dX1_init_5 (by decide) ?_
  refine N.putI 71 h0 (show isO YC_78 71 1 13 from ⟨rfl, rfl, rfl⟩) rfl iX1 0 (by decide) rfl k566 tyX1 tyX1_ok nmX1 rfl rfl rfl dX1_init_6 (fun X1 => ?_)
  refine N.aload_n dX1_init_9 rfl 0 rfl ?_
  refine N.iconst (w := 0) dX1_init_10 (by decide) ?_
  refine N.putI 71 h0 (show isO YC_78 71 1 13 from ⟨rfl, rfl, rfl⟩) rfl iX1 1 (by decide) rfl k568 tyX1 tyX1_ok nmX1 rfl rfl rfl dX1_init_11 (fun X2 => ?_)
  refine N.aload_n dX1_init_14 rfl 0 rfl ?_
  refine N.iconst (w := 0) dX1_init_15 (by decide) ?_
  refine N.putI 71 h0 (show isO YC_78 71 1 13 from ⟨rfl, rfl, rfl⟩) rfl iX1 2 (by decide) rfl k569 tyX1 tyX1_ok nmX1 rfl rfl rfl dX1_init_16 (fun X3 => ?_)
  refine N.aload_n dX1_init_19 rfl 0 rfl ?_
  refine N.sipush (w := 1000) dX1_init_20 (by decide) ?_
  refine N.newa (atype := .int) (ty := .int) k277 rfl 1 rfl (a0 := (1000, .inl (fun _ => 0))) (z := 1000) rfl (fun _ => rfl) (by decide) rfl (Nat.le_of_ble_eq_true rfl) (n := 72) rfl (by decide +kernel) (ce' := 1) (sl' := 1000) rfl rfl (Nat.le_of_ble_eq_true rfl) (Nat.le_of_ble_eq_true rfl) (Nat.le_of_ble_eq_true rfl) dX1_init_23 (fun q4 c6 X5 => ?_)
  have gb0 := (adU_ne ad 72 q4 (show (71 : Nat) ≠ 72 by decide)).trans h0
  have gq4 := adU_at ad 72 q4
  generalize adU ad 72 q4 = ad7 at gb0 gq4 ⊢
  generalize adU cA 72 c6 = cA8
  have h9 := gb0
  clear gb0
  have h10 := gq4
  clear gq4
  refine N.putC 71 h9 72 h10 (show isO (YC_78 ++ [(1, 1000, .int, [])]) 71 1 13 from ⟨rfl, rfl, rfl⟩) rfl iX1 3 (by decide) k571 tyX1 tyX1_ok nmX1 rfl rfl rfl rfl dX1_init_25 ?_
  refine N.eqY (Y1 := YC_79) rfl ?_
  refine N.aload_n dX1_init_28 rfl 0 rfl ?_
  refine N.sipush (w := 1000) dX1_init_29 (by decide) ?_
  refine N.newa (atype := .int) (ty := .int) k277 rfl 1 rfl (a0 := (1000, .inl (fun _ => 0))) (z := 1000) rfl (fun _ => rfl) (by decide) rfl (Nat.le_of_ble_eq_true rfl) (n := 73) rfl (by decide +kernel) (ce' := 2) (sl' := 2000) rfl rfl (Nat.le_of_ble_eq_true rfl) (Nat.le_of_ble_eq_true rfl) (Nat.le_of_ble_eq_true rfl) dX1_init_32 (fun q11 c13 X12 => ?_)
  have gb0 := (adU_ne ad7 73 q11 (show (71 : Nat) ≠ 73 by decide)).trans h9
  have gq11 := adU_at ad7 73 q11
  generalize adU ad7 73 q11 = ad14 at gb0 gq11 ⊢
  generalize adU cA8 73 c13 = cA15
  have h16 := gb0
  clear gb0
  have h17 := gq11
  clear gq11
  refine N.putC 71 h16 73 h17 (show isO (YC_79 ++ [(1, 1000, .int, [])]) 71 1 13 from ⟨rfl, rfl, rfl⟩) rfl iX1 4 (by decide) k572 tyX1 tyX1_ok nmX1 rfl rfl rfl rfl dX1_init_34 ?_
  refine N.eqY (Y1 := YC_80) rfl ?_
  refine N.aload_n dX1_init_37 rfl 0 rfl ?_
  refine N.sipush (w := 4000) dX1_init_38 (by decide) ?_
  refine N.newa (atype := .long) (ty := .long) k373 rfl 2 rfl (a0 := (4000, .inr (.inl (fun _ => 0)))) (z := 4000) rfl (fun _ => rfl) (by decide) rfl (Nat.le_of_ble_eq_true rfl) (n := 74) rfl (by decide +kernel) (ce' := 3) (sl' := 6000) rfl rfl (Nat.le_of_ble_eq_true rfl) (Nat.le_of_ble_eq_true rfl) (Nat.le_of_ble_eq_true rfl) dX1_init_41 (fun q18 c20 X19 => ?_)
  have gb0 := (adU_ne ad14 74 q18 (show (71 : Nat) ≠ 74 by decide)).trans h16
  have gq18 := adU_at ad14 74 q18
  generalize adU ad14 74 q18 = ad21 at gb0 gq18 ⊢
  generalize adU cA15 74 c20 = cA22
  have h23 := gb0
  clear gb0
  have h24 := gq18
  clear gq18
  refine N.putC 71 h23 74 h24 (show isO (YC_80 ++ [(2, 4000, .long, [])]) 71 1 13 from ⟨rfl, rfl, rfl⟩) rfl iX1 5 (by decide) k573 tyX1 tyX1_ok nmX1 rfl rfl rfl rfl dX1_init_43 ?_
  refine N.eqY (Y1 := YC_81) rfl ?_
  refine N.aload_n dX1_init_46 rfl 0 rfl ?_
  refine N.sipush (w := 1000) dX1_init_47 (by decide) ?_
  refine N.newa (atype := .long) (ty := .long) k373 rfl 2 rfl (a0 := (1000, .inr (.inl (fun _ => 0)))) (z := 1000) rfl (fun _ => rfl) (by decide) rfl (Nat.le_of_ble_eq_true rfl) (n := 75) rfl (by decide +kernel) (ce' := 4) (sl' := 7000) rfl rfl (Nat.le_of_ble_eq_true rfl) (Nat.le_of_ble_eq_true rfl) (Nat.le_of_ble_eq_true rfl) dX1_init_50 (fun q25 c27 X26 => ?_)
  have gb0 := (adU_ne ad21 75 q25 (show (71 : Nat) ≠ 75 by decide)).trans h23
  have gq25 := adU_at ad21 75 q25
  generalize adU ad21 75 q25 = ad28 at gb0 gq25 ⊢
  generalize adU cA22 75 c27 = cA29
  have h30 := gb0
  clear gb0
  have h31 := gq25
  clear gq25
  refine N.putC 71 h30 75 h31 (show isO (YC_81 ++ [(2, 1000, .long, [])]) 71 1 13 from ⟨rfl, rfl, rfl⟩) rfl iX1 6 (by decide) k574 tyX1 tyX1_ok nmX1 rfl rfl rfl rfl dX1_init_52 ?_
  refine N.eqY (Y1 := YC_82) rfl ?_
  refine N.aload_n dX1_init_55 rfl 0 rfl ?_
  refine N.sipush (w := 1000) dX1_init_56 (by decide) ?_
  refine N.newa (atype := .int) (ty := .int) k277 rfl 1 rfl (a0 := (1000, .inl (fun _ => 0))) (z := 1000) rfl (fun _ => rfl) (by decide) rfl (Nat.le_of_ble_eq_true rfl) (n := 76) rfl (by decide +kernel) (ce' := 5) (sl' := 8000) rfl rfl (Nat.le_of_ble_eq_true rfl) (Nat.le_of_ble_eq_true rfl) (Nat.le_of_ble_eq_true rfl) dX1_init_59 (fun q32 c34 X33 => ?_)
  have gb0 := (adU_ne ad28 76 q32 (show (71 : Nat) ≠ 76 by decide)).trans h30
  have gq32 := adU_at ad28 76 q32
  generalize adU ad28 76 q32 = ad35 at gb0 gq32 ⊢
  generalize adU cA29 76 c34 = cA36
  have h37 := gb0
  clear gb0
  have h38 := gq32
  clear gq32
  refine N.putC 71 h37 76 h38 (show isO (YC_82 ++ [(1, 1000, .int, [])]) 71 1 13 from ⟨rfl, rfl, rfl⟩) rfl iX1 7 (by decide) k576 tyX1 tyX1_ok nmX1 rfl rfl rfl rfl dX1_init_61 ?_
  refine N.eqY (Y1 := YC_83) rfl ?_
  refine N.aload_n dX1_init_64 rfl 0 rfl ?_
  refine N.sipush (w := 1000) dX1_init_65 (by decide) ?_
  refine N.newa (atype := .int) (ty := .int) k277 rfl 1 rfl (a0 := (1000, .inl (fun _ => 0))) (z := 1000) rfl (fun _ => rfl) (by decide) rfl (Nat.le_of_ble_eq_true rfl) (n := 77) rfl (by decide +kernel) (ce' := 6) (sl' := 9000) rfl rfl (Nat.le_of_ble_eq_true rfl) (Nat.le_of_ble_eq_true rfl) (Nat.le_of_ble_eq_true rfl) dX1_init_68 (fun q39 c41 X40 => ?_)
  have gb0 := (adU_ne ad35 77 q39 (show (71 : Nat) ≠ 77 by decide)).trans h37
  have gq39 := adU_at ad35 77 q39
  generalize adU ad35 77 q39 = ad42 at gb0 gq39 ⊢
  generalize adU cA36 77 c41 = cA43
  have h44 := gb0
  clear gb0
  have h45 := gq39
  clear gq39
  refine N.putC 71 h44 77 h45 (show isO (YC_83 ++ [(1, 1000, .int, [])]) 71 1 13 from ⟨rfl, rfl, rfl⟩) rfl iX1 8 (by decide) k578 tyX1 tyX1_ok nmX1 rfl rfl rfl rfl dX1_init_70 ?_
  refine N.eqY (Y1 := YC_84) rfl ?_
  refine N.aload_n dX1_init_73 rfl 0 rfl ?_
  refine N.sipush (w := 1000) dX1_init_74 (by decide) ?_
  refine N.newa (atype := .int) (ty := .int) k277 rfl 1 rfl (a0 := (1000, .inl (fun _ => 0))) (z := 1000) rfl (fun _ => rfl) (by decide) rfl (Nat.le_of_ble_eq_true rfl) (n := 78) rfl (by decide +kernel) (ce' := 7) (sl' := 10000) rfl rfl (Nat.le_of_ble_eq_true rfl) (Nat.le_of_ble_eq_true rfl) (Nat.le_of_ble_eq_true rfl) dX1_init_77 (fun q46 c48 X47 => ?_)
  have gb0 := (adU_ne ad42 78 q46 (show (71 : Nat) ≠ 78 by decide)).trans h44
  have gq46 := adU_at ad42 78 q46
  generalize adU ad42 78 q46 = ad49 at gb0 gq46 ⊢
  generalize adU cA43 78 c48 = cA50
  have h51 := gb0
  clear gb0
  have h52 := gq46
  clear gq46
  refine N.putC 71 h51 78 h52 (show isO (YC_84 ++ [(1, 1000, .int, [])]) 71 1 13 from ⟨rfl, rfl, rfl⟩) rfl iX1 9 (by decide) k580 tyX1 tyX1_ok nmX1 rfl rfl rfl rfl dX1_init_79 ?_
  refine N.eqY (Y1 := YC_85) rfl ?_
  refine N.aload_n dX1_init_82 rfl 0 rfl ?_
  refine N.sipush (w := 1000) dX1_init_83 (by decide) ?_
  refine N.newa (atype := .int) (ty := .int) k277 rfl 1 rfl (a0 := (1000, .inl (fun _ => 0))) (z := 1000) rfl (fun _ => rfl) (by decide) rfl (Nat.le_of_ble_eq_true rfl) (n := 79) rfl (by decide +kernel) (ce' := 8) (sl' := 11000) rfl rfl (Nat.le_of_ble_eq_true rfl) (Nat.le_of_ble_eq_true rfl) (Nat.le_of_ble_eq_true rfl) dX1_init_86 (fun q53 c55 X54 => ?_)
  have gb0 := (adU_ne ad49 79 q53 (show (71 : Nat) ≠ 79 by decide)).trans h51
  have gq53 := adU_at ad49 79 q53
  generalize adU ad49 79 q53 = ad56 at gb0 gq53 ⊢
  generalize adU cA50 79 c55 = cA57
  have h58 := gb0
  clear gb0
  have h59 := gq53
  clear gq53
  refine N.putC 71 h58 79 h59 (show isO (YC_85 ++ [(1, 1000, .int, [])]) 71 1 13 from ⟨rfl, rfl, rfl⟩) rfl iX1 10 (by decide) k582 tyX1 tyX1_ok nmX1 rfl rfl rfl rfl dX1_init_88 ?_
  refine N.eqY (Y1 := YC_86) rfl ?_
  refine N.aload_n dX1_init_91 rfl 0 rfl ?_
  refine N.sipush (w := 1000) dX1_init_92 (by decide) ?_
  refine N.newa (atype := .int) (ty := .int) k277 rfl 1 rfl (a0 := (1000, .inl (fun _ => 0))) (z := 1000) rfl (fun _ => rfl) (by decide) rfl (Nat.le_of_ble_eq_true rfl) (n := 80) rfl (by decide +kernel) (ce' := 9) (sl' := 12000) rfl rfl (Nat.le_of_ble_eq_true rfl) (Nat.le_of_ble_eq_true rfl) (Nat.le_of_ble_eq_true rfl) dX1_init_95 (fun q60 c62 X61 => ?_)
  have gb0 := (adU_ne ad56 80 q60 (show (71 : Nat) ≠ 80 by decide)).trans h58
  have gq60 := adU_at ad56 80 q60
  generalize adU ad56 80 q60 = ad63 at gb0 gq60 ⊢
  generalize adU cA57 80 c62 = cA64
  have h65 := gb0
  clear gb0
  have h66 := gq60
  clear gq60
  refine N.putC 71 h65 80 h66 (show isO (YC_86 ++ [(1, 1000, .int, [])]) 71 1 13 from ⟨rfl, rfl, rfl⟩) rfl iX1 11 (by decide) k584 tyX1 tyX1_ok nmX1 rfl rfl rfl rfl dX1_init_97 ?_
  refine N.eqY (Y1 := YC_87) rfl ?_
  refine N.aload_n dX1_init_100 rfl 0 rfl ?_
  refine N.sipush (w := 1000) dX1_init_101 (by decide) ?_
  refine N.newa (atype := .int) (ty := .int) k277 rfl 1 rfl (a0 := (1000, .inl (fun _ => 0))) (z := 1000) rfl (fun _ => rfl) (by decide) rfl (Nat.le_of_ble_eq_true rfl) (n := 81) rfl (by decide +kernel) (ce' := 10) (sl' := 13000) rfl rfl (Nat.le_of_ble_eq_true rfl) (Nat.le_of_ble_eq_true rfl) (Nat.le_of_ble_eq_true rfl) dX1_init_104 (fun q67 c69 X68 => ?_)
  have gb0 := (adU_ne ad63 81 q67 (show (71 : Nat) ≠ 81 by decide)).trans h65
  have gq67 := adU_at ad63 81 q67
  generalize adU ad63 81 q67 = ad70 at gb0 gq67 ⊢
  generalize adU cA64 81 c69 = cA71
  have h72 := gb0
  clear gb0
  have h73 := gq67
  clear gq67
  refine N.putC 71 h72 81 h73 (show isO (YC_87 ++ [(1, 1000, .int, [])]) 71 1 13 from ⟨rfl, rfl, rfl⟩) rfl iX1 12 (by decide) k586 tyX1 tyX1_ok nmX1 rfl rfl rfl rfl dX1_init_106 ?_
  refine N.eqY (Y1 := YC_88) rfl ?_
  exact N.ret rfl (Nat.le_of_ble_eq_true rfl) (Nat.le_of_ble_eq_true rfl) dX1_init_109
noncomputable def ctor_C_70 (X : St) : Option St :=
  letV (wR X 70 0 0) fun X1 =>
  chk (RB X1 71 = true) (letV (zE X1 71) fun X3 =>
  bndN (ctor_C_71 X3) fun X12 =>
  letV (wR X12 70 2 0) fun X15 =>
  letV (wI X15 70 3 (0)) fun X16 =>
  letV (wI X16 70 4 (0)) fun X17 =>
  letV (wI X17 70 5 (0)) fun X18 =>
  letV (wI X18 70 6 ((-1))) fun X19 =>
  letV (wI X19 70 7 ((-1))) fun X20 =>
  letV (wI X20 70 8 (0)) fun X21 =>
  letV (wI X21 70 9 (0)) fun X22 =>
  letV (wI X22 70 10 (0)) fun X23 =>
  letV (wI X23 70 11 (0)) fun X24 =>
  chk (RB X24 82 = true) (letV (zE X24 82) fun X26 =>
  chk (RB X26 83 = true) (letV (zE X26 83) fun X33 =>
  chk (RB X33 84 = true) (letV (zE X33 84) fun X40 =>
  letV (wI X40 70 15 (0)) fun X46 =>
  chk (RB X46 85 = true) (letV (zE X46 85) fun X48 =>
  chk (RB X48 86 = true) (letV (zE X48 86) fun X55 =>
  letV (wI X55 70 18 (0)) fun X61 =>
  chk (RB X61 87 = true) (letV (zE X61 87) fun X63 =>
  some X63)))))))
set_option maxHeartbeats 4000000 in
set_option maxRecDepth 100000 in
theorem kctor_C_70 (Λ : Lx) (ad : Nat → Nat) (cA : Nat → ClassId) (X : St) (b0 : Addr) (h0 : ad 70 = b0) : NM Λ yX7_init cX7_init 1 { frames := 2, cells := 17, slots := 39335, locals := 32 } [.ref b0] (YC_77, ad, cA, X) YC_95 (ctor_C_70 X) := by
  refine NM.of (by decide) rfl (Nat.le_of_ble_eq_true rfl) rfl ?_
  show N Λ cX7_init 1 "BlameCourt$Running" { frames := 2, cells := 17, slots := 39335, locals := 32 } _ _ _ 0 [(0, .ref b0)] [] _ 0 0 (ctor_C_70 X)
  unfold ctor_C_70
  refine N.aload_n dX7_init_0 rfl 0 rfl ?_
  refine N.obj k559 k206 k207 dX7_init_1 (Nat.le_of_ble_eq_true rfl) (Nat.le_of_ble_eq_true rfl) ?_
  refine N.aload_n dX7_init_4 rfl 0 rfl ?_
  refine N.null dX7_init_5 ?_
  refine N.putN 70 h0 (show isO YC_77 70 6 20 from ⟨rfl, rfl, rfl⟩) rfl iX7 0 (by decide) rfl k615 tyX7 tyX7_ok nmX7 rfl rfl rfl dX7_init_6 (fun X1 => ?_)
  refine N.aload_n dX7_init_9 rfl 0 rfl ?_
  refine N.new (ci := 1) iX1 tyX1 tyX1_ok k560 k561 k196 rfl [0, 0, 0, 2, 2, 2, 2, 2, 2, 2, 2, 2, 2] rfl (fs := dfX1) (hfs_of dfX1_ok) rfl rfl (n := 71) rfl (by decide +kernel) (ce' := 1) (sl' := 13) rfl rfl (Nat.le_of_ble_eq_true rfl) (Nat.le_of_ble_eq_true rfl) (Nat.le_of_ble_eq_true rfl) dX7_init_10 (fun q2 c4 X3 => ?_)
  have gb0 := (adU_ne ad 71 q2 (show (70 : Nat) ≠ 71 by decide)).trans h0
  have gq2 := adU_at ad 71 q2
  generalize adU ad 71 q2 = ad5 at gb0 gq2 ⊢
  generalize adU cA 71 c4 = cA6
  have h7 := gb0
  clear gb0
  have h8 := gq2
  clear gq2
  refine N.eqY (Y1 := YC_78) rfl ?_
  refine N.dupr dX7_init_13 ?_
  refine N.ctor 71 h8 (rest := [.ref q2, .ref b0]) (As1 := []) (kctor_C_71 Λ ad5 cA6 X3 q2 h8) ka_X1_init k563 rfl (Or.inr n562) rfl rfl ⟨(Nat.le_of_ble_eq_true rfl), (Nat.le_of_ble_eq_true rfl)⟩ (Nat.le_of_ble_eq_true rfl) (ce' := 11) (sl' := 13013) rfl rfl ⟨(Nat.le_of_ble_eq_true rfl), (Nat.le_of_ble_eq_true rfl)⟩ dX7_init_14 (fun ad9 cA10 hx11 X12 => ?_) (Nat.le_of_ble_eq_true rfl)
  have h13 := (hx11 70 (by decide)).trans h7
  have h14 := (hx11 71 (by decide)).trans h8
  refine N.putC 70 h13 71 h14 (show isO YC_88 70 6 20 from ⟨rfl, rfl, rfl⟩) rfl iX7 1 (by decide) k616 tyX7 tyX7_ok nmX7 rfl rfl rfl rfl dX7_init_17 ?_
  refine N.eqY (Y1 := YC_89) rfl ?_
  refine N.aload_n dX7_init_20 rfl 0 rfl ?_
  refine N.null dX7_init_21 ?_
  refine N.putN 70 h13 (show isO YC_89 70 6 20 from ⟨rfl, rfl, rfl⟩) rfl iX7 2 (by decide) rfl k617 tyX7 tyX7_ok nmX7 rfl rfl rfl dX7_init_22 (fun X15 => ?_)
  refine N.aload_n dX7_init_25 rfl 0 rfl ?_
  refine N.iconst (w := 0) dX7_init_26 (by decide) ?_
  refine N.putI 70 h13 (show isO YC_89 70 6 20 from ⟨rfl, rfl, rfl⟩) rfl iX7 3 (by decide) rfl k618 tyX7 tyX7_ok nmX7 rfl rfl rfl dX7_init_27 (fun X16 => ?_)
  refine N.aload_n dX7_init_30 rfl 0 rfl ?_
  refine N.iconst (w := 0) dX7_init_31 (by decide) ?_
  refine N.putI 70 h13 (show isO YC_89 70 6 20 from ⟨rfl, rfl, rfl⟩) rfl iX7 4 (by decide) rfl k619 tyX7 tyX7_ok nmX7 rfl rfl rfl dX7_init_32 (fun X17 => ?_)
  refine N.aload_n dX7_init_35 rfl 0 rfl ?_
  refine N.iconst (w := 0) dX7_init_36 (by decide) ?_
  refine N.putI 70 h13 (show isO YC_89 70 6 20 from ⟨rfl, rfl, rfl⟩) rfl iX7 5 (by decide) rfl k620 tyX7 tyX7_ok nmX7 rfl rfl rfl dX7_init_37 (fun X18 => ?_)
  refine N.aload_n dX7_init_40 rfl 0 rfl ?_
  refine N.iconst (w := (-1)) dX7_init_41 (by decide) ?_
  refine N.putI 70 h13 (show isO YC_89 70 6 20 from ⟨rfl, rfl, rfl⟩) rfl iX7 6 (by decide) rfl k621 tyX7 tyX7_ok nmX7 rfl rfl rfl dX7_init_42 (fun X19 => ?_)
  refine N.aload_n dX7_init_45 rfl 0 rfl ?_
  refine N.iconst (w := (-1)) dX7_init_46 (by decide) ?_
  refine N.putI 70 h13 (show isO YC_89 70 6 20 from ⟨rfl, rfl, rfl⟩) rfl iX7 7 (by decide) rfl k622 tyX7 tyX7_ok nmX7 rfl rfl rfl dX7_init_47 (fun X20 => ?_)
  refine N.aload_n dX7_init_50 rfl 0 rfl ?_
  refine N.iconst (w := 0) dX7_init_51 (by decide) ?_
  refine N.putI 70 h13 (show isO YC_89 70 6 20 from ⟨rfl, rfl, rfl⟩) rfl iX7 8 (by decide) rfl k623 tyX7 tyX7_ok nmX7 rfl rfl rfl dX7_init_52 (fun X21 => ?_)
  refine N.aload_n dX7_init_55 rfl 0 rfl ?_
  refine N.iconst (w := 0) dX7_init_56 (by decide) ?_
  refine N.putI 70 h13 (show isO YC_89 70 6 20 from ⟨rfl, rfl, rfl⟩) rfl iX7 9 (by decide) rfl k624 tyX7 tyX7_ok nmX7 rfl rfl rfl dX7_init_57 (fun X22 => ?_)
  refine N.aload_n dX7_init_60 rfl 0 rfl ?_
  refine N.iconst (w := 0) dX7_init_61 (by decide) ?_
  refine N.putI 70 h13 (show isO YC_89 70 6 20 from ⟨rfl, rfl, rfl⟩) rfl iX7 10 (by decide) rfl k625 tyX7 tyX7_ok nmX7 rfl rfl rfl dX7_init_62 (fun X23 => ?_)
  refine N.aload_n dX7_init_65 rfl 0 rfl ?_
  refine N.iconst (w := 0) dX7_init_66 (by decide) ?_
  refine N.putI 70 h13 (show isO YC_89 70 6 20 from ⟨rfl, rfl, rfl⟩) rfl iX7 11 (by decide) rfl k626 tyX7 tyX7_ok nmX7 rfl rfl rfl dX7_init_67 (fun X24 => ?_)
  refine N.aload_n dX7_init_70 rfl 0 rfl ?_
  refine N.bipush (w := 100) dX7_init_71 (by decide) ?_
  refine N.newa (atype := .int) (ty := .int) k277 rfl 1 rfl (a0 := (100, .inl (fun _ => 0))) (z := 100) rfl (fun _ => rfl) (by decide) rfl (Nat.le_of_ble_eq_true rfl) (n := 82) rfl (by decide +kernel) (ce' := 12) (sl' := 13113) rfl rfl (Nat.le_of_ble_eq_true rfl) (Nat.le_of_ble_eq_true rfl) (Nat.le_of_ble_eq_true rfl) dX7_init_73 (fun q25 c27 X26 => ?_)
  have gb0 := (adU_ne ad9 82 q25 (show (70 : Nat) ≠ 82 by decide)).trans h13
  have gq25 := adU_at ad9 82 q25
  generalize adU ad9 82 q25 = ad28 at gb0 gq25 ⊢
  generalize adU cA10 82 c27 = cA29
  have h30 := gb0
  clear gb0
  have h31 := gq25
  clear gq25
  refine N.putC 70 h30 82 h31 (show isO (YC_89 ++ [(1, 100, .int, [])]) 70 6 20 from ⟨rfl, rfl, rfl⟩) rfl iX7 12 (by decide) k627 tyX7 tyX7_ok nmX7 rfl rfl rfl rfl dX7_init_75 ?_
  refine N.eqY (Y1 := YC_90) rfl ?_
  refine N.aload_n dX7_init_78 rfl 0 rfl ?_
  refine N.sipush (w := 4400) dX7_init_79 (by decide) ?_
  refine N.newa (atype := .long) (ty := .long) k373 rfl 2 rfl (a0 := (4400, .inr (.inl (fun _ => 0)))) (z := 4400) rfl (fun _ => rfl) (by decide) rfl (Nat.le_of_ble_eq_true rfl) (n := 83) rfl (by decide +kernel) (ce' := 13) (sl' := 17513) rfl rfl (Nat.le_of_ble_eq_true rfl) (Nat.le_of_ble_eq_true rfl) (Nat.le_of_ble_eq_true rfl) dX7_init_82 (fun q32 c34 X33 => ?_)
  have gb0 := (adU_ne ad28 83 q32 (show (70 : Nat) ≠ 83 by decide)).trans h30
  have gq32 := adU_at ad28 83 q32
  generalize adU ad28 83 q32 = ad35 at gb0 gq32 ⊢
  generalize adU cA29 83 c34 = cA36
  have h37 := gb0
  clear gb0
  have h38 := gq32
  clear gq32
  refine N.putC 70 h37 83 h38 (show isO (YC_90 ++ [(2, 4400, .long, [])]) 70 6 20 from ⟨rfl, rfl, rfl⟩) rfl iX7 13 (by decide) k628 tyX7 tyX7_ok nmX7 rfl rfl rfl rfl dX7_init_84 ?_
  refine N.eqY (Y1 := YC_91) rfl ?_
  refine N.aload_n dX7_init_87 rfl 0 rfl ?_
  refine N.sipush (w := 20002) dX7_init_88 (by decide) ?_
  refine N.newa (atype := .long) (ty := .long) k373 rfl 2 rfl (a0 := (20002, .inr (.inl (fun _ => 0)))) (z := 20002) rfl (fun _ => rfl) (by decide) rfl (Nat.le_of_ble_eq_true rfl) (n := 84) rfl (by decide +kernel) (ce' := 14) (sl' := 37515) rfl rfl (Nat.le_of_ble_eq_true rfl) (Nat.le_of_ble_eq_true rfl) (Nat.le_of_ble_eq_true rfl) dX7_init_91 (fun q39 c41 X40 => ?_)
  have gb0 := (adU_ne ad35 84 q39 (show (70 : Nat) ≠ 84 by decide)).trans h37
  have gq39 := adU_at ad35 84 q39
  generalize adU ad35 84 q39 = ad42 at gb0 gq39 ⊢
  generalize adU cA36 84 c41 = cA43
  have h44 := gb0
  clear gb0
  have h45 := gq39
  clear gq39
  refine N.putC 70 h44 84 h45 (show isO (YC_91 ++ [(2, 20002, .long, [])]) 70 6 20 from ⟨rfl, rfl, rfl⟩) rfl iX7 14 (by decide) k629 tyX7 tyX7_ok nmX7 rfl rfl rfl rfl dX7_init_93 ?_
  refine N.eqY (Y1 := YC_92) rfl ?_
  refine N.aload_n dX7_init_96 rfl 0 rfl ?_
  refine N.iconst (w := 0) dX7_init_97 (by decide) ?_
  refine N.putI 70 h44 (show isO YC_92 70 6 20 from ⟨rfl, rfl, rfl⟩) rfl iX7 15 (by decide) rfl k630 tyX7 tyX7_ok nmX7 rfl rfl rfl dX7_init_98 (fun X46 => ?_)
  refine N.aload_n dX7_init_101 rfl 0 rfl ?_
  refine N.bipush (w := 20) dX7_init_102 (by decide) ?_
  refine N.newa (atype := .int) (ty := .int) k277 rfl 1 rfl (a0 := (20, .inl (fun _ => 0))) (z := 20) rfl (fun _ => rfl) (by decide) rfl (Nat.le_of_ble_eq_true rfl) (n := 85) rfl (by decide +kernel) (ce' := 15) (sl' := 37535) rfl rfl (Nat.le_of_ble_eq_true rfl) (Nat.le_of_ble_eq_true rfl) (Nat.le_of_ble_eq_true rfl) dX7_init_104 (fun q47 c49 X48 => ?_)
  have gb0 := (adU_ne ad42 85 q47 (show (70 : Nat) ≠ 85 by decide)).trans h44
  have gq47 := adU_at ad42 85 q47
  generalize adU ad42 85 q47 = ad50 at gb0 gq47 ⊢
  generalize adU cA43 85 c49 = cA51
  have h52 := gb0
  clear gb0
  have h53 := gq47
  clear gq47
  refine N.putC 70 h52 85 h53 (show isO (YC_92 ++ [(1, 20, .int, [])]) 70 6 20 from ⟨rfl, rfl, rfl⟩) rfl iX7 16 (by decide) k631 tyX7 tyX7_ok nmX7 rfl rfl rfl rfl dX7_init_106 ?_
  refine N.eqY (Y1 := YC_93) rfl ?_
  refine N.aload_n dX7_init_109 rfl 0 rfl ?_
  refine N.sipush (w := 200) dX7_init_110 (by decide) ?_
  refine N.newa (atype := .int) (ty := .int) k277 rfl 1 rfl (a0 := (200, .inl (fun _ => 0))) (z := 200) rfl (fun _ => rfl) (by decide) rfl (Nat.le_of_ble_eq_true rfl) (n := 86) rfl (by decide +kernel) (ce' := 16) (sl' := 37735) rfl rfl (Nat.le_of_ble_eq_true rfl) (Nat.le_of_ble_eq_true rfl) (Nat.le_of_ble_eq_true rfl) dX7_init_113 (fun q54 c56 X55 => ?_)
  have gb0 := (adU_ne ad50 86 q54 (show (70 : Nat) ≠ 86 by decide)).trans h52
  have gq54 := adU_at ad50 86 q54
  generalize adU ad50 86 q54 = ad57 at gb0 gq54 ⊢
  generalize adU cA51 86 c56 = cA58
  have h59 := gb0
  clear gb0
  have h60 := gq54
  clear gq54
  refine N.putC 70 h59 86 h60 (show isO (YC_93 ++ [(1, 200, .int, [])]) 70 6 20 from ⟨rfl, rfl, rfl⟩) rfl iX7 17 (by decide) k632 tyX7 tyX7_ok nmX7 rfl rfl rfl rfl dX7_init_115 ?_
  refine N.eqY (Y1 := YC_94) rfl ?_
  refine N.aload_n dX7_init_118 rfl 0 rfl ?_
  refine N.iconst (w := 0) dX7_init_119 (by decide) ?_
  refine N.putI 70 h59 (show isO YC_94 70 6 20 from ⟨rfl, rfl, rfl⟩) rfl iX7 18 (by decide) rfl k634 tyX7 tyX7_ok nmX7 rfl rfl rfl dX7_init_120 (fun X61 => ?_)
  refine N.aload_n dX7_init_123 rfl 0 rfl ?_
  refine N.sipush (w := 1600) dX7_init_124 (by decide) ?_
  refine N.newa (atype := .int) (ty := .int) k277 rfl 1 rfl (a0 := (1600, .inl (fun _ => 0))) (z := 1600) rfl (fun _ => rfl) (by decide) rfl (Nat.le_of_ble_eq_true rfl) (n := 87) rfl (by decide +kernel) (ce' := 17) (sl' := 39335) rfl rfl (Nat.le_of_ble_eq_true rfl) (Nat.le_of_ble_eq_true rfl) (Nat.le_of_ble_eq_true rfl) dX7_init_127 (fun q62 c64 X63 => ?_)
  have gb0 := (adU_ne ad57 87 q62 (show (70 : Nat) ≠ 87 by decide)).trans h59
  have gq62 := adU_at ad57 87 q62
  generalize adU ad57 87 q62 = ad65 at gb0 gq62 ⊢
  generalize adU cA58 87 c64 = cA66
  have h67 := gb0
  clear gb0
  have h68 := gq62
  clear gq62
  refine N.putC 70 h67 87 h68 (show isO (YC_94 ++ [(1, 1600, .int, [])]) 70 6 20 from ⟨rfl, rfl, rfl⟩) rfl iX7 19 (by decide) k636 tyX7 tyX7_ok nmX7 rfl rfl rfl rfl dX7_init_129 ?_
  refine N.eqY (Y1 := YC_95) rfl ?_
  exact N.ret rfl (Nat.le_of_ble_eq_true rfl) (Nat.le_of_ble_eq_true rfl) dX7_init_132
noncomputable def ctor_C (X : St) : Option St :=
  chk (RB X 1 = true) (letV (zE X 1) fun X2 =>
  letV (wI X2 0 1 (0)) fun X8 =>
  chk (RB X8 2 = true) (letV (zE X8 2) fun X10 =>
  bndN (ctor_C_2 X10) fun X19 =>
  letV (wR X19 0 9 (2 + 1)) fun X22 =>
  chk (RB X22 24 = true) (letV (zE X22 24) fun X24 =>
  bndN (ctor_C_24 X24) fun X33 =>
  letV (wR X33 0 2 (24 + 1)) fun X36 =>
  letV (wI X36 0 3 (0)) fun X37 =>
  letV (wI X37 0 4 (0)) fun X38 =>
  letV (wI X38 0 5 (0)) fun X39 =>
  chk (RB X39 46 = true) (letV (zE X39 46) fun X41 =>
  bndN (ctor_C_46 X41) fun X50 =>
  chk (RB X50 55 = true) (letV (zE X50 55) fun X54 =>
  bndN (ctor_C_55 X54) fun X63 =>
  chk (RB X63 61 = true) (letV (zE X63 61) fun X67 =>
  bndN (ctor_C_61 X67) fun X76 =>
  chk (RB X76 70 = true) (letV (zE X76 70) fun X80 =>
  bndN (ctor_C_70 X80) fun X89 =>
  letV (wI X89 0 7 ((-1))) fun X92 =>
  letV (wI X92 0 8 ((-1))) fun X93 =>
  some X93)))))))
set_option maxHeartbeats 4000000 in
set_option maxRecDepth 100000 in
theorem kctor_C (Λ : Lx) (ad : Nat → Nat) (cA : Nat → ClassId) (X : St) (b0 : Addr) (h0 : ad 0 = b0) : NM Λ yX10_init cX10_init 1 { frames := 7, cells := 87, slots := 172932, locals := 218 } [.ref b0] (YC_0, ad, cA, X) YC (ctor_C X) := by
  refine NM.of (by decide) rfl (Nat.le_of_ble_eq_true rfl) rfl ?_
  show N Λ cX10_init 1 "BlameCourt" { frames := 7, cells := 87, slots := 172932, locals := 218 } _ _ _ 0 [(0, .ref b0)] [] _ 0 0 (ctor_C X)
  unfold ctor_C
  refine N.aload_n dX10_init_0 rfl 0 rfl ?_
  refine N.obj k205 k206 k207 dX10_init_1 (Nat.le_of_ble_eq_true rfl) (Nat.le_of_ble_eq_true rfl) ?_
  refine N.aload_n dX10_init_4 rfl 0 rfl ?_
  refine N.sipush (w := 3000) dX10_init_5 (by decide) ?_
  refine N.newa (atype := .byte) (ty := .byte) k276 rfl 1 rfl (a0 := (3000, .inl (fun _ => 0))) (z := 3000) rfl (fun _ => rfl) (by decide) rfl (Nat.le_of_ble_eq_true rfl) (n := 1) rfl (by decide +kernel) (ce' := 1) (sl' := 3000) rfl rfl (Nat.le_of_ble_eq_true rfl) (Nat.le_of_ble_eq_true rfl) (Nat.le_of_ble_eq_true rfl) dX10_init_8 (fun q1 c3 X2 => ?_)
  have gb0 := (adU_ne ad 1 q1 (show (0 : Nat) ≠ 1 by decide)).trans h0
  have gq1 := adU_at ad 1 q1
  generalize adU ad 1 q1 = ad4 at gb0 gq1 ⊢
  generalize adU cA 1 c3 = cA5
  have h6 := gb0
  clear gb0
  have h7 := gq1
  clear gq1
  refine N.putC 0 h6 1 h7 (show isO (YC_0 ++ [(1, 3000, .byte, [])]) 0 8 13 from ⟨rfl, rfl, rfl⟩) rfl iX10 0 (by decide) k679 tyX10 tyX10_ok nmX10 rfl rfl rfl rfl dX10_init_10 ?_
  refine N.eqY (Y1 := YC_2) rfl ?_
  refine N.aload_n dX10_init_13 rfl 0 rfl ?_
  refine N.iconst (w := 0) dX10_init_14 (by decide) ?_
  refine N.putI 0 h6 (show isO YC_2 0 8 13 from ⟨rfl, rfl, rfl⟩) rfl iX10 1 (by decide) rfl k680 tyX10 tyX10_ok nmX10 rfl rfl rfl dX10_init_15 (fun X8 => ?_)
  refine N.aload_n dX10_init_18 rfl 0 rfl ?_
  refine N.new (ci := 4) iX5 tyX5 tyX5_ok k208 k209 k188 rfl [2, 0, 0, 2, 2, 0, 0, 2, 2, 2, 2, 2, 2, 2, 2, 2, 2] rfl (fs := .null :: .int 0 :: .int 0 :: .null :: .null :: .int 0 :: .int 0 :: dtX5) (hfs_of dfX5_ok) rfl rfl (n := 2) rfl (by decide +kernel) (ce' := 2) (sl' := 3017) rfl rfl (Nat.le_of_ble_eq_true rfl) (Nat.le_of_ble_eq_true rfl) (Nat.le_of_ble_eq_true rfl) dX10_init_19 (fun q9 c11 X10 => ?_)
  have gb0 := (adU_ne ad4 2 q9 (show (0 : Nat) ≠ 2 by decide)).trans h6
  have gq9 := adU_at ad4 2 q9
  generalize adU ad4 2 q9 = ad12 at gb0 gq9 ⊢
  generalize adU cA5 2 c11 = cA13
  have h14 := gb0
  clear gb0
  have h15 := gq9
  clear gq9
  refine N.eqY (Y1 := YC_3) rfl ?_
  refine N.dupr dX10_init_22 ?_
  refine N.ctor 2 h15 (rest := [.ref q9, .ref b0]) (As1 := []) (kctor_C_2 Λ ad12 cA13 X10 q9 h15) ka_X5_init k211 rfl (Or.inr n210) rfl rfl ⟨(Nat.le_of_ble_eq_true rfl), (Nat.le_of_ble_eq_true rfl)⟩ (Nat.le_of_ble_eq_true rfl) (ce' := 23) (sl' := 55792) rfl rfl ⟨(Nat.le_of_ble_eq_true rfl), (Nat.le_of_ble_eq_true rfl)⟩ dX10_init_23 (fun ad16 cA17 hx18 X19 => ?_) (Nat.le_of_ble_eq_true rfl)
  have h20 := (hx18 0 (by decide)).trans h14
  have h21 := (hx18 2 (by decide)).trans h15
  refine N.putR 0 h20 2 h21 (show isO YC_25 0 8 13 from ⟨rfl, rfl, rfl⟩) rfl iX10 9 (by decide) rfl k681 tyX10 tyX10_ok nmX10 rfl rfl rfl dX10_init_26 (fun X22 => ?_)
  refine N.aload_n dX10_init_29 rfl 0 rfl ?_
  refine N.new (ci := 4) iX5 tyX5 tyX5_ok k208 k209 k188 rfl [2, 0, 0, 2, 2, 0, 0, 2, 2, 2, 2, 2, 2, 2, 2, 2, 2] rfl (fs := .null :: .int 0 :: .int 0 :: .null :: .null :: .int 0 :: .int 0 :: dtX5) (hfs_of dfX5_ok) rfl rfl (n := 24) rfl (by decide +kernel) (ce' := 24) (sl' := 55809) rfl rfl (Nat.le_of_ble_eq_true rfl) (Nat.le_of_ble_eq_true rfl) (Nat.le_of_ble_eq_true rfl) dX10_init_30 (fun q23 c25 X24 => ?_)
  have gb0 := (adU_ne ad16 24 q23 (show (0 : Nat) ≠ 24 by decide)).trans h20
  have gq23 := adU_at ad16 24 q23
  generalize adU ad16 24 q23 = ad26 at gb0 gq23 ⊢
  generalize adU cA17 24 c25 = cA27
  have h28 := gb0
  clear gb0
  have h29 := gq23
  clear gq23
  refine N.eqY (Y1 := YC_26) rfl ?_
  refine N.dupr dX10_init_33 ?_
  refine N.ctor 24 h29 (rest := [.ref q23, .ref b0]) (As1 := []) (kctor_C_24 Λ ad26 cA27 X24 q23 h29) ka_X5_init k211 rfl (Or.inr n210) rfl rfl ⟨(Nat.le_of_ble_eq_true rfl), (Nat.le_of_ble_eq_true rfl)⟩ (Nat.le_of_ble_eq_true rfl) (ce' := 45) (sl' := 108584) rfl rfl ⟨(Nat.le_of_ble_eq_true rfl), (Nat.le_of_ble_eq_true rfl)⟩ dX10_init_34 (fun ad30 cA31 hx32 X33 => ?_) (Nat.le_of_ble_eq_true rfl)
  have h34 := (hx32 0 (by decide)).trans h28
  have h35 := (hx32 24 (by decide)).trans h29
  refine N.putR 0 h34 24 h35 (show isO YC_48 0 8 13 from ⟨rfl, rfl, rfl⟩) rfl iX10 2 (by decide) rfl k682 tyX10 tyX10_ok nmX10 rfl rfl rfl dX10_init_37 (fun X36 => ?_)
  refine N.aload_n dX10_init_40 rfl 0 rfl ?_
  refine N.iconst (w := 0) dX10_init_41 (by decide) ?_
  refine N.putI 0 h34 (show isO YC_48 0 8 13 from ⟨rfl, rfl, rfl⟩) rfl iX10 3 (by decide) rfl k683 tyX10 tyX10_ok nmX10 rfl rfl rfl dX10_init_42 (fun X37 => ?_)
  refine N.aload_n dX10_init_45 rfl 0 rfl ?_
  refine N.iconst (w := 0) dX10_init_46 (by decide) ?_
  refine N.putI 0 h34 (show isO YC_48 0 8 13 from ⟨rfl, rfl, rfl⟩) rfl iX10 4 (by decide) rfl k684 tyX10 tyX10_ok nmX10 rfl rfl rfl dX10_init_47 (fun X38 => ?_)
  refine N.aload_n dX10_init_50 rfl 0 rfl ?_
  refine N.iconst (w := 0) dX10_init_51 (by decide) ?_
  refine N.putI 0 h34 (show isO YC_48 0 8 13 from ⟨rfl, rfl, rfl⟩) rfl iX10 5 (by decide) rfl k685 tyX10 tyX10_ok nmX10 rfl rfl rfl dX10_init_52 (fun X39 => ?_)
  refine N.aload_n dX10_init_55 rfl 0 rfl ?_
  refine N.new (ci := 5) iX6 tyX6 tyX6_ok k374 k375 k191 rfl [2, 2, 0, 0, 0, 0, 0, 2, 2, 0, 2, 2, 2, 2] rfl (fs := .null :: .null :: .int 0 :: .int 0 :: .int 0 :: .int 0 :: .int 0 :: dtX6) (hfs_of dfX6_ok) rfl rfl (n := 46) rfl (by decide +kernel) (ce' := 46) (sl' := 108598) rfl rfl (Nat.le_of_ble_eq_true rfl) (Nat.le_of_ble_eq_true rfl) (Nat.le_of_ble_eq_true rfl) dX10_init_56 (fun q40 c42 X41 => ?_)
  have gb0 := (adU_ne ad30 46 q40 (show (0 : Nat) ≠ 46 by decide)).trans h34
  have gq40 := adU_at ad30 46 q40
  generalize adU ad30 46 q40 = ad43 at gb0 gq40 ⊢
  generalize adU cA31 46 c42 = cA44
  have h45 := gb0
  clear gb0
  have h46 := gq40
  clear gq40
  refine N.eqY (Y1 := YC_49) rfl ?_
  refine N.dupr dX10_init_59 ?_
  refine N.ctor 46 h46 (rest := [.ref q40, .ref b0]) (As1 := []) (kctor_C_46 Λ ad43 cA44 X41 q40 h46) ka_X6_init k377 rfl (Or.inr n376) rfl rfl ⟨(Nat.le_of_ble_eq_true rfl), (Nat.le_of_ble_eq_true rfl)⟩ (Nat.le_of_ble_eq_true rfl) (ce' := 54) (sl' := 109232) rfl rfl ⟨(Nat.le_of_ble_eq_true rfl), (Nat.le_of_ble_eq_true rfl)⟩ dX10_init_60 (fun ad47 cA48 hx49 X50 => ?_) (Nat.le_of_ble_eq_true rfl)
  have h51 := (hx49 0 (by decide)).trans h45
  have h52 := (hx49 46 (by decide)).trans h46
  refine N.putC 0 h51 46 h52 (show isO YC_58 0 8 13 from ⟨rfl, rfl, rfl⟩) rfl iX10 6 (by decide) k686 tyX10 tyX10_ok nmX10 rfl rfl rfl rfl dX10_init_63 ?_
  refine N.eqY (Y1 := YC_59) rfl ?_
  refine N.aload_n dX10_init_66 rfl 0 rfl ?_
  refine N.new (ci := 0) iX0 tyX0 tyX0_ok k461 k462 k193 rfl [2, 2, 2, 2, 2, 0] rfl (fs := dfX0) (hfs_of dfX0_ok) rfl rfl (n := 55) rfl (by decide +kernel) (ce' := 55) (sl' := 109238) rfl rfl (Nat.le_of_ble_eq_true rfl) (Nat.le_of_ble_eq_true rfl) (Nat.le_of_ble_eq_true rfl) dX10_init_67 (fun q53 c55 X54 => ?_)
  have gb0 := (adU_ne ad47 55 q53 (show (0 : Nat) ≠ 55 by decide)).trans h51
  have gq53 := adU_at ad47 55 q53
  generalize adU ad47 55 q53 = ad56 at gb0 gq53 ⊢
  generalize adU cA48 55 c55 = cA57
  have h58 := gb0
  clear gb0
  have h59 := gq53
  clear gq53
  refine N.eqY (Y1 := YC_60) rfl ?_
  refine N.dupr dX10_init_70 ?_
  refine N.ctor 55 h59 (rest := [.ref q53, .ref b0]) (As1 := []) (kctor_C_55 Λ ad56 cA57 X54 q53 h59) ka_X0_init k464 rfl (Or.inr n463) rfl rfl ⟨(Nat.le_of_ble_eq_true rfl), (Nat.le_of_ble_eq_true rfl)⟩ (Nat.le_of_ble_eq_true rfl) (ce' := 60) (sl' := 124238) rfl rfl ⟨(Nat.le_of_ble_eq_true rfl), (Nat.le_of_ble_eq_true rfl)⟩ dX10_init_71 (fun ad60 cA61 hx62 X63 => ?_) (Nat.le_of_ble_eq_true rfl)
  have h64 := (hx62 0 (by decide)).trans h58
  have h65 := (hx62 55 (by decide)).trans h59
  refine N.putC 0 h64 55 h65 (show isO YC_65 0 8 13 from ⟨rfl, rfl, rfl⟩) rfl iX10 10 (by decide) k687 tyX10 tyX10_ok nmX10 rfl rfl rfl rfl dX10_init_74 ?_
  refine N.eqY (Y1 := YC_66) rfl ?_
  refine N.aload_n dX10_init_77 rfl 0 rfl ?_
  refine N.new (ci := 2) iX2 tyX2 tyX2_ok k499 k500 k194 rfl [2, 2, 2, 0, 0, 0, 2, 2, 2, 2, 2, 2, 2, 2, 0] rfl (fs := dfX2) (hfs_of dfX2_ok) rfl rfl (n := 61) rfl (by decide +kernel) (ce' := 61) (sl' := 124253) rfl rfl (Nat.le_of_ble_eq_true rfl) (Nat.le_of_ble_eq_true rfl) (Nat.le_of_ble_eq_true rfl) dX10_init_78 (fun q66 c68 X67 => ?_)
  have gb0 := (adU_ne ad60 61 q66 (show (0 : Nat) ≠ 61 by decide)).trans h64
  have gq66 := adU_at ad60 61 q66
  generalize adU ad60 61 q66 = ad69 at gb0 gq66 ⊢
  generalize adU cA61 61 c68 = cA70
  have h71 := gb0
  clear gb0
  have h72 := gq66
  clear gq66
  refine N.eqY (Y1 := YC_67) rfl ?_
  refine N.dupr dX10_init_81 ?_
  refine N.ctor 61 h72 (rest := [.ref q66, .ref b0]) (As1 := []) (kctor_C_61 Λ ad69 cA70 X67 q66 h72) ka_X2_init k502 rfl (Or.inr n501) rfl rfl ⟨(Nat.le_of_ble_eq_true rfl), (Nat.le_of_ble_eq_true rfl)⟩ (Nat.le_of_ble_eq_true rfl) (ce' := 69) (sl' := 133577) rfl rfl ⟨(Nat.le_of_ble_eq_true rfl), (Nat.le_of_ble_eq_true rfl)⟩ dX10_init_82 (fun ad73 cA74 hx75 X76 => ?_) (Nat.le_of_ble_eq_true rfl)
  have h77 := (hx75 0 (by decide)).trans h71
  have h78 := (hx75 61 (by decide)).trans h72
  refine N.putC 0 h77 61 h78 (show isO YC_75 0 8 13 from ⟨rfl, rfl, rfl⟩) rfl iX10 11 (by decide) k688 tyX10 tyX10_ok nmX10 rfl rfl rfl rfl dX10_init_85 ?_
  refine N.eqY (Y1 := YC_76) rfl ?_
  refine N.aload_n dX10_init_88 rfl 0 rfl ?_
  refine N.new (ci := 6) iX7 tyX7 tyX7_ok k554 k555 k195 rfl [2, 2, 2, 0, 0, 0, 0, 0, 0, 0, 0, 0, 2, 2, 2, 0, 2, 2, 0, 2] rfl (fs := dfX7) (hfs_of dfX7_ok) rfl rfl (n := 70) rfl (by decide +kernel) (ce' := 70) (sl' := 133597) rfl rfl (Nat.le_of_ble_eq_true rfl) (Nat.le_of_ble_eq_true rfl) (Nat.le_of_ble_eq_true rfl) dX10_init_89 (fun q79 c81 X80 => ?_)
  have gb0 := (adU_ne ad73 70 q79 (show (0 : Nat) ≠ 70 by decide)).trans h77
  have gq79 := adU_at ad73 70 q79
  generalize adU ad73 70 q79 = ad82 at gb0 gq79 ⊢
  generalize adU cA74 70 c81 = cA83
  have h84 := gb0
  clear gb0
  have h85 := gq79
  clear gq79
  refine N.eqY (Y1 := YC_77) rfl ?_
  refine N.dupr dX10_init_92 ?_
  refine N.ctor 70 h85 (rest := [.ref q79, .ref b0]) (As1 := []) (kctor_C_70 Λ ad82 cA83 X80 q79 h85) ka_X7_init k557 rfl (Or.inr n556) rfl rfl ⟨(Nat.le_of_ble_eq_true rfl), (Nat.le_of_ble_eq_true rfl)⟩ (Nat.le_of_ble_eq_true rfl) (ce' := 87) (sl' := 172932) rfl rfl ⟨(Nat.le_of_ble_eq_true rfl), (Nat.le_of_ble_eq_true rfl)⟩ dX10_init_93 (fun ad86 cA87 hx88 X89 => ?_) (Nat.le_of_ble_eq_true rfl)
  have h90 := (hx88 0 (by decide)).trans h84
  have h91 := (hx88 70 (by decide)).trans h85
  refine N.putC 0 h90 70 h91 (show isO YC_95 0 8 13 from ⟨rfl, rfl, rfl⟩) rfl iX10 12 (by decide) k689 tyX10 tyX10_ok nmX10 rfl rfl rfl rfl dX10_init_96 ?_
  refine N.eqY (Y1 := YC) rfl ?_
  refine N.aload_n dX10_init_99 rfl 0 rfl ?_
  refine N.iconst (w := (-1)) dX10_init_100 (by decide) ?_
  refine N.putI 0 h90 (show isO YC 0 8 13 from ⟨rfl, rfl, rfl⟩) rfl iX10 7 (by decide) rfl k690 tyX10 tyX10_ok nmX10 rfl rfl rfl dX10_init_101 (fun X92 => ?_)
  refine N.aload_n dX10_init_104 rfl 0 rfl ?_
  refine N.iconst (w := (-1)) dX10_init_105 (by decide) ?_
  refine N.putI 0 h90 (show isO YC 0 8 13 from ⟨rfl, rfl, rfl⟩) rfl iX10 8 (by decide) rfl k691 tyX10 tyX10_ok nmX10 rfl rfl rfl dX10_init_106 (fun X93 => ?_)
  exact N.ret rfl (Nat.le_of_ble_eq_true rfl) (Nat.le_of_ble_eq_true rfl) dX10_init_109
