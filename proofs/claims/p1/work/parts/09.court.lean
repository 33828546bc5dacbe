theorem dX10_init_0 : decode cX10_init 0 = .ok (.aload_n 0, 1) := by decide +kernel
theorem dX10_init_1 : decode cX10_init 1 = .ok (.invokespecial 3, 3) := by decide +kernel
theorem dX10_init_4 : decode cX10_init 4 = .ok (.aload_n 0, 1) := by decide +kernel
theorem dX10_init_5 : decode cX10_init 5 = .ok (.sipush 3000, 3) := by decide +kernel
theorem dX10_init_8 : decode cX10_init 8 = .ok (.newarray .byte, 2) := by decide +kernel
theorem dX10_init_10 : decode cX10_init 10 = .ok (.putfield 9, 3) := by decide +kernel
theorem dX10_init_13 : decode cX10_init 13 = .ok (.aload_n 0, 1) := by decide +kernel
theorem dX10_init_14 : decode cX10_init 14 = .ok (.iconst 0, 1) := by decide +kernel
theorem dX10_init_15 : decode cX10_init 15 = .ok (.putfield 13, 3) := by decide +kernel
theorem dX10_init_18 : decode cX10_init 18 = .ok (.aload_n 0, 1) := by decide +kernel
theorem dX10_init_19 : decode cX10_init 19 = .ok (.new 17, 3) := by decide +kernel
theorem dX10_init_22 : decode cX10_init 22 = .ok (.dup, 1) := by decide +kernel
theorem dX10_init_23 : decode cX10_init 23 = .ok (.invokespecial 19, 3) := by decide +kernel
theorem dX10_init_26 : decode cX10_init 26 = .ok (.putfield 20, 3) := by decide +kernel
theorem dX10_init_29 : decode cX10_init 29 = .ok (.aload_n 0, 1) := by decide +kernel
theorem dX10_init_30 : decode cX10_init 30 = .ok (.new 17, 3) := by decide +kernel
theorem dX10_init_33 : decode cX10_init 33 = .ok (.dup, 1) := by decide +kernel
theorem dX10_init_34 : decode cX10_init 34 = .ok (.invokespecial 19, 3) := by decide +kernel
theorem dX10_init_37 : decode cX10_init 37 = .ok (.putfield 24, 3) := by decide +kernel
theorem dX10_init_40 : decode cX10_init 40 = .ok (.aload_n 0, 1) := by decide +kernel
theorem dX10_init_41 : decode cX10_init 41 = .ok (.iconst 0, 1) := by decide +kernel
theorem dX10_init_42 : decode cX10_init 42 = .ok (.putfield 27, 3) := by decide +kernel
theorem dX10_init_45 : decode cX10_init 45 = .ok (.aload_n 0, 1) := by decide +kernel
theorem dX10_init_46 : decode cX10_init 46 = .ok (.iconst 0, 1) := by decide +kernel
theorem dX10_init_47 : decode cX10_init 47 = .ok (.putfield 31, 3) := by decide +kernel
theorem dX10_init_50 : decode cX10_init 50 = .ok (.aload_n 0, 1) := by decide +kernel
theorem dX10_init_51 : decode cX10_init 51 = .ok (.iconst 0, 1) := by decide +kernel
theorem dX10_init_52 : decode cX10_init 52 = .ok (.putfield 34, 3) := by decide +kernel
theorem dX10_init_55 : decode cX10_init 55 = .ok (.aload_n 0, 1) := by decide +kernel
theorem dX10_init_56 : decode cX10_init 56 = .ok (.new 37, 3) := by decide +kernel
theorem dX10_init_59 : decode cX10_init 59 = .ok (.dup, 1) := by decide +kernel
theorem dX10_init_60 : decode cX10_init 60 = .ok (.invokespecial 39, 3) := by decide +kernel
theorem dX10_init_63 : decode cX10_init 63 = .ok (.putfield 40, 3) := by decide +kernel
theorem dX10_init_66 : decode cX10_init 66 = .ok (.aload_n 0, 1) := by decide +kernel
theorem dX10_init_67 : decode cX10_init 67 = .ok (.new 44, 3) := by decide +kernel
theorem dX10_init_70 : decode cX10_init 70 = .ok (.dup, 1) := by decide +kernel
theorem dX10_init_71 : decode cX10_init 71 = .ok (.invokespecial 46, 3) := by decide +kernel
theorem dX10_init_74 : decode cX10_init 74 = .ok (.putfield 47, 3) := by decide +kernel
theorem dX10_init_77 : decode cX10_init 77 = .ok (.aload_n 0, 1) := by decide +kernel
theorem dX10_init_78 : decode cX10_init 78 = .ok (.new 51, 3) := by decide +kernel
theorem dX10_init_81 : decode cX10_init 81 = .ok (.dup, 1) := by decide +kernel
theorem dX10_init_82 : decode cX10_init 82 = .ok (.invokespecial 53, 3) := by decide +kernel
theorem dX10_init_85 : decode cX10_init 85 = .ok (.putfield 54, 3) := by decide +kernel
theorem dX10_init_88 : decode cX10_init 88 = .ok (.aload_n 0, 1) := by decide +kernel
theorem dX10_init_89 : decode cX10_init 89 = .ok (.new 58, 3) := by decide +kernel
theorem dX10_init_92 : decode cX10_init 92 = .ok (.dup, 1) := by decide +kernel
theorem dX10_init_93 : decode cX10_init 93 = .ok (.invokespecial 60, 3) := by decide +kernel
theorem dX10_init_96 : decode cX10_init 96 = .ok (.putfield 61, 3) := by decide +kernel
theorem dX10_init_99 : decode cX10_init 99 = .ok (.aload_n 0, 1) := by decide +kernel
theorem dX10_init_100 : decode cX10_init 100 = .ok (.iconst (-1), 1) := by decide +kernel
theorem dX10_init_101 : decode cX10_init 101 = .ok (.putfield 65, 3) := by decide +kernel
theorem dX10_init_104 : decode cX10_init 104 = .ok (.aload_n 0, 1) := by decide +kernel
theorem dX10_init_105 : decode cX10_init 105 = .ok (.iconst (-1), 1) := by decide +kernel
theorem dX10_init_106 : decode cX10_init 106 = .ok (.putfield 68, 3) := by decide +kernel
theorem dX10_init_109 : decode cX10_init 109 = .ok (.return_, 1) := by decide +kernel
theorem dX5_init_0 : decode cX5_init 0 = .ok (.aload_n 0, 1) := by decide +kernel
theorem dX5_init_1 : decode cX5_init 1 = .ok (.invokespecial 3, 3) := by decide +kernel
theorem dX5_init_4 : decode cX5_init 4 = .ok (.aload_n 0, 1) := by decide +kernel
theorem dX5_init_5 : decode cX5_init 5 = .ok (.new 9, 3) := by decide +kernel
theorem dX5_init_8 : decode cX5_init 8 = .ok (.dup, 1) := by decide +kernel
theorem dX5_init_9 : decode cX5_init 9 = .ok (.invokespecial 11, 3) := by decide +kernel
theorem dX5_init_12 : decode cX5_init 12 = .ok (.putfield 12, 3) := by decide +kernel
theorem dX5_init_15 : decode cX5_init 15 = .ok (.aload_n 0, 1) := by decide +kernel
theorem dX5_init_16 : decode cX5_init 16 = .ok (.iconst 0, 1) := by decide +kernel
theorem dX5_init_17 : decode cX5_init 17 = .ok (.putfield 18, 3) := by decide +kernel
theorem dX5_init_20 : decode cX5_init 20 = .ok (.aload_n 0, 1) := by decide +kernel
theorem dX5_init_21 : decode cX5_init 21 = .ok (.iconst (-1), 1) := by decide +kernel
theorem dX5_init_22 : decode cX5_init 22 = .ok (.putfield 22, 3) := by decide +kernel
theorem dX5_init_25 : decode cX5_init 25 = .ok (.aload_n 0, 1) := by decide +kernel
theorem dX5_init_26 : decode cX5_init 26 = .ok (.bipush 40, 2) := by decide +kernel
theorem dX5_init_28 : decode cX5_init 28 = .ok (.newarray .long, 2) := by decide +kernel
theorem dX5_init_30 : decode cX5_init 30 = .ok (.putfield 25, 3) := by decide +kernel
theorem dX5_init_33 : decode cX5_init 33 = .ok (.aload_n 0, 1) := by decide +kernel
theorem dX5_init_34 : decode cX5_init 34 = .ok (.bipush 40, 2) := by decide +kernel
theorem dX5_init_36 : decode cX5_init 36 = .ok (.newarray .int, 2) := by decide +kernel
theorem dX5_init_38 : decode cX5_init 38 = .ok (.putfield 29, 3) := by decide +kernel
theorem dX5_init_41 : decode cX5_init 41 = .ok (.aload_n 0, 1) := by decide +kernel
theorem dX5_init_42 : decode cX5_init 42 = .ok (.bipush 40, 2) := by decide +kernel
theorem dX5_init_44 : decode cX5_init 44 = .ok (.newarray .int, 2) := by decide +kernel
theorem dX5_init_46 : decode cX5_init 46 = .ok (.putfield 33, 3) := by decide +kernel
theorem dX5_init_49 : decode cX5_init 49 = .ok (.aload_n 0, 1) := by decide +kernel
theorem dX5_init_50 : decode cX5_init 50 = .ok (.bipush 40, 2) := by decide +kernel
theorem dX5_init_52 : decode cX5_init 52 = .ok (.newarray .int, 2) := by decide +kernel
theorem dX5_init_54 : decode cX5_init 54 = .ok (.putfield 36, 3) := by decide +kernel
theorem dX5_init_57 : decode cX5_init 57 = .ok (.aload_n 0, 1) := by decide +kernel
theorem dX5_init_58 : decode cX5_init 58 = .ok (.sipush 160, 3) := by decide +kernel
theorem dX5_init_61 : decode cX5_init 61 = .ok (.newarray .int, 2) := by decide +kernel
theorem dX5_init_63 : decode cX5_init 63 = .ok (.putfield 39, 3) := by decide +kernel
theorem dX5_init_66 : decode cX5_init 66 = .ok (.aload_n 0, 1) := by decide +kernel
theorem dX5_init_67 : decode cX5_init 67 = .ok (.bipush 40, 2) := by decide +kernel
theorem dX5_init_69 : decode cX5_init 69 = .ok (.newarray .int, 2) := by decide +kernel
theorem dX5_init_71 : decode cX5_init 71 = .ok (.putfield 42, 3) := by decide +kernel
theorem dX5_init_74 : decode cX5_init 74 = .ok (.aload_n 0, 1) := by decide +kernel
theorem dX5_init_75 : decode cX5_init 75 = .ok (.bipush 40, 2) := by decide +kernel
theorem dX5_init_77 : decode cX5_init 77 = .ok (.newarray .boolean, 2) := by decide +kernel
theorem dX5_init_79 : decode cX5_init 79 = .ok (.putfield 45, 3) := by decide +kernel
theorem dX5_init_82 : decode cX5_init 82 = .ok (.aload_n 0, 1) := by decide +kernel
theorem dX5_init_83 : decode cX5_init 83 = .ok (.bipush 41, 2) := by decide +kernel
theorem dX5_init_85 : decode cX5_init 85 = .ok (.newarray .int, 2) := by decide +kernel
theorem dX5_init_87 : decode cX5_init 87 = .ok (.putfield 49, 3) := by decide +kernel
theorem dX5_init_90 : decode cX5_init 90 = .ok (.aload_n 0, 1) := by decide +kernel
theorem dX5_init_91 : decode cX5_init 91 = .ok (.iconst 0, 1) := by decide +kernel
theorem dX5_init_92 : decode cX5_init 92 = .ok (.putfield 52, 3) := by decide +kernel
theorem dX5_init_95 : decode cX5_init 95 = .ok (.aload_n 0, 1) := by decide +kernel
theorem dX5_init_96 : decode cX5_init 96 = .ok (.sipush 9080, 3) := by decide +kernel
theorem dX5_init_99 : decode cX5_init 99 = .ok (.newarray .int, 2) := by decide +kernel
theorem dX5_init_101 : decode cX5_init 101 = .ok (.putfield 55, 3) := by decide +kernel
theorem dX5_init_104 : decode cX5_init 104 = .ok (.aload_n 0, 1) := by decide +kernel
theorem dX5_init_105 : decode cX5_init 105 = .ok (.sipush 9080, 3) := by decide +kernel
theorem dX5_init_108 : decode cX5_init 108 = .ok (.newarray .int, 2) := by decide +kernel
theorem dX5_init_110 : decode cX5_init 110 = .ok (.putfield 58, 3) := by decide +kernel
theorem dX5_init_113 : decode cX5_init 113 = .ok (.aload_n 0, 1) := by decide +kernel
theorem dX5_init_114 : decode cX5_init 114 = .ok (.sipush 9080, 3) := by decide +kernel
theorem dX5_init_117 : decode cX5_init 117 = .ok (.newarray .int, 2) := by decide +kernel
theorem dX5_init_119 : decode cX5_init 119 = .ok (.putfield 61, 3) := by decide +kernel
theorem dX5_init_122 : decode cX5_init 122 = .ok (.aload_n 0, 1) := by decide +kernel
theorem dX5_init_123 : decode cX5_init 123 = .ok (.sipush 9080, 3) := by decide +kernel
theorem dX5_init_126 : decode cX5_init 126 = .ok (.newarray .int, 2) := by decide +kernel
theorem dX5_init_128 : decode cX5_init 128 = .ok (.putfield 64, 3) := by decide +kernel
theorem dX5_init_131 : decode cX5_init 131 = .ok (.aload_n 0, 1) := by decide +kernel
theorem dX5_init_132 : decode cX5_init 132 = .ok (.iconst 0, 1) := by decide +kernel
theorem dX5_init_133 : decode cX5_init 133 = .ok (.putfield 67, 3) := by decide +kernel
theorem dX5_init_136 : decode cX5_init 136 = .ok (.return_, 1) := by decide +kernel
theorem dX6_init_0 : decode cX6_init 0 = .ok (.aload_n 0, 1) := by decide +kernel
theorem dX6_init_1 : decode cX6_init 1 = .ok (.invokespecial 5, 3) := by decide +kernel
theorem dX6_init_4 : decode cX6_init 4 = .ok (.aload_n 0, 1) := by decide +kernel
theorem dX6_init_5 : decode cX6_init 5 = .ok (.new 11, 3) := by decide +kernel
theorem dX6_init_8 : decode cX6_init 8 = .ok (.dup, 1) := by decide +kernel
theorem dX6_init_9 : decode cX6_init 9 = .ok (.invokespecial 13, 3) := by decide +kernel
theorem dX6_init_12 : decode cX6_init 12 = .ok (.putfield 14, 3) := by decide +kernel
theorem dX6_init_15 : decode cX6_init 15 = .ok (.aload_n 0, 1) := by decide +kernel
theorem dX6_init_16 : decode cX6_init 16 = .ok (.aconst_null, 1) := by decide +kernel
theorem dX6_init_17 : decode cX6_init 17 = .ok (.putfield 18, 3) := by decide +kernel
theorem dX6_init_20 : decode cX6_init 20 = .ok (.aload_n 0, 1) := by decide +kernel
theorem dX6_init_21 : decode cX6_init 21 = .ok (.iconst 0, 1) := by decide +kernel
theorem dX6_init_22 : decode cX6_init 22 = .ok (.putfield 22, 3) := by decide +kernel
theorem dX6_init_25 : decode cX6_init 25 = .ok (.aload_n 0, 1) := by decide +kernel
theorem dX6_init_26 : decode cX6_init 26 = .ok (.iconst 0, 1) := by decide +kernel
theorem dX6_init_27 : decode cX6_init 27 = .ok (.putfield 26, 3) := by decide +kernel
theorem dX6_init_30 : decode cX6_init 30 = .ok (.aload_n 0, 1) := by decide +kernel
theorem dX6_init_31 : decode cX6_init 31 = .ok (.iconst (-1), 1) := by decide +kernel
theorem dX6_init_32 : decode cX6_init 32 = .ok (.putfield 29, 3) := by decide +kernel
theorem dX6_init_35 : decode cX6_init 35 = .ok (.aload_n 0, 1) := by decide +kernel
theorem dX6_init_36 : decode cX6_init 36 = .ok (.bipush 40, 2) := by decide +kernel
theorem dX6_init_38 : decode cX6_init 38 = .ok (.newarray .int, 2) := by decide +kernel
theorem dX6_init_40 : decode cX6_init 40 = .ok (.putfield 32, 3) := by decide +kernel
theorem dX6_init_43 : decode cX6_init 43 = .ok (.aload_n 0, 1) := by decide +kernel
theorem dX6_init_44 : decode cX6_init 44 = .ok (.bipush 44, 2) := by decide +kernel
theorem dX6_init_46 : decode cX6_init 46 = .ok (.newarray .long, 2) := by decide +kernel
theorem dX6_init_48 : decode cX6_init 48 = .ok (.putfield 36, 3) := by decide +kernel
theorem dX6_init_51 : decode cX6_init 51 = .ok (.aload_n 0, 1) := by decide +kernel
theorem dX6_init_52 : decode cX6_init 52 = .ok (.iconst 0, 1) := by decide +kernel
theorem dX6_init_53 : decode cX6_init 53 = .ok (.putfield 40, 3) := by decide +kernel
theorem dX6_init_56 : decode cX6_init 56 = .ok (.aload_n 0, 1) := by decide +kernel
theorem dX6_init_57 : decode cX6_init 57 = .ok (.bipush 126, 2) := by decide +kernel
theorem dX6_init_59 : decode cX6_init 59 = .ok (.newarray .int, 2) := by decide +kernel
theorem dX6_init_61 : decode cX6_init 61 = .ok (.putfield 43, 3) := by decide +kernel
theorem dX6_init_64 : decode cX6_init 64 = .ok (.aload_n 0, 1) := by decide +kernel
theorem dX6_init_65 : decode cX6_init 65 = .ok (.bipush 126, 2) := by decide +kernel
theorem dX6_init_67 : decode cX6_init 67 = .ok (.newarray .int, 2) := by decide +kernel
theorem dX6_init_69 : decode cX6_init 69 = .ok (.putfield 46, 3) := by decide +kernel
theorem dX6_init_72 : decode cX6_init 72 = .ok (.aload_n 0, 1) := by decide +kernel
theorem dX6_init_73 : decode cX6_init 73 = .ok (.bipush 126, 2) := by decide +kernel
theorem dX6_init_75 : decode cX6_init 75 = .ok (.newarray .int, 2) := by decide +kernel
theorem dX6_init_77 : decode cX6_init 77 = .ok (.putfield 49, 3) := by decide +kernel
theorem dX6_init_80 : decode cX6_init 80 = .ok (.aload_n 0, 1) := by decide +kernel
theorem dX6_init_81 : decode cX6_init 81 = .ok (.iconst 0, 1) := by decide +kernel
theorem dX6_init_82 : decode cX6_init 82 = .ok (.putfield 52, 3) := by decide +kernel
theorem dX6_init_85 : decode cX6_init 85 = .ok (.aload_n 0, 1) := by decide +kernel
theorem dX6_init_86 : decode cX6_init 86 = .ok (.sipush 164, 3) := by decide +kernel
theorem dX6_init_89 : decode cX6_init 89 = .ok (.newarray .int, 2) := by decide +kernel
theorem dX6_init_91 : decode cX6_init 91 = .ok (.putfield 55, 3) := by decide +kernel
theorem dX6_init_94 : decode cX6_init 94 = .ok (.aload_n 0, 1) := by decide +kernel
theorem dX6_init_95 : decode cX6_init 95 = .ok (.iconst 0, 1) := by decide +kernel
theorem dX6_init_96 : decode cX6_init 96 = .ok (.putfield 58, 3) := by decide +kernel
theorem dX6_init_99 : decode cX6_init 99 = .ok (.return_, 1) := by decide +kernel
theorem k188 : Cond.initialized "BlameCourt$Program" ∈ gtb := gtm (in_tables_1_1 (List.mem_of_getElem? (i := 2) rfl)) rfl
theorem k191 : Cond.initialized "BlameCourt$Reade\x72" ∈ gtb := gtm (in_tables_1_1 (List.mem_of_getElem? (i := 5) rfl)) rfl
theorem k205 : Cond.methodLink "BlameCourt" 3 objectInit ∈ gtb := gtm (in_tables_1_1 (List.mem_of_getElem? (i := 19) rfl)) rfl
theorem k208 : Cond.classLink "BlameCourt" 17 "BlameCourt$Program" ∈ gtb := gtm (in_tables_1_1 (List.mem_of_getElem? (i := 22) rfl)) rfl
theorem k209 : Cond.instantiable "BlameCourt$Program" 17 ∈ gtb := gtm (in_tables_1_1 (List.mem_of_getElem? (i := 23) rfl)) rfl
theorem k211 : Cond.instanceMethod yX5_init ∈ gtb := gtm (in_tables_1_1 (List.mem_of_getElem? (i := 25) rfl)) rfl
theorem k213 : Cond.methodLink "BlameCourt$Program" 3 objectInit ∈ gtb := gtm (in_tables_1_1 (List.mem_of_getElem? (i := 27) rfl)) rfl
theorem k214 : Cond.classLink "BlameCourt$Program" 9 "BlameCourt$Kinds" ∈ gtb := gtm (in_tables_1_1 (List.mem_of_getElem? (i := 28) rfl)) rfl
theorem k215 : Cond.instantiable "BlameCourt$Kinds" 8 ∈ gtb := gtm (in_tables_1_1 (List.mem_of_getElem? (i := 29) rfl)) rfl
theorem k216 : Cond.methodLink "BlameCourt$Program" 11 yX3_init ∈ gtb := gtm (in_tables_1_1 (List.mem_of_getElem? (i := 30) rfl)) rfl
theorem k217 : Cond.instanceMethod yX3_init ∈ gtb := gtm (in_tables_1_1 (List.mem_of_getElem? (i := 31) rfl)) rfl
theorem k279 : Cond.fieldLink "BlameCourt$Program" 12 "BlameCourt$Program" "kinds" "LBlameCourt$Kinds;" ∈ gtb := gtm (in_tables_1_1 (List.mem_of_getElem? (i := 93) rfl)) rfl
theorem k284 : Cond.fieldLink "BlameCourt$Program" 18 "BlameCourt$Program" "parts" "I" ∈ gtb := gtm (in_tables_1_1 (List.mem_of_getElem? (i := 98) rfl)) rfl
theorem k289 : Cond.fieldLink "BlameCourt$Program" 22 "BlameCourt$Program" "mainPart" "I" ∈ gtb := gtm (in_tables_1_1 (List.mem_of_getElem? (i := 103) rfl)) rfl
theorem k292 : Cond.fieldLink "BlameCourt$Program" 25 "BlameCourt$Program" "name" "[J" ∈ gtb := gtm (in_tables_1_1 (List.mem_of_getElem? (i := 106) rfl)) rfl
theorem k294 : Cond.fieldLink "BlameCourt$Program" 29 "BlameCourt$Program" "letters" "[I" ∈ gtb := gtm (in_tables_1_1 (List.mem_of_getElem? (i := 108) rfl)) rfl
theorem k297 : Cond.fieldLink "BlameCourt$Program" 33 "BlameCourt$Program" "partPlace" "[I" ∈ gtb := gtm (in_tables_1_1 (List.mem_of_getElem? (i := 111) rfl)) rfl
theorem k300 : Cond.fieldLink "BlameCourt$Program" 36 "BlameCourt$Program" "params" "[I" ∈ gtb := gtm (in_tables_1_1 (List.mem_of_getElem? (i := 114) rfl)) rfl
theorem k304 : Cond.fieldLink "BlameCourt$Program" 39 "BlameCourt$Program" "paramKind" "[I" ∈ gtb := gtm (in_tables_1_1 (List.mem_of_getElem? (i := 118) rfl)) rfl
theorem k307 : Cond.fieldLink "BlameCourt$Program" 42 "BlameCourt$Program" "ownKind" "[I" ∈ gtb := gtm (in_tables_1_1 (List.mem_of_getElem? (i := 121) rfl)) rfl
theorem k310 : Cond.fieldLink "BlameCourt$Program" 45 "BlameCourt$Program" "isTold" "[Z" ∈ gtb := gtm (in_tables_1_1 (List.mem_of_getElem? (i := 124) rfl)) rfl
theorem k313 : Cond.fieldLink "BlameCourt$Program" 49 "BlameCourt$Program" "entry" "[I" ∈ gtb := gtm (in_tables_1_1 (List.mem_of_getElem? (i := 127) rfl)) rfl
theorem k317 : Cond.fieldLink "BlameCourt$Program" 52 "BlameCourt$Program" "textKinds" "I" ∈ gtb := gtm (in_tables_1_1 (List.mem_of_getElem? (i := 131) rfl)) rfl
theorem k320 : Cond.fieldLink "BlameCourt$Program" 55 "BlameCourt$Program" "op" "[I" ∈ gtb := gtm (in_tables_1_1 (List.mem_of_getElem? (i := 134) rfl)) rfl
theorem k324 : Cond.fieldLink "BlameCourt$Program" 58 "BlameCourt$Program" "x" "[I" ∈ gtb := gtm (in_tables_1_1 (List.mem_of_getElem? (i := 138) rfl)) rfl
theorem k328 : Cond.fieldLink "BlameCourt$Program" 61 "BlameCourt$Program" "y" "[I" ∈ gtb := gtm (in_tables_1_1 (List.mem_of_getElem? (i := 142) rfl)) rfl
theorem k331 : Cond.fieldLink "BlameCourt$Program" 64 "BlameCourt$Program" "place" "[I" ∈ gtb := gtm (in_tables_1_1 (List.mem_of_getElem? (i := 145) rfl)) rfl
theorem k335 : Cond.fieldLink "BlameCourt$Program" 67 "BlameCourt$Program" "length" "I" ∈ gtb := gtm (in_tables_1_1 (List.mem_of_getElem? (i := 149) rfl)) rfl
theorem k374 : Cond.classLink "BlameCourt" 37 "BlameCourt$Reade\x72" ∈ gtb := gtm (in_tables_1_1 (List.mem_of_getElem? (i := 188) rfl)) rfl
theorem k375 : Cond.instantiable "BlameCourt$Reade\x72" 14 ∈ gtb := gtm (in_tables_1_1 (List.mem_of_getElem? (i := 189) rfl)) rfl
theorem k377 : Cond.instanceMethod yX6_init ∈ gtb := gtm (in_tables_1_1 (List.mem_of_getElem? (i := 191) rfl)) rfl
theorem k379 : Cond.methodLink "BlameCourt$Reade\x72" 5 objectInit ∈ gtb := gtm (in_tables_1_1 (List.mem_of_getElem? (i := 193) rfl)) rfl
theorem k380 : Cond.classLink "BlameCourt$Reade\x72" 11 "BlameCourt$Tokens" ∈ gtb := gtm (in_tables_1_1 (List.mem_of_getElem? (i := 194) rfl)) rfl
theorem k381 : Cond.instantiable "BlameCourt$Tokens" 8 ∈ gtb := gtm (in_tables_1_1 (List.mem_of_getElem? (i := 195) rfl)) rfl
theorem k383 : Cond.instanceMethod yX9_init ∈ gtb := gtm (in_tables_1_1 (List.mem_of_getElem? (i := 197) rfl)) rfl
theorem k416 : Cond.fieldLink "BlameCourt$Reade\x72" 14 "BlameCourt$Reade\x72" "tokens" "LBlameCourt$Tokens;" ∈ gtb := gtm (in_tables_1_1 (List.mem_of_getElem? (i := 230) rfl)) rfl
theorem k417 : Cond.fieldLink "BlameCourt$Reade\x72" 18 "BlameCourt$Reade\x72" "program" "LBlameCourt$Program;" ∈ gtb := gtm (in_tables_1_1 (List.mem_of_getElem? (i := 231) rfl)) rfl
theorem k418 : Cond.fieldLink "BlameCourt$Reade\x72" 22 "BlameCourt$Reade\x72" "open" "I" ∈ gtb := gtm (in_tables_1_1 (List.mem_of_getElem? (i := 232) rfl)) rfl
theorem k419 : Cond.fieldLink "BlameCourt$Reade\x72" 26 "BlameCourt$Reade\x72" "fault" "I" ∈ gtb := gtm (in_tables_1_1 (List.mem_of_getElem? (i := 233) rfl)) rfl
theorem k421 : Cond.fieldLink "BlameCourt$Reade\x72" 29 "BlameCourt$Reade\x72" "faultPlace" "I" ∈ gtb := gtm (in_tables_1_1 (List.mem_of_getElem? (i := 235) rfl)) rfl
theorem k423 : Cond.fieldLink "BlameCourt$Reade\x72" 32 "BlameCourt$Reade\x72" "namePlace" "[I" ∈ gtb := gtm (in_tables_1_1 (List.mem_of_getElem? (i := 237) rfl)) rfl
theorem k424 : Cond.fieldLink "BlameCourt$Reade\x72" 36 "BlameCourt$Reade\x72" "local" "[J" ∈ gtb := gtm (in_tables_1_1 (List.mem_of_getElem? (i := 238) rfl)) rfl
theorem k425 : Cond.fieldLink "BlameCourt$Reade\x72" 40 "BlameCourt$Reade\x72" "locals" "I" ∈ gtb := gtm (in_tables_1_1 (List.mem_of_getElem? (i := 239) rfl)) rfl
theorem k426 : Cond.fieldLink "BlameCourt$Reade\x72" 43 "BlameCourt$Reade\x72" "waitingSign" "[I" ∈ gtb := gtm (in_tables_1_2 (List.mem_of_getElem? (i := 0) rfl)) rfl
theorem k427 : Cond.fieldLink "BlameCourt$Reade\x72" 46 "BlameCourt$Reade\x72" "waitingPlace" "[I" ∈ gtb := gtm (in_tables_1_2 (List.mem_of_getElem? (i := 1) rfl)) rfl
theorem k428 : Cond.fieldLink "BlameCourt$Reade\x72" 49 "BlameCourt$Reade\x72" "waitingLeft" "[I" ∈ gtb := gtm (in_tables_1_2 (List.mem_of_getElem? (i := 2) rfl)) rfl
theorem k429 : Cond.fieldLink "BlameCourt$Reade\x72" 52 "BlameCourt$Reade\x72" "waiting" "I" ∈ gtb := gtm (in_tables_1_2 (List.mem_of_getElem? (i := 3) rfl)) rfl
theorem k430 : Cond.fieldLink "BlameCourt$Reade\x72" 55 "BlameCourt$Reade\x72" "listedKind" "[I" ∈ gtb := gtm (in_tables_1_2 (List.mem_of_getElem? (i := 4) rfl)) rfl
theorem k431 : Cond.fieldLink "BlameCourt$Reade\x72" 58 "BlameCourt$Reade\x72" "listedKinds" "I" ∈ gtb := gtm (in_tables_1_2 (List.mem_of_getElem? (i := 5) rfl)) rfl
theorem k461 : Cond.classLink "BlameCourt" 44 "BlameCourt$Guards" ∈ gtb := gtm (in_tables_1_2 (List.mem_of_getElem? (i := 35) rfl)) rfl
theorem k462 : Cond.instantiable "BlameCourt$Guards" 6 ∈ gtb := gtm (in_tables_1_2 (List.mem_of_getElem? (i := 36) rfl)) rfl
theorem k464 : Cond.instanceMethod yX0_init ∈ gtb := gtm (in_tables_1_2 (List.mem_of_getElem? (i := 38) rfl)) rfl
theorem k499 : Cond.classLink "BlameCourt" 51 "BlameCourt$Judging" ∈ gtb := gtm (in_tables_1_2 (List.mem_of_getElem? (i := 73) rfl)) rfl
theorem k500 : Cond.instantiable "BlameCourt$Judging" 15 ∈ gtb := gtm (in_tables_1_2 (List.mem_of_getElem? (i := 74) rfl)) rfl
theorem k502 : Cond.instanceMethod yX2_init ∈ gtb := gtm (in_tables_1_2 (List.mem_of_getElem? (i := 76) rfl)) rfl
theorem k554 : Cond.classLink "BlameCourt" 58 "BlameCourt$Running" ∈ gtb := gtm (in_tables_1_2 (List.mem_of_getElem? (i := 128) rfl)) rfl
theorem k555 : Cond.instantiable "BlameCourt$Running" 20 ∈ gtb := gtm (in_tables_1_2 (List.mem_of_getElem? (i := 129) rfl)) rfl
theorem k557 : Cond.instanceMethod yX7_init ∈ gtb := gtm (in_tables_1_2 (List.mem_of_getElem? (i := 131) rfl)) rfl
theorem k679 : Cond.fieldLink "BlameCourt" 9 "BlameCourt" "tape" "[B" ∈ gtb := gtm (in_tables_1_3 (List.mem_of_getElem? (i := 13) rfl)) rfl
theorem k680 : Cond.fieldLink "BlameCourt" 13 "BlameCourt" "tapeLength" "I" ∈ gtb := gtm (in_tables_1_3 (List.mem_of_getElem? (i := 14) rfl)) rfl
theorem k681 : Cond.fieldLink "BlameCourt" 20 "BlameCourt" "program" "LBlameCourt$Program;" ∈ gtb := gtm (in_tables_1_3 (List.mem_of_getElem? (i := 15) rfl)) rfl
theorem k682 : Cond.fieldLink "BlameCourt" 24 "BlameCourt" "spare" "LBlameCourt$Program;" ∈ gtb := gtm (in_tables_1_3 (List.mem_of_getElem? (i := 16) rfl)) rfl
theorem k683 : Cond.fieldLink "BlameCourt" 27 "BlameCourt" "hasProgram" "Z" ∈ gtb := gtm (in_tables_1_3 (List.mem_of_getElem? (i := 17) rfl)) rfl
theorem k684 : Cond.fieldLink "BlameCourt" 31 "BlameCourt" "isJudged" "Z" ∈ gtb := gtm (in_tables_1_3 (List.mem_of_getElem? (i := 18) rfl)) rfl
theorem k685 : Cond.fieldLink "BlameCourt" 34 "BlameCourt" "hasRun" "Z" ∈ gtb := gtm (in_tables_1_3 (List.mem_of_getElem? (i := 19) rfl)) rfl
theorem k686 : Cond.fieldLink "BlameCourt" 40 "BlameCourt" "reade\x72" "LBlameCourt$Reader;" ∈ gtb := gtm (in_tables_1_3 (List.mem_of_getElem? (i := 20) rfl)) rfl
theorem k687 : Cond.fieldLink "BlameCourt" 47 "BlameCourt" "guards" "LBlameCourt$Guards;" ∈ gtb := gtm (in_tables_1_3 (List.mem_of_getElem? (i := 21) rfl)) rfl
theorem k688 : Cond.fieldLink "BlameCourt" 54 "BlameCourt" "judging" "LBlameCourt$Judging;" ∈ gtb := gtm (in_tables_1_3 (List.mem_of_getElem? (i := 22) rfl)) rfl
theorem k689 : Cond.fieldLink "BlameCourt" 61 "BlameCourt" "running" "LBlameCourt$Running;" ∈ gtb := gtm (in_tables_1_3 (List.mem_of_getElem? (i := 23) rfl)) rfl
theorem k690 : Cond.fieldLink "BlameCourt" 65 "BlameCourt" "latestFault" "I" ∈ gtb := gtm (in_tables_1_3 (List.mem_of_getElem? (i := 24) rfl)) rfl
theorem k691 : Cond.fieldLink "BlameCourt" 68 "BlameCourt" "latestFaultPlace" "I" ∈ gtb := gtm (in_tables_1_3 (List.mem_of_getElem? (i := 25) rfl)) rfl
theorem n210 : Cond.methodLinkNest "BlameCourt" 19 yX5_init "BlameCourt" ∈ lw_tbl := in_tables_1_1 (List.mem_of_getElem? (i := 24) rfl)
theorem n376 : Cond.methodLinkNest "BlameCourt" 39 yX6_init "BlameCourt" ∈ lw_tbl := in_tables_1_1 (List.mem_of_getElem? (i := 190) rfl)
theorem n382 : Cond.methodLinkNest "BlameCourt$Reade\x72" 13 yX9_init "BlameCourt" ∈ lw_tbl := in_tables_1_1 (List.mem_of_getElem? (i := 196) rfl)
theorem n463 : Cond.methodLinkNest "BlameCourt" 46 yX0_init "BlameCourt" ∈ lw_tbl := in_tables_1_2 (List.mem_of_getElem? (i := 37) rfl)
theorem n501 : Cond.methodLinkNest "BlameCourt" 53 yX2_init "BlameCourt" ∈ lw_tbl := in_tables_1_2 (List.mem_of_getElem? (i := 75) rfl)
theorem n556 : Cond.methodLinkNest "BlameCourt" 60 yX7_init "BlameCourt" ∈ lw_tbl := in_tables_1_2 (List.mem_of_getElem? (i := 130) rfl)
theorem k204 : Cond.code yX10_init cX10_init 1 none ∈ gtb := gtm (in_tables_1_1 (List.mem_of_getElem? (i := 18) rfl)) rfl
theorem k187 : Cond.initialized "BlameCourt" ∈ gtb := gtm (in_tables_1_1 (List.mem_of_getElem? (i := 1) rfl)) rfl
theorem ka_X10_init : KA yX10_init cX10_init 1 none 0 := ⟨k204, k187, by decide, by decide, by decide +kernel⟩
theorem k212 : Cond.code yX5_init cX5_init 1 none ∈ gtb := gtm (in_tables_1_1 (List.mem_of_getElem? (i := 26) rfl)) rfl
theorem ka_X5_init : KA yX5_init cX5_init 1 none 0 := ⟨k212, k188, by decide, by decide, by decide +kernel⟩
theorem k378 : Cond.code yX6_init cX6_init 1 none ∈ gtb := gtm (in_tables_1_1 (List.mem_of_getElem? (i := 192) rfl)) rfl
theorem ka_X6_init : KA yX6_init cX6_init 1 none 0 := ⟨k378, k191, by decide, by decide, by decide +kernel⟩
set_option maxHeartbeats 4000000 in
set_option maxRecDepth 100000 in
theorem c_Program_init (l : Launch) (dC : Nat → ClassId) (dI : Nat → Nat → Nat) (h0 : Nat) (tl : List Value) (sz : Nat) (htl : tl.length = 10) : Met l yX5_init (wsOf yX5_init cX5_init 1 none) ({ frames := 22, cells := 21, slots := 52775, locals := 330 } : Room) (va_Pc [.ref h0] (PB dC dI sz [(h0, .inr (4, .null :: .int 0 :: .int 0 :: .null :: .null :: .int 0 :: .int 0 :: tl))] [])) (va_Qv (S := Nat × Nat × Nat × Nat × ClassId × ClassId × List Value × List Value) (fun x => x.2.2.2.1 ≤ 9 ∧ (x.2.2.2.2.2.2.1).length = 7 ∧ (x.2.2.2.2.2.2.2).length = 10) (fun x t => PW dC dI (va_A [(h0, .inr (4, .null :: .int 0 :: .int 0 :: .null :: .null :: .int 0 :: .int 0 :: tl))] sz) ([(h0, .inr (4, .ref x.1 :: .int 0 :: .int (-1) :: .ref x.2.1 :: .ref x.2.2.1 :: .int 0 :: .int 0 :: x.2.2.2.2.2.2.2)), (x.1, .inr (3, .int (nI x.2.2.2.1) :: x.2.2.2.2.2.2.1)), (x.2.1, .inl (x.2.2.2.2.1, 40, .inl (fun _ => 0))), (x.2.2.1, .inl (x.2.2.2.2.2.1, 41, .inl (fun _ => 0)))]) ([(x.2.2.2.2.1, .boolean), (x.2.2.2.2.2.1, .int)]) t) (va_A [(h0, .inr (4, .null :: .int 0 :: .int 0 :: .null :: .null :: .int 0 :: .int 0 :: tl))] sz)) 21 52775 (va_A [(h0, .inr (4, .null :: .int 0 :: .int 0 :: .null :: .null :: .int 0 :: .int 0 :: tl))] sz) := by
  refine mbody (y := yX5_init) (av := [.ref h0]) (b := cX5_init) (n := 1) (ret := none) (Qc := fun A => (va_Qv (S := Nat × Nat × Nat × Nat × ClassId × ClassId × List Value × List Value) (fun x => x.2.2.2.1 ≤ 9 ∧ (x.2.2.2.2.2.2.1).length = 7 ∧ (x.2.2.2.2.2.2.2).length = 10) (fun x t => PW dC dI A ([(h0, .inr (4, .ref x.1 :: .int 0 :: .int (-1) :: .ref x.2.1 :: .ref x.2.2.1 :: .int 0 :: .int 0 :: x.2.2.2.2.2.2.2)), (x.1, .inr (3, .int (nI x.2.2.2.1) :: x.2.2.2.2.2.2.1)), (x.2.1, .inl (x.2.2.2.2.1, 40, .inl (fun _ => 0))), (x.2.2.1, .inl (x.2.2.2.2.2.1, 41, .inl (fun _ => 0)))]) ([(x.2.2.2.2.1, .boolean), (x.2.2.2.2.2.1, .int)]) t) A)) (by decide) (Nat.le_of_ble_eq_true rfl) ?_
  intro p e s m below meth c ls A H hf hr hin hlk hw hl
  have hl : lv_has ls 1 [(0, .ref h0)] := hl
  refine lv_aload_n hf.1 hf.2.1 dX5_init_0 rfl (lv_at hl 0 rfl) ?_
  refine mobj hf hl.1 k213 k206 k207 dX5_init_1 (Nat.le_of_ble_eq_true rfl) (Nat.le_of_ble_eq_true rfl) ?_
  refine lv_aload_n hf.1 hf.2.1 dX5_init_4 rfl (lv_at hl 0 rfl) ?_
  refine mnew (ci := 3) (fs := [.int 0, .null, .null, .null, .null, .null, .null, .null]) hf hw iX3 tyX3 tyX3_ok k214 k215 k189 rfl (hfs_of dfX3_ok) (ce := 1) (sl := 8) rfl rfl (Nat.le_of_ble_eq_true rfl) (Nat.le_of_ble_eq_true rfl) dX5_init_5 (fun q_1 H hw => ?_)
  refine lv_dup hf.1 hf.2.1 dX5_init_8 rfl ?_
  refine mI_v (As := []) (rest := [.ref q_1, .ref h0]) (wr := [(h0, .inr (4, .null :: .int 0 :: .int 0 :: .null :: .null :: .int 0 :: .int 0 :: tl))]) (tr := []) hf hw (c_Kinds_init l dC dI q_1 H.size) ka_X3_init k217 rfl k216 [1] [] [0] [] rfl rfl rfl rfl rfl (by decide) rfl rfl rfl hl.1 rfl rfl ⟨Nat.le_of_ble_eq_true rfl, Nat.le_of_ble_eq_true rfl⟩ (Nat.le_of_ble_eq_true rfl) (ce := 9) (sl := 16014) rfl rfl ⟨Nat.le_of_ble_eq_true rfl, Nat.le_of_ble_eq_true rfl⟩ dX5_init_9 (fun u_5 hu_5 H locs hw => ?_)
  obtain ⟨n_2, tl_3⟩ := u_5
  obtain ⟨hn_2, htl_3⟩ := hu_5
  have hw : Wd dC dI A [(h0, .inr (4, .null :: .int 0 :: .int 0 :: .null :: .null :: .int 0 :: .int 0 :: tl)), (q_1, .inr (3, .int (nI n_2) :: tl_3))] [] s H locs := hw
  refine mputF hf hin hw iX5 tyX5 tyX5_ok nmX5 0 rfl rfl 0 (by decide) k279 rfl rfl rfl rfl (lt_app (K := [.ref q_1, .int 0, .int 0, .null, .null, .int 0, .int 0]) htl (Nat.le_of_ble_eq_true rfl)) (ws' := [(h0, .inr (4, .ref q_1 :: .int 0 :: .int 0 :: .null :: .null :: .int 0 :: .int 0 :: tl)), (q_1, .inr (3, .int (nI n_2) :: tl_3))]) rfl dX5_init_12 (fun H locs hw => ?_)
  refine lv_aload_n hf.1 hf.2.1 dX5_init_15 rfl (lv_at hl 0 rfl) ?_
  refine lv_iconst (v := 0) hf.1 hf.2.1 dX5_init_16 (by decide) ?_
  refine mput hf hw iX5 tyX5 tyX5_ok nmX5 0 rfl rfl 1 (by decide) k284 rfl rfl rfl (lt_app (K := [.ref q_1, .int 0, .int 0, .null, .null, .int 0, .int 0]) htl (Nat.le_of_ble_eq_true rfl)) (ws' := [(h0, .inr (4, .ref q_1 :: .int 0 :: .int 0 :: .null :: .null :: .int 0 :: .int 0 :: tl)), (q_1, .inr (3, .int (nI n_2) :: tl_3))]) rfl dX5_init_17 (fun H locs hw => ?_)
  refine lv_aload_n hf.1 hf.2.1 dX5_init_20 rfl (lv_at hl 0 rfl) ?_
  refine lv_iconst (v := (-1)) hf.1 hf.2.1 dX5_init_21 (by decide) ?_
  refine mput hf hw iX5 tyX5 tyX5_ok nmX5 0 rfl rfl 2 (by decide) k289 rfl rfl rfl (lt_app (K := [.ref q_1, .int 0, .int (-1), .null, .null, .int 0, .int 0]) htl (Nat.le_of_ble_eq_true rfl)) (ws' := [(h0, .inr (4, .ref q_1 :: .int 0 :: .int (-1) :: .null :: .null :: .int 0 :: .int 0 :: tl)), (q_1, .inr (3, .int (nI n_2) :: tl_3))]) rfl dX5_init_22 (fun H locs hw => ?_)
  refine lv_aload_n hf.1 hf.2.1 dX5_init_25 rfl (lv_at hl 0 rfl) ?_
  refine lv_bipush (v := 40) hf.1 hf.2.1 dX5_init_26 (by decide) ?_
  refine mnewaD hf hw (atype := .long) (ty := .long) (a0 := (40, .inr (.inl (fun _ => 0)))) k373 rfl (fun _ => rfl) (by decide) rfl (Nat.le_of_ble_eq_true rfl) (ce := 10) (sl := 16054) rfl rfl (Nat.le_of_ble_eq_true rfl) (Nat.le_of_ble_eq_true rfl) dX5_init_28 (fun q_6 H hw => ?_)
  refine mputFT (K := [.ref q_1, .int 0, .int (-1), .null, .null, .int 0, .int 0]) (j := 0) (nt := 10) hf hin hw iX5 tyX5 tyX5_ok nmX5 0 rfl rfl 7 (by decide) k292 rfl rfl rfl rfl htl rfl (by decide) (ws' := fun tl_7 => [(h0, .inr (4, .ref q_1 :: .int 0 :: .int (-1) :: .null :: .null :: .int 0 :: .int 0 :: tl_7)), (q_1, .inr (3, .int (nI n_2) :: tl_3))]) (fun _ => rfl) dX5_init_30 (fun tl_7 htl_7 H locs hw => ?_)
  refine lv_aload_n hf.1 hf.2.1 dX5_init_33 rfl (lv_at hl 0 rfl) ?_
  refine lv_bipush (v := 40) hf.1 hf.2.1 dX5_init_34 (by decide) ?_
  refine mnewaD hf hw (atype := .int) (ty := .int) (a0 := (40, .inl (fun _ => 0))) k277 rfl (fun _ => rfl) (by decide) rfl (Nat.le_of_ble_eq_true rfl) (ce := 11) (sl := 16094) rfl rfl (Nat.le_of_ble_eq_true rfl) (Nat.le_of_ble_eq_true rfl) dX5_init_36 (fun q_8 H hw => ?_)
  refine mputFT (K := [.ref q_1, .int 0, .int (-1), .null, .null, .int 0, .int 0]) (j := 1) (nt := 10) hf hin hw iX5 tyX5 tyX5_ok nmX5 0 rfl rfl 8 (by decide) k294 rfl rfl rfl rfl htl_7 rfl (by decide) (ws' := fun tl_9 => [(h0, .inr (4, .ref q_1 :: .int 0 :: .int (-1) :: .null :: .null :: .int 0 :: .int 0 :: tl_9)), (q_1, .inr (3, .int (nI n_2) :: tl_3))]) (fun _ => rfl) dX5_init_38 (fun tl_9 htl_9 H locs hw => ?_)
  refine lv_aload_n hf.1 hf.2.1 dX5_init_41 rfl (lv_at hl 0 rfl) ?_
  refine lv_bipush (v := 40) hf.1 hf.2.1 dX5_init_42 (by decide) ?_
  refine mnewaD hf hw (atype := .int) (ty := .int) (a0 := (40, .inl (fun _ => 0))) k277 rfl (fun _ => rfl) (by decide) rfl (Nat.le_of_ble_eq_true rfl) (ce := 12) (sl := 16134) rfl rfl (Nat.le_of_ble_eq_true rfl) (Nat.le_of_ble_eq_true rfl) dX5_init_44 (fun q_10 H hw => ?_)
  refine mputFT (K := [.ref q_1, .int 0, .int (-1), .null, .null, .int 0, .int 0]) (j := 2) (nt := 10) hf hin hw iX5 tyX5 tyX5_ok nmX5 0 rfl rfl 9 (by decide) k297 rfl rfl rfl rfl htl_9 rfl (by decide) (ws' := fun tl_11 => [(h0, .inr (4, .ref q_1 :: .int 0 :: .int (-1) :: .null :: .null :: .int 0 :: .int 0 :: tl_11)), (q_1, .inr (3, .int (nI n_2) :: tl_3))]) (fun _ => rfl) dX5_init_46 (fun tl_11 htl_11 H locs hw => ?_)
  refine lv_aload_n hf.1 hf.2.1 dX5_init_49 rfl (lv_at hl 0 rfl) ?_
  refine lv_bipush (v := 40) hf.1 hf.2.1 dX5_init_50 (by decide) ?_
  refine mnewaD hf hw (atype := .int) (ty := .int) (a0 := (40, .inl (fun _ => 0))) k277 rfl (fun _ => rfl) (by decide) rfl (Nat.le_of_ble_eq_true rfl) (ce := 13) (sl := 16174) rfl rfl (Nat.le_of_ble_eq_true rfl) (Nat.le_of_ble_eq_true rfl) dX5_init_52 (fun q_12 H hw => ?_)
  refine mputFT (K := [.ref q_1, .int 0, .int (-1), .null, .null, .int 0, .int 0]) (j := 3) (nt := 10) hf hin hw iX5 tyX5 tyX5_ok nmX5 0 rfl rfl 10 (by decide) k300 rfl rfl rfl rfl htl_11 rfl (by decide) (ws' := fun tl_13 => [(h0, .inr (4, .ref q_1 :: .int 0 :: .int (-1) :: .null :: .null :: .int 0 :: .int 0 :: tl_13)), (q_1, .inr (3, .int (nI n_2) :: tl_3))]) (fun _ => rfl) dX5_init_54 (fun tl_13 htl_13 H locs hw => ?_)
  refine lv_aload_n hf.1 hf.2.1 dX5_init_57 rfl (lv_at hl 0 rfl) ?_
  refine lv_sipush (v := 160) hf.1 hf.2.1 dX5_init_58 (by decide) ?_
  refine mnewaD hf hw (atype := .int) (ty := .int) (a0 := (160, .inl (fun _ => 0))) k277 rfl (fun _ => rfl) (by decide) rfl (Nat.le_of_ble_eq_true rfl) (ce := 14) (sl := 16334) rfl rfl (Nat.le_of_ble_eq_true rfl) (Nat.le_of_ble_eq_true rfl) dX5_init_61 (fun q_14 H hw => ?_)
  refine mputFT (K := [.ref q_1, .int 0, .int (-1), .null, .null, .int 0, .int 0]) (j := 4) (nt := 10) hf hin hw iX5 tyX5 tyX5_ok nmX5 0 rfl rfl 11 (by decide) k304 rfl rfl rfl rfl htl_13 rfl (by decide) (ws' := fun tl_15 => [(h0, .inr (4, .ref q_1 :: .int 0 :: .int (-1) :: .null :: .null :: .int 0 :: .int 0 :: tl_15)), (q_1, .inr (3, .int (nI n_2) :: tl_3))]) (fun _ => rfl) dX5_init_63 (fun tl_15 htl_15 H locs hw => ?_)
  refine lv_aload_n hf.1 hf.2.1 dX5_init_66 rfl (lv_at hl 0 rfl) ?_
  refine lv_bipush (v := 40) hf.1 hf.2.1 dX5_init_67 (by decide) ?_
  refine mnewaD hf hw (atype := .int) (ty := .int) (a0 := (40, .inl (fun _ => 0))) k277 rfl (fun _ => rfl) (by decide) rfl (Nat.le_of_ble_eq_true rfl) (ce := 15) (sl := 16374) rfl rfl (Nat.le_of_ble_eq_true rfl) (Nat.le_of_ble_eq_true rfl) dX5_init_69 (fun q_16 H hw => ?_)
  refine mputFT (K := [.ref q_1, .int 0, .int (-1), .null, .null, .int 0, .int 0]) (j := 5) (nt := 10) hf hin hw iX5 tyX5 tyX5_ok nmX5 0 rfl rfl 12 (by decide) k307 rfl rfl rfl rfl htl_15 rfl (by decide) (ws' := fun tl_17 => [(h0, .inr (4, .ref q_1 :: .int 0 :: .int (-1) :: .null :: .null :: .int 0 :: .int 0 :: tl_17)), (q_1, .inr (3, .int (nI n_2) :: tl_3))]) (fun _ => rfl) dX5_init_71 (fun tl_17 htl_17 H locs hw => ?_)
  refine lv_aload_n hf.1 hf.2.1 dX5_init_74 rfl (lv_at hl 0 rfl) ?_
  refine lv_bipush (v := 40) hf.1 hf.2.1 dX5_init_75 (by decide) ?_
  refine mnewa hf hw (atype := .boolean) (ty := .boolean) (a0 := (40, .inl (fun _ => 0))) k278 rfl (fun _ => rfl) (by decide) rfl (Nat.le_of_ble_eq_true rfl) (ce := 16) (sl := 16414) rfl rfl (Nat.le_of_ble_eq_true rfl) (Nat.le_of_ble_eq_true rfl) dX5_init_77 (fun q_18 cA_19 H hw => ?_)
  refine mputF hf hin hw iX5 tyX5 tyX5_ok nmX5 0 rfl rfl 3 (by decide) k310 rfl rfl rfl rfl (lt_app (K := [.ref q_1, .int 0, .int (-1), .ref q_18, .null, .int 0, .int 0]) htl_17 (Nat.le_of_ble_eq_true rfl)) (ws' := [(h0, .inr (4, .ref q_1 :: .int 0 :: .int (-1) :: .ref q_18 :: .null :: .int 0 :: .int 0 :: tl_17)), (q_1, .inr (3, .int (nI n_2) :: tl_3)), (q_18, .inl (cA_19, 40, .inl (fun _ => 0)))]) rfl dX5_init_79 (fun H locs hw => ?_)
  refine lv_aload_n hf.1 hf.2.1 dX5_init_82 rfl (lv_at hl 0 rfl) ?_
  refine lv_bipush (v := 41) hf.1 hf.2.1 dX5_init_83 (by decide) ?_
  refine mnewa hf hw (atype := .int) (ty := .int) (a0 := (41, .inl (fun _ => 0))) k277 rfl (fun _ => rfl) (by decide) rfl (Nat.le_of_ble_eq_true rfl) (ce := 17) (sl := 16455) rfl rfl (Nat.le_of_ble_eq_true rfl) (Nat.le_of_ble_eq_true rfl) dX5_init_85 (fun q_20 cA_21 H hw => ?_)
  refine mputF hf hin hw iX5 tyX5 tyX5_ok nmX5 0 rfl rfl 4 (by decide) k313 rfl rfl rfl rfl (lt_app (K := [.ref q_1, .int 0, .int (-1), .ref q_18, .ref q_20, .int 0, .int 0]) htl_17 (Nat.le_of_ble_eq_true rfl)) (ws' := [(h0, .inr (4, .ref q_1 :: .int 0 :: .int (-1) :: .ref q_18 :: .ref q_20 :: .int 0 :: .int 0 :: tl_17)), (q_1, .inr (3, .int (nI n_2) :: tl_3)), (q_18, .inl (cA_19, 40, .inl (fun _ => 0))), (q_20, .inl (cA_21, 41, .inl (fun _ => 0)))]) rfl dX5_init_87 (fun H locs hw => ?_)
  refine lv_aload_n hf.1 hf.2.1 dX5_init_90 rfl (lv_at hl 0 rfl) ?_
  refine lv_iconst (v := 0) hf.1 hf.2.1 dX5_init_91 (by decide) ?_
  refine mput hf hw iX5 tyX5 tyX5_ok nmX5 0 rfl rfl 5 (by decide) k317 rfl rfl rfl (lt_app (K := [.ref q_1, .int 0, .int (-1), .ref q_18, .ref q_20, .int 0, .int 0]) htl_17 (Nat.le_of_ble_eq_true rfl)) (ws' := [(h0, .inr (4, .ref q_1 :: .int 0 :: .int (-1) :: .ref q_18 :: .ref q_20 :: .int 0 :: .int 0 :: tl_17)), (q_1, .inr (3, .int (nI n_2) :: tl_3)), (q_18, .inl (cA_19, 40, .inl (fun _ => 0))), (q_20, .inl (cA_21, 41, .inl (fun _ => 0)))]) rfl dX5_init_92 (fun H locs hw => ?_)
  refine lv_aload_n hf.1 hf.2.1 dX5_init_95 rfl (lv_at hl 0 rfl) ?_
  refine lv_sipush (v := 9080) hf.1 hf.2.1 dX5_init_96 (by decide) ?_
  refine mnewaD hf hw (atype := .int) (ty := .int) (a0 := (9080, .inl (fun _ => 0))) k277 rfl (fun _ => rfl) (by decide) rfl (Nat.le_of_ble_eq_true rfl) (ce := 18) (sl := 25535) rfl rfl (Nat.le_of_ble_eq_true rfl) (Nat.le_of_ble_eq_true rfl) dX5_init_99 (fun q_22 H hw => ?_)
  refine mputFT (K := [.ref q_1, .int 0, .int (-1), .ref q_18, .ref q_20, .int 0, .int 0]) (j := 6) (nt := 10) hf hin hw iX5 tyX5 tyX5_ok nmX5 0 rfl rfl 13 (by decide) k320 rfl rfl rfl rfl htl_17 rfl (by decide) (ws' := fun tl_23 => [(h0, .inr (4, .ref q_1 :: .int 0 :: .int (-1) :: .ref q_18 :: .ref q_20 :: .int 0 :: .int 0 :: tl_23)), (q_1, .inr (3, .int (nI n_2) :: tl_3)), (q_18, .inl (cA_19, 40, .inl (fun _ => 0))), (q_20, .inl (cA_21, 41, .inl (fun _ => 0)))]) (fun _ => rfl) dX5_init_101 (fun tl_23 htl_23 H locs hw => ?_)
  refine lv_aload_n hf.1 hf.2.1 dX5_init_104 rfl (lv_at hl 0 rfl) ?_
  refine lv_sipush (v := 9080) hf.1 hf.2.1 dX5_init_105 (by decide) ?_
  refine mnewaD hf hw (atype := .int) (ty := .int) (a0 := (9080, .inl (fun _ => 0))) k277 rfl (fun _ => rfl) (by decide) rfl (Nat.le_of_ble_eq_true rfl) (ce := 19) (sl := 34615) rfl rfl (Nat.le_of_ble_eq_true rfl) (Nat.le_of_ble_eq_true rfl) dX5_init_108 (fun q_24 H hw => ?_)
  refine mputFT (K := [.ref q_1, .int 0, .int (-1), .ref q_18, .ref q_20, .int 0, .int 0]) (j := 7) (nt := 10) hf hin hw iX5 tyX5 tyX5_ok nmX5 0 rfl rfl 14 (by decide) k324 rfl rfl rfl rfl htl_23 rfl (by decide) (ws' := fun tl_25 => [(h0, .inr (4, .ref q_1 :: .int 0 :: .int (-1) :: .ref q_18 :: .ref q_20 :: .int 0 :: .int 0 :: tl_25)), (q_1, .inr (3, .int (nI n_2) :: tl_3)), (q_18, .inl (cA_19, 40, .inl (fun _ => 0))), (q_20, .inl (cA_21, 41, .inl (fun _ => 0)))]) (fun _ => rfl) dX5_init_110 (fun tl_25 htl_25 H locs hw => ?_)
  refine lv_aload_n hf.1 hf.2.1 dX5_init_113 rfl (lv_at hl 0 rfl) ?_
  refine lv_sipush (v := 9080) hf.1 hf.2.1 dX5_init_114 (by decide) ?_
  refine mnewaD hf hw (atype := .int) (ty := .int) (a0 := (9080, .inl (fun _ => 0))) k277 rfl (fun _ => rfl) (by decide) rfl (Nat.le_of_ble_eq_true rfl) (ce := 20) (sl := 43695) rfl rfl (Nat.le_of_ble_eq_true rfl) (Nat.le_of_ble_eq_true rfl) dX5_init_117 (fun q_26 H hw => ?_)
  refine mputFT (K := [.ref q_1, .int 0, .int (-1), .ref q_18, .ref q_20, .int 0, .int 0]) (j := 8) (nt := 10) hf hin hw iX5 tyX5 tyX5_ok nmX5 0 rfl rfl 15 (by decide) k328 rfl rfl rfl rfl htl_25 rfl (by decide) (ws' := fun tl_27 => [(h0, .inr (4, .ref q_1 :: .int 0 :: .int (-1) :: .ref q_18 :: .ref q_20 :: .int 0 :: .int 0 :: tl_27)), (q_1, .inr (3, .int (nI n_2) :: tl_3)), (q_18, .inl (cA_19, 40, .inl (fun _ => 0))), (q_20, .inl (cA_21, 41, .inl (fun _ => 0)))]) (fun _ => rfl) dX5_init_119 (fun tl_27 htl_27 H locs hw => ?_)
  refine lv_aload_n hf.1 hf.2.1 dX5_init_122 rfl (lv_at hl 0 rfl) ?_
  refine lv_sipush (v := 9080) hf.1 hf.2.1 dX5_init_123 (by decide) ?_
  refine mnewaD hf hw (atype := .int) (ty := .int) (a0 := (9080, .inl (fun _ => 0))) k277 rfl (fun _ => rfl) (by decide) rfl (Nat.le_of_ble_eq_true rfl) (ce := 21) (sl := 52775) rfl rfl (Nat.le_of_ble_eq_true rfl) (Nat.le_of_ble_eq_true rfl) dX5_init_126 (fun q_28 H hw => ?_)
  refine mputFT (K := [.ref q_1, .int 0, .int (-1), .ref q_18, .ref q_20, .int 0, .int 0]) (j := 9) (nt := 10) hf hin hw iX5 tyX5 tyX5_ok nmX5 0 rfl rfl 16 (by decide) k331 rfl rfl rfl rfl htl_27 rfl (by decide) (ws' := fun tl_29 => [(h0, .inr (4, .ref q_1 :: .int 0 :: .int (-1) :: .ref q_18 :: .ref q_20 :: .int 0 :: .int 0 :: tl_29)), (q_1, .inr (3, .int (nI n_2) :: tl_3)), (q_18, .inl (cA_19, 40, .inl (fun _ => 0))), (q_20, .inl (cA_21, 41, .inl (fun _ => 0)))]) (fun _ => rfl) dX5_init_128 (fun tl_29 htl_29 H locs hw => ?_)
  refine lv_aload_n hf.1 hf.2.1 dX5_init_131 rfl (lv_at hl 0 rfl) ?_
  refine lv_iconst (v := 0) hf.1 hf.2.1 dX5_init_132 (by decide) ?_
  refine mput hf hw iX5 tyX5 tyX5_ok nmX5 0 rfl rfl 6 (by decide) k335 rfl rfl rfl (lt_app (K := [.ref q_1, .int 0, .int (-1), .ref q_18, .ref q_20, .int 0, .int 0]) htl_29 (Nat.le_of_ble_eq_true rfl)) (ws' := [(h0, .inr (4, .ref q_1 :: .int 0 :: .int (-1) :: .ref q_18 :: .ref q_20 :: .int 0 :: .int 0 :: tl_29)), (q_1, .inr (3, .int (nI n_2) :: tl_3)), (q_18, .inl (cA_19, 40, .inl (fun _ => 0))), (q_20, .inl (cA_21, 41, .inl (fun _ => 0)))]) rfl dX5_init_133 (fun H locs hw => ?_)
  exact mret_v hf hr hlk hw (q_1, q_18, q_20, n_2, cA_19, cA_21, tl_3, tl_29) ⟨hn_2, htl_3, htl_29⟩ [0, 1, 2, 3] [0, 1] rfl rfl rfl (Nat.le_of_ble_eq_true rfl) (Nat.le_of_ble_eq_true rfl) dX5_init_136

set_option maxHeartbeats 4000000 in
set_option maxRecDepth 100000 in
theorem c_Reader_init (l : Launch) (dC : Nat → ClassId) (dI : Nat → Nat → Nat) (h0 : Nat) (tl : List Value) (sz : Nat) (htl : tl.length = 7) : Met l yX6_init (wsOf yX6_init cX6_init 1 none) ({ frames := 10, cells := 8, slots := 634, locals := 150 } : Room) (va_Pc [.ref h0] (PB dC dI sz [(h0, .inr (5, .null :: .null :: .int 0 :: .int 0 :: .int 0 :: .int 0 :: .int 0 :: tl))] [])) (va_Qv (S := Nat × Nat × List Value) (fun x => (x.2.2).length = 7) (fun x t => PW dC dI (va_A [(h0, .inr (5, .null :: .null :: .int 0 :: .int 0 :: .int 0 :: .int 0 :: .int 0 :: tl))] sz) ([(h0, .inr (5, .ref x.1 :: .null :: .int 0 :: .int 0 :: .int (-1) :: .int 0 :: .int 0 :: x.2.2)), (x.1, .inr (7, [.ref x.2.1, .int 0, .int 0, .int 257, .int 0, .long 0, .int 0, .long 0]))]) ([]) t) (va_A [(h0, .inr (5, .null :: .null :: .int 0 :: .int 0 :: .int 0 :: .int 0 :: .int 0 :: tl))] sz)) 8 634 (va_A [(h0, .inr (5, .null :: .null :: .int 0 :: .int 0 :: .int 0 :: .int 0 :: .int 0 :: tl))] sz) := by
  refine mbody (y := yX6_init) (av := [.ref h0]) (b := cX6_init) (n := 1) (ret := none) (Qc := fun A => (va_Qv (S := Nat × Nat × List Value) (fun x => (x.2.2).length = 7) (fun x t => PW dC dI A ([(h0, .inr (5, .ref x.1 :: .null :: .int 0 :: .int 0 :: .int (-1) :: .int 0 :: .int 0 :: x.2.2)), (x.1, .inr (7, [.ref x.2.1, .int 0, .int 0, .int 257, .int 0, .long 0, .int 0, .long 0]))]) ([]) t) A)) (by decide) (Nat.le_of_ble_eq_true rfl) ?_
  intro p e s m below meth c ls A H hf hr hin hlk hw hl
  have hl : lv_has ls 1 [(0, .ref h0)] := hl
  refine lv_aload_n hf.1 hf.2.1 dX6_init_0 rfl (lv_at hl 0 rfl) ?_
  refine mobj hf hl.1 k379 k206 k207 dX6_init_1 (Nat.le_of_ble_eq_true rfl) (Nat.le_of_ble_eq_true rfl) ?_
  refine lv_aload_n hf.1 hf.2.1 dX6_init_4 rfl (lv_at hl 0 rfl) ?_
  refine mnew (ci := 7) (fs := [.null, .int 0, .int 0, .int 0, .int 0, .long 0, .int 0, .long 0]) hf hw iX9 tyX9 tyX9_ok k380 k381 k192 rfl (hfs_of dfX9_ok) (ce := 1) (sl := 8) rfl rfl (Nat.le_of_ble_eq_true rfl) (Nat.le_of_ble_eq_true rfl) dX6_init_5 (fun q_1 H hw => ?_)
  refine lv_dup hf.1 hf.2.1 dX6_init_8 rfl ?_
  refine mIN_v (As := []) (rest := [.ref q_1, .ref h0]) (wr := [(h0, .inr (5, .null :: .null :: .int 0 :: .int 0 :: .int 0 :: .int 0 :: .int 0 :: tl))]) (tr := []) hf hw (c_Tokens_init l dC dI q_1 H.size) ka_X9_init k383 rfl n382 [1] [] [0] [] rfl rfl rfl rfl rfl (by decide) rfl rfl rfl hl.1 rfl rfl ⟨Nat.le_of_ble_eq_true rfl, Nat.le_of_ble_eq_true rfl⟩ (Nat.le_of_ble_eq_true rfl) (ce := 2) (sl := 8) rfl rfl ⟨Nat.le_of_ble_eq_true rfl, Nat.le_of_ble_eq_true rfl⟩ dX6_init_9 (fun ut hu_3 H locs hw => ?_)
  have hw : Wd dC dI A [(h0, .inr (5, .null :: .null :: .int 0 :: .int 0 :: .int 0 :: .int 0 :: .int 0 :: tl)), (q_1, .inr (7, [.ref ut, .int 0, .int 0, .int 257, .int 0, .long 0, .int 0, .long 0]))] [] s H locs := hw
  refine mputF hf hin hw iX6 tyX6 tyX6_ok nmX6 0 rfl rfl 0 (by decide) k416 rfl rfl rfl rfl (lt_app (K := [.ref q_1, .null, .int 0, .int 0, .int 0, .int 0, .int 0]) htl (Nat.le_of_ble_eq_true rfl)) (ws' := [(h0, .inr (5, .ref q_1 :: .null :: .int 0 :: .int 0 :: .int 0 :: .int 0 :: .int 0 :: tl)), (q_1, .inr (7, [.ref ut, .int 0, .int 0, .int 257, .int 0, .long 0, .int 0, .long 0]))]) rfl dX6_init_12 (fun H locs hw => ?_)
  refine lv_aload_n hf.1 hf.2.1 dX6_init_15 rfl (lv_at hl 0 rfl) ?_
  refine lv_null hf.1 hf.2.1 dX6_init_16 ?_
  refine mput hf hw iX6 tyX6 tyX6_ok nmX6 0 rfl rfl 1 (by decide) k417 rfl rfl rfl (lt_app (K := [.ref q_1, .null, .int 0, .int 0, .int 0, .int 0, .int 0]) htl (Nat.le_of_ble_eq_true rfl)) (ws' := [(h0, .inr (5, .ref q_1 :: .null :: .int 0 :: .int 0 :: .int 0 :: .int 0 :: .int 0 :: tl)), (q_1, .inr (7, [.ref ut, .int 0, .int 0, .int 257, .int 0, .long 0, .int 0, .long 0]))]) rfl dX6_init_17 (fun H locs hw => ?_)
  refine lv_aload_n hf.1 hf.2.1 dX6_init_20 rfl (lv_at hl 0 rfl) ?_
  refine lv_iconst (v := 0) hf.1 hf.2.1 dX6_init_21 (by decide) ?_
  refine mput hf hw iX6 tyX6 tyX6_ok nmX6 0 rfl rfl 2 (by decide) k418 rfl rfl rfl (lt_app (K := [.ref q_1, .null, .int 0, .int 0, .int 0, .int 0, .int 0]) htl (Nat.le_of_ble_eq_true rfl)) (ws' := [(h0, .inr (5, .ref q_1 :: .null :: .int 0 :: .int 0 :: .int 0 :: .int 0 :: .int 0 :: tl)), (q_1, .inr (7, [.ref ut, .int 0, .int 0, .int 257, .int 0, .long 0, .int 0, .long 0]))]) rfl dX6_init_22 (fun H locs hw => ?_)
  refine lv_aload_n hf.1 hf.2.1 dX6_init_25 rfl (lv_at hl 0 rfl) ?_
  refine lv_iconst (v := 0) hf.1 hf.2.1 dX6_init_26 (by decide) ?_
  refine mput hf hw iX6 tyX6 tyX6_ok nmX6 0 rfl rfl 3 (by decide) k419 rfl rfl rfl (lt_app (K := [.ref q_1, .null, .int 0, .int 0, .int 0, .int 0, .int 0]) htl (Nat.le_of_ble_eq_true rfl)) (ws' := [(h0, .inr (5, .ref q_1 :: .null :: .int 0 :: .int 0 :: .int 0 :: .int 0 :: .int 0 :: tl)), (q_1, .inr (7, [.ref ut, .int 0, .int 0, .int 257, .int 0, .long 0, .int 0, .long 0]))]) rfl dX6_init_27 (fun H locs hw => ?_)
  refine lv_aload_n hf.1 hf.2.1 dX6_init_30 rfl (lv_at hl 0 rfl) ?_
  refine lv_iconst (v := (-1)) hf.1 hf.2.1 dX6_init_31 (by decide) ?_
  refine mput hf hw iX6 tyX6 tyX6_ok nmX6 0 rfl rfl 4 (by decide) k421 rfl rfl rfl (lt_app (K := [.ref q_1, .null, .int 0, .int 0, .int (-1), .int 0, .int 0]) htl (Nat.le_of_ble_eq_true rfl)) (ws' := [(h0, .inr (5, .ref q_1 :: .null :: .int 0 :: .int 0 :: .int (-1) :: .int 0 :: .int 0 :: tl)), (q_1, .inr (7, [.ref ut, .int 0, .int 0, .int 257, .int 0, .long 0, .int 0, .long 0]))]) rfl dX6_init_32 (fun H locs hw => ?_)
  refine lv_aload_n hf.1 hf.2.1 dX6_init_35 rfl (lv_at hl 0 rfl) ?_
  refine lv_bipush (v := 40) hf.1 hf.2.1 dX6_init_36 (by decide) ?_
  refine mnewaD hf hw (atype := .int) (ty := .int) (a0 := (40, .inl (fun _ => 0))) k277 rfl (fun _ => rfl) (by decide) rfl (Nat.le_of_ble_eq_true rfl) (ce := 3) (sl := 48) rfl rfl (Nat.le_of_ble_eq_true rfl) (Nat.le_of_ble_eq_true rfl) dX6_init_38 (fun q_4 H hw => ?_)
  refine mputFT (K := [.ref q_1, .null, .int 0, .int 0, .int (-1), .int 0, .int 0]) (j := 0) (nt := 7) hf hin hw iX6 tyX6 tyX6_ok nmX6 0 rfl rfl 7 (by decide) k423 rfl rfl rfl rfl htl rfl (by decide) (ws' := fun tl_5 => [(h0, .inr (5, .ref q_1 :: .null :: .int 0 :: .int 0 :: .int (-1) :: .int 0 :: .int 0 :: tl_5)), (q_1, .inr (7, [.ref ut, .int 0, .int 0, .int 257, .int 0, .long 0, .int 0, .long 0]))]) (fun _ => rfl) dX6_init_40 (fun tl_5 htl_5 H locs hw => ?_)
  refine lv_aload_n hf.1 hf.2.1 dX6_init_43 rfl (lv_at hl 0 rfl) ?_
  refine lv_bipush (v := 44) hf.1 hf.2.1 dX6_init_44 (by decide) ?_
  refine mnewaD hf hw (atype := .long) (ty := .long) (a0 := (44, .inr (.inl (fun _ => 0)))) k373 rfl (fun _ => rfl) (by decide) rfl (Nat.le_of_ble_eq_true rfl) (ce := 4) (sl := 92) rfl rfl (Nat.le_of_ble_eq_true rfl) (Nat.le_of_ble_eq_true rfl) dX6_init_46 (fun q_6 H hw => ?_)
  refine mputFT (K := [.ref q_1, .null, .int 0, .int 0, .int (-1), .int 0, .int 0]) (j := 1) (nt := 7) hf hin hw iX6 tyX6 tyX6_ok nmX6 0 rfl rfl 8 (by decide) k424 rfl rfl rfl rfl htl_5 rfl (by decide) (ws' := fun tl_7 => [(h0, .inr (5, .ref q_1 :: .null :: .int 0 :: .int 0 :: .int (-1) :: .int 0 :: .int 0 :: tl_7)), (q_1, .inr (7, [.ref ut, .int 0, .int 0, .int 257, .int 0, .long 0, .int 0, .long 0]))]) (fun _ => rfl) dX6_init_48 (fun tl_7 htl_7 H locs hw => ?_)
  refine lv_aload_n hf.1 hf.2.1 dX6_init_51 rfl (lv_at hl 0 rfl) ?_
  refine lv_iconst (v := 0) hf.1 hf.2.1 dX6_init_52 (by decide) ?_
  refine mputT (K := [.ref q_1, .null, .int 0, .int 0, .int (-1), .int 0, .int 0]) (j := 2) (nt := 7) hf hw iX6 tyX6 tyX6_ok nmX6 0 rfl rfl 9 (by decide) k425 rfl rfl rfl htl_7 rfl (by decide) (ws' := fun tl_8 => [(h0, .inr (5, .ref q_1 :: .null :: .int 0 :: .int 0 :: .int (-1) :: .int 0 :: .int 0 :: tl_8)), (q_1, .inr (7, [.ref ut, .int 0, .int 0, .int 257, .int 0, .long 0, .int 0, .long 0]))]) (fun _ => rfl) dX6_init_53 (fun tl_8 htl_8 H locs hw => ?_)
  refine lv_aload_n hf.1 hf.2.1 dX6_init_56 rfl (lv_at hl 0 rfl) ?_
  refine lv_bipush (v := 126) hf.1 hf.2.1 dX6_init_57 (by decide) ?_
  refine mnewaD hf hw (atype := .int) (ty := .int) (a0 := (126, .inl (fun _ => 0))) k277 rfl (fun _ => rfl) (by decide) rfl (Nat.le_of_ble_eq_true rfl) (ce := 5) (sl := 218) rfl rfl (Nat.le_of_ble_eq_true rfl) (Nat.le_of_ble_eq_true rfl) dX6_init_59 (fun q_9 H hw => ?_)
  refine mputFT (K := [.ref q_1, .null, .int 0, .int 0, .int (-1), .int 0, .int 0]) (j := 3) (nt := 7) hf hin hw iX6 tyX6 tyX6_ok nmX6 0 rfl rfl 10 (by decide) k426 rfl rfl rfl rfl htl_8 rfl (by decide) (ws' := fun tl_10 => [(h0, .inr (5, .ref q_1 :: .null :: .int 0 :: .int 0 :: .int (-1) :: .int 0 :: .int 0 :: tl_10)), (q_1, .inr (7, [.ref ut, .int 0, .int 0, .int 257, .int 0, .long 0, .int 0, .long 0]))]) (fun _ => rfl) dX6_init_61 (fun tl_10 htl_10 H locs hw => ?_)
  refine lv_aload_n hf.1 hf.2.1 dX6_init_64 rfl (lv_at hl 0 rfl) ?_
  refine lv_bipush (v := 126) hf.1 hf.2.1 dX6_init_65 (by decide) ?_
  refine mnewaD hf hw (atype := .int) (ty := .int) (a0 := (126, .inl (fun _ => 0))) k277 rfl (fun _ => rfl) (by decide) rfl (Nat.le_of_ble_eq_true rfl) (ce := 6) (sl := 344) rfl rfl (Nat.le_of_ble_eq_true rfl) (Nat.le_of_ble_eq_true rfl) dX6_init_67 (fun q_11 H hw => ?_)
  refine mputFT (K := [.ref q_1, .null, .int 0, .int 0, .int (-1), .int 0, .int 0]) (j := 4) (nt := 7) hf hin hw iX6 tyX6 tyX6_ok nmX6 0 rfl rfl 11 (by decide) k427 rfl rfl rfl rfl htl_10 rfl (by decide) (ws' := fun tl_12 => [(h0, .inr (5, .ref q_1 :: .null :: .int 0 :: .int 0 :: .int (-1) :: .int 0 :: .int 0 :: tl_12)), (q_1, .inr (7, [.ref ut, .int 0, .int 0, .int 257, .int 0, .long 0, .int 0, .long 0]))]) (fun _ => rfl) dX6_init_69 (fun tl_12 htl_12 H locs hw => ?_)
  refine lv_aload_n hf.1 hf.2.1 dX6_init_72 rfl (lv_at hl 0 rfl) ?_
  refine lv_bipush (v := 126) hf.1 hf.2.1 dX6_init_73 (by decide) ?_
  refine mnewaD hf hw (atype := .int) (ty := .int) (a0 := (126, .inl (fun _ => 0))) k277 rfl (fun _ => rfl) (by decide) rfl (Nat.le_of_ble_eq_true rfl) (ce := 7) (sl := 470) rfl rfl (Nat.le_of_ble_eq_true rfl) (Nat.le_of_ble_eq_true rfl) dX6_init_75 (fun q_13 H hw => ?_)
  refine mputFT (K := [.ref q_1, .null, .int 0, .int 0, .int (-1), .int 0, .int 0]) (j := 5) (nt := 7) hf hin hw iX6 tyX6 tyX6_ok nmX6 0 rfl rfl 12 (by decide) k428 rfl rfl rfl rfl htl_12 rfl (by decide) (ws' := fun tl_14 => [(h0, .inr (5, .ref q_1 :: .null :: .int 0 :: .int 0 :: .int (-1) :: .int 0 :: .int 0 :: tl_14)), (q_1, .inr (7, [.ref ut, .int 0, .int 0, .int 257, .int 0, .long 0, .int 0, .long 0]))]) (fun _ => rfl) dX6_init_77 (fun tl_14 htl_14 H locs hw => ?_)
  refine lv_aload_n hf.1 hf.2.1 dX6_init_80 rfl (lv_at hl 0 rfl) ?_
  refine lv_iconst (v := 0) hf.1 hf.2.1 dX6_init_81 (by decide) ?_
  refine mput hf hw iX6 tyX6 tyX6_ok nmX6 0 rfl rfl 5 (by decide) k429 rfl rfl rfl (lt_app (K := [.ref q_1, .null, .int 0, .int 0, .int (-1), .int 0, .int 0]) htl_14 (Nat.le_of_ble_eq_true rfl)) (ws' := [(h0, .inr (5, .ref q_1 :: .null :: .int 0 :: .int 0 :: .int (-1) :: .int 0 :: .int 0 :: tl_14)), (q_1, .inr (7, [.ref ut, .int 0, .int 0, .int 257, .int 0, .long 0, .int 0, .long 0]))]) rfl dX6_init_82 (fun H locs hw => ?_)
  refine lv_aload_n hf.1 hf.2.1 dX6_init_85 rfl (lv_at hl 0 rfl) ?_
  refine lv_sipush (v := 164) hf.1 hf.2.1 dX6_init_86 (by decide) ?_
  refine mnewaD hf hw (atype := .int) (ty := .int) (a0 := (164, .inl (fun _ => 0))) k277 rfl (fun _ => rfl) (by decide) rfl (Nat.le_of_ble_eq_true rfl) (ce := 8) (sl := 634) rfl rfl (Nat.le_of_ble_eq_true rfl) (Nat.le_of_ble_eq_true rfl) dX6_init_89 (fun q_15 H hw => ?_)
  refine mputFT (K := [.ref q_1, .null, .int 0, .int 0, .int (-1), .int 0, .int 0]) (j := 6) (nt := 7) hf hin hw iX6 tyX6 tyX6_ok nmX6 0 rfl rfl 13 (by decide) k430 rfl rfl rfl rfl htl_14 rfl (by decide) (ws' := fun tl_16 => [(h0, .inr (5, .ref q_1 :: .null :: .int 0 :: .int 0 :: .int (-1) :: .int 0 :: .int 0 :: tl_16)), (q_1, .inr (7, [.ref ut, .int 0, .int 0, .int 257, .int 0, .long 0, .int 0, .long 0]))]) (fun _ => rfl) dX6_init_91 (fun tl_16 htl_16 H locs hw => ?_)
  refine lv_aload_n hf.1 hf.2.1 dX6_init_94 rfl (lv_at hl 0 rfl) ?_
  refine lv_iconst (v := 0) hf.1 hf.2.1 dX6_init_95 (by decide) ?_
  refine mput hf hw iX6 tyX6 tyX6_ok nmX6 0 rfl rfl 6 (by decide) k431 rfl rfl rfl (lt_app (K := [.ref q_1, .null, .int 0, .int 0, .int (-1), .int 0, .int 0]) htl_16 (Nat.le_of_ble_eq_true rfl)) (ws' := [(h0, .inr (5, .ref q_1 :: .null :: .int 0 :: .int 0 :: .int (-1) :: .int 0 :: .int 0 :: tl_16)), (q_1, .inr (7, [.ref ut, .int 0, .int 0, .int 257, .int 0, .long 0, .int 0, .long 0]))]) rfl dX6_init_96 (fun H locs hw => ?_)
  exact mret_v hf hr hlk hw (q_1, ut, tl_16) htl_16 [0, 1] [] rfl rfl rfl (Nat.le_of_ble_eq_true rfl) (Nat.le_of_ble_eq_true rfl) dX6_init_99

set_option maxHeartbeats 4000000 in
set_option maxRecDepth 100000 in
theorem c_BlameCourt_init (l : Launch) (dC : Nat → ClassId) (dI : Nat → Nat → Nat) (h0 : Nat) (tl : List Value) (sz : Nat) (htl : tl.length = 4) : Met l yX10_init (wsOf yX10_init cX10_init 1 none) ({ frames := 26, cells := 87, slots := 172932, locals := 390 } : Room) (va_Pc [.ref h0] (PB dC dI sz [(h0, .inr (8, .null :: .int 0 :: .null :: .int 0 :: .int 0 :: .int 0 :: .null :: .int 0 :: .int 0 :: tl))] [])) (va_Qv (S := Nat × Nat × Nat × Nat × Nat × Nat × Nat × Nat × Nat × ClassId × ClassId × ClassId × List Value × List Value × List Value × List Value) (fun x => x.2.2.2.2.2.1 ≤ 9 ∧ (x.2.2.2.2.2.2.2.2.2.2.2.2.1).length = 7 ∧ (x.2.2.2.2.2.2.2.2.2.2.2.2.2.1).length = 10 ∧ (x.2.2.2.2.2.2.2.2.2.2.2.2.2.2.1).length = 7 ∧ (x.2.2.2.2.2.2.2.2.2.2.2.2.2.2.2).length = 4) (fun x t => PW dC dI (va_A [(h0, .inr (8, .null :: .int 0 :: .null :: .int 0 :: .int 0 :: .int 0 :: .null :: .int 0 :: .int 0 :: tl))] sz) ([(h0, .inr (8, .ref x.1 :: .int 0 :: .ref x.2.1 :: .int 0 :: .int 0 :: .int 0 :: .ref x.2.2.2.2.2.2.1 :: .int (-1) :: .int (-1) :: x.2.2.2.2.2.2.2.2.2.2.2.2.2.2.2)), (x.1, .inl (x.2.2.2.2.2.2.2.2.2.1, 3000, .inl (fun _ => 0))), (x.2.1, .inr (4, .ref x.2.2.1 :: .int 0 :: .int (-1) :: .ref x.2.2.2.1 :: .ref x.2.2.2.2.1 :: .int 0 :: .int 0 :: x.2.2.2.2.2.2.2.2.2.2.2.2.2.1)), (x.2.2.1, .inr (3, .int (nI x.2.2.2.2.2.1) :: x.2.2.2.2.2.2.2.2.2.2.2.2.1)), (x.2.2.2.1, .inl (x.2.2.2.2.2.2.2.2.2.2.1, 40, .inl (fun _ => 0))), (x.2.2.2.2.1, .inl (x.2.2.2.2.2.2.2.2.2.2.2.1, 41, .inl (fun _ => 0))), (x.2.2.2.2.2.2.1, .inr (5, .ref x.2.2.2.2.2.2.2.1 :: .null :: .int 0 :: .int 0 :: .int (-1) :: .int 0 :: .int 0 :: x.2.2.2.2.2.2.2.2.2.2.2.2.2.2.1)), (x.2.2.2.2.2.2.2.1, .inr (7, [.ref x.2.2.2.2.2.2.2.2.1, .int 0, .int 0, .int 257, .int 0, .long 0, .int 0, .long 0]))]) ([(x.2.2.2.2.2.2.2.2.2.1, .byte), (x.2.2.2.2.2.2.2.2.2.2.1, .boolean), (x.2.2.2.2.2.2.2.2.2.2.2.1, .int)]) t) (va_A [(h0, .inr (8, .null :: .int 0 :: .null :: .int 0 :: .int 0 :: .int 0 :: .null :: .int 0 :: .int 0 :: tl))] sz)) 87 172932 (va_A [(h0, .inr (8, .null :: .int 0 :: .null :: .int 0 :: .int 0 :: .int 0 :: .null :: .int 0 :: .int 0 :: tl))] sz) := by
  refine mbody (y := yX10_init) (av := [.ref h0]) (b := cX10_init) (n := 1) (ret := none) (Qc := fun A => (va_Qv (S := Nat × Nat × Nat × Nat × Nat × Nat × Nat × Nat × Nat × ClassId × ClassId × ClassId × List Value × List Value × List Value × List Value) (fun x => x.2.2.2.2.2.1 ≤ 9 ∧ (x.2.2.2.2.2.2.2.2.2.2.2.2.1).length = 7 ∧ (x.2.2.2.2.2.2.2.2.2.2.2.2.2.1).length = 10 ∧ (x.2.2.2.2.2.2.2.2.2.2.2.2.2.2.1).length = 7 ∧ (x.2.2.2.2.2.2.2.2.2.2.2.2.2.2.2).length = 4) (fun x t => PW dC dI A ([(h0, .inr (8, .ref x.1 :: .int 0 :: .ref x.2.1 :: .int 0 :: .int 0 :: .int 0 :: .ref x.2.2.2.2.2.2.1 :: .int (-1) :: .int (-1) :: x.2.2.2.2.2.2.2.2.2.2.2.2.2.2.2)), (x.1, .inl (x.2.2.2.2.2.2.2.2.2.1, 3000, .inl (fun _ => 0))), (x.2.1, .inr (4, .ref x.2.2.1 :: .int 0 :: .int (-1) :: .ref x.2.2.2.1 :: .ref x.2.2.2.2.1 :: .int 0 :: .int 0 :: x.2.2.2.2.2.2.2.2.2.2.2.2.2.1)), (x.2.2.1, .inr (3, .int (nI x.2.2.2.2.2.1) :: x.2.2.2.2.2.2.2.2.2.2.2.2.1)), (x.2.2.2.1, .inl (x.2.2.2.2.2.2.2.2.2.2.1, 40, .inl (fun _ => 0))), (x.2.2.2.2.1, .inl (x.2.2.2.2.2.2.2.2.2.2.2.1, 41, .inl (fun _ => 0))), (x.2.2.2.2.2.2.1, .inr (5, .ref x.2.2.2.2.2.2.2.1 :: .null :: .int 0 :: .int 0 :: .int (-1) :: .int 0 :: .int 0 :: x.2.2.2.2.2.2.2.2.2.2.2.2.2.2.1)), (x.2.2.2.2.2.2.2.1, .inr (7, [.ref x.2.2.2.2.2.2.2.2.1, .int 0, .int 0, .int 257, .int 0, .long 0, .int 0, .long 0]))]) ([(x.2.2.2.2.2.2.2.2.2.1, .byte), (x.2.2.2.2.2.2.2.2.2.2.1, .boolean), (x.2.2.2.2.2.2.2.2.2.2.2.1, .int)]) t) A)) (by decide) (Nat.le_of_ble_eq_true rfl) ?_
  intro p e s m below meth c ls A H hf hr hin hlk hw hl
  have hl : lv_has ls 1 [(0, .ref h0)] := hl
  refine lv_aload_n hf.1 hf.2.1 dX10_init_0 rfl (lv_at hl 0 rfl) ?_
  refine mobj hf hl.1 k205 k206 k207 dX10_init_1 (Nat.le_of_ble_eq_true rfl) (Nat.le_of_ble_eq_true rfl) ?_
  refine lv_aload_n hf.1 hf.2.1 dX10_init_4 rfl (lv_at hl 0 rfl) ?_
  refine lv_sipush (v := 3000) hf.1 hf.2.1 dX10_init_5 (by decide) ?_
  refine mnewa hf hw (atype := .byte) (ty := .byte) (a0 := (3000, .inl (fun _ => 0))) k276 rfl (fun _ => rfl) (by decide) rfl (Nat.le_of_ble_eq_true rfl) (ce := 1) (sl := 3000) rfl rfl (Nat.le_of_ble_eq_true rfl) (Nat.le_of_ble_eq_true rfl) dX10_init_8 (fun q_1 cA_2 H hw => ?_)
  refine mputF hf hin hw iX10 tyX10 tyX10_ok nmX10 0 rfl rfl 0 (by decide) k679 rfl rfl rfl rfl (lt_app (K := [.ref q_1, .int 0, .null, .int 0, .int 0, .int 0, .null, .int 0, .int 0]) htl (Nat.le_of_ble_eq_true rfl)) (ws' := [(h0, .inr (8, .ref q_1 :: .int 0 :: .null :: .int 0 :: .int 0 :: .int 0 :: .null :: .int 0 :: .int 0 :: tl)), (q_1, .inl (cA_2, 3000, .inl (fun _ => 0)))]) rfl dX10_init_10 (fun H locs hw => ?_)
  refine lv_aload_n hf.1 hf.2.1 dX10_init_13 rfl (lv_at hl 0 rfl) ?_
  refine lv_iconst (v := 0) hf.1 hf.2.1 dX10_init_14 (by decide) ?_
  refine mput hf hw iX10 tyX10 tyX10_ok nmX10 0 rfl rfl 1 (by decide) k680 rfl rfl rfl (lt_app (K := [.ref q_1, .int 0, .null, .int 0, .int 0, .int 0, .null, .int 0, .int 0]) htl (Nat.le_of_ble_eq_true rfl)) (ws' := [(h0, .inr (8, .ref q_1 :: .int 0 :: .null :: .int 0 :: .int 0 :: .int 0 :: .null :: .int 0 :: .int 0 :: tl)), (q_1, .inl (cA_2, 3000, .inl (fun _ => 0)))]) rfl dX10_init_15 (fun H locs hw => ?_)
  refine lv_aload_n hf.1 hf.2.1 dX10_init_18 rfl (lv_at hl 0 rfl) ?_
  refine mnew (ci := 4) (fs := .null :: .int 0 :: .int 0 :: .null :: .null :: .int 0 :: .int 0 :: dtX5) hf hw iX5 tyX5 tyX5_ok k208 k209 k188 rfl (hfs_of dfX5_ok) (ce := 2) (sl := 3017) rfl rfl (Nat.le_of_ble_eq_true rfl) (Nat.le_of_ble_eq_true rfl) dX10_init_19 (fun q_3 H hw => ?_)
  refine lv_dup hf.1 hf.2.1 dX10_init_22 rfl ?_
  refine mIN_v (As := []) (rest := [.ref q_3, .ref h0]) (wr := [(h0, .inr (8, .ref q_1 :: .int 0 :: .null :: .int 0 :: .int 0 :: .int 0 :: .null :: .int 0 :: .int 0 :: tl)), (q_1, .inl (cA_2, 3000, .inl (fun _ => 0)))]) (tr := [(cA_2, .byte)]) hf hw (c_Program_init l dC dI q_3 dtX5 H.size hdtX5) ka_X5_init k211 rfl n210 [2] [] [0, 1] [0] rfl rfl rfl rfl rfl (by decide) rfl rfl rfl hl.1 rfl rfl ⟨Nat.le_of_ble_eq_true rfl, Nat.le_of_ble_eq_true rfl⟩ (Nat.le_of_ble_eq_true rfl) (ce := 23) (sl := 55792) rfl rfl ⟨Nat.le_of_ble_eq_true rfl, Nat.le_of_ble_eq_true rfl⟩ dX10_init_23 (fun u_13 hu_13 H locs hw => ?_)
  obtain ⟨k_4, it_5, en_6, n_7, ci_8, ce_9, tk_10, tl_11⟩ := u_13
  obtain ⟨hn_7, htk_10, htl_11⟩ := hu_13
  have hw : Wd dC dI A [(h0, .inr (8, .ref q_1 :: .int 0 :: .null :: .int 0 :: .int 0 :: .int 0 :: .null :: .int 0 :: .int 0 :: tl)), (q_1, .inl (cA_2, 3000, .inl (fun _ => 0))), (q_3, .inr (4, .ref k_4 :: .int 0 :: .int (-1) :: .ref it_5 :: .ref en_6 :: .int 0 :: .int 0 :: tl_11)), (k_4, .inr (3, .int (nI n_7) :: tk_10)), (it_5, .inl (ci_8, 40, .inl (fun _ => 0))), (en_6, .inl (ce_9, 41, .inl (fun _ => 0)))] [(cA_2, .byte), (ci_8, .boolean), (ce_9, .int)] s H locs := hw
  have hw := hw.pick (ws' := [(h0, .inr (8, .ref q_1 :: .int 0 :: .null :: .int 0 :: .int 0 :: .int 0 :: .null :: .int 0 :: .int 0 :: tl)), (q_1, .inl (cA_2, 3000, .inl (fun _ => 0)))]) (tys' := [(cA_2, .byte)]) [0, 1] [0] rfl rfl rfl
  refine mputT (K := [.ref q_1, .int 0, .null, .int 0, .int 0, .int 0, .null, .int 0, .int 0]) (j := 0) (nt := 4) hf hw iX10 tyX10 tyX10_ok nmX10 0 rfl rfl 9 (by decide) k681 rfl rfl rfl htl rfl (by decide) (ws' := fun tl_14 => [(h0, .inr (8, .ref q_1 :: .int 0 :: .null :: .int 0 :: .int 0 :: .int 0 :: .null :: .int 0 :: .int 0 :: tl_14)), (q_1, .inl (cA_2, 3000, .inl (fun _ => 0)))]) (fun _ => rfl) dX10_init_26 (fun tl_14 htl_14 H locs hw => ?_)
  refine lv_aload_n hf.1 hf.2.1 dX10_init_29 rfl (lv_at hl 0 rfl) ?_
  refine mnew (ci := 4) (fs := .null :: .int 0 :: .int 0 :: .null :: .null :: .int 0 :: .int 0 :: dtX5) hf hw iX5 tyX5 tyX5_ok k208 k209 k188 rfl (hfs_of dfX5_ok) (ce := 24) (sl := 55809) rfl rfl (Nat.le_of_ble_eq_true rfl) (Nat.le_of_ble_eq_true rfl) dX10_init_30 (fun q_15 H hw => ?_)
  refine lv_dup hf.1 hf.2.1 dX10_init_33 rfl ?_
  refine mIN_v (As := []) (rest := [.ref q_15, .ref h0]) (wr := [(h0, .inr (8, .ref q_1 :: .int 0 :: .null :: .int 0 :: .int 0 :: .int 0 :: .null :: .int 0 :: .int 0 :: tl_14)), (q_1, .inl (cA_2, 3000, .inl (fun _ => 0)))]) (tr := [(cA_2, .byte)]) hf hw (c_Program_init l dC dI q_15 dtX5 H.size hdtX5) ka_X5_init k211 rfl n210 [2] [] [0, 1] [0] rfl rfl rfl rfl rfl (by decide) rfl rfl rfl hl.1 rfl rfl ⟨Nat.le_of_ble_eq_true rfl, Nat.le_of_ble_eq_true rfl⟩ (Nat.le_of_ble_eq_true rfl) (ce := 45) (sl := 108584) rfl rfl ⟨Nat.le_of_ble_eq_true rfl, Nat.le_of_ble_eq_true rfl⟩ dX10_init_34 (fun u_25 hu_25 H locs hw => ?_)
  obtain ⟨k_16, it_17, en_18, n_19, ci_20, ce_21, tk_22, tl_23⟩ := u_25
  obtain ⟨hn_19, htk_22, htl_23⟩ := hu_25
  have hw : Wd dC dI A [(h0, .inr (8, .ref q_1 :: .int 0 :: .null :: .int 0 :: .int 0 :: .int 0 :: .null :: .int 0 :: .int 0 :: tl_14)), (q_1, .inl (cA_2, 3000, .inl (fun _ => 0))), (q_15, .inr (4, .ref k_16 :: .int 0 :: .int (-1) :: .ref it_17 :: .ref en_18 :: .int 0 :: .int 0 :: tl_23)), (k_16, .inr (3, .int (nI n_19) :: tk_22)), (it_17, .inl (ci_20, 40, .inl (fun _ => 0))), (en_18, .inl (ce_21, 41, .inl (fun _ => 0)))] [(cA_2, .byte), (ci_20, .boolean), (ce_21, .int)] s H locs := hw
  refine mput hf hw iX10 tyX10 tyX10_ok nmX10 0 rfl rfl 2 (by decide) k682 rfl rfl rfl (lt_app (K := [.ref q_1, .int 0, .ref q_15, .int 0, .int 0, .int 0, .null, .int 0, .int 0]) htl_14 (Nat.le_of_ble_eq_true rfl)) (ws' := [(h0, .inr (8, .ref q_1 :: .int 0 :: .ref q_15 :: .int 0 :: .int 0 :: .int 0 :: .null :: .int 0 :: .int 0 :: tl_14)), (q_1, .inl (cA_2, 3000, .inl (fun _ => 0))), (q_15, .inr (4, .ref k_16 :: .int 0 :: .int (-1) :: .ref it_17 :: .ref en_18 :: .int 0 :: .int 0 :: tl_23)), (k_16, .inr (3, .int (nI n_19) :: tk_22)), (it_17, .inl (ci_20, 40, .inl (fun _ => 0))), (en_18, .inl (ce_21, 41, .inl (fun _ => 0)))]) rfl dX10_init_37 (fun H locs hw => ?_)
  refine lv_aload_n hf.1 hf.2.1 dX10_init_40 rfl (lv_at hl 0 rfl) ?_
  refine lv_iconst (v := 0) hf.1 hf.2.1 dX10_init_41 (by decide) ?_
  refine mput hf hw iX10 tyX10 tyX10_ok nmX10 0 rfl rfl 3 (by decide) k683 rfl rfl rfl (lt_app (K := [.ref q_1, .int 0, .ref q_15, .int 0, .int 0, .int 0, .null, .int 0, .int 0]) htl_14 (Nat.le_of_ble_eq_true rfl)) (ws' := [(h0, .inr (8, .ref q_1 :: .int 0 :: .ref q_15 :: .int 0 :: .int 0 :: .int 0 :: .null :: .int 0 :: .int 0 :: tl_14)), (q_1, .inl (cA_2, 3000, .inl (fun _ => 0))), (q_15, .inr (4, .ref k_16 :: .int 0 :: .int (-1) :: .ref it_17 :: .ref en_18 :: .int 0 :: .int 0 :: tl_23)), (k_16, .inr (3, .int (nI n_19) :: tk_22)), (it_17, .inl (ci_20, 40, .inl (fun _ => 0))), (en_18, .inl (ce_21, 41, .inl (fun _ => 0)))]) rfl dX10_init_42 (fun H locs hw => ?_)
  refine lv_aload_n hf.1 hf.2.1 dX10_init_45 rfl (lv_at hl 0 rfl) ?_
  refine lv_iconst (v := 0) hf.1 hf.2.1 dX10_init_46 (by decide) ?_
  refine mput hf hw iX10 tyX10 tyX10_ok nmX10 0 rfl rfl 4 (by decide) k684 rfl rfl rfl (lt_app (K := [.ref q_1, .int 0, .ref q_15, .int 0, .int 0, .int 0, .null, .int 0, .int 0]) htl_14 (Nat.le_of_ble_eq_true rfl)) (ws' := [(h0, .inr (8, .ref q_1 :: .int 0 :: .ref q_15 :: .int 0 :: .int 0 :: .int 0 :: .null :: .int 0 :: .int 0 :: tl_14)), (q_1, .inl (cA_2, 3000, .inl (fun _ => 0))), (q_15, .inr (4, .ref k_16 :: .int 0 :: .int (-1) :: .ref it_17 :: .ref en_18 :: .int 0 :: .int 0 :: tl_23)), (k_16, .inr (3, .int (nI n_19) :: tk_22)), (it_17, .inl (ci_20, 40, .inl (fun _ => 0))), (en_18, .inl (ce_21, 41, .inl (fun _ => 0)))]) rfl dX10_init_47 (fun H locs hw => ?_)
  refine lv_aload_n hf.1 hf.2.1 dX10_init_50 rfl (lv_at hl 0 rfl) ?_
  refine lv_iconst (v := 0) hf.1 hf.2.1 dX10_init_51 (by decide) ?_
  refine mput hf hw iX10 tyX10 tyX10_ok nmX10 0 rfl rfl 5 (by decide) k685 rfl rfl rfl (lt_app (K := [.ref q_1, .int 0, .ref q_15, .int 0, .int 0, .int 0, .null, .int 0, .int 0]) htl_14 (Nat.le_of_ble_eq_true rfl)) (ws' := [(h0, .inr (8, .ref q_1 :: .int 0 :: .ref q_15 :: .int 0 :: .int 0 :: .int 0 :: .null :: .int 0 :: .int 0 :: tl_14)), (q_1, .inl (cA_2, 3000, .inl (fun _ => 0))), (q_15, .inr (4, .ref k_16 :: .int 0 :: .int (-1) :: .ref it_17 :: .ref en_18 :: .int 0 :: .int 0 :: tl_23)), (k_16, .inr (3, .int (nI n_19) :: tk_22)), (it_17, .inl (ci_20, 40, .inl (fun _ => 0))), (en_18, .inl (ce_21, 41, .inl (fun _ => 0)))]) rfl dX10_init_52 (fun H locs hw => ?_)
  refine lv_aload_n hf.1 hf.2.1 dX10_init_55 rfl (lv_at hl 0 rfl) ?_
  refine mnew (ci := 5) (fs := .null :: .null :: .int 0 :: .int 0 :: .int 0 :: .int 0 :: .int 0 :: dtX6) hf hw iX6 tyX6 tyX6_ok k374 k375 k191 rfl (hfs_of dfX6_ok) (ce := 46) (sl := 108598) rfl rfl (Nat.le_of_ble_eq_true rfl) (Nat.le_of_ble_eq_true rfl) dX10_init_56 (fun q_26 H hw => ?_)
  refine lv_dup hf.1 hf.2.1 dX10_init_59 rfl ?_
  refine mIN_v (As := []) (rest := [.ref q_26, .ref h0]) (wr := [(h0, .inr (8, .ref q_1 :: .int 0 :: .ref q_15 :: .int 0 :: .int 0 :: .int 0 :: .null :: .int 0 :: .int 0 :: tl_14)), (q_1, .inl (cA_2, 3000, .inl (fun _ => 0))), (q_15, .inr (4, .ref k_16 :: .int 0 :: .int (-1) :: .ref it_17 :: .ref en_18 :: .int 0 :: .int 0 :: tl_23)), (k_16, .inr (3, .int (nI n_19) :: tk_22)), (it_17, .inl (ci_20, 40, .inl (fun _ => 0))), (en_18, .inl (ce_21, 41, .inl (fun _ => 0)))]) (tr := [(cA_2, .byte), (ci_20, .boolean), (ce_21, .int)]) hf hw (c_Reader_init l dC dI q_26 dtX6 H.size hdtX6) ka_X6_init k377 rfl n376 [6] [] [0, 1, 2, 3, 4, 5] [0, 1, 2] rfl rfl rfl rfl rfl (by decide) rfl rfl rfl hl.1 rfl rfl ⟨Nat.le_of_ble_eq_true rfl, Nat.le_of_ble_eq_true rfl⟩ (Nat.le_of_ble_eq_true rfl) (ce := 54) (sl := 109232) rfl rfl ⟨Nat.le_of_ble_eq_true rfl, Nat.le_of_ble_eq_true rfl⟩ dX10_init_60 (fun u_31 htl_29 H locs hw => ?_)
  obtain ⟨tk_27, ut_28, tl_29⟩ := u_31
  have hw : Wd dC dI A [(h0, .inr (8, .ref q_1 :: .int 0 :: .ref q_15 :: .int 0 :: .int 0 :: .int 0 :: .null :: .int 0 :: .int 0 :: tl_14)), (q_1, .inl (cA_2, 3000, .inl (fun _ => 0))), (q_15, .inr (4, .ref k_16 :: .int 0 :: .int (-1) :: .ref it_17 :: .ref en_18 :: .int 0 :: .int 0 :: tl_23)), (k_16, .inr (3, .int (nI n_19) :: tk_22)), (it_17, .inl (ci_20, 40, .inl (fun _ => 0))), (en_18, .inl (ce_21, 41, .inl (fun _ => 0))), (q_26, .inr (5, .ref tk_27 :: .null :: .int 0 :: .int 0 :: .int (-1) :: .int 0 :: .int 0 :: tl_29)), (tk_27, .inr (7, [.ref ut_28, .int 0, .int 0, .int 257, .int 0, .long 0, .int 0, .long 0]))] [(cA_2, .byte), (ci_20, .boolean), (ce_21, .int)] s H locs := hw
  refine mputF hf hin hw iX10 tyX10 tyX10_ok nmX10 0 rfl rfl 6 (by decide) k686 rfl rfl rfl rfl (lt_app (K := [.ref q_1, .int 0, .ref q_15, .int 0, .int 0, .int 0, .ref q_26, .int 0, .int 0]) htl_14 (Nat.le_of_ble_eq_true rfl)) (ws' := [(h0, .inr (8, .ref q_1 :: .int 0 :: .ref q_15 :: .int 0 :: .int 0 :: .int 0 :: .ref q_26 :: .int 0 :: .int 0 :: tl_14)), (q_1, .inl (cA_2, 3000, .inl (fun _ => 0))), (q_15, .inr (4, .ref k_16 :: .int 0 :: .int (-1) :: .ref it_17 :: .ref en_18 :: .int 0 :: .int 0 :: tl_23)), (k_16, .inr (3, .int (nI n_19) :: tk_22)), (it_17, .inl (ci_20, 40, .inl (fun _ => 0))), (en_18, .inl (ce_21, 41, .inl (fun _ => 0))), (q_26, .inr (5, .ref tk_27 :: .null :: .int 0 :: .int 0 :: .int (-1) :: .int 0 :: .int 0 :: tl_29)), (tk_27, .inr (7, [.ref ut_28, .int 0, .int 0, .int 257, .int 0, .long 0, .int 0, .long 0]))]) rfl dX10_init_63 (fun H locs hw => ?_)
  refine lv_aload_n hf.1 hf.2.1 dX10_init_66 rfl (lv_at hl 0 rfl) ?_
  refine mnew (ci := 0) (fs := dfX0) hf hw iX0 tyX0 tyX0_ok k461 k462 k193 rfl (hfs_of dfX0_ok) (ce := 55) (sl := 109238) rfl rfl (Nat.le_of_ble_eq_true rfl) (Nat.le_of_ble_eq_true rfl) dX10_init_67 (fun q_32 H hw => ?_)
  refine lv_dup hf.1 hf.2.1 dX10_init_70 rfl ?_
  refine mIN_v (As := []) (rest := [.ref q_32, .ref h0]) (wr := [(h0, .inr (8, .ref q_1 :: .int 0 :: .ref q_15 :: .int 0 :: .int 0 :: .int 0 :: .ref q_26 :: .int 0 :: .int 0 :: tl_14)), (q_1, .inl (cA_2, 3000, .inl (fun _ => 0))), (q_15, .inr (4, .ref k_16 :: .int 0 :: .int (-1) :: .ref it_17 :: .ref en_18 :: .int 0 :: .int 0 :: tl_23)), (k_16, .inr (3, .int (nI n_19) :: tk_22)), (it_17, .inl (ci_20, 40, .inl (fun _ => 0))), (en_18, .inl (ce_21, 41, .inl (fun _ => 0))), (q_26, .inr (5, .ref tk_27 :: .null :: .int 0 :: .int 0 :: .int (-1) :: .int 0 :: .int 0 :: tl_29)), (tk_27, .inr (7, [.ref ut_28, .int 0, .int 0, .int 257, .int 0, .long 0, .int 0, .long 0]))]) (tr := [(cA_2, .byte), (ci_20, .boolean), (ce_21, .int)]) hf hw (c_Guards_init l dC dI q_32 dfX0 H.size hdfX0) ka_X0_init k464 rfl n463 [8] [] [0, 1, 2, 3, 4, 5, 6, 7] [0, 1, 2] rfl rfl rfl rfl rfl (by decide) rfl rfl rfl hl.1 rfl rfl ⟨Nat.le_of_ble_eq_true rfl, Nat.le_of_ble_eq_true rfl⟩ (Nat.le_of_ble_eq_true rfl) (ce := 60) (sl := 124238) rfl rfl ⟨Nat.le_of_ble_eq_true rfl, Nat.le_of_ble_eq_true rfl⟩ dX10_init_71 (fun u_34 hu_34 H locs hw => ?_)
  have hw : Wd dC dI A [(h0, .inr (8, .ref q_1 :: .int 0 :: .ref q_15 :: .int 0 :: .int 0 :: .int 0 :: .ref q_26 :: .int 0 :: .int 0 :: tl_14)), (q_1, .inl (cA_2, 3000, .inl (fun _ => 0))), (q_15, .inr (4, .ref k_16 :: .int 0 :: .int (-1) :: .ref it_17 :: .ref en_18 :: .int 0 :: .int 0 :: tl_23)), (k_16, .inr (3, .int (nI n_19) :: tk_22)), (it_17, .inl (ci_20, 40, .inl (fun _ => 0))), (en_18, .inl (ce_21, 41, .inl (fun _ => 0))), (q_26, .inr (5, .ref tk_27 :: .null :: .int 0 :: .int 0 :: .int (-1) :: .int 0 :: .int 0 :: tl_29)), (tk_27, .inr (7, [.ref ut_28, .int 0, .int 0, .int 257, .int 0, .long 0, .int 0, .long 0]))] [(cA_2, .byte), (ci_20, .boolean), (ce_21, .int)] s H locs := hw
  refine mputFT (K := [.ref q_1, .int 0, .ref q_15, .int 0, .int 0, .int 0, .ref q_26, .int 0, .int 0]) (j := 1) (nt := 4) hf hin hw iX10 tyX10 tyX10_ok nmX10 0 rfl rfl 10 (by decide) k687 rfl rfl rfl rfl htl_14 rfl (by decide) (ws' := fun tl_35 => [(h0, .inr (8, .ref q_1 :: .int 0 :: .ref q_15 :: .int 0 :: .int 0 :: .int 0 :: .ref q_26 :: .int 0 :: .int 0 :: tl_35)), (q_1, .inl (cA_2, 3000, .inl (fun _ => 0))), (q_15, .inr (4, .ref k_16 :: .int 0 :: .int (-1) :: .ref it_17 :: .ref en_18 :: .int 0 :: .int 0 :: tl_23)), (k_16, .inr (3, .int (nI n_19) :: tk_22)), (it_17, .inl (ci_20, 40, .inl (fun _ => 0))), (en_18, .inl (ce_21, 41, .inl (fun _ => 0))), (q_26, .inr (5, .ref tk_27 :: .null :: .int 0 :: .int 0 :: .int (-1) :: .int 0 :: .int 0 :: tl_29)), (tk_27, .inr (7, [.ref ut_28, .int 0, .int 0, .int 257, .int 0, .long 0, .int 0, .long 0]))]) (fun _ => rfl) dX10_init_74 (fun tl_35 htl_35 H locs hw => ?_)
  refine lv_aload_n hf.1 hf.2.1 dX10_init_77 rfl (lv_at hl 0 rfl) ?_
  refine mnew (ci := 2) (fs := dfX2) hf hw iX2 tyX2 tyX2_ok k499 k500 k194 rfl (hfs_of dfX2_ok) (ce := 61) (sl := 124253) rfl rfl (Nat.le_of_ble_eq_true rfl) (Nat.le_of_ble_eq_true rfl) dX10_init_78 (fun q_36 H hw => ?_)
  refine lv_dup hf.1 hf.2.1 dX10_init_81 rfl ?_
  refine mIN_v (As := []) (rest := [.ref q_36, .ref h0]) (wr := [(h0, .inr (8, .ref q_1 :: .int 0 :: .ref q_15 :: .int 0 :: .int 0 :: .int 0 :: .ref q_26 :: .int 0 :: .int 0 :: tl_35)), (q_1, .inl (cA_2, 3000, .inl (fun _ => 0))), (q_15, .inr (4, .ref k_16 :: .int 0 :: .int (-1) :: .ref it_17 :: .ref en_18 :: .int 0 :: .int 0 :: tl_23)), (k_16, .inr (3, .int (nI n_19) :: tk_22)), (it_17, .inl (ci_20, 40, .inl (fun _ => 0))), (en_18, .inl (ce_21, 41, .inl (fun _ => 0))), (q_26, .inr (5, .ref tk_27 :: .null :: .int 0 :: .int 0 :: .int (-1) :: .int 0 :: .int 0 :: tl_29)), (tk_27, .inr (7, [.ref ut_28, .int 0, .int 0, .int 257, .int 0, .long 0, .int 0, .long 0]))]) (tr := [(cA_2, .byte), (ci_20, .boolean), (ce_21, .int)]) hf hw (c_Judging_init l dC dI q_36 dfX2 H.size hdfX2) ka_X2_init k502 rfl n501 [8] [] [0, 1, 2, 3, 4, 5, 6, 7] [0, 1, 2] rfl rfl rfl rfl rfl (by decide) rfl rfl rfl hl.1 rfl rfl ⟨Nat.le_of_ble_eq_true rfl, Nat.le_of_ble_eq_true rfl⟩ (Nat.le_of_ble_eq_true rfl) (ce := 69) (sl := 133577) rfl rfl ⟨Nat.le_of_ble_eq_true rfl, Nat.le_of_ble_eq_true rfl⟩ dX10_init_82 (fun u_38 hu_38 H locs hw => ?_)
  have hw : Wd dC dI A [(h0, .inr (8, .ref q_1 :: .int 0 :: .ref q_15 :: .int 0 :: .int 0 :: .int 0 :: .ref q_26 :: .int 0 :: .int 0 :: tl_35)), (q_1, .inl (cA_2, 3000, .inl (fun _ => 0))), (q_15, .inr (4, .ref k_16 :: .int 0 :: .int (-1) :: .ref it_17 :: .ref en_18 :: .int 0 :: .int 0 :: tl_23)), (k_16, .inr (3, .int (nI n_19) :: tk_22)), (it_17, .inl (ci_20, 40, .inl (fun _ => 0))), (en_18, .inl (ce_21, 41, .inl (fun _ => 0))), (q_26, .inr (5, .ref tk_27 :: .null :: .int 0 :: .int 0 :: .int (-1) :: .int 0 :: .int 0 :: tl_29)), (tk_27, .inr (7, [.ref ut_28, .int 0, .int 0, .int 257, .int 0, .long 0, .int 0, .long 0]))] [(cA_2, .byte), (ci_20, .boolean), (ce_21, .int)] s H locs := hw
  refine mputFT (K := [.ref q_1, .int 0, .ref q_15, .int 0, .int 0, .int 0, .ref q_26, .int 0, .int 0]) (j := 2) (nt := 4) hf hin hw iX10 tyX10 tyX10_ok nmX10 0 rfl rfl 11 (by decide) k688 rfl rfl rfl rfl htl_35 rfl (by decide) (ws' := fun tl_39 => [(h0, .inr (8, .ref q_1 :: .int 0 :: .ref q_15 :: .int 0 :: .int 0 :: .int 0 :: .ref q_26 :: .int 0 :: .int 0 :: tl_39)), (q_1, .inl (cA_2, 3000, .inl (fun _ => 0))), (q_15, .inr (4, .ref k_16 :: .int 0 :: .int (-1) :: .ref it_17 :: .ref en_18 :: .int 0 :: .int 0 :: tl_23)), (k_16, .inr (3, .int (nI n_19) :: tk_22)), (it_17, .inl (ci_20, 40, .inl (fun _ => 0))), (en_18, .inl (ce_21, 41, .inl (fun _ => 0))), (q_26, .inr (5, .ref tk_27 :: .null :: .int 0 :: .int 0 :: .int (-1) :: .int 0 :: .int 0 :: tl_29)), (tk_27, .inr (7, [.ref ut_28, .int 0, .int 0, .int 257, .int 0, .long 0, .int 0, .long 0]))]) (fun _ => rfl) dX10_init_85 (fun tl_39 htl_39 H locs hw => ?_)
  refine lv_aload_n hf.1 hf.2.1 dX10_init_88 rfl (lv_at hl 0 rfl) ?_
  refine mnew (ci := 6) (fs := dfX7) hf hw iX7 tyX7 tyX7_ok k554 k555 k195 rfl (hfs_of dfX7_ok) (ce := 70) (sl := 133597) rfl rfl (Nat.le_of_ble_eq_true rfl) (Nat.le_of_ble_eq_true rfl) dX10_init_89 (fun q_40 H hw => ?_)
  refine lv_dup hf.1 hf.2.1 dX10_init_92 rfl ?_
  refine mIN_v (As := []) (rest := [.ref q_40, .ref h0]) (wr := [(h0, .inr (8, .ref q_1 :: .int 0 :: .ref q_15 :: .int 0 :: .int 0 :: .int 0 :: .ref q_26 :: .int 0 :: .int 0 :: tl_39)), (q_1, .inl (cA_2, 3000, .inl (fun _ => 0))), (q_15, .inr (4, .ref k_16 :: .int 0 :: .int (-1) :: .ref it_17 :: .ref en_18 :: .int 0 :: .int 0 :: tl_23)), (k_16, .inr (3, .int (nI n_19) :: tk_22)), (it_17, .inl (ci_20, 40, .inl (fun _ => 0))), (en_18, .inl (ce_21, 41, .inl (fun _ => 0))), (q_26, .inr (5, .ref tk_27 :: .null :: .int 0 :: .int 0 :: .int (-1) :: .int 0 :: .int 0 :: tl_29)), (tk_27, .inr (7, [.ref ut_28, .int 0, .int 0, .int 257, .int 0, .long 0, .int 0, .long 0]))]) (tr := [(cA_2, .byte), (ci_20, .boolean), (ce_21, .int)]) hf hw (c_Running_init l dC dI q_40 dfX7 H.size hdfX7) ka_X7_init k557 rfl n556 [8] [] [0, 1, 2, 3, 4, 5, 6, 7] [0, 1, 2] rfl rfl rfl rfl rfl (by decide) rfl rfl rfl hl.1 rfl rfl ⟨Nat.le_of_ble_eq_true rfl, Nat.le_of_ble_eq_true rfl⟩ (Nat.le_of_ble_eq_true rfl) (ce := 87) (sl := 172932) rfl rfl ⟨Nat.le_of_ble_eq_true rfl, Nat.le_of_ble_eq_true rfl⟩ dX10_init_93 (fun u_42 hu_42 H locs hw => ?_)
  have hw : Wd dC dI A [(h0, .inr (8, .ref q_1 :: .int 0 :: .ref q_15 :: .int 0 :: .int 0 :: .int 0 :: .ref q_26 :: .int 0 :: .int 0 :: tl_39)), (q_1, .inl (cA_2, 3000, .inl (fun _ => 0))), (q_15, .inr (4, .ref k_16 :: .int 0 :: .int (-1) :: .ref it_17 :: .ref en_18 :: .int 0 :: .int 0 :: tl_23)), (k_16, .inr (3, .int (nI n_19) :: tk_22)), (it_17, .inl (ci_20, 40, .inl (fun _ => 0))), (en_18, .inl (ce_21, 41, .inl (fun _ => 0))), (q_26, .inr (5, .ref tk_27 :: .null :: .int 0 :: .int 0 :: .int (-1) :: .int 0 :: .int 0 :: tl_29)), (tk_27, .inr (7, [.ref ut_28, .int 0, .int 0, .int 257, .int 0, .long 0, .int 0, .long 0]))] [(cA_2, .byte), (ci_20, .boolean), (ce_21, .int)] s H locs := hw
  refine mputFT (K := [.ref q_1, .int 0, .ref q_15, .int 0, .int 0, .int 0, .ref q_26, .int 0, .int 0]) (j := 3) (nt := 4) hf hin hw iX10 tyX10 tyX10_ok nmX10 0 rfl rfl 12 (by decide) k689 rfl rfl rfl rfl htl_39 rfl (by decide) (ws' := fun tl_43 => [(h0, .inr (8, .ref q_1 :: .int 0 :: .ref q_15 :: .int 0 :: .int 0 :: .int 0 :: .ref q_26 :: .int 0 :: .int 0 :: tl_43)), (q_1, .inl (cA_2, 3000, .inl (fun _ => 0))), (q_15, .inr (4, .ref k_16 :: .int 0 :: .int (-1) :: .ref it_17 :: .ref en_18 :: .int 0 :: .int 0 :: tl_23)), (k_16, .inr (3, .int (nI n_19) :: tk_22)), (it_17, .inl (ci_20, 40, .inl (fun _ => 0))), (en_18, .inl (ce_21, 41, .inl (fun _ => 0))), (q_26, .inr (5, .ref tk_27 :: .null :: .int 0 :: .int 0 :: .int (-1) :: .int 0 :: .int 0 :: tl_29)), (tk_27, .inr (7, [.ref ut_28, .int 0, .int 0, .int 257, .int 0, .long 0, .int 0, .long 0]))]) (fun _ => rfl) dX10_init_96 (fun tl_43 htl_43 H locs hw => ?_)
  refine lv_aload_n hf.1 hf.2.1 dX10_init_99 rfl (lv_at hl 0 rfl) ?_
  refine lv_iconst (v := (-1)) hf.1 hf.2.1 dX10_init_100 (by decide) ?_
  refine mput hf hw iX10 tyX10 tyX10_ok nmX10 0 rfl rfl 7 (by decide) k690 rfl rfl rfl (lt_app (K := [.ref q_1, .int 0, .ref q_15, .int 0, .int 0, .int 0, .ref q_26, .int (-1), .int 0]) htl_43 (Nat.le_of_ble_eq_true rfl)) (ws' := [(h0, .inr (8, .ref q_1 :: .int 0 :: .ref q_15 :: .int 0 :: .int 0 :: .int 0 :: .ref q_26 :: .int (-1) :: .int 0 :: tl_43)), (q_1, .inl (cA_2, 3000, .inl (fun _ => 0))), (q_15, .inr (4, .ref k_16 :: .int 0 :: .int (-1) :: .ref it_17 :: .ref en_18 :: .int 0 :: .int 0 :: tl_23)), (k_16, .inr (3, .int (nI n_19) :: tk_22)), (it_17, .inl (ci_20, 40, .inl (fun _ => 0))), (en_18, .inl (ce_21, 41, .inl (fun _ => 0))), (q_26, .inr (5, .ref tk_27 :: .null :: .int 0 :: .int 0 :: .int (-1) :: .int 0 :: .int 0 :: tl_29)), (tk_27, .inr (7, [.ref ut_28, .int 0, .int 0, .int 257, .int 0, .long 0, .int 0, .long 0]))]) rfl dX10_init_101 (fun H locs hw => ?_)
  refine lv_aload_n hf.1 hf.2.1 dX10_init_104 rfl (lv_at hl 0 rfl) ?_
  refine lv_iconst (v := (-1)) hf.1 hf.2.1 dX10_init_105 (by decide) ?_
  refine mput hf hw iX10 tyX10 tyX10_ok nmX10 0 rfl rfl 8 (by decide) k691 rfl rfl rfl (lt_app (K := [.ref q_1, .int 0, .ref q_15, .int 0, .int 0, .int 0, .ref q_26, .int (-1), .int (-1)]) htl_43 (Nat.le_of_ble_eq_true rfl)) (ws' := [(h0, .inr (8, .ref q_1 :: .int 0 :: .ref q_15 :: .int 0 :: .int 0 :: .int 0 :: .ref q_26 :: .int (-1) :: .int (-1) :: tl_43)), (q_1, .inl (cA_2, 3000, .inl (fun _ => 0))), (q_15, .inr (4, .ref k_16 :: .int 0 :: .int (-1) :: .ref it_17 :: .ref en_18 :: .int 0 :: .int 0 :: tl_23)), (k_16, .inr (3, .int (nI n_19) :: tk_22)), (it_17, .inl (ci_20, 40, .inl (fun _ => 0))), (en_18, .inl (ce_21, 41, .inl (fun _ => 0))), (q_26, .inr (5, .ref tk_27 :: .null :: .int 0 :: .int 0 :: .int (-1) :: .int 0 :: .int 0 :: tl_29)), (tk_27, .inr (7, [.ref ut_28, .int 0, .int 0, .int 257, .int 0, .long 0, .int 0, .long 0]))]) rfl dX10_init_106 (fun H locs hw => ?_)
  exact mret_v hf hr hlk hw (q_1, q_15, k_16, it_17, en_18, n_19, q_26, tk_27, ut_28, cA_2, ci_20, ce_21, tk_22, tl_23, tl_29, tl_43) ⟨hn_19, htk_22, htl_23, htl_29, htl_43⟩ [0, 1, 2, 3, 4, 5, 6, 7] [0, 1, 2] rfl rfl rfl (Nat.le_of_ble_eq_true rfl) (Nat.le_of_ble_eq_true rfl) dX10_init_109
