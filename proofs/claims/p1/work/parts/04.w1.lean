theorem dX0_init_0 : decode cX0_init 0 = .ok (.aload_n 0, 1) := by decide +kernel
theorem dX0_init_1 : decode cX0_init 1 = .ok (.invokespecial 3, 3) := by decide +kernel
theorem dX0_init_4 : decode cX0_init 4 = .ok (.aload_n 0, 1) := by decide +kernel
theorem dX0_init_5 : decode cX0_init 5 = .ok (.sipush 3000, 3) := by decide +kernel
theorem dX0_init_8 : decode cX0_init 8 = .ok (.newarray .int, 2) := by decide +kernel
theorem dX0_init_10 : decode cX0_init 10 = .ok (.putfield 9, 3) := by decide +kernel
theorem dX0_init_13 : decode cX0_init 13 = .ok (.aload_n 0, 1) := by decide +kernel
theorem dX0_init_14 : decode cX0_init 14 = .ok (.sipush 3000, 3) := by decide +kernel
theorem dX0_init_17 : decode cX0_init 17 = .ok (.newarray .int, 2) := by decide +kernel
theorem dX0_init_19 : decode cX0_init 19 = .ok (.putfield 15, 3) := by decide +kernel
theorem dX0_init_22 : decode cX0_init 22 = .ok (.aload_n 0, 1) := by decide +kernel
theorem dX0_init_23 : decode cX0_init 23 = .ok (.sipush 3000, 3) := by decide +kernel
theorem dX0_init_26 : decode cX0_init 26 = .ok (.newarray .int, 2) := by decide +kernel
theorem dX0_init_28 : decode cX0_init 28 = .ok (.putfield 18, 3) := by decide +kernel
theorem dX0_init_31 : decode cX0_init 31 = .ok (.aload_n 0, 1) := by decide +kernel
theorem dX0_init_32 : decode cX0_init 32 = .ok (.sipush 3000, 3) := by decide +kernel
theorem dX0_init_35 : decode cX0_init 35 = .ok (.newarray .int, 2) := by decide +kernel
theorem dX0_init_37 : decode cX0_init 37 = .ok (.putfield 21, 3) := by decide +kernel
theorem dX0_init_40 : decode cX0_init 40 = .ok (.aload_n 0, 1) := by decide +kernel
theorem dX0_init_41 : decode cX0_init 41 = .ok (.sipush 3000, 3) := by decide +kernel
theorem dX0_init_44 : decode cX0_init 44 = .ok (.newarray .int, 2) := by decide +kernel
theorem dX0_init_46 : decode cX0_init 46 = .ok (.putfield 24, 3) := by decide +kernel
theorem dX0_init_49 : decode cX0_init 49 = .ok (.aload_n 0, 1) := by decide +kernel
theorem dX0_init_50 : decode cX0_init 50 = .ok (.iconst 0, 1) := by decide +kernel
theorem dX0_init_51 : decode cX0_init 51 = .ok (.putfield 27, 3) := by decide +kernel
theorem dX0_init_54 : decode cX0_init 54 = .ok (.return_, 1) := by decide +kernel
theorem dX1_init_0 : decode cX1_init 0 = .ok (.aload_n 0, 1) := by decide +kernel
theorem dX1_init_1 : decode cX1_init 1 = .ok (.invokespecial 3, 3) := by decide +kernel
theorem dX1_init_4 : decode cX1_init 4 = .ok (.aload_n 0, 1) := by decide +kernel
theorem dX1_init_5 : decode cX1_init 5 = .ok (.iconst 0, 1) := by decide +kernel
theorem dX1_init_6 : decode cX1_init 6 = .ok (.putfield 9, 3) := by decide +kernel
theorem dX1_init_9 : decode cX1_init 9 = .ok (.aload_n 0, 1) := by decide +kernel
theorem dX1_init_10 : decode cX1_init 10 = .ok (.iconst 0, 1) := by decide +kernel
theorem dX1_init_11 : decode cX1_init 11 = .ok (.putfield 15, 3) := by decide +kernel
theorem dX1_init_14 : decode cX1_init 14 = .ok (.aload_n 0, 1) := by decide +kernel
theorem dX1_init_15 : decode cX1_init 15 = .ok (.iconst 0, 1) := by decide +kernel
theorem dX1_init_16 : decode cX1_init 16 = .ok (.putfield 18, 3) := by decide +kernel
theorem dX1_init_19 : decode cX1_init 19 = .ok (.aload_n 0, 1) := by decide +kernel
theorem dX1_init_20 : decode cX1_init 20 = .ok (.sipush 1000, 3) := by decide +kernel
theorem dX1_init_23 : decode cX1_init 23 = .ok (.newarray .int, 2) := by decide +kernel
theorem dX1_init_25 : decode cX1_init 25 = .ok (.putfield 21, 3) := by decide +kernel
theorem dX1_init_28 : decode cX1_init 28 = .ok (.aload_n 0, 1) := by decide +kernel
theorem dX1_init_29 : decode cX1_init 29 = .ok (.sipush 1000, 3) := by decide +kernel
theorem dX1_init_32 : decode cX1_init 32 = .ok (.newarray .int, 2) := by decide +kernel
theorem dX1_init_34 : decode cX1_init 34 = .ok (.putfield 25, 3) := by decide +kernel
theorem dX1_init_37 : decode cX1_init 37 = .ok (.aload_n 0, 1) := by decide +kernel
theorem dX1_init_38 : decode cX1_init 38 = .ok (.sipush 4000, 3) := by decide +kernel
theorem dX1_init_41 : decode cX1_init 41 = .ok (.newarray .long, 2) := by decide +kernel
theorem dX1_init_43 : decode cX1_init 43 = .ok (.putfield 28, 3) := by decide +kernel
theorem dX1_init_46 : decode cX1_init 46 = .ok (.aload_n 0, 1) := by decide +kernel
theorem dX1_init_47 : decode cX1_init 47 = .ok (.sipush 1000, 3) := by decide +kernel
theorem dX1_init_50 : decode cX1_init 50 = .ok (.newarray .long, 2) := by decide +kernel
theorem dX1_init_52 : decode cX1_init 52 = .ok (.putfield 32, 3) := by decide +kernel
theorem dX1_init_55 : decode cX1_init 55 = .ok (.aload_n 0, 1) := by decide +kernel
theorem dX1_init_56 : decode cX1_init 56 = .ok (.sipush 1000, 3) := by decide +kernel
theorem dX1_init_59 : decode cX1_init 59 = .ok (.newarray .int, 2) := by decide +kernel
theorem dX1_init_61 : decode cX1_init 61 = .ok (.putfield 35, 3) := by decide +kernel
theorem dX1_init_64 : decode cX1_init 64 = .ok (.aload_n 0, 1) := by decide +kernel
theorem dX1_init_65 : decode cX1_init 65 = .ok (.sipush 1000, 3) := by decide +kernel
theorem dX1_init_68 : decode cX1_init 68 = .ok (.newarray .int, 2) := by decide +kernel
theorem dX1_init_70 : decode cX1_init 70 = .ok (.putfield 38, 3) := by decide +kernel
theorem dX1_init_73 : decode cX1_init 73 = .ok (.aload_n 0, 1) := by decide +kernel
theorem dX1_init_74 : decode cX1_init 74 = .ok (.sipush 1000, 3) := by decide +kernel
theorem dX1_init_77 : decode cX1_init 77 = .ok (.newarray .int, 2) := by decide +kernel
theorem dX1_init_79 : decode cX1_init 79 = .ok (.putfield 41, 3) := by decide +kernel
theorem dX1_init_82 : decode cX1_init 82 = .ok (.aload_n 0, 1) := by decide +kernel
theorem dX1_init_83 : decode cX1_init 83 = .ok (.sipush 1000, 3) := by decide +kernel
theorem dX1_init_86 : decode cX1_init 86 = .ok (.newarray .int, 2) := by decide +kernel
theorem dX1_init_88 : decode cX1_init 88 = .ok (.putfield 44, 3) := by decide +kernel
theorem dX1_init_91 : decode cX1_init 91 = .ok (.aload_n 0, 1) := by decide +kernel
theorem dX1_init_92 : decode cX1_init 92 = .ok (.sipush 1000, 3) := by decide +kernel
theorem dX1_init_95 : decode cX1_init 95 = .ok (.newarray .int, 2) := by decide +kernel
theorem dX1_init_97 : decode cX1_init 97 = .ok (.putfield 47, 3) := by decide +kernel
theorem dX1_init_100 : decode cX1_init 100 = .ok (.aload_n 0, 1) := by decide +kernel
theorem dX1_init_101 : decode cX1_init 101 = .ok (.sipush 1000, 3) := by decide +kernel
theorem dX1_init_104 : decode cX1_init 104 = .ok (.newarray .int, 2) := by decide +kernel
theorem dX1_init_106 : decode cX1_init 106 = .ok (.putfield 50, 3) := by decide +kernel
theorem dX1_init_109 : decode cX1_init 109 = .ok (.return_, 1) := by decide +kernel
theorem dX2_init_0 : decode cX2_init 0 = .ok (.aload_n 0, 1) := by decide +kernel
theorem dX2_init_1 : decode cX2_init 1 = .ok (.invokespecial 3, 3) := by decide +kernel
theorem dX2_init_4 : decode cX2_init 4 = .ok (.aload_n 0, 1) := by decide +kernel
theorem dX2_init_5 : decode cX2_init 5 = .ok (.aconst_null, 1) := by decide +kernel
theorem dX2_init_6 : decode cX2_init 6 = .ok (.putfield 9, 3) := by decide +kernel
theorem dX2_init_9 : decode cX2_init 9 = .ok (.aload_n 0, 1) := by decide +kernel
theorem dX2_init_10 : decode cX2_init 10 = .ok (.aconst_null, 1) := by decide +kernel
theorem dX2_init_11 : decode cX2_init 11 = .ok (.putfield 15, 3) := by decide +kernel
theorem dX2_init_14 : decode cX2_init 14 = .ok (.aload_n 0, 1) := by decide +kernel
theorem dX2_init_15 : decode cX2_init 15 = .ok (.aconst_null, 1) := by decide +kernel
theorem dX2_init_16 : decode cX2_init 16 = .ok (.putfield 19, 3) := by decide +kernel
theorem dX2_init_19 : decode cX2_init 19 = .ok (.aload_n 0, 1) := by decide +kernel
theorem dX2_init_20 : decode cX2_init 20 = .ok (.iconst 0, 1) := by decide +kernel
theorem dX2_init_21 : decode cX2_init 21 = .ok (.putfield 23, 3) := by decide +kernel
theorem dX2_init_24 : decode cX2_init 24 = .ok (.aload_n 0, 1) := by decide +kernel
theorem dX2_init_25 : decode cX2_init 25 = .ok (.iconst 0, 1) := by decide +kernel
theorem dX2_init_26 : decode cX2_init 26 = .ok (.putfield 27, 3) := by decide +kernel
theorem dX2_init_29 : decode cX2_init 29 = .ok (.aload_n 0, 1) := by decide +kernel
theorem dX2_init_30 : decode cX2_init 30 = .ok (.iconst (-1), 1) := by decide +kernel
theorem dX2_init_31 : decode cX2_init 31 = .ok (.putfield 30, 3) := by decide +kernel
theorem dX2_init_34 : decode cX2_init 34 = .ok (.aload_n 0, 1) := by decide +kernel
theorem dX2_init_35 : decode cX2_init 35 = .ok (.bipush 40, 2) := by decide +kernel
theorem dX2_init_37 : decode cX2_init 37 = .ok (.newarray .boolean, 2) := by decide +kernel
theorem dX2_init_39 : decode cX2_init 39 = .ok (.putfield 33, 3) := by decide +kernel
theorem dX2_init_42 : decode cX2_init 42 = .ok (.aload_n 0, 1) := by decide +kernel
theorem dX2_init_43 : decode cX2_init 43 = .ok (.sipush 160, 3) := by decide +kernel
theorem dX2_init_46 : decode cX2_init 46 = .ok (.newarray .int, 2) := by decide +kernel
theorem dX2_init_48 : decode cX2_init 48 = .ok (.putfield 37, 3) := by decide +kernel
theorem dX2_init_51 : decode cX2_init 51 = .ok (.aload_n 0, 1) := by decide +kernel
theorem dX2_init_52 : decode cX2_init 52 = .ok (.bipush 40, 2) := by decide +kernel
theorem dX2_init_54 : decode cX2_init 54 = .ok (.newarray .int, 2) := by decide +kernel
theorem dX2_init_56 : decode cX2_init 56 = .ok (.putfield 41, 3) := by decide +kernel
theorem dX2_init_59 : decode cX2_init 59 = .ok (.aload_n 0, 1) := by decide +kernel
theorem dX2_init_60 : decode cX2_init 60 = .ok (.bipush 40, 2) := by decide +kernel
theorem dX2_init_62 : decode cX2_init 62 = .ok (.newarray .int, 2) := by decide +kernel
theorem dX2_init_64 : decode cX2_init 64 = .ok (.putfield 44, 3) := by decide +kernel
theorem dX2_init_67 : decode cX2_init 67 = .ok (.aload_n 0, 1) := by decide +kernel
theorem dX2_init_68 : decode cX2_init 68 = .ok (.bipush 44, 2) := by decide +kernel
theorem dX2_init_70 : decode cX2_init 70 = .ok (.newarray .int, 2) := by decide +kernel
theorem dX2_init_72 : decode cX2_init 72 = .ok (.putfield 47, 3) := by decide +kernel
theorem dX2_init_75 : decode cX2_init 75 = .ok (.aload_n 0, 1) := by decide +kernel
theorem dX2_init_76 : decode cX2_init 76 = .ok (.sipush 3000, 3) := by decide +kernel
theorem dX2_init_79 : decode cX2_init 79 = .ok (.newarray .int, 2) := by decide +kernel
theorem dX2_init_81 : decode cX2_init 81 = .ok (.putfield 50, 3) := by decide +kernel
theorem dX2_init_84 : decode cX2_init 84 = .ok (.aload_n 0, 1) := by decide +kernel
theorem dX2_init_85 : decode cX2_init 85 = .ok (.sipush 3000, 3) := by decide +kernel
theorem dX2_init_88 : decode cX2_init 88 = .ok (.newarray .int, 2) := by decide +kernel
theorem dX2_init_90 : decode cX2_init 90 = .ok (.putfield 53, 3) := by decide +kernel
theorem dX2_init_93 : decode cX2_init 93 = .ok (.aload_n 0, 1) := by decide +kernel
theorem dX2_init_94 : decode cX2_init 94 = .ok (.sipush 3000, 3) := by decide +kernel
theorem dX2_init_97 : decode cX2_init 97 = .ok (.newarray .int, 2) := by decide +kernel
theorem dX2_init_99 : decode cX2_init 99 = .ok (.putfield 56, 3) := by decide +kernel
theorem dX2_init_102 : decode cX2_init 102 = .ok (.aload_n 0, 1) := by decide +kernel
theorem dX2_init_103 : decode cX2_init 103 = .ok (.iconst 0, 1) := by decide +kernel
theorem dX2_init_104 : decode cX2_init 104 = .ok (.putfield 59, 3) := by decide +kernel
theorem dX2_init_107 : decode cX2_init 107 = .ok (.return_, 1) := by decide +kernel
theorem k206 : Cond.instanceMethod objectInit ∈ gtb := gtm (in_tables_1_1 (List.mem_of_getElem? (i := 20) rfl)) rfl
theorem k207 : Cond.code objectInit ⟨#[0xb1]⟩ 1 none ∈ gtb := gtm (in_tables_1_1 (List.mem_of_getElem? (i := 21) rfl)) rfl
theorem k277 : Cond.arrayClass .int ∈ gtb := gtm (in_tables_1_1 (List.mem_of_getElem? (i := 91) rfl)) rfl
theorem k278 : Cond.arrayClass .boolean ∈ gtb := gtm (in_tables_1_1 (List.mem_of_getElem? (i := 92) rfl)) rfl
theorem k373 : Cond.arrayClass .long ∈ gtb := gtm (in_tables_1_1 (List.mem_of_getElem? (i := 187) rfl)) rfl
theorem k466 : Cond.methodLink "BlameCourt$Guards" 3 objectInit ∈ gtb := gtm (in_tables_1_2 (List.mem_of_getElem? (i := 40) rfl)) rfl
theorem k467 : Cond.fieldLink "BlameCourt$Guards" 9 "BlameCourt$Guards" "place" "[I" ∈ gtb := gtm (in_tables_1_2 (List.mem_of_getElem? (i := 41) rfl)) rfl
theorem k470 : Cond.fieldLink "BlameCourt$Guards" 15 "BlameCourt$Guards" "give\x72" "[I" ∈ gtb := gtm (in_tables_1_2 (List.mem_of_getElem? (i := 44) rfl)) rfl
theorem k473 : Cond.fieldLink "BlameCourt$Guards" 18 "BlameCourt$Guards" "take\x72" "[I" ∈ gtb := gtm (in_tables_1_2 (List.mem_of_getElem? (i := 47) rfl)) rfl
theorem k476 : Cond.fieldLink "BlameCourt$Guards" 21 "BlameCourt$Guards" "from" "[I" ∈ gtb := gtm (in_tables_1_2 (List.mem_of_getElem? (i := 50) rfl)) rfl
theorem k479 : Cond.fieldLink "BlameCourt$Guards" 24 "BlameCourt$Guards" "to" "[I" ∈ gtb := gtm (in_tables_1_2 (List.mem_of_getElem? (i := 53) rfl)) rfl
theorem k482 : Cond.fieldLink "BlameCourt$Guards" 27 "BlameCourt$Guards" "count" "I" ∈ gtb := gtm (in_tables_1_2 (List.mem_of_getElem? (i := 56) rfl)) rfl
theorem k504 : Cond.methodLink "BlameCourt$Judging" 3 objectInit ∈ gtb := gtm (in_tables_1_2 (List.mem_of_getElem? (i := 78) rfl)) rfl
theorem k505 : Cond.fieldLink "BlameCourt$Judging" 9 "BlameCourt$Judging" "guards" "LBlameCourt$Guards;" ∈ gtb := gtm (in_tables_1_2 (List.mem_of_getElem? (i := 79) rfl)) rfl
theorem k506 : Cond.fieldLink "BlameCourt$Judging" 15 "BlameCourt$Judging" "program" "LBlameCourt$Program;" ∈ gtb := gtm (in_tables_1_2 (List.mem_of_getElem? (i := 80) rfl)) rfl
theorem k507 : Cond.fieldLink "BlameCourt$Judging" 19 "BlameCourt$Judging" "kinds" "LBlameCourt$Kinds;" ∈ gtb := gtm (in_tables_1_2 (List.mem_of_getElem? (i := 81) rfl)) rfl
theorem k508 : Cond.fieldLink "BlameCourt$Judging" 23 "BlameCourt$Judging" "inPart" "I" ∈ gtb := gtm (in_tables_1_2 (List.mem_of_getElem? (i := 82) rfl)) rfl
theorem k509 : Cond.fieldLink "BlameCourt$Judging" 27 "BlameCourt$Judging" "fault" "I" ∈ gtb := gtm (in_tables_1_2 (List.mem_of_getElem? (i := 83) rfl)) rfl
theorem k511 : Cond.fieldLink "BlameCourt$Judging" 30 "BlameCourt$Judging" "faultPlace" "I" ∈ gtb := gtm (in_tables_1_2 (List.mem_of_getElem? (i := 85) rfl)) rfl
theorem k513 : Cond.fieldLink "BlameCourt$Judging" 33 "BlameCourt$Judging" "anyStands" "[Z" ∈ gtb := gtm (in_tables_1_2 (List.mem_of_getElem? (i := 87) rfl)) rfl
theorem k515 : Cond.fieldLink "BlameCourt$Judging" 37 "BlameCourt$Judging" "paramKind" "[I" ∈ gtb := gtm (in_tables_1_2 (List.mem_of_getElem? (i := 89) rfl)) rfl
theorem k516 : Cond.fieldLink "BlameCourt$Judging" 41 "BlameCourt$Judging" "ownKind" "[I" ∈ gtb := gtm (in_tables_1_2 (List.mem_of_getElem? (i := 90) rfl)) rfl
theorem k517 : Cond.fieldLink "BlameCourt$Judging" 44 "BlameCourt$Judging" "partKind" "[I" ∈ gtb := gtm (in_tables_1_2 (List.mem_of_getElem? (i := 91) rfl)) rfl
theorem k518 : Cond.fieldLink "BlameCourt$Judging" 47 "BlameCourt$Judging" "localKind" "[I" ∈ gtb := gtm (in_tables_1_2 (List.mem_of_getElem? (i := 92) rfl)) rfl
theorem k519 : Cond.fieldLink "BlameCourt$Judging" 50 "BlameCourt$Judging" "stack" "[I" ∈ gtb := gtm (in_tables_1_2 (List.mem_of_getElem? (i := 93) rfl)) rfl
theorem k520 : Cond.fieldLink "BlameCourt$Judging" 53 "BlameCourt$Judging" "askedAt" "[I" ∈ gtb := gtm (in_tables_1_2 (List.mem_of_getElem? (i := 94) rfl)) rfl
theorem k521 : Cond.fieldLink "BlameCourt$Judging" 56 "BlameCourt$Judging" "takerOf" "[I" ∈ gtb := gtm (in_tables_1_2 (List.mem_of_getElem? (i := 95) rfl)) rfl
theorem k522 : Cond.fieldLink "BlameCourt$Judging" 59 "BlameCourt$Judging" "top" "I" ∈ gtb := gtm (in_tables_1_2 (List.mem_of_getElem? (i := 96) rfl)) rfl
theorem k565 : Cond.methodLink "BlameCourt$Heap" 3 objectInit ∈ gtb := gtm (in_tables_1_2 (List.mem_of_getElem? (i := 139) rfl)) rfl
theorem k566 : Cond.fieldLink "BlameCourt$Heap" 9 "BlameCourt$Heap" "rows" "I" ∈ gtb := gtm (in_tables_1_2 (List.mem_of_getElem? (i := 140) rfl)) rfl
theorem k568 : Cond.fieldLink "BlameCourt$Heap" 15 "BlameCourt$Heap" "places" "I" ∈ gtb := gtm (in_tables_1_2 (List.mem_of_getElem? (i := 142) rfl)) rfl
theorem k569 : Cond.fieldLink "BlameCourt$Heap" 18 "BlameCourt$Heap" "wrappings" "I" ∈ gtb := gtm (in_tables_1_2 (List.mem_of_getElem? (i := 143) rfl)) rfl
theorem k571 : Cond.fieldLink "BlameCourt$Heap" 21 "BlameCourt$Heap" "rowFrom" "[I" ∈ gtb := gtm (in_tables_1_2 (List.mem_of_getElem? (i := 145) rfl)) rfl
theorem k572 : Cond.fieldLink "BlameCourt$Heap" 25 "BlameCourt$Heap" "rowLength" "[I" ∈ gtb := gtm (in_tables_1_2 (List.mem_of_getElem? (i := 146) rfl)) rfl
theorem k573 : Cond.fieldLink "BlameCourt$Heap" 28 "BlameCourt$Heap" "cell" "[J" ∈ gtb := gtm (in_tables_1_2 (List.mem_of_getElem? (i := 147) rfl)) rfl
theorem k574 : Cond.fieldLink "BlameCourt$Heap" 32 "BlameCourt$Heap" "within" "[J" ∈ gtb := gtm (in_tables_1_2 (List.mem_of_getElem? (i := 148) rfl)) rfl
theorem k576 : Cond.fieldLink "BlameCourt$Heap" 35 "BlameCourt$Heap" "from" "[I" ∈ gtb := gtm (in_tables_1_2 (List.mem_of_getElem? (i := 150) rfl)) rfl
theorem k578 : Cond.fieldLink "BlameCourt$Heap" 38 "BlameCourt$Heap" "to" "[I" ∈ gtb := gtm (in_tables_1_2 (List.mem_of_getElem? (i := 152) rfl)) rfl
theorem k580 : Cond.fieldLink "BlameCourt$Heap" 41 "BlameCourt$Heap" "give\x72" "[I" ∈ gtb := gtm (in_tables_1_2 (List.mem_of_getElem? (i := 154) rfl)) rfl
theorem k582 : Cond.fieldLink "BlameCourt$Heap" 44 "BlameCourt$Heap" "take\x72" "[I" ∈ gtb := gtm (in_tables_1_2 (List.mem_of_getElem? (i := 156) rfl)) rfl
theorem k584 : Cond.fieldLink "BlameCourt$Heap" 47 "BlameCourt$Heap" "place" "[I" ∈ gtb := gtm (in_tables_1_2 (List.mem_of_getElem? (i := 158) rfl)) rfl
theorem k586 : Cond.fieldLink "BlameCourt$Heap" 50 "BlameCourt$Heap" "around" "[I" ∈ gtb := gtm (in_tables_1_2 (List.mem_of_getElem? (i := 160) rfl)) rfl
theorem k465 : Cond.code yX0_init cX0_init 1 none ∈ gtb := gtm (in_tables_1_2 (List.mem_of_getElem? (i := 39) rfl)) rfl
theorem k193 : Cond.initialized "BlameCourt$Guards" ∈ gtb := gtm (in_tables_1_1 (List.mem_of_getElem? (i := 7) rfl)) rfl
theorem ka_X0_init : KA yX0_init cX0_init 1 none 0 := ⟨k465, k193, by decide, by decide, by decide +kernel⟩
theorem k564 : Cond.code yX1_init cX1_init 1 none ∈ gtb := gtm (in_tables_1_2 (List.mem_of_getElem? (i := 138) rfl)) rfl
theorem k196 : Cond.initialized "BlameCourt$Heap" ∈ gtb := gtm (in_tables_1_1 (List.mem_of_getElem? (i := 10) rfl)) rfl
theorem ka_X1_init : KA yX1_init cX1_init 1 none 0 := ⟨k564, k196, by decide, by decide, by decide +kernel⟩
theorem k503 : Cond.code yX2_init cX2_init 1 none ∈ gtb := gtm (in_tables_1_2 (List.mem_of_getElem? (i := 77) rfl)) rfl
theorem k194 : Cond.initialized "BlameCourt$Judging" ∈ gtb := gtm (in_tables_1_1 (List.mem_of_getElem? (i := 8) rfl)) rfl
theorem ka_X2_init : KA yX2_init cX2_init 1 none 0 := ⟨k503, k194, by decide, by decide, by decide +kernel⟩
