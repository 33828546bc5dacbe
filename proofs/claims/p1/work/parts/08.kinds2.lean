theorem dX3_functionOf_0 : decode cX3_functionOf 0 = .ok (.iload_n 3, 1) := by decide +kernel
theorem dX3_functionOf_1 : decode cX3_functionOf 1 = .ok (.ifCond .lt 20, 3) := by decide +kernel
theorem dX3_functionOf_4 : decode cX3_functionOf 4 = .ok (.iload_n 3, 1) := by decide +kernel
theorem dX3_functionOf_5 : decode cX3_functionOf 5 = .ok (.iconst 4, 1) := by decide +kernel
theorem dX3_functionOf_6 : decode cX3_functionOf 6 = .ok (.if_icmp .gt 15, 3) := by decide +kernel
theorem dX3_functionOf_9 : decode cX3_functionOf 9 = .ok (.iload_n 2, 1) := by decide +kernel
theorem dX3_functionOf_10 : decode cX3_functionOf 10 = .ok (.ifCond .lt 11, 3) := by decide +kernel
theorem dX3_functionOf_13 : decode cX3_functionOf 13 = .ok (.iload_n 2, 1) := by decide +kernel
theorem dX3_functionOf_14 : decode cX3_functionOf 14 = .ok (.aload_n 1, 1) := by decide +kernel
theorem dX3_functionOf_15 : decode cX3_functionOf 15 = .ok (.arraylength, 1) := by decide +kernel
theorem dX3_functionOf_16 : decode cX3_functionOf 16 = .ok (.iload_n 3, 1) := by decide +kernel
theorem dX3_functionOf_17 : decode cX3_functionOf 17 = .ok (.isub, 1) := by decide +kernel
theorem dX3_functionOf_18 : decode cX3_functionOf 18 = .ok (.if_icmp .le 5, 3) := by decide +kernel
theorem dX3_functionOf_21 : decode cX3_functionOf 21 = .ok (.iconst 2, 1) := by decide +kernel
theorem dX3_functionOf_22 : decode cX3_functionOf 22 = .ok (.ireturn, 1) := by decide +kernel
theorem dX3_functionOf_23 : decode cX3_functionOf 23 = .ok (.bipush 7, 2) := by decide +kernel
theorem dX3_functionOf_25 : decode cX3_functionOf 25 = .ok (.iload_n 3, 1) := by decide +kernel
theorem dX3_functionOf_26 : decode cX3_functionOf 26 = .ok (.iadd, 1) := by decide +kernel
theorem dX3_functionOf_27 : decode cX3_functionOf 27 = .ok (.istore 5, 2) := by decide +kernel
theorem dX3_functionOf_29 : decode cX3_functionOf 29 = .ok (.iconst 0, 1) := by decide +kernel
theorem dX3_functionOf_30 : decode cX3_functionOf 30 = .ok (.istore 6, 2) := by decide +kernel
theorem dX3_functionOf_32 : decode cX3_functionOf 32 = .ok (.iload 6, 2) := by decide +kernel
theorem dX3_functionOf_34 : decode cX3_functionOf 34 = .ok (.iload_n 3, 1) := by decide +kernel
theorem dX3_functionOf_35 : decode cX3_functionOf 35 = .ok (.if_icmp .ge 27, 3) := by decide +kernel
theorem dX3_functionOf_38 : decode cX3_functionOf 38 = .ok (.bipush 31, 2) := by decide +kernel
theorem dX3_functionOf_40 : decode cX3_functionOf 40 = .ok (.iload 5, 2) := by decide +kernel
theorem dX3_functionOf_42 : decode cX3_functionOf 42 = .ok (.imul, 1) := by decide +kernel
theorem dX3_functionOf_43 : decode cX3_functionOf 43 = .ok (.aload_n 0, 1) := by decide +kernel
theorem dX3_functionOf_44 : decode cX3_functionOf 44 = .ok (.aload_n 1, 1) := by decide +kernel
theorem dX3_functionOf_45 : decode cX3_functionOf 45 = .ok (.iload_n 2, 1) := by decide +kernel
theorem dX3_functionOf_46 : decode cX3_functionOf 46 = .ok (.iload 6, 2) := by decide +kernel
theorem dX3_functionOf_48 : decode cX3_functionOf 48 = .ok (.iadd, 1) := by decide +kernel
theorem dX3_functionOf_49 : decode cX3_functionOf 49 = .ok (.iaload, 1) := by decide +kernel
theorem dX3_functionOf_50 : decode cX3_functionOf 50 = .ok (.invokevirtual 63, 3) := by decide +kernel
theorem dX3_functionOf_53 : decode cX3_functionOf 53 = .ok (.iadd, 1) := by decide +kernel
theorem dX3_functionOf_54 : decode cX3_functionOf 54 = .ok (.istore 5, 2) := by decide +kernel
theorem dX3_functionOf_56 : decode cX3_functionOf 56 = .ok (.iinc 6 1, 3) := by decide +kernel
theorem dX3_functionOf_59 : decode cX3_functionOf 59 = .ok (.goto (-27), 3) := by decide +kernel
theorem dX3_functionOf_62 : decode cX3_functionOf 62 = .ok (.bipush 31, 2) := by decide +kernel
theorem dX3_functionOf_64 : decode cX3_functionOf 64 = .ok (.iload 5, 2) := by decide +kernel
theorem dX3_functionOf_66 : decode cX3_functionOf 66 = .ok (.imul, 1) := by decide +kernel
theorem dX3_functionOf_67 : decode cX3_functionOf 67 = .ok (.aload_n 0, 1) := by decide +kernel
theorem dX3_functionOf_68 : decode cX3_functionOf 68 = .ok (.iload 4, 2) := by decide +kernel
theorem dX3_functionOf_70 : decode cX3_functionOf 70 = .ok (.invokevirtual 63, 3) := by decide +kernel
theorem dX3_functionOf_73 : decode cX3_functionOf 73 = .ok (.iadd, 1) := by decide +kernel
theorem dX3_functionOf_74 : decode cX3_functionOf 74 = .ok (.istore 5, 2) := by decide +kernel
theorem dX3_functionOf_76 : decode cX3_functionOf 76 = .ok (.aload_n 0, 1) := by decide +kernel
theorem dX3_functionOf_77 : decode cX3_functionOf 77 = .ok (.iconst 4, 1) := by decide +kernel
theorem dX3_functionOf_78 : decode cX3_functionOf 78 = .ok (.iload_n 3, 1) := by decide +kernel
theorem dX3_functionOf_79 : decode cX3_functionOf 79 = .ok (.aload_n 1, 1) := by decide +kernel
theorem dX3_functionOf_80 : decode cX3_functionOf 80 = .ok (.iload_n 2, 1) := by decide +kernel
theorem dX3_functionOf_81 : decode cX3_functionOf 81 = .ok (.iload 4, 2) := by decide +kernel
theorem dX3_functionOf_83 : decode cX3_functionOf 83 = .ok (.iload 5, 2) := by decide +kernel
theorem dX3_functionOf_85 : decode cX3_functionOf 85 = .ok (.invokevirtual 44, 3) := by decide +kernel
theorem dX3_functionOf_88 : decode cX3_functionOf 88 = .ok (.ireturn, 1) := by decide +kernel
theorem dX3_init_0 : decode cX3_init 0 = .ok (.aload_n 0, 1) := by decide +kernel
theorem dX3_init_1 : decode cX3_init 1 = .ok (.invokespecial 5, 3) := by decide +kernel
theorem dX3_init_4 : decode cX3_init 4 = .ok (.aload_n 0, 1) := by decide +kernel
theorem dX3_init_5 : decode cX3_init 5 = .ok (.sipush 1549, 3) := by decide +kernel
theorem dX3_init_8 : decode cX3_init 8 = .ok (.newarray .int, 2) := by decide +kernel
theorem dX3_init_10 : decode cX3_init 10 = .ok (.putfield 11, 3) := by decide +kernel
theorem dX3_init_13 : decode cX3_init 13 = .ok (.aload_n 0, 1) := by decide +kernel
theorem dX3_init_14 : decode cX3_init 14 = .ok (.sipush 1549, 3) := by decide +kernel
theorem dX3_init_17 : decode cX3_init 17 = .ok (.newarray .int, 2) := by decide +kernel
theorem dX3_init_19 : decode cX3_init 19 = .ok (.putfield 15, 3) := by decide +kernel
theorem dX3_init_22 : decode cX3_init 22 = .ok (.aload_n 0, 1) := by decide +kernel
theorem dX3_init_23 : decode cX3_init 23 = .ok (.sipush 7745, 3) := by decide +kernel
theorem dX3_init_26 : decode cX3_init 26 = .ok (.newarray .int, 2) := by decide +kernel
theorem dX3_init_28 : decode cX3_init 28 = .ok (.putfield 18, 3) := by decide +kernel
theorem dX3_init_31 : decode cX3_init 31 = .ok (.aload_n 0, 1) := by decide +kernel
theorem dX3_init_32 : decode cX3_init 32 = .ok (.sipush 1549, 3) := by decide +kernel
theorem dX3_init_35 : decode cX3_init 35 = .ok (.newarray .int, 2) := by decide +kernel
theorem dX3_init_37 : decode cX3_init 37 = .ok (.putfield 21, 3) := by decide +kernel
theorem dX3_init_40 : decode cX3_init 40 = .ok (.aload_n 0, 1) := by decide +kernel
theorem dX3_init_41 : decode cX3_init 41 = .ok (.sipush 1549, 3) := by decide +kernel
theorem dX3_init_44 : decode cX3_init 44 = .ok (.newarray .boolean, 2) := by decide +kernel
theorem dX3_init_46 : decode cX3_init 46 = .ok (.putfield 24, 3) := by decide +kernel
theorem dX3_init_49 : decode cX3_init 49 = .ok (.aload_n 0, 1) := by decide +kernel
theorem dX3_init_50 : decode cX3_init 50 = .ok (.sipush 512, 3) := by decide +kernel
theorem dX3_init_53 : decode cX3_init 53 = .ok (.newarray .int, 2) := by decide +kernel
theorem dX3_init_55 : decode cX3_init 55 = .ok (.putfield 28, 3) := by decide +kernel
theorem dX3_init_58 : decode cX3_init 58 = .ok (.aload_n 0, 1) := by decide +kernel
theorem dX3_init_59 : decode cX3_init 59 = .ok (.sipush 1549, 3) := by decide +kernel
theorem dX3_init_62 : decode cX3_init 62 = .ok (.newarray .int, 2) := by decide +kernel
theorem dX3_init_64 : decode cX3_init 64 = .ok (.putfield 31, 3) := by decide +kernel
theorem dX3_init_67 : decode cX3_init 67 = .ok (.aload_n 0, 1) := by decide +kernel
theorem dX3_init_68 : decode cX3_init 68 = .ok (.iconst 0, 1) := by decide +kernel
theorem dX3_init_69 : decode cX3_init 69 = .ok (.putfield 34, 3) := by decide +kernel
theorem dX3_init_72 : decode cX3_init 72 = .ok (.aload_n 0, 1) := by decide +kernel
theorem dX3_init_73 : decode cX3_init 73 = .ok (.getfield 28, 3) := by decide +kernel
theorem dX3_init_76 : decode cX3_init 76 = .ok (.iconst (-1), 1) := by decide +kernel
theorem dX3_init_77 : decode cX3_init 77 = .ok (.invokestatic 38, 3) := by decide +kernel
theorem dX3_init_80 : decode cX3_init 80 = .ok (.iconst 4, 1) := by decide +kernel
theorem dX3_init_81 : decode cX3_init 81 = .ok (.newarray .int, 2) := by decide +kernel
theorem dX3_init_83 : decode cX3_init 83 = .ok (.dup, 1) := by decide +kernel
theorem dX3_init_84 : decode cX3_init 84 = .ok (.iconst 0, 1) := by decide +kernel
theorem dX3_init_85 : decode cX3_init 85 = .ok (.iconst 2, 1) := by decide +kernel
theorem dX3_init_86 : decode cX3_init 86 = .ok (.iastore, 1) := by decide +kernel
theorem dX3_init_87 : decode cX3_init 87 = .ok (.dup, 1) := by decide +kernel
theorem dX3_init_88 : decode cX3_init 88 = .ok (.iconst 1, 1) := by decide +kernel
theorem dX3_init_89 : decode cX3_init 89 = .ok (.iconst 2, 1) := by decide +kernel
theorem dX3_init_90 : decode cX3_init 90 = .ok (.iastore, 1) := by decide +kernel
theorem dX3_init_91 : decode cX3_init 91 = .ok (.dup, 1) := by decide +kernel
theorem dX3_init_92 : decode cX3_init 92 = .ok (.iconst 2, 1) := by decide +kernel
theorem dX3_init_93 : decode cX3_init 93 = .ok (.iconst 2, 1) := by decide +kernel
theorem dX3_init_94 : decode cX3_init 94 = .ok (.iastore, 1) := by decide +kernel
theorem dX3_init_95 : decode cX3_init 95 = .ok (.dup, 1) := by decide +kernel
theorem dX3_init_96 : decode cX3_init 96 = .ok (.iconst 3, 1) := by decide +kernel
theorem dX3_init_97 : decode cX3_init 97 = .ok (.iconst 2, 1) := by decide +kernel
theorem dX3_init_98 : decode cX3_init 98 = .ok (.iastore, 1) := by decide +kernel
theorem dX3_init_99 : decode cX3_init 99 = .ok (.astore_n 1, 1) := by decide +kernel
theorem dX3_init_100 : decode cX3_init 100 = .ok (.aload_n 0, 1) := by decide +kernel
theorem dX3_init_101 : decode cX3_init 101 = .ok (.iconst 0, 1) := by decide +kernel
theorem dX3_init_102 : decode cX3_init 102 = .ok (.iconst 0, 1) := by decide +kernel
theorem dX3_init_103 : decode cX3_init 103 = .ok (.aload_n 1, 1) := by decide +kernel
theorem dX3_init_104 : decode cX3_init 104 = .ok (.iconst 0, 1) := by decide +kernel
theorem dX3_init_105 : decode cX3_init 105 = .ok (.iconst 2, 1) := by decide +kernel
theorem dX3_init_106 : decode cX3_init 106 = .ok (.iconst 1, 1) := by decide +kernel
theorem dX3_init_107 : decode cX3_init 107 = .ok (.invokevirtual 44, 3) := by decide +kernel
theorem dX3_init_110 : decode cX3_init 110 = .ok (.pop, 1) := by decide +kernel
theorem dX3_init_111 : decode cX3_init 111 = .ok (.aload_n 0, 1) := by decide +kernel
theorem dX3_init_112 : decode cX3_init 112 = .ok (.iconst 1, 1) := by decide +kernel
theorem dX3_init_113 : decode cX3_init 113 = .ok (.iconst 0, 1) := by decide +kernel
theorem dX3_init_114 : decode cX3_init 114 = .ok (.aload_n 1, 1) := by decide +kernel
theorem dX3_init_115 : decode cX3_init 115 = .ok (.iconst 0, 1) := by decide +kernel
theorem dX3_init_116 : decode cX3_init 116 = .ok (.iconst 2, 1) := by decide +kernel
theorem dX3_init_117 : decode cX3_init 117 = .ok (.iconst 2, 1) := by decide +kernel
theorem dX3_init_118 : decode cX3_init 118 = .ok (.invokevirtual 44, 3) := by decide +kernel
theorem dX3_init_121 : decode cX3_init 121 = .ok (.pop, 1) := by decide +kernel
theorem dX3_init_122 : decode cX3_init 122 = .ok (.aload_n 0, 1) := by decide +kernel
theorem dX3_init_123 : decode cX3_init 123 = .ok (.iconst 2, 1) := by decide +kernel
theorem dX3_init_124 : decode cX3_init 124 = .ok (.iconst 0, 1) := by decide +kernel
theorem dX3_init_125 : decode cX3_init 125 = .ok (.aload_n 1, 1) := by decide +kernel
theorem dX3_init_126 : decode cX3_init 126 = .ok (.iconst 0, 1) := by decide +kernel
theorem dX3_init_127 : decode cX3_init 127 = .ok (.iconst 2, 1) := by decide +kernel
theorem dX3_init_128 : decode cX3_init 128 = .ok (.iconst 3, 1) := by decide +kernel
theorem dX3_init_129 : decode cX3_init 129 = .ok (.invokevirtual 44, 3) := by decide +kernel
theorem dX3_init_132 : decode cX3_init 132 = .ok (.pop, 1) := by decide +kernel
theorem dX3_init_133 : decode cX3_init 133 = .ok (.aload_n 0, 1) := by decide +kernel
theorem dX3_init_134 : decode cX3_init 134 = .ok (.iconst 2, 1) := by decide +kernel
theorem dX3_init_135 : decode cX3_init 135 = .ok (.invokevirtual 48, 3) := by decide +kernel
theorem dX3_init_138 : decode cX3_init 138 = .ok (.pop, 1) := by decide +kernel
theorem dX3_init_139 : decode cX3_init 139 = .ok (.iconst 0, 1) := by decide +kernel
theorem dX3_init_140 : decode cX3_init 140 = .ok (.istore_n 2, 1) := by decide +kernel
theorem dX3_init_141 : decode cX3_init 141 = .ok (.iload_n 2, 1) := by decide +kernel
theorem dX3_init_142 : decode cX3_init 142 = .ok (.iconst 4, 1) := by decide +kernel
theorem dX3_init_143 : decode cX3_init 143 = .ok (.if_icmp .gt 18, 3) := by decide +kernel
theorem dX3_init_146 : decode cX3_init 146 = .ok (.aload_n 0, 1) := by decide +kernel
theorem dX3_init_147 : decode cX3_init 147 = .ok (.aload_n 1, 1) := by decide +kernel
theorem dX3_init_148 : decode cX3_init 148 = .ok (.iconst 0, 1) := by decide +kernel
theorem dX3_init_149 : decode cX3_init 149 = .ok (.iload_n 2, 1) := by decide +kernel
theorem dX3_init_150 : decode cX3_init 150 = .ok (.iconst 2, 1) := by decide +kernel
theorem dX3_init_151 : decode cX3_init 151 = .ok (.invokevirtual 52, 3) := by decide +kernel
theorem dX3_init_154 : decode cX3_init 154 = .ok (.pop, 1) := by decide +kernel
theorem dX3_init_155 : decode cX3_init 155 = .ok (.iinc 2 1, 3) := by decide +kernel
theorem dX3_init_158 : decode cX3_init 158 = .ok (.goto (-17), 3) := by decide +kernel
theorem dX3_init_161 : decode cX3_init 161 = .ok (.return_, 1) := by decide +kernel
theorem dX3_rowOf_0 : decode cX3_rowOf 0 = .ok (.iconst 5, 1) := by decide +kernel
theorem dX3_rowOf_1 : decode cX3_rowOf 1 = .ok (.aload_n 0, 1) := by decide +kernel
theorem dX3_rowOf_2 : decode cX3_rowOf 2 = .ok (.iload_n 1, 1) := by decide +kernel
theorem dX3_rowOf_3 : decode cX3_rowOf 3 = .ok (.invokevirtual 63, 3) := by decide +kernel
theorem dX3_rowOf_6 : decode cX3_rowOf 6 = .ok (.imul, 1) := by decide +kernel
theorem dX3_rowOf_7 : decode cX3_rowOf 7 = .ok (.iconst 4, 1) := by decide +kernel
theorem dX3_rowOf_8 : decode cX3_rowOf 8 = .ok (.iadd, 1) := by decide +kernel
theorem dX3_rowOf_9 : decode cX3_rowOf 9 = .ok (.istore_n 2, 1) := by decide +kernel
theorem dX3_rowOf_10 : decode cX3_rowOf 10 = .ok (.aload_n 0, 1) := by decide +kernel
theorem dX3_rowOf_11 : decode cX3_rowOf 11 = .ok (.iconst 3, 1) := by decide +kernel
theorem dX3_rowOf_12 : decode cX3_rowOf 12 = .ok (.iconst 0, 1) := by decide +kernel
theorem dX3_rowOf_13 : decode cX3_rowOf 13 = .ok (.aload_n 0, 1) := by decide +kernel
theorem dX3_rowOf_14 : decode cX3_rowOf 14 = .ok (.getfield 18, 3) := by decide +kernel
theorem dX3_rowOf_17 : decode cX3_rowOf 17 = .ok (.iconst 0, 1) := by decide +kernel
theorem dX3_rowOf_18 : decode cX3_rowOf 18 = .ok (.iload_n 1, 1) := by decide +kernel
theorem dX3_rowOf_19 : decode cX3_rowOf 19 = .ok (.iload_n 2, 1) := by decide +kernel
theorem dX3_rowOf_20 : decode cX3_rowOf 20 = .ok (.invokevirtual 44, 3) := by decide +kernel
theorem dX3_rowOf_23 : decode cX3_rowOf 23 = .ok (.ireturn, 1) := by decide +kernel
theorem k219 : Cond.methodLink "BlameCourt$Kinds" 5 objectInit ∈ gtb := gtm (in_tables_1_1 (List.mem_of_getElem? (i := 33) rfl)) rfl
theorem k220 : Cond.methodLink "BlameCourt$Kinds" 38 yJ7_fill_53178 ∈ gtb := gtm (in_tables_1_1 (List.mem_of_getElem? (i := 34) rfl)) rfl
theorem k221 : Cond.static yJ7_fill_53178 ∈ gtb := gtm (in_tables_1_1 (List.mem_of_getElem? (i := 35) rfl)) rfl
theorem k223 : Cond.methodLink "BlameCourt$Kinds" 44 yX3_findOrAdd ∈ gtb := gtm (in_tables_1_1 (List.mem_of_getElem? (i := 37) rfl)) rfl
theorem k238 : Cond.methodLink "BlameCourt$Kinds" 48 yX3_rowOf ∈ gtb := gtm (in_tables_1_1 (List.mem_of_getElem? (i := 52) rfl)) rfl
theorem k242 : Cond.methodLink "BlameCourt$Kinds" 63 yX3_codeOf ∈ gtb := gtm (in_tables_1_1 (List.mem_of_getElem? (i := 56) rfl)) rfl
theorem k246 : Cond.methodLink "BlameCourt$Kinds" 52 yX3_functionOf ∈ gtb := gtm (in_tables_1_1 (List.mem_of_getElem? (i := 60) rfl)) rfl
theorem k218 : Cond.code yX3_init cX3_init 3 none ∈ gtb := gtm (in_tables_1_1 (List.mem_of_getElem? (i := 32) rfl)) rfl
theorem ka_X3_init : KA yX3_init cX3_init 3 none 0 := ⟨k218, k189, by decide, by decide, by decide +kernel⟩
theorem k249 : Cond.code yX3_functionOf cX3_functionOf 7 (some .int) ∈ gtb := gtm (in_tables_1_1 (List.mem_of_getElem? (i := 63) rfl)) rfl
theorem ka_X3_functionOf : KA yX3_functionOf cX3_functionOf 7 (some .int) 4 := ⟨k249, k189, by decide, by decide, by decide +kernel⟩
theorem k247 : Cond.instanceMethod yX3_functionOf ∈ gtb := gtm (in_tables_1_1 (List.mem_of_getElem? (i := 61) rfl)) rfl
theorem k248 : Cond.selects "BlameCourt$Kinds" yX3_functionOf yX3_functionOf ∈ gtb := gtm (in_tables_1_1 (List.mem_of_getElem? (i := 62) rfl)) rfl
theorem kv_X3_functionOf : KV yX3_functionOf := ⟨k247, k248⟩
theorem k241 : Cond.code yX3_rowOf cX3_rowOf 3 (some .int) ∈ gtb := gtm (in_tables_1_1 (List.mem_of_getElem? (i := 55) rfl)) rfl
theorem ka_X3_rowOf : KA yX3_rowOf cX3_rowOf 3 (some .int) 1 := ⟨k241, k189, by decide, by decide, by decide +kernel⟩
theorem k239 : Cond.instanceMethod yX3_rowOf ∈ gtb := gtm (in_tables_1_1 (List.mem_of_getElem? (i := 53) rfl)) rfl
theorem k240 : Cond.selects "BlameCourt$Kinds" yX3_rowOf yX3_rowOf ∈ gtb := gtm (in_tables_1_1 (List.mem_of_getElem? (i := 54) rfl)) rfl
theorem kv_X3_rowOf : KV yX3_rowOf := ⟨k239, k240⟩
theorem sub_toInt {n : Int32} {N : Nat} (h0 : 0 ≤ n.toInt) (hN : N < 2147483648) : (nI N - n).toInt = N - n.toInt := by
  obtain ⟨a, ha, rfl⟩ := nI_of (x := n) (by rw [Int32.lt_iff_toInt_lt, Int32.toInt_zero]; omega)
  rw [Int32.toInt_sub, nI_toInt (by omega), nI_toInt (by omega)]
  rw [Int.bmod_eq_of_le (by omega) (by omega)]
theorem tI_nlt0 {x : Int32} (h : ¬ x < 0) : 0 ≤ x.toInt := by rw [Int32.lt_iff_toInt_lt, Int32.toInt_zero] at h; omega
theorem tI_nlt {x y : Int32} (h : ¬ y < x) : x.toInt ≤ y.toInt := by rw [Int32.lt_iff_toInt_lt] at h; omega
theorem tI_le {x y : Int32} (h : x ≤ y) : x.toInt ≤ y.toInt := Int32.le_iff_toInt_le.mp h

set_option maxHeartbeats 4000000 in
set_option maxRecDepth 100000 in
theorem c_rowOf (l : Launch) (dC : Nat → ClassId) (dI : Nat → Nat → Nat) (h0 q1 q2 q3 q4 q5 q6 q7 : Nat) (c1 c2 c3 c4 c5 c6 c7 : ClassId) (f1 f2 f3 f4 f5 f6 f7 : Nat → Int32) (cnt : Nat) (kd : Int32) (sz : Nat) (hc : cnt ≤ 1549) (hK : KI cnt f6 f7) : Met l yX3_rowOf (wsOf yX3_rowOf cX3_rowOf 3 (some .int)) ({ frames := 14, cells := 0, slots := 0, locals := 210 } : Room) (va_Pc [.ref h0, .int kd] (PB dC dI sz [(h0, .inr (3, [.int (nI cnt), .ref q1, .ref q2, .ref q3, .ref q4, .ref q5, .ref q6, .ref q7])), (q1, .inl (c1, 1549, .inl f1)), (q2, .inl (c2, 1549, .inl f2)), (q3, .inl (c3, 7745, .inl f3)), (q4, .inl (c4, 1549, .inl f4)), (q5, .inl (c5, 1549, .inl f5)), (q6, .inl (c6, 512, .inl f6)), (q7, .inl (c7, 1549, .inl f7))] [(c1, .int), (c2, .int), (c3, .int), (c4, .int), (c5, .boolean), (c6, .int), (c7, .int)])) (va_Qi (S := Nat × (Nat → Int32) × (Nat → Int32) × (Nat → Int32) × (Nat → Int32) × (Nat → Int32) × (Nat → Int32) × (Nat → Int32)) (fun r x => (∃ k : Nat, k < 1549 ∧ r = nI k) ∧ cnt ≤ x.1 ∧ x.1 ≤ cnt + 1 ∧ x.1 ≤ 1549 ∧ KI x.1 x.2.2.2.2.2.2.1 x.2.2.2.2.2.2.2) (fun x t => PW dC dI (va_A [(h0, .inr (3, [.int (nI cnt), .ref q1, .ref q2, .ref q3, .ref q4, .ref q5, .ref q6, .ref q7])), (q1, .inl (c1, 1549, .inl f1)), (q2, .inl (c2, 1549, .inl f2)), (q3, .inl (c3, 7745, .inl f3)), (q4, .inl (c4, 1549, .inl f4)), (q5, .inl (c5, 1549, .inl f5)), (q6, .inl (c6, 512, .inl f6)), (q7, .inl (c7, 1549, .inl f7))] sz) ([(h0, .inr (3, [.int (nI x.1), .ref q1, .ref q2, .ref q3, .ref q4, .ref q5, .ref q6, .ref q7])), (q1, .inl (c1, 1549, .inl x.2.1)), (q2, .inl (c2, 1549, .inl x.2.2.1)), (q3, .inl (c3, 7745, .inl x.2.2.2.1)), (q4, .inl (c4, 1549, .inl x.2.2.2.2.1)), (q5, .inl (c5, 1549, .inl x.2.2.2.2.2.1)), (q6, .inl (c6, 512, .inl x.2.2.2.2.2.2.1)), (q7, .inl (c7, 1549, .inl x.2.2.2.2.2.2.2))]) ([(c1, .int), (c2, .int), (c3, .int), (c4, .int), (c5, .boolean), (c6, .int), (c7, .int)]) t) (va_A [(h0, .inr (3, [.int (nI cnt), .ref q1, .ref q2, .ref q3, .ref q4, .ref q5, .ref q6, .ref q7])), (q1, .inl (c1, 1549, .inl f1)), (q2, .inl (c2, 1549, .inl f2)), (q3, .inl (c3, 7745, .inl f3)), (q4, .inl (c4, 1549, .inl f4)), (q5, .inl (c5, 1549, .inl f5)), (q6, .inl (c6, 512, .inl f6)), (q7, .inl (c7, 1549, .inl f7))] sz)) 0 0 (va_A [(h0, .inr (3, [.int (nI cnt), .ref q1, .ref q2, .ref q3, .ref q4, .ref q5, .ref q6, .ref q7])), (q1, .inl (c1, 1549, .inl f1)), (q2, .inl (c2, 1549, .inl f2)), (q3, .inl (c3, 7745, .inl f3)), (q4, .inl (c4, 1549, .inl f4)), (q5, .inl (c5, 1549, .inl f5)), (q6, .inl (c6, 512, .inl f6)), (q7, .inl (c7, 1549, .inl f7))] sz) := by
  refine mbody (y := yX3_rowOf) (av := [.ref h0, .int kd]) (b := cX3_rowOf) (n := 3) (ret := (some .int)) (Qc := fun A => (va_Qi (S := Nat × (Nat → Int32) × (Nat → Int32) × (Nat → Int32) × (Nat → Int32) × (Nat → Int32) × (Nat → Int32) × (Nat → Int32)) (fun r x => (∃ k : Nat, k < 1549 ∧ r = nI k) ∧ cnt ≤ x.1 ∧ x.1 ≤ cnt + 1 ∧ x.1 ≤ 1549 ∧ KI x.1 x.2.2.2.2.2.2.1 x.2.2.2.2.2.2.2) (fun x t => PW dC dI A ([(h0, .inr (3, [.int (nI x.1), .ref q1, .ref q2, .ref q3, .ref q4, .ref q5, .ref q6, .ref q7])), (q1, .inl (c1, 1549, .inl x.2.1)), (q2, .inl (c2, 1549, .inl x.2.2.1)), (q3, .inl (c3, 7745, .inl x.2.2.2.1)), (q4, .inl (c4, 1549, .inl x.2.2.2.2.1)), (q5, .inl (c5, 1549, .inl x.2.2.2.2.2.1)), (q6, .inl (c6, 512, .inl x.2.2.2.2.2.2.1)), (q7, .inl (c7, 1549, .inl x.2.2.2.2.2.2.2))]) ([(c1, .int), (c2, .int), (c3, .int), (c4, .int), (c5, .boolean), (c6, .int), (c7, .int)]) t) A)) (by decide) (Nat.le_of_ble_eq_true rfl) ?_
  intro p e s m below meth c ls A H hf hr hin hlk hw hl
  have hl : lv_has ls 3 [(0, .ref h0), (1, .int kd)] := hl
  refine lv_iconst (v := 5) hf.1 hf.2.1 dX3_rowOf_0 (by decide) ?_
  refine lv_aload_n hf.1 hf.2.1 dX3_rowOf_1 rfl (lv_at hl 0 rfl) ?_
  refine lv_iload_n hf.1 hf.2.1 dX3_rowOf_2 rfl (lv_at hl 1 rfl) ?_
  refine mV_i (As := [.int kd]) (rest := [.int 5]) (wr := [(q1, .inl (c1, 1549, .inl f1)), (q2, .inl (c2, 1549, .inl f2)), (q3, .inl (c3, 7745, .inl f3)), (q5, .inl (c5, 1549, .inl f5)), (q6, .inl (c6, 512, .inl f6)), (q7, .inl (c7, 1549, .inl f7))]) (tr := [(c1, .int), (c2, .int), (c3, .int), (c5, .boolean), (c6, .int), (c7, .int)]) hf hw (c_codeOf l dC dI h0 q1 q2 q3 q4 q5 q6 q7 c4 f4 cnt kd H.size hc) ka_X3_codeOf kv_X3_codeOf 0 rfl rfl k242 [0, 4] [3] [1, 2, 3, 5, 6, 7] [0, 1, 2, 4, 5, 6] rfl rfl rfl rfl rfl (by decide) rfl rfl rfl hl.1 rfl rfl ⟨Nat.le_of_ble_eq_true rfl, Nat.le_of_ble_eq_true rfl⟩ (Nat.le_of_ble_eq_true rfl) (ce := 0) (sl := 0) rfl rfl ⟨Nat.le_of_ble_eq_true rfl, Nat.le_of_ble_eq_true rfl⟩ dX3_rowOf_3 (fun r_1 u_2 hu_2 H locs hw => ?_)
  have hw : Wd dC dI A [(q1, .inl (c1, 1549, .inl f1)), (q2, .inl (c2, 1549, .inl f2)), (q3, .inl (c3, 7745, .inl f3)), (q5, .inl (c5, 1549, .inl f5)), (q6, .inl (c6, 512, .inl f6)), (q7, .inl (c7, 1549, .inl f7)), (h0, .inr (3, [.int (nI cnt), .ref q1, .ref q2, .ref q3, .ref q4, .ref q5, .ref q6, .ref q7])), (q4, .inl (c4, 1549, .inl f4))] [(c1, .int), (c2, .int), (c3, .int), (c5, .boolean), (c6, .int), (c7, .int), (c4, .int)] s H locs := hw
  have hw := hw.pick (ws' := [(h0, .inr (3, [.int (nI cnt), .ref q1, .ref q2, .ref q3, .ref q4, .ref q5, .ref q6, .ref q7])), (q1, .inl (c1, 1549, .inl f1)), (q2, .inl (c2, 1549, .inl f2)), (q3, .inl (c3, 7745, .inl f3)), (q4, .inl (c4, 1549, .inl f4)), (q5, .inl (c5, 1549, .inl f5)), (q6, .inl (c6, 512, .inl f6)), (q7, .inl (c7, 1549, .inl f7))]) (tys' := [(c1, .int), (c2, .int), (c3, .int), (c4, .int), (c5, .boolean), (c6, .int), (c7, .int)]) [6, 0, 1, 2, 7, 3, 4, 5] [0, 1, 2, 6, 3, 4, 5] rfl rfl rfl
  refine lv_imul hf.1 hf.2.1 dX3_rowOf_6 ?_
  refine lv_topi (fun x_3 ex_3 => ?_)
  refine lv_iconst (v := 4) hf.1 hf.2.1 dX3_rowOf_7 (by decide) ?_
  refine lv_iadd hf.1 hf.2.1 dX3_rowOf_8 ?_
  refine lv_topi (fun x_4 ex_4 => ?_)
  refine lv_istore_n (lv' := [(2, .int x_4), (0, .ref h0), (1, .int kd)]) hf.1 hf.2.1 dX3_rowOf_9 rfl hl (by decide) rfl (fun ls hl => ?_)
  refine lv_aload_n hf.1 hf.2.1 dX3_rowOf_10 rfl (lv_at hl 1 rfl) ?_
  refine lv_iconst (v := 3) hf.1 hf.2.1 dX3_rowOf_11 (by decide) ?_
  refine lv_iconst (v := 0) hf.1 hf.2.1 dX3_rowOf_12 (by decide) ?_
  refine lv_aload_n hf.1 hf.2.1 dX3_rowOf_13 rfl (lv_at hl 1 rfl) ?_
  refine mget hf hw iX3 0 rfl rfl 3 (by decide) k252 rfl dX3_rowOf_14 ?_
  refine lv_iconst (v := 0) hf.1 hf.2.1 dX3_rowOf_17 (by decide) ?_
  refine lv_iload_n hf.1 hf.2.1 dX3_rowOf_18 rfl (lv_at hl 2 rfl) ?_
  refine lv_iload_n hf.1 hf.2.1 dX3_rowOf_19 rfl (lv_at hl 0 rfl) ?_
  refine mV_i (As := [.int 3, .int 0, .ref q3, .int 0, .int kd, .int x_4]) (rest := []) (wr := []) (tr := []) hf hw (c_findOrAdd0 l dC dI h0 q1 q2 q3 q4 q5 q6 q7 c1 c2 c3 c4 c5 c6 c7 f1 f2 f3 f4 f5 f6 f7 cnt 3 0 0 kd x_4 q3 H.size hc hK rfl) ka_X3_findOrAdd kv_X3_findOrAdd 0 rfl rfl k223 [0, 1, 2, 3, 4, 5, 6, 7] [0, 1, 2, 3, 4, 5, 6] [] [] rfl rfl rfl rfl rfl (by decide) rfl rfl rfl hl.1 rfl rfl ⟨Nat.le_of_ble_eq_true rfl, Nat.le_of_ble_eq_true rfl⟩ (Nat.le_of_ble_eq_true rfl) (ce := 0) (sl := 0) rfl rfl ⟨Nat.le_of_ble_eq_true rfl, Nat.le_of_ble_eq_true rfl⟩ dX3_rowOf_20 (fun r_14 u_15 hu_15 H locs hw => ?_)
  obtain ⟨n_5, g_6, g_7, g_8, g_9, g_10, g_11, g_12⟩ := u_15
  obtain ⟨hrhk_13, hlohk_13, hhihk_13, hchk_13, hKhk_13⟩ := hu_15
  have hw : Wd dC dI A [(h0, .inr (3, [.int (nI n_5), .ref q1, .ref q2, .ref q3, .ref q4, .ref q5, .ref q6, .ref q7])), (q1, .inl (c1, 1549, .inl g_6)), (q2, .inl (c2, 1549, .inl g_7)), (q3, .inl (c3, 7745, .inl g_8)), (q4, .inl (c4, 1549, .inl g_9)), (q5, .inl (c5, 1549, .inl g_10)), (q6, .inl (c6, 512, .inl g_11)), (q7, .inl (c7, 1549, .inl g_12))] [(c1, .int), (c2, .int), (c3, .int), (c4, .int), (c5, .boolean), (c6, .int), (c7, .int)] s H locs := hw
  exact mret_i (v := r_14) hf hr hlk hw (n_5, g_6, g_7, g_8, g_9, g_10, g_11, g_12) ⟨hrhk_13, hlohk_13, hhihk_13, hchk_13, hKhk_13⟩ [0, 1, 2, 3, 4, 5, 6, 7] [0, 1, 2, 3, 4, 5, 6] rfl rfl rfl (Nat.le_of_ble_eq_true rfl) (Nat.le_of_ble_eq_true rfl) dX3_rowOf_23

set_option maxHeartbeats 4000000 in
set_option maxRecDepth 100000 in
theorem c_functionOf (l : Launch) (dC : Nat → ClassId) (dI : Nat → Nat → Nat) (h0 q1 q2 q3 q4 q5 q6 q7 : Nat) (c1 c2 c3 c4 c5 c6 c7 : ClassId) (f1 f2 f3 f4 f5 f6 f7 : Nat → Int32) (cnt : Nat) (n fr gi : Int32) (pr : Nat) (cp : ClassId) (NP : Nat) (fp : Nat → Int32) (sz : Nat) (hc : cnt ≤ 1549) (hK : KI cnt f6 f7) (hNP : NP < 2147483648) : Met l yX3_functionOf (wsOf yX3_functionOf cX3_functionOf 7 (some .int)) ({ frames := 14, cells := 0, slots := 0, locals := 210 } : Room) (va_Pc [.ref h0, .ref pr, .int fr, .int n, .int gi] (PB dC dI sz [(h0, .inr (3, [.int (nI cnt), .ref q1, .ref q2, .ref q3, .ref q4, .ref q5, .ref q6, .ref q7])), (q1, .inl (c1, 1549, .inl f1)), (q2, .inl (c2, 1549, .inl f2)), (q3, .inl (c3, 7745, .inl f3)), (q4, .inl (c4, 1549, .inl f4)), (q5, .inl (c5, 1549, .inl f5)), (q6, .inl (c6, 512, .inl f6)), (q7, .inl (c7, 1549, .inl f7)), (pr, .inl (cp, NP, .inl fp))] [(c1, .int), (c2, .int), (c3, .int), (c4, .int), (c5, .boolean), (c6, .int), (c7, .int), (cp, .int)])) (va_Qi (S := Nat × (Nat → Int32) × (Nat → Int32) × (Nat → Int32) × (Nat → Int32) × (Nat → Int32) × (Nat → Int32) × (Nat → Int32)) (fun r x => (∃ k : Nat, k < 1549 ∧ r = nI k) ∧ cnt ≤ x.1 ∧ x.1 ≤ cnt + 1 ∧ x.1 ≤ 1549 ∧ KI x.1 x.2.2.2.2.2.2.1 x.2.2.2.2.2.2.2) (fun x t => PW dC dI (va_A [(h0, .inr (3, [.int (nI cnt), .ref q1, .ref q2, .ref q3, .ref q4, .ref q5, .ref q6, .ref q7])), (q1, .inl (c1, 1549, .inl f1)), (q2, .inl (c2, 1549, .inl f2)), (q3, .inl (c3, 7745, .inl f3)), (q4, .inl (c4, 1549, .inl f4)), (q5, .inl (c5, 1549, .inl f5)), (q6, .inl (c6, 512, .inl f6)), (q7, .inl (c7, 1549, .inl f7)), (pr, .inl (cp, NP, .inl fp))] sz) ([(h0, .inr (3, [.int (nI x.1), .ref q1, .ref q2, .ref q3, .ref q4, .ref q5, .ref q6, .ref q7])), (q1, .inl (c1, 1549, .inl x.2.1)), (q2, .inl (c2, 1549, .inl x.2.2.1)), (q3, .inl (c3, 7745, .inl x.2.2.2.1)), (q4, .inl (c4, 1549, .inl x.2.2.2.2.1)), (q5, .inl (c5, 1549, .inl x.2.2.2.2.2.1)), (q6, .inl (c6, 512, .inl x.2.2.2.2.2.2.1)), (q7, .inl (c7, 1549, .inl x.2.2.2.2.2.2.2)), (pr, .inl (cp, NP, .inl fp))]) ([(c1, .int), (c2, .int), (c3, .int), (c4, .int), (c5, .boolean), (c6, .int), (c7, .int), (cp, .int)]) t) (va_A [(h0, .inr (3, [.int (nI cnt), .ref q1, .ref q2, .ref q3, .ref q4, .ref q5, .ref q6, .ref q7])), (q1, .inl (c1, 1549, .inl f1)), (q2, .inl (c2, 1549, .inl f2)), (q3, .inl (c3, 7745, .inl f3)), (q4, .inl (c4, 1549, .inl f4)), (q5, .inl (c5, 1549, .inl f5)), (q6, .inl (c6, 512, .inl f6)), (q7, .inl (c7, 1549, .inl f7)), (pr, .inl (cp, NP, .inl fp))] sz)) 0 0 (va_A [(h0, .inr (3, [.int (nI cnt), .ref q1, .ref q2, .ref q3, .ref q4, .ref q5, .ref q6, .ref q7])), (q1, .inl (c1, 1549, .inl f1)), (q2, .inl (c2, 1549, .inl f2)), (q3, .inl (c3, 7745, .inl f3)), (q4, .inl (c4, 1549, .inl f4)), (q5, .inl (c5, 1549, .inl f5)), (q6, .inl (c6, 512, .inl f6)), (q7, .inl (c7, 1549, .inl f7)), (pr, .inl (cp, NP, .inl fp))] sz) := by
  refine mbody (y := yX3_functionOf) (av := [.ref h0, .ref pr, .int fr, .int n, .int gi]) (b := cX3_functionOf) (n := 7) (ret := (some .int)) (Qc := fun A => (va_Qi (S := Nat × (Nat → Int32) × (Nat → Int32) × (Nat → Int32) × (Nat → Int32) × (Nat → Int32) × (Nat → Int32) × (Nat → Int32)) (fun r x => (∃ k : Nat, k < 1549 ∧ r = nI k) ∧ cnt ≤ x.1 ∧ x.1 ≤ cnt + 1 ∧ x.1 ≤ 1549 ∧ KI x.1 x.2.2.2.2.2.2.1 x.2.2.2.2.2.2.2) (fun x t => PW dC dI A ([(h0, .inr (3, [.int (nI x.1), .ref q1, .ref q2, .ref q3, .ref q4, .ref q5, .ref q6, .ref q7])), (q1, .inl (c1, 1549, .inl x.2.1)), (q2, .inl (c2, 1549, .inl x.2.2.1)), (q3, .inl (c3, 7745, .inl x.2.2.2.1)), (q4, .inl (c4, 1549, .inl x.2.2.2.2.1)), (q5, .inl (c5, 1549, .inl x.2.2.2.2.2.1)), (q6, .inl (c6, 512, .inl x.2.2.2.2.2.2.1)), (q7, .inl (c7, 1549, .inl x.2.2.2.2.2.2.2)), (pr, .inl (cp, NP, .inl fp))]) ([(c1, .int), (c2, .int), (c3, .int), (c4, .int), (c5, .boolean), (c6, .int), (c7, .int), (cp, .int)]) t) A)) (by decide) (Nat.le_of_ble_eq_true rfl) ?_
  intro p e s m below meth c ls A H hf hr hin hlk hw hl
  have hl : lv_has ls 7 [(0, .ref h0), (1, .ref pr), (2, .int fr), (3, .int n), (4, .int gi)] := hl
  refine lv_iload_n hf.1 hf.2.1 dX3_functionOf_0 rfl (lv_at hl 3 rfl) ?_
  refine lv_if_lt (tgt := 21) hf.1 hf.2.1 dX3_functionOf_1 (by decide) (fun c_1 => ?_) (fun c_1 => ?_)
  · refine lv_iconst (v := 2) hf.1 hf.2.1 dX3_functionOf_21 (by decide) ?_
    exact mret_i (v := 2) hf hr hlk hw (cnt, f1, f2, f3, f4, f5, f6, f7) ⟨⟨2, by decide, rfl⟩, Nat.le_refl _, Nat.le_succ _, hc, hK⟩ [0, 1, 2, 3, 4, 5, 6, 7, 8] [0, 1, 2, 3, 4, 5, 6, 7] rfl rfl rfl (Nat.le_of_ble_eq_true rfl) (Nat.le_of_ble_eq_true rfl) dX3_functionOf_22
  · have hn0 : 0 ≤ n.toInt := tI_nlt0 c_1
    refine lv_iload_n hf.1 hf.2.1 dX3_functionOf_4 rfl (lv_at hl 3 rfl) ?_
    refine lv_iconst (v := 4) hf.1 hf.2.1 dX3_functionOf_5 (by decide) ?_
    refine lv_icmp_gt (tgt := 21) hf.1 hf.2.1 dX3_functionOf_6 (by decide) (fun c_2 => ?_) (fun c_2 => ?_)
    · refine lv_iconst (v := 2) hf.1 hf.2.1 dX3_functionOf_21 (by decide) ?_
      exact mret_i (v := 2) hf hr hlk hw (cnt, f1, f2, f3, f4, f5, f6, f7) ⟨⟨2, by decide, rfl⟩, Nat.le_refl _, Nat.le_succ _, hc, hK⟩ [0, 1, 2, 3, 4, 5, 6, 7, 8] [0, 1, 2, 3, 4, 5, 6, 7] rfl rfl rfl (Nat.le_of_ble_eq_true rfl) (Nat.le_of_ble_eq_true rfl) dX3_functionOf_22
    · have hn4 : n.toInt ≤ 4 := tI_nlt c_2
      refine lv_iload_n hf.1 hf.2.1 dX3_functionOf_9 rfl (lv_at hl 2 rfl) ?_
      refine lv_if_lt (tgt := 21) hf.1 hf.2.1 dX3_functionOf_10 (by decide) (fun c_3 => ?_) (fun c_3 => ?_)
      · refine lv_iconst (v := 2) hf.1 hf.2.1 dX3_functionOf_21 (by decide) ?_
        exact mret_i (v := 2) hf hr hlk hw (cnt, f1, f2, f3, f4, f5, f6, f7) ⟨⟨2, by decide, rfl⟩, Nat.le_refl _, Nat.le_succ _, hc, hK⟩ [0, 1, 2, 3, 4, 5, 6, 7, 8] [0, 1, 2, 3, 4, 5, 6, 7] rfl rfl rfl (Nat.le_of_ble_eq_true rfl) (Nat.le_of_ble_eq_true rfl) dX3_functionOf_22
      · have hfr : 0 ≤ fr.toInt := tI_nlt0 c_3
        refine lv_iload_n hf.1 hf.2.1 dX3_functionOf_13 rfl (lv_at hl 2 rfl) ?_
        refine lv_aload_n hf.1 hf.2.1 dX3_functionOf_14 rfl (lv_at hl 1 rfl) ?_
        refine malen hf hw 8 7 rfl rfl (v := nI NP) rfl dX3_functionOf_15 ?_
        refine lv_iload_n hf.1 hf.2.1 dX3_functionOf_16 rfl (lv_at hl 3 rfl) ?_
        refine lv_isub hf.1 hf.2.1 dX3_functionOf_17 ?_
        refine lv_topi (fun x_4 ex_4 => ?_)
        refine lv_icmp_le (tgt := 23) hf.1 hf.2.1 dX3_functionOf_18 (by decide) (fun c_5 => ?_) (fun c_5 => ?_)
        · have hfp : fr.toInt + n.toInt ≤ NP := by have q := tI_le c_5; rw [ex_4, sub_toInt hn0 hNP] at q; omega
          refine lv_bipush (v := 7) hf.1 hf.2.1 dX3_functionOf_23 (by decide) ?_
          refine lv_iload_n hf.1 hf.2.1 dX3_functionOf_25 rfl (lv_at hl 3 rfl) ?_
          refine lv_iadd hf.1 hf.2.1 dX3_functionOf_26 ?_
          refine lv_topi (fun x_6 ex_6 => ?_)
          refine lv_istore (lv' := [(5, .int x_6), (0, .ref h0), (1, .ref pr), (2, .int fr), (3, .int n), (4, .int gi)]) hf.1 hf.2.1 dX3_functionOf_27 hl (by decide) rfl (fun ls hl => ?_)
          refine lv_iconst (v := 0) hf.1 hf.2.1 dX3_functionOf_29 (by decide) ?_
          refine lv_istore (lv' := [(6, .int 0), (5, .int x_6), (0, .ref h0), (1, .ref pr), (2, .int fr), (3, .int n), (4, .int gi)]) hf.1 hf.2.1 dX3_functionOf_30 hl (by decide) rfl (fun ls hl => ?_)
          have loop : ∀ (N : Nat) (j : Nat) (code : Int32) (H : Heap) (locs : List Loc) (ls : Array Slot), 5 - j < N → (j : Int) ≤ 4 → Wd dC dI A [(h0, .inr (3, [.int (nI cnt), .ref q1, .ref q2, .ref q3, .ref q4, .ref q5, .ref q6, .ref q7])), (q1, .inl (c1, 1549, .inl f1)), (q2, .inl (c2, 1549, .inl f2)), (q3, .inl (c3, 7745, .inl f3)), (q4, .inl (c4, 1549, .inl f4)), (q5, .inl (c5, 1549, .inl f5)), (q6, .inl (c6, 512, .inl f6)), (q7, .inl (c7, 1549, .inl f7)), (pr, .inl (cp, NP, .inl fp))] [(c1, .int), (c2, .int), (c3, .int), (c4, .int), (c5, .boolean), (c6, .int), (c7, .int), (cp, .int)] s H locs → lv_has ls 7 [(6, .int (nI j)), (5, .int code), (0, .ref h0), (1, .ref pr), (2, .int fr), (3, .int n), (4, .int gi)] → W p l e ({ frames := 14, cells := 0, slots := 0, locals := 210 } : Room) s m [.ref h0, .ref pr, .int fr, .int n, .int gi].toArray below meth c H locs 0 0 (MQ below (va_Qi (S := Nat × (Nat → Int32) × (Nat → Int32) × (Nat → Int32) × (Nat → Int32) × (Nat → Int32) × (Nat → Int32) × (Nat → Int32)) (fun r x => (∃ k : Nat, k < 1549 ∧ r = nI k) ∧ cnt ≤ x.1 ∧ x.1 ≤ cnt + 1 ∧ x.1 ≤ 1549 ∧ KI x.1 x.2.2.2.2.2.2.1 x.2.2.2.2.2.2.2) (fun x t => PW dC dI A ([(h0, .inr (3, [.int (nI x.1), .ref q1, .ref q2, .ref q3, .ref q4, .ref q5, .ref q6, .ref q7])), (q1, .inl (c1, 1549, .inl x.2.1)), (q2, .inl (c2, 1549, .inl x.2.2.1)), (q3, .inl (c3, 7745, .inl x.2.2.2.1)), (q4, .inl (c4, 1549, .inl x.2.2.2.2.1)), (q5, .inl (c5, 1549, .inl x.2.2.2.2.2.1)), (q6, .inl (c6, 512, .inl x.2.2.2.2.2.2.1)), (q7, .inl (c7, 1549, .inl x.2.2.2.2.2.2.2)), (pr, .inl (cp, NP, .inl fp))]) ([(c1, .int), (c2, .int), (c3, .int), (c4, .int), (c5, .boolean), (c6, .int), (c7, .int), (cp, .int)]) t) A) [.ref h0, .ref pr, .int fr, .int n, .int gi].toArray s 0 0 A) (F0 m 32 ls []) := by
            intro N
            induction N with
            | zero => intro j code H locs ls hm; exact absurd hm (Nat.not_lt_zero _)
            | succ N ih =>
              intro j code H locs ls hm hj4 hw hl
              refine lv_iload hf.1 hf.2.1 dX3_functionOf_32 (lv_at hl 0 rfl) ?_
              refine lv_iload_n hf.1 hf.2.1 dX3_functionOf_34 rfl (lv_at hl 5 rfl) ?_
              refine lv_icmp_ge (tgt := 62) hf.1 hf.2.1 dX3_functionOf_35 (by decide) (fun c_7 => ?_) (fun c_7 => ?_)
              · refine lv_bipush (v := 31) hf.1 hf.2.1 dX3_functionOf_62 (by decide) ?_
                refine lv_iload hf.1 hf.2.1 dX3_functionOf_64 (lv_at hl 1 rfl) ?_
                refine lv_imul hf.1 hf.2.1 dX3_functionOf_66 ?_
                refine lv_topi (fun x_8 ex_8 => ?_)
                refine lv_aload_n hf.1 hf.2.1 dX3_functionOf_67 rfl (lv_at hl 2 rfl) ?_
                refine lv_iload hf.1 hf.2.1 dX3_functionOf_68 (lv_at hl 6 rfl) ?_
                refine mV_i (As := [.int gi]) (rest := [.int x_8]) (wr := [(q1, .inl (c1, 1549, .inl f1)), (q2, .inl (c2, 1549, .inl f2)), (q3, .inl (c3, 7745, .inl f3)), (q5, .inl (c5, 1549, .inl f5)), (q6, .inl (c6, 512, .inl f6)), (q7, .inl (c7, 1549, .inl f7)), (pr, .inl (cp, NP, .inl fp))]) (tr := [(c1, .int), (c2, .int), (c3, .int), (c5, .boolean), (c6, .int), (c7, .int), (cp, .int)]) hf hw (c_codeOf l dC dI h0 q1 q2 q3 q4 q5 q6 q7 c4 f4 cnt gi H.size hc) ka_X3_codeOf kv_X3_codeOf 0 rfl rfl k242 [0, 4] [3] [1, 2, 3, 5, 6, 7, 8] [0, 1, 2, 4, 5, 6, 7] rfl rfl rfl rfl rfl (by decide) rfl rfl rfl hl.1 rfl rfl ⟨Nat.le_of_ble_eq_true rfl, Nat.le_of_ble_eq_true rfl⟩ (Nat.le_of_ble_eq_true rfl) (ce := 0) (sl := 0) rfl rfl ⟨Nat.le_of_ble_eq_true rfl, Nat.le_of_ble_eq_true rfl⟩ dX3_functionOf_70 (fun r_9 u_10 hu_10 H locs hw => ?_)
                have hw : Wd dC dI A [(q1, .inl (c1, 1549, .inl f1)), (q2, .inl (c2, 1549, .inl f2)), (q3, .inl (c3, 7745, .inl f3)), (q5, .inl (c5, 1549, .inl f5)), (q6, .inl (c6, 512, .inl f6)), (q7, .inl (c7, 1549, .inl f7)), (pr, .inl (cp, NP, .inl fp)), (h0, .inr (3, [.int (nI cnt), .ref q1, .ref q2, .ref q3, .ref q4, .ref q5, .ref q6, .ref q7])), (q4, .inl (c4, 1549, .inl f4))] [(c1, .int), (c2, .int), (c3, .int), (c5, .boolean), (c6, .int), (c7, .int), (cp, .int), (c4, .int)] s H locs := hw
                have hw := hw.pick (ws' := [(h0, .inr (3, [.int (nI cnt), .ref q1, .ref q2, .ref q3, .ref q4, .ref q5, .ref q6, .ref q7])), (q1, .inl (c1, 1549, .inl f1)), (q2, .inl (c2, 1549, .inl f2)), (q3, .inl (c3, 7745, .inl f3)), (q4, .inl (c4, 1549, .inl f4)), (q5, .inl (c5, 1549, .inl f5)), (q6, .inl (c6, 512, .inl f6)), (q7, .inl (c7, 1549, .inl f7)), (pr, .inl (cp, NP, .inl fp))]) (tys' := [(c1, .int), (c2, .int), (c3, .int), (c4, .int), (c5, .boolean), (c6, .int), (c7, .int), (cp, .int)]) [7, 0, 1, 2, 8, 3, 4, 5, 6] [0, 1, 2, 7, 3, 4, 5, 6] rfl rfl rfl
                refine lv_iadd hf.1 hf.2.1 dX3_functionOf_73 ?_
                refine lv_topi (fun x_11 ex_11 => ?_)
                refine lv_istore (lv' := [(5, .int x_11), (6, .int (nI j)), (0, .ref h0), (1, .ref pr), (2, .int fr), (3, .int n), (4, .int gi)]) hf.1 hf.2.1 dX3_functionOf_74 hl (by decide) rfl (fun ls hl => ?_)
                refine lv_aload_n hf.1 hf.2.1 dX3_functionOf_76 rfl (lv_at hl 2 rfl) ?_
                refine lv_iconst (v := 4) hf.1 hf.2.1 dX3_functionOf_77 (by decide) ?_
                refine lv_iload_n hf.1 hf.2.1 dX3_functionOf_78 rfl (lv_at hl 5 rfl) ?_
                refine lv_aload_n hf.1 hf.2.1 dX3_functionOf_79 rfl (lv_at hl 3 rfl) ?_
                refine lv_iload_n hf.1 hf.2.1 dX3_functionOf_80 rfl (lv_at hl 4 rfl) ?_
                refine lv_iload hf.1 hf.2.1 dX3_functionOf_81 (lv_at hl 6 rfl) ?_
                refine lv_iload hf.1 hf.2.1 dX3_functionOf_83 (lv_at hl 0 rfl) ?_
                refine mV_i (As := [.int 4, .int n, .ref pr, .int fr, .int gi, .int x_11]) (rest := []) (wr := []) (tr := []) hf hw (c_findOrAdd l dC dI h0 q1 q2 q3 q4 q5 q6 q7 c1 c2 c3 c4 c5 c6 c7 f1 f2 f3 f4 f5 f6 f7 cnt 4 n fr gi x_11 pr cp NP fp H.size hc hK hn4 hfr hfp hNP) ka_X3_findOrAdd kv_X3_findOrAdd 0 rfl rfl k223 [0, 1, 2, 3, 4, 5, 6, 7, 8] [0, 1, 2, 3, 4, 5, 6, 7] [] [] rfl rfl rfl rfl rfl (by decide) rfl rfl rfl hl.1 rfl rfl ⟨Nat.le_of_ble_eq_true rfl, Nat.le_of_ble_eq_true rfl⟩ (Nat.le_of_ble_eq_true rfl) (ce := 0) (sl := 0) rfl rfl ⟨Nat.le_of_ble_eq_true rfl, Nat.le_of_ble_eq_true rfl⟩ dX3_functionOf_85 (fun r_21 u_22 hu_22 H locs hw => ?_)
                obtain ⟨n_12, g_13, g_14, g_15, g_16, g_17, g_18, g_19⟩ := u_22
                obtain ⟨hrhk_20, hlohk_20, hhihk_20, hchk_20, hKhk_20⟩ := hu_22
                have hw : Wd dC dI A [(h0, .inr (3, [.int (nI n_12), .ref q1, .ref q2, .ref q3, .ref q4, .ref q5, .ref q6, .ref q7])), (q1, .inl (c1, 1549, .inl g_13)), (q2, .inl (c2, 1549, .inl g_14)), (q3, .inl (c3, 7745, .inl g_15)), (q4, .inl (c4, 1549, .inl g_16)), (q5, .inl (c5, 1549, .inl g_17)), (q6, .inl (c6, 512, .inl g_18)), (q7, .inl (c7, 1549, .inl g_19)), (pr, .inl (cp, NP, .inl fp))] [(c1, .int), (c2, .int), (c3, .int), (c4, .int), (c5, .boolean), (c6, .int), (c7, .int), (cp, .int)] s H locs := hw
                exact mret_i (v := r_21) hf hr hlk hw (n_12, g_13, g_14, g_15, g_16, g_17, g_18, g_19) ⟨hrhk_20, hlohk_20, hhihk_20, hchk_20, hKhk_20⟩ [0, 1, 2, 3, 4, 5, 6, 7, 8] [0, 1, 2, 3, 4, 5, 6, 7] rfl rfl rfl (Nat.le_of_ble_eq_true rfl) (Nat.le_of_ble_eq_true rfl) dX3_functionOf_88
              · have hj : (j : Int) < n.toInt := nI_lt_lit (by omega) (Int32.not_le.mp c_7)
                refine lv_bipush (v := 31) hf.1 hf.2.1 dX3_functionOf_38 (by decide) ?_
                refine lv_iload hf.1 hf.2.1 dX3_functionOf_40 (lv_at hl 1 rfl) ?_
                refine lv_imul hf.1 hf.2.1 dX3_functionOf_42 ?_
                refine lv_topi (fun x_23 ex_23 => ?_)
                refine lv_aload_n hf.1 hf.2.1 dX3_functionOf_43 rfl (lv_at hl 2 rfl) ?_
                refine lv_aload_n hf.1 hf.2.1 dX3_functionOf_44 rfl (lv_at hl 3 rfl) ?_
                refine lv_iload_n hf.1 hf.2.1 dX3_functionOf_45 rfl (lv_at hl 4 rfl) ?_
                refine lv_iload hf.1 hf.2.1 dX3_functionOf_46 (lv_at hl 0 rfl) ?_
                refine lv_iadd hf.1 hf.2.1 dX3_functionOf_48 ?_
                refine lv_topi (fun x_24 ex_24 => ?_)
                refine miald hf hw 8 7 rfl rfl (by rw [ex_24]; exact vp_in_add hfr (by omega) hNP) dX3_functionOf_49 ?_
                refine lv_topi (fun x_25 ex_25 => ?_)
                refine mV_i (As := [.int x_25]) (rest := [.int x_23]) (wr := [(q1, .inl (c1, 1549, .inl f1)), (q2, .inl (c2, 1549, .inl f2)), (q3, .inl (c3, 7745, .inl f3)), (q5, .inl (c5, 1549, .inl f5)), (q6, .inl (c6, 512, .inl f6)), (q7, .inl (c7, 1549, .inl f7)), (pr, .inl (cp, NP, .inl fp))]) (tr := [(c1, .int), (c2, .int), (c3, .int), (c5, .boolean), (c6, .int), (c7, .int), (cp, .int)]) hf hw (c_codeOf l dC dI h0 q1 q2 q3 q4 q5 q6 q7 c4 f4 cnt x_25 H.size hc) ka_X3_codeOf kv_X3_codeOf 0 rfl rfl k242 [0, 4] [3] [1, 2, 3, 5, 6, 7, 8] [0, 1, 2, 4, 5, 6, 7] rfl rfl rfl rfl rfl (by decide) rfl rfl rfl hl.1 rfl rfl ⟨Nat.le_of_ble_eq_true rfl, Nat.le_of_ble_eq_true rfl⟩ (Nat.le_of_ble_eq_true rfl) (ce := 0) (sl := 0) rfl rfl ⟨Nat.le_of_ble_eq_true rfl, Nat.le_of_ble_eq_true rfl⟩ dX3_functionOf_50 (fun r_26 u_27 hu_27 H locs hw => ?_)
                have hw : Wd dC dI A [(q1, .inl (c1, 1549, .inl f1)), (q2, .inl (c2, 1549, .inl f2)), (q3, .inl (c3, 7745, .inl f3)), (q5, .inl (c5, 1549, .inl f5)), (q6, .inl (c6, 512, .inl f6)), (q7, .inl (c7, 1549, .inl f7)), (pr, .inl (cp, NP, .inl fp)), (h0, .inr (3, [.int (nI cnt), .ref q1, .ref q2, .ref q3, .ref q4, .ref q5, .ref q6, .ref q7])), (q4, .inl (c4, 1549, .inl f4))] [(c1, .int), (c2, .int), (c3, .int), (c5, .boolean), (c6, .int), (c7, .int), (cp, .int), (c4, .int)] s H locs := hw
                have hw := hw.pick (ws' := [(h0, .inr (3, [.int (nI cnt), .ref q1, .ref q2, .ref q3, .ref q4, .ref q5, .ref q6, .ref q7])), (q1, .inl (c1, 1549, .inl f1)), (q2, .inl (c2, 1549, .inl f2)), (q3, .inl (c3, 7745, .inl f3)), (q4, .inl (c4, 1549, .inl f4)), (q5, .inl (c5, 1549, .inl f5)), (q6, .inl (c6, 512, .inl f6)), (q7, .inl (c7, 1549, .inl f7)), (pr, .inl (cp, NP, .inl fp))]) (tys' := [(c1, .int), (c2, .int), (c3, .int), (c4, .int), (c5, .boolean), (c6, .int), (c7, .int), (cp, .int)]) [7, 0, 1, 2, 8, 3, 4, 5, 6] [0, 1, 2, 7, 3, 4, 5, 6] rfl rfl rfl
                refine lv_iadd hf.1 hf.2.1 dX3_functionOf_53 ?_
                refine lv_topi (fun x_28 ex_28 => ?_)
                refine lv_istore (lv' := [(5, .int x_28), (6, .int (nI j)), (0, .ref h0), (1, .ref pr), (2, .int fr), (3, .int n), (4, .int gi)]) hf.1 hf.2.1 dX3_functionOf_54 hl (by decide) rfl (fun ls hl => ?_)
                obtain ⟨x_29, ex_29⟩ : ∃ y : Int32, y = (nI j) + 1 := ⟨_, rfl⟩
                refine lv_iinc (v := x_29) (lv' := [(6, .int x_29), (5, .int x_28), (0, .ref h0), (1, .ref pr), (2, .int fr), (3, .int n), (4, .int gi)]) hf.1 hf.2.1 dX3_functionOf_56 hl (k := 1) rfl (by rw [ex_29]; rfl) (by decide) rfl (fun ls hl => ?_)
                obtain rfl : x_29 = nI (j + 1) := by rw [ex_29, nI_1]
                refine lv_goto (tgt := 32) hf.1 hf.2.1 dX3_functionOf_59 (by decide) ?_
                exact ih (j + 1) x_28 _ _ _ (by omega) (by omega) hw (lv_sub hl [0, 1, 2, 3, 4, 5, 6] rfl)
          exact loop 6 0 _ _ _ _ (by omega) (by omega) hw (lv_sub hl [0, 1, 2, 3, 4, 5, 6] rfl)
        · refine lv_iconst (v := 2) hf.1 hf.2.1 dX3_functionOf_21 (by decide) ?_
          exact mret_i (v := 2) hf hr hlk hw (cnt, f1, f2, f3, f4, f5, f6, f7) ⟨⟨2, by decide, rfl⟩, Nat.le_refl _, Nat.le_succ _, hc, hK⟩ [0, 1, 2, 3, 4, 5, 6, 7, 8] [0, 1, 2, 3, 4, 5, 6, 7] rfl rfl rfl (Nat.le_of_ble_eq_true rfl) (Nat.le_of_ble_eq_true rfl) dX3_functionOf_22

set_option maxHeartbeats 4000000 in
set_option maxRecDepth 100000 in
theorem c_Kinds_init (l : Launch) (dC : Nat → ClassId) (dI : Nat → Nat → Nat) (h0 : Nat) (sz : Nat) : Met l yX3_init (wsOf yX3_init cX3_init 3 none) ({ frames := 18, cells := 8, slots := 16006, locals := 270 } : Room) (va_Pc [.ref h0] (PB dC dI sz [(h0, .inr (3, [.int 0, .null, .null, .null, .null, .null, .null, .null]))] [])) (va_Qv (S := Nat × List Value) (fun x => x.1 ≤ 9 ∧ x.2.length = 7) (fun x t => PW dC dI (va_A [(h0, .inr (3, [.int 0, .null, .null, .null, .null, .null, .null, .null]))] sz) ([(h0, .inr (3, .int (nI x.1) :: x.2))]) ([]) t) (va_A [(h0, .inr (3, [.int 0, .null, .null, .null, .null, .null, .null, .null]))] sz)) 8 16006 (va_A [(h0, .inr (3, [.int 0, .null, .null, .null, .null, .null, .null, .null]))] sz) := by
  refine mbody (y := yX3_init) (av := [.ref h0]) (b := cX3_init) (n := 3) (ret := none) (Qc := fun A => (va_Qv (S := Nat × List Value) (fun x => x.1 ≤ 9 ∧ x.2.length = 7) (fun x t => PW dC dI A ([(h0, .inr (3, .int (nI x.1) :: x.2))]) ([]) t) A)) (by decide) (Nat.le_of_ble_eq_true rfl) ?_
  intro p e s m below meth c ls A H hf hr hin hlk hw hl
  have hl : lv_has ls 3 [(0, .ref h0)] := hl
  refine lv_aload_n hf.1 hf.2.1 dX3_init_0 rfl (lv_at hl 0 rfl) ?_
  refine mobj hf hl.1 k219 k206 k207 dX3_init_1 (Nat.le_of_ble_eq_true rfl) (Nat.le_of_ble_eq_true rfl) ?_
  refine lv_aload_n hf.1 hf.2.1 dX3_init_4 rfl (lv_at hl 0 rfl) ?_
  refine lv_sipush (v := 1549) hf.1 hf.2.1 dX3_init_5 (by decide) ?_
  refine mnewa hf hw (atype := .int) (ty := .int) (a0 := (1549, .inl (fun _ => 0))) k277 rfl (fun _ => rfl) (by decide) rfl (Nat.le_of_ble_eq_true rfl) (ce := 1) (sl := 1549) rfl rfl (Nat.le_of_ble_eq_true rfl) (Nat.le_of_ble_eq_true rfl) dX3_init_8 (fun q_1 cA_2 H hw => ?_)
  refine mputF hf hin hw iX3 tyX3 tyX3_ok nmX3 0 rfl rfl 1 (by decide) k250 rfl rfl rfl rfl (Nat.le_of_ble_eq_true rfl) (ws' := [(h0, .inr (3, [.int 0, .ref q_1, .null, .null, .null, .null, .null, .null])), (q_1, .inl (cA_2, 1549, .inl (fun _ => 0)))]) rfl dX3_init_10 (fun H locs hw => ?_)
  refine lv_aload_n hf.1 hf.2.1 dX3_init_13 rfl (lv_at hl 0 rfl) ?_
  refine lv_sipush (v := 1549) hf.1 hf.2.1 dX3_init_14 (by decide) ?_
  refine mnewa hf hw (atype := .int) (ty := .int) (a0 := (1549, .inl (fun _ => 0))) k277 rfl (fun _ => rfl) (by decide) rfl (Nat.le_of_ble_eq_true rfl) (ce := 2) (sl := 3098) rfl rfl (Nat.le_of_ble_eq_true rfl) (Nat.le_of_ble_eq_true rfl) dX3_init_17 (fun q_3 cA_4 H hw => ?_)
  refine mputF hf hin hw iX3 tyX3 tyX3_ok nmX3 0 rfl rfl 2 (by decide) k251 rfl rfl rfl rfl (Nat.le_of_ble_eq_true rfl) (ws' := [(h0, .inr (3, [.int 0, .ref q_1, .ref q_3, .null, .null, .null, .null, .null])), (q_1, .inl (cA_2, 1549, .inl (fun _ => 0))), (q_3, .inl (cA_4, 1549, .inl (fun _ => 0)))]) rfl dX3_init_19 (fun H locs hw => ?_)
  refine lv_aload_n hf.1 hf.2.1 dX3_init_22 rfl (lv_at hl 0 rfl) ?_
  refine lv_sipush (v := 7745) hf.1 hf.2.1 dX3_init_23 (by decide) ?_
  refine mnewa hf hw (atype := .int) (ty := .int) (a0 := (7745, .inl (fun _ => 0))) k277 rfl (fun _ => rfl) (by decide) rfl (Nat.le_of_ble_eq_true rfl) (ce := 3) (sl := 10843) rfl rfl (Nat.le_of_ble_eq_true rfl) (Nat.le_of_ble_eq_true rfl) dX3_init_26 (fun q_5 cA_6 H hw => ?_)
  refine mputF hf hin hw iX3 tyX3 tyX3_ok nmX3 0 rfl rfl 3 (by decide) k252 rfl rfl rfl rfl (Nat.le_of_ble_eq_true rfl) (ws' := [(h0, .inr (3, [.int 0, .ref q_1, .ref q_3, .ref q_5, .null, .null, .null, .null])), (q_1, .inl (cA_2, 1549, .inl (fun _ => 0))), (q_3, .inl (cA_4, 1549, .inl (fun _ => 0))), (q_5, .inl (cA_6, 7745, .inl (fun _ => 0)))]) rfl dX3_init_28 (fun H locs hw => ?_)
  refine lv_aload_n hf.1 hf.2.1 dX3_init_31 rfl (lv_at hl 0 rfl) ?_
  refine lv_sipush (v := 1549) hf.1 hf.2.1 dX3_init_32 (by decide) ?_
  refine mnewa hf hw (atype := .int) (ty := .int) (a0 := (1549, .inl (fun _ => 0))) k277 rfl (fun _ => rfl) (by decide) rfl (Nat.le_of_ble_eq_true rfl) (ce := 4) (sl := 12392) rfl rfl (Nat.le_of_ble_eq_true rfl) (Nat.le_of_ble_eq_true rfl) dX3_init_35 (fun q_7 cA_8 H hw => ?_)
  refine mputF hf hin hw iX3 tyX3 tyX3_ok nmX3 0 rfl rfl 4 (by decide) k253 rfl rfl rfl rfl (Nat.le_of_ble_eq_true rfl) (ws' := [(h0, .inr (3, [.int 0, .ref q_1, .ref q_3, .ref q_5, .ref q_7, .null, .null, .null])), (q_1, .inl (cA_2, 1549, .inl (fun _ => 0))), (q_3, .inl (cA_4, 1549, .inl (fun _ => 0))), (q_5, .inl (cA_6, 7745, .inl (fun _ => 0))), (q_7, .inl (cA_8, 1549, .inl (fun _ => 0)))]) rfl dX3_init_37 (fun H locs hw => ?_)
  refine lv_aload_n hf.1 hf.2.1 dX3_init_40 rfl (lv_at hl 0 rfl) ?_
  refine lv_sipush (v := 1549) hf.1 hf.2.1 dX3_init_41 (by decide) ?_
  refine mnewa hf hw (atype := .boolean) (ty := .boolean) (a0 := (1549, .inl (fun _ => 0))) k278 rfl (fun _ => rfl) (by decide) rfl (Nat.le_of_ble_eq_true rfl) (ce := 5) (sl := 13941) rfl rfl (Nat.le_of_ble_eq_true rfl) (Nat.le_of_ble_eq_true rfl) dX3_init_44 (fun q_9 cA_10 H hw => ?_)
  refine mputF hf hin hw iX3 tyX3 tyX3_ok nmX3 0 rfl rfl 5 (by decide) k254 rfl rfl rfl rfl (Nat.le_of_ble_eq_true rfl) (ws' := [(h0, .inr (3, [.int 0, .ref q_1, .ref q_3, .ref q_5, .ref q_7, .ref q_9, .null, .null])), (q_1, .inl (cA_2, 1549, .inl (fun _ => 0))), (q_3, .inl (cA_4, 1549, .inl (fun _ => 0))), (q_5, .inl (cA_6, 7745, .inl (fun _ => 0))), (q_7, .inl (cA_8, 1549, .inl (fun _ => 0))), (q_9, .inl (cA_10, 1549, .inl (fun _ => 0)))]) rfl dX3_init_46 (fun H locs hw => ?_)
  refine lv_aload_n hf.1 hf.2.1 dX3_init_49 rfl (lv_at hl 0 rfl) ?_
  refine lv_sipush (v := 512) hf.1 hf.2.1 dX3_init_50 (by decide) ?_
  refine mnewa hf hw (atype := .int) (ty := .int) (a0 := (512, .inl (fun _ => 0))) k277 rfl (fun _ => rfl) (by decide) rfl (Nat.le_of_ble_eq_true rfl) (ce := 6) (sl := 14453) rfl rfl (Nat.le_of_ble_eq_true rfl) (Nat.le_of_ble_eq_true rfl) dX3_init_53 (fun q_11 cA_12 H hw => ?_)
  refine mputF hf hin hw iX3 tyX3 tyX3_ok nmX3 0 rfl rfl 6 (by decide) k255 rfl rfl rfl rfl (Nat.le_of_ble_eq_true rfl) (ws' := [(h0, .inr (3, [.int 0, .ref q_1, .ref q_3, .ref q_5, .ref q_7, .ref q_9, .ref q_11, .null])), (q_1, .inl (cA_2, 1549, .inl (fun _ => 0))), (q_3, .inl (cA_4, 1549, .inl (fun _ => 0))), (q_5, .inl (cA_6, 7745, .inl (fun _ => 0))), (q_7, .inl (cA_8, 1549, .inl (fun _ => 0))), (q_9, .inl (cA_10, 1549, .inl (fun _ => 0))), (q_11, .inl (cA_12, 512, .inl (fun _ => 0)))]) rfl dX3_init_55 (fun H locs hw => ?_)
  refine lv_aload_n hf.1 hf.2.1 dX3_init_58 rfl (lv_at hl 0 rfl) ?_
  refine lv_sipush (v := 1549) hf.1 hf.2.1 dX3_init_59 (by decide) ?_
  refine mnewa hf hw (atype := .int) (ty := .int) (a0 := (1549, .inl (fun _ => 0))) k277 rfl (fun _ => rfl) (by decide) rfl (Nat.le_of_ble_eq_true rfl) (ce := 7) (sl := 16002) rfl rfl (Nat.le_of_ble_eq_true rfl) (Nat.le_of_ble_eq_true rfl) dX3_init_62 (fun q_13 cA_14 H hw => ?_)
  refine mputF hf hin hw iX3 tyX3 tyX3_ok nmX3 0 rfl rfl 7 (by decide) k256 rfl rfl rfl rfl (Nat.le_of_ble_eq_true rfl) (ws' := [(h0, .inr (3, [.int 0, .ref q_1, .ref q_3, .ref q_5, .ref q_7, .ref q_9, .ref q_11, .ref q_13])), (q_1, .inl (cA_2, 1549, .inl (fun _ => 0))), (q_3, .inl (cA_4, 1549, .inl (fun _ => 0))), (q_5, .inl (cA_6, 7745, .inl (fun _ => 0))), (q_7, .inl (cA_8, 1549, .inl (fun _ => 0))), (q_9, .inl (cA_10, 1549, .inl (fun _ => 0))), (q_11, .inl (cA_12, 512, .inl (fun _ => 0))), (q_13, .inl (cA_14, 1549, .inl (fun _ => 0)))]) rfl dX3_init_64 (fun H locs hw => ?_)
  refine lv_aload_n hf.1 hf.2.1 dX3_init_67 rfl (lv_at hl 0 rfl) ?_
  refine lv_iconst (v := 0) hf.1 hf.2.1 dX3_init_68 (by decide) ?_
  refine mput hf hw iX3 tyX3 tyX3_ok nmX3 0 rfl rfl 0 (by decide) k257 rfl rfl rfl (Nat.le_of_ble_eq_true rfl) (ws' := [(h0, .inr (3, [.int 0, .ref q_1, .ref q_3, .ref q_5, .ref q_7, .ref q_9, .ref q_11, .ref q_13])), (q_1, .inl (cA_2, 1549, .inl (fun _ => 0))), (q_3, .inl (cA_4, 1549, .inl (fun _ => 0))), (q_5, .inl (cA_6, 7745, .inl (fun _ => 0))), (q_7, .inl (cA_8, 1549, .inl (fun _ => 0))), (q_9, .inl (cA_10, 1549, .inl (fun _ => 0))), (q_11, .inl (cA_12, 512, .inl (fun _ => 0))), (q_13, .inl (cA_14, 1549, .inl (fun _ => 0)))]) rfl dX3_init_69 (fun H locs hw => ?_)
  refine lv_aload_n hf.1 hf.2.1 dX3_init_72 rfl (lv_at hl 0 rfl) ?_
  refine mget hf hw iX3 0 rfl rfl 6 (by decide) k255 rfl dX3_init_73 ?_
  refine lv_iconst (v := (-1)) hf.1 hf.2.1 dX3_init_76 (by decide) ?_
  refine mS_v (As := [.ref q_11, .int (-1)]) (rest := []) (wr := [(h0, .inr (3, [.int 0, .ref q_1, .ref q_3, .ref q_5, .ref q_7, .ref q_9, .ref q_11, .ref q_13])), (q_1, .inl (cA_2, 1549, .inl (fun _ => 0))), (q_3, .inl (cA_4, 1549, .inl (fun _ => 0))), (q_5, .inl (cA_6, 7745, .inl (fun _ => 0))), (q_7, .inl (cA_8, 1549, .inl (fun _ => 0))), (q_9, .inl (cA_10, 1549, .inl (fun _ => 0))), (q_13, .inl (cA_14, 1549, .inl (fun _ => 0)))]) (tr := [(cA_2, .int), (cA_4, .int), (cA_6, .int), (cA_8, .int), (cA_10, .boolean), (cA_14, .int)]) hf hw (c_fill l dC dI q_11 cA_12 512 (fun _ => 0) (-1) H.size (by decide)) ka_J7_fill_53178 k221 k220 [6] [5] [0, 1, 2, 3, 4, 5, 7] [0, 1, 2, 3, 4, 6] rfl rfl rfl rfl rfl (by decide) rfl rfl rfl hl.1 rfl rfl ⟨Nat.le_of_ble_eq_true rfl, Nat.le_of_ble_eq_true rfl⟩ (Nat.le_of_ble_eq_true rfl) (ce := 7) (sl := 16002) rfl rfl ⟨Nat.le_of_ble_eq_true rfl, Nat.le_of_ble_eq_true rfl⟩ dX3_init_77 (fun ff hff H locs hw => ?_)
  have hw : Wd dC dI A [(h0, .inr (3, [.int 0, .ref q_1, .ref q_3, .ref q_5, .ref q_7, .ref q_9, .ref q_11, .ref q_13])), (q_1, .inl (cA_2, 1549, .inl (fun _ => 0))), (q_3, .inl (cA_4, 1549, .inl (fun _ => 0))), (q_5, .inl (cA_6, 7745, .inl (fun _ => 0))), (q_7, .inl (cA_8, 1549, .inl (fun _ => 0))), (q_9, .inl (cA_10, 1549, .inl (fun _ => 0))), (q_13, .inl (cA_14, 1549, .inl (fun _ => 0))), (q_11, .inl (cA_12, 512, .inl ff))] [(cA_2, .int), (cA_4, .int), (cA_6, .int), (cA_8, .int), (cA_10, .boolean), (cA_14, .int), (cA_12, .int)] s H locs := hw
  have hK0 : KI 0 ff (fun _ => 0) := ⟨fun b hb => Or.inl (hff b hb), fun k hk => absurd hk (Nat.not_lt_zero _)⟩
  have hw := hw.pick (ws' := [(h0, .inr (3, [.int 0, .ref q_1, .ref q_3, .ref q_5, .ref q_7, .ref q_9, .ref q_11, .ref q_13])), (q_1, .inl (cA_2, 1549, .inl (fun _ => 0))), (q_3, .inl (cA_4, 1549, .inl (fun _ => 0))), (q_5, .inl (cA_6, 7745, .inl (fun _ => 0))), (q_7, .inl (cA_8, 1549, .inl (fun _ => 0))), (q_9, .inl (cA_10, 1549, .inl (fun _ => 0))), (q_11, .inl (cA_12, 512, .inl ff)), (q_13, .inl (cA_14, 1549, .inl (fun _ => 0)))]) (tys' := [(cA_2, .int), (cA_4, .int), (cA_6, .int), (cA_8, .int), (cA_10, .boolean), (cA_12, .int), (cA_14, .int)]) [0, 1, 2, 3, 4, 5, 7, 6] [0, 1, 2, 3, 4, 6, 5] rfl rfl rfl
  refine lv_iconst (v := 4) hf.1 hf.2.1 dX3_init_80 (by decide) ?_
  refine mnewa hf hw (atype := .int) (ty := .int) (a0 := (4, .inl (fun _ => 0))) k277 rfl (fun _ => rfl) (by decide) rfl (Nat.le_of_ble_eq_true rfl) (ce := 8) (sl := 16006) rfl rfl (Nat.le_of_ble_eq_true rfl) (Nat.le_of_ble_eq_true rfl) dX3_init_81 (fun q_17 cA_18 H hw => ?_)
  refine lv_dup hf.1 hf.2.1 dX3_init_83 rfl ?_
  refine lv_iconst (v := 0) hf.1 hf.2.1 dX3_init_84 (by decide) ?_
  refine lv_iconst (v := 2) hf.1 hf.2.1 dX3_init_85 (by decide) ?_
  refine miast hf hw 8 7 rfl rfl (by unfold vp_in; decide) dX3_init_86 (fun f_19 ef_19 H locs hw => ?_)
  have hw : Wd dC dI A [(h0, .inr (3, [.int 0, .ref q_1, .ref q_3, .ref q_5, .ref q_7, .ref q_9, .ref q_11, .ref q_13])), (q_1, .inl (cA_2, 1549, .inl (fun _ => 0))), (q_3, .inl (cA_4, 1549, .inl (fun _ => 0))), (q_5, .inl (cA_6, 7745, .inl (fun _ => 0))), (q_7, .inl (cA_8, 1549, .inl (fun _ => 0))), (q_9, .inl (cA_10, 1549, .inl (fun _ => 0))), (q_11, .inl (cA_12, 512, .inl ff)), (q_13, .inl (cA_14, 1549, .inl (fun _ => 0))), (q_17, .inl (cA_18, 4, .inl f_19))] [(cA_2, .int), (cA_4, .int), (cA_6, .int), (cA_8, .int), (cA_10, .boolean), (cA_12, .int), (cA_14, .int), (cA_18, .int)] s H locs := hw
  refine lv_dup hf.1 hf.2.1 dX3_init_87 rfl ?_
  refine lv_iconst (v := 1) hf.1 hf.2.1 dX3_init_88 (by decide) ?_
  refine lv_iconst (v := 2) hf.1 hf.2.1 dX3_init_89 (by decide) ?_
  refine miast hf hw 8 7 rfl rfl (by unfold vp_in; decide) dX3_init_90 (fun f_20 ef_20 H locs hw => ?_)
  have hw : Wd dC dI A [(h0, .inr (3, [.int 0, .ref q_1, .ref q_3, .ref q_5, .ref q_7, .ref q_9, .ref q_11, .ref q_13])), (q_1, .inl (cA_2, 1549, .inl (fun _ => 0))), (q_3, .inl (cA_4, 1549, .inl (fun _ => 0))), (q_5, .inl (cA_6, 7745, .inl (fun _ => 0))), (q_7, .inl (cA_8, 1549, .inl (fun _ => 0))), (q_9, .inl (cA_10, 1549, .inl (fun _ => 0))), (q_11, .inl (cA_12, 512, .inl ff)), (q_13, .inl (cA_14, 1549, .inl (fun _ => 0))), (q_17, .inl (cA_18, 4, .inl f_20))] [(cA_2, .int), (cA_4, .int), (cA_6, .int), (cA_8, .int), (cA_10, .boolean), (cA_12, .int), (cA_14, .int), (cA_18, .int)] s H locs := hw
  refine lv_dup hf.1 hf.2.1 dX3_init_91 rfl ?_
  refine lv_iconst (v := 2) hf.1 hf.2.1 dX3_init_92 (by decide) ?_
  refine lv_iconst (v := 2) hf.1 hf.2.1 dX3_init_93 (by decide) ?_
  refine miast hf hw 8 7 rfl rfl (by unfold vp_in; decide) dX3_init_94 (fun f_21 ef_21 H locs hw => ?_)
  have hw : Wd dC dI A [(h0, .inr (3, [.int 0, .ref q_1, .ref q_3, .ref q_5, .ref q_7, .ref q_9, .ref q_11, .ref q_13])), (q_1, .inl (cA_2, 1549, .inl (fun _ => 0))), (q_3, .inl (cA_4, 1549, .inl (fun _ => 0))), (q_5, .inl (cA_6, 7745, .inl (fun _ => 0))), (q_7, .inl (cA_8, 1549, .inl (fun _ => 0))), (q_9, .inl (cA_10, 1549, .inl (fun _ => 0))), (q_11, .inl (cA_12, 512, .inl ff)), (q_13, .inl (cA_14, 1549, .inl (fun _ => 0))), (q_17, .inl (cA_18, 4, .inl f_21))] [(cA_2, .int), (cA_4, .int), (cA_6, .int), (cA_8, .int), (cA_10, .boolean), (cA_12, .int), (cA_14, .int), (cA_18, .int)] s H locs := hw
  refine lv_dup hf.1 hf.2.1 dX3_init_95 rfl ?_
  refine lv_iconst (v := 3) hf.1 hf.2.1 dX3_init_96 (by decide) ?_
  refine lv_iconst (v := 2) hf.1 hf.2.1 dX3_init_97 (by decide) ?_
  refine miast hf hw 8 7 rfl rfl (by unfold vp_in; decide) dX3_init_98 (fun f_22 ef_22 H locs hw => ?_)
  have hw : Wd dC dI A [(h0, .inr (3, [.int 0, .ref q_1, .ref q_3, .ref q_5, .ref q_7, .ref q_9, .ref q_11, .ref q_13])), (q_1, .inl (cA_2, 1549, .inl (fun _ => 0))), (q_3, .inl (cA_4, 1549, .inl (fun _ => 0))), (q_5, .inl (cA_6, 7745, .inl (fun _ => 0))), (q_7, .inl (cA_8, 1549, .inl (fun _ => 0))), (q_9, .inl (cA_10, 1549, .inl (fun _ => 0))), (q_11, .inl (cA_12, 512, .inl ff)), (q_13, .inl (cA_14, 1549, .inl (fun _ => 0))), (q_17, .inl (cA_18, 4, .inl f_22))] [(cA_2, .int), (cA_4, .int), (cA_6, .int), (cA_8, .int), (cA_10, .boolean), (cA_12, .int), (cA_14, .int), (cA_18, .int)] s H locs := hw
  refine lv_astore_n (lv' := [(1, .ref q_17), (0, .ref h0)]) hf.1 hf.2.1 dX3_init_99 rfl hl (by decide) rfl (fun ls hl => ?_)
  refine lv_aload_n hf.1 hf.2.1 dX3_init_100 rfl (lv_at hl 1 rfl) ?_
  refine lv_iconst (v := 0) hf.1 hf.2.1 dX3_init_101 (by decide) ?_
  refine lv_iconst (v := 0) hf.1 hf.2.1 dX3_init_102 (by decide) ?_
  refine lv_aload_n hf.1 hf.2.1 dX3_init_103 rfl (lv_at hl 0 rfl) ?_
  refine lv_iconst (v := 0) hf.1 hf.2.1 dX3_init_104 (by decide) ?_
  refine lv_iconst (v := 2) hf.1 hf.2.1 dX3_init_105 (by decide) ?_
  refine lv_iconst (v := 1) hf.1 hf.2.1 dX3_init_106 (by decide) ?_
  refine mV_i (As := [.int 0, .int 0, .ref q_17, .int 0, .int 2, .int 1]) (rest := []) (wr := []) (tr := []) hf hw (c_findOrAdd l dC dI h0 q_1 q_3 q_5 q_7 q_9 q_11 q_13 cA_2 cA_4 cA_6 cA_8 cA_10 cA_12 cA_14 (fun _ => 0) (fun _ => 0) (fun _ => 0) (fun _ => 0) (fun _ => 0) ff (fun _ => 0) 0 0 0 0 2 1 q_17 cA_18 4 f_22 H.size (by omega) hK0 (by decide) (by decide) (by decide) (by decide)) ka_X3_findOrAdd kv_X3_findOrAdd 0 rfl rfl k223 [0, 1, 2, 3, 4, 5, 6, 7, 8] [0, 1, 2, 3, 4, 5, 6, 7] [] [] rfl rfl rfl rfl rfl (by decide) rfl rfl rfl hl.1 rfl rfl ⟨Nat.le_of_ble_eq_true rfl, Nat.le_of_ble_eq_true rfl⟩ (Nat.le_of_ble_eq_true rfl) (ce := 8) (sl := 16006) rfl rfl ⟨Nat.le_of_ble_eq_true rfl, Nat.le_of_ble_eq_true rfl⟩ dX3_init_107 (fun r_32 u_33 hu_33 H locs hw => ?_)
  obtain ⟨n_23, g_24, g_25, g_26, g_27, g_28, g_29, g_30⟩ := u_33
  obtain ⟨hrhk_31, hlohk_31, hhihk_31, hchk_31, hKhk_31⟩ := hu_33
  have hw : Wd dC dI A [(h0, .inr (3, [.int (nI n_23), .ref q_1, .ref q_3, .ref q_5, .ref q_7, .ref q_9, .ref q_11, .ref q_13])), (q_1, .inl (cA_2, 1549, .inl g_24)), (q_3, .inl (cA_4, 1549, .inl g_25)), (q_5, .inl (cA_6, 7745, .inl g_26)), (q_7, .inl (cA_8, 1549, .inl g_27)), (q_9, .inl (cA_10, 1549, .inl g_28)), (q_11, .inl (cA_12, 512, .inl g_29)), (q_13, .inl (cA_14, 1549, .inl g_30)), (q_17, .inl (cA_18, 4, .inl f_22))] [(cA_2, .int), (cA_4, .int), (cA_6, .int), (cA_8, .int), (cA_10, .boolean), (cA_12, .int), (cA_14, .int), (cA_18, .int)] s H locs := hw
  refine lv_pop hf.1 hf.2.1 dX3_init_110 rfl ?_
  refine lv_aload_n hf.1 hf.2.1 dX3_init_111 rfl (lv_at hl 1 rfl) ?_
  refine lv_iconst (v := 1) hf.1 hf.2.1 dX3_init_112 (by decide) ?_
  refine lv_iconst (v := 0) hf.1 hf.2.1 dX3_init_113 (by decide) ?_
  refine lv_aload_n hf.1 hf.2.1 dX3_init_114 rfl (lv_at hl 0 rfl) ?_
  refine lv_iconst (v := 0) hf.1 hf.2.1 dX3_init_115 (by decide) ?_
  refine lv_iconst (v := 2) hf.1 hf.2.1 dX3_init_116 (by decide) ?_
  refine lv_iconst (v := 2) hf.1 hf.2.1 dX3_init_117 (by decide) ?_
  refine mV_i (As := [.int 1, .int 0, .ref q_17, .int 0, .int 2, .int 2]) (rest := []) (wr := []) (tr := []) hf hw (c_findOrAdd l dC dI h0 q_1 q_3 q_5 q_7 q_9 q_11 q_13 cA_2 cA_4 cA_6 cA_8 cA_10 cA_12 cA_14 g_24 g_25 g_26 g_27 g_28 g_29 g_30 n_23 1 0 0 2 2 q_17 cA_18 4 f_22 H.size (by omega) hKhk_31 (by decide) (by decide) (by decide) (by decide)) ka_X3_findOrAdd kv_X3_findOrAdd 0 rfl rfl k223 [0, 1, 2, 3, 4, 5, 6, 7, 8] [0, 1, 2, 3, 4, 5, 6, 7] [] [] rfl rfl rfl rfl rfl (by decide) rfl rfl rfl hl.1 rfl rfl ⟨Nat.le_of_ble_eq_true rfl, Nat.le_of_ble_eq_true rfl⟩ (Nat.le_of_ble_eq_true rfl) (ce := 8) (sl := 16006) rfl rfl ⟨Nat.le_of_ble_eq_true rfl, Nat.le_of_ble_eq_true rfl⟩ dX3_init_118 (fun r_43 u_44 hu_44 H locs hw => ?_)
  obtain ⟨n_34, g_35, g_36, g_37, g_38, g_39, g_40, g_41⟩ := u_44
  obtain ⟨hrhk_42, hlohk_42, hhihk_42, hchk_42, hKhk_42⟩ := hu_44
  have hw : Wd dC dI A [(h0, .inr (3, [.int (nI n_34), .ref q_1, .ref q_3, .ref q_5, .ref q_7, .ref q_9, .ref q_11, .ref q_13])), (q_1, .inl (cA_2, 1549, .inl g_35)), (q_3, .inl (cA_4, 1549, .inl g_36)), (q_5, .inl (cA_6, 7745, .inl g_37)), (q_7, .inl (cA_8, 1549, .inl g_38)), (q_9, .inl (cA_10, 1549, .inl g_39)), (q_11, .inl (cA_12, 512, .inl g_40)), (q_13, .inl (cA_14, 1549, .inl g_41)), (q_17, .inl (cA_18, 4, .inl f_22))] [(cA_2, .int), (cA_4, .int), (cA_6, .int), (cA_8, .int), (cA_10, .boolean), (cA_12, .int), (cA_14, .int), (cA_18, .int)] s H locs := hw
  refine lv_pop hf.1 hf.2.1 dX3_init_121 rfl ?_
  refine lv_aload_n hf.1 hf.2.1 dX3_init_122 rfl (lv_at hl 1 rfl) ?_
  refine lv_iconst (v := 2) hf.1 hf.2.1 dX3_init_123 (by decide) ?_
  refine lv_iconst (v := 0) hf.1 hf.2.1 dX3_init_124 (by decide) ?_
  refine lv_aload_n hf.1 hf.2.1 dX3_init_125 rfl (lv_at hl 0 rfl) ?_
  refine lv_iconst (v := 0) hf.1 hf.2.1 dX3_init_126 (by decide) ?_
  refine lv_iconst (v := 2) hf.1 hf.2.1 dX3_init_127 (by decide) ?_
  refine lv_iconst (v := 3) hf.1 hf.2.1 dX3_init_128 (by decide) ?_
  refine mV_i (As := [.int 2, .int 0, .ref q_17, .int 0, .int 2, .int 3]) (rest := []) (wr := []) (tr := []) hf hw (c_findOrAdd l dC dI h0 q_1 q_3 q_5 q_7 q_9 q_11 q_13 cA_2 cA_4 cA_6 cA_8 cA_10 cA_12 cA_14 g_35 g_36 g_37 g_38 g_39 g_40 g_41 n_34 2 0 0 2 3 q_17 cA_18 4 f_22 H.size (by omega) hKhk_42 (by decide) (by decide) (by decide) (by decide)) ka_X3_findOrAdd kv_X3_findOrAdd 0 rfl rfl k223 [0, 1, 2, 3, 4, 5, 6, 7, 8] [0, 1, 2, 3, 4, 5, 6, 7] [] [] rfl rfl rfl rfl rfl (by decide) rfl rfl rfl hl.1 rfl rfl ⟨Nat.le_of_ble_eq_true rfl, Nat.le_of_ble_eq_true rfl⟩ (Nat.le_of_ble_eq_true rfl) (ce := 8) (sl := 16006) rfl rfl ⟨Nat.le_of_ble_eq_true rfl, Nat.le_of_ble_eq_true rfl⟩ dX3_init_129 (fun r_54 u_55 hu_55 H locs hw => ?_)
  obtain ⟨n_45, g_46, g_47, g_48, g_49, g_50, g_51, g_52⟩ := u_55
  obtain ⟨hrhk_53, hlohk_53, hhihk_53, hchk_53, hKhk_53⟩ := hu_55
  have hw : Wd dC dI A [(h0, .inr (3, [.int (nI n_45), .ref q_1, .ref q_3, .ref q_5, .ref q_7, .ref q_9, .ref q_11, .ref q_13])), (q_1, .inl (cA_2, 1549, .inl g_46)), (q_3, .inl (cA_4, 1549, .inl g_47)), (q_5, .inl (cA_6, 7745, .inl g_48)), (q_7, .inl (cA_8, 1549, .inl g_49)), (q_9, .inl (cA_10, 1549, .inl g_50)), (q_11, .inl (cA_12, 512, .inl g_51)), (q_13, .inl (cA_14, 1549, .inl g_52)), (q_17, .inl (cA_18, 4, .inl f_22))] [(cA_2, .int), (cA_4, .int), (cA_6, .int), (cA_8, .int), (cA_10, .boolean), (cA_12, .int), (cA_14, .int), (cA_18, .int)] s H locs := hw
  refine lv_pop hf.1 hf.2.1 dX3_init_132 rfl ?_
  refine lv_aload_n hf.1 hf.2.1 dX3_init_133 rfl (lv_at hl 1 rfl) ?_
  refine lv_iconst (v := 2) hf.1 hf.2.1 dX3_init_134 (by decide) ?_
  refine mV_i (As := [.int 2]) (rest := []) (wr := [(q_17, .inl (cA_18, 4, .inl f_22))]) (tr := [(cA_18, .int)]) hf hw (c_rowOf l dC dI h0 q_1 q_3 q_5 q_7 q_9 q_11 q_13 cA_2 cA_4 cA_6 cA_8 cA_10 cA_12 cA_14 g_46 g_47 g_48 g_49 g_50 g_51 g_52 n_45 2 H.size (by omega) hKhk_53) ka_X3_rowOf kv_X3_rowOf 0 rfl rfl k238 [0, 1, 2, 3, 4, 5, 6, 7] [0, 1, 2, 3, 4, 5, 6] [8] [7] rfl rfl rfl rfl rfl (by decide) rfl rfl rfl hl.1 rfl rfl ⟨Nat.le_of_ble_eq_true rfl, Nat.le_of_ble_eq_true rfl⟩ (Nat.le_of_ble_eq_true rfl) (ce := 8) (sl := 16006) rfl rfl ⟨Nat.le_of_ble_eq_true rfl, Nat.le_of_ble_eq_true rfl⟩ dX3_init_135 (fun r_65 u_66 hu_66 H locs hw => ?_)
  obtain ⟨n_56, g_57, g_58, g_59, g_60, g_61, g_62, g_63⟩ := u_66
  obtain ⟨hrhk_64, hlohk_64, hhihk_64, hchk_64, hKhk_64⟩ := hu_66
  have hw : Wd dC dI A [(q_17, .inl (cA_18, 4, .inl f_22)), (h0, .inr (3, [.int (nI n_56), .ref q_1, .ref q_3, .ref q_5, .ref q_7, .ref q_9, .ref q_11, .ref q_13])), (q_1, .inl (cA_2, 1549, .inl g_57)), (q_3, .inl (cA_4, 1549, .inl g_58)), (q_5, .inl (cA_6, 7745, .inl g_59)), (q_7, .inl (cA_8, 1549, .inl g_60)), (q_9, .inl (cA_10, 1549, .inl g_61)), (q_11, .inl (cA_12, 512, .inl g_62)), (q_13, .inl (cA_14, 1549, .inl g_63))] [(cA_18, .int), (cA_2, .int), (cA_4, .int), (cA_6, .int), (cA_8, .int), (cA_10, .boolean), (cA_12, .int), (cA_14, .int)] s H locs := hw
  have hw := hw.pick (ws' := [(h0, .inr (3, [.int (nI n_56), .ref q_1, .ref q_3, .ref q_5, .ref q_7, .ref q_9, .ref q_11, .ref q_13])), (q_1, .inl (cA_2, 1549, .inl g_57)), (q_3, .inl (cA_4, 1549, .inl g_58)), (q_5, .inl (cA_6, 7745, .inl g_59)), (q_7, .inl (cA_8, 1549, .inl g_60)), (q_9, .inl (cA_10, 1549, .inl g_61)), (q_11, .inl (cA_12, 512, .inl g_62)), (q_13, .inl (cA_14, 1549, .inl g_63)), (q_17, .inl (cA_18, 4, .inl f_22))]) (tys' := [(cA_2, .int), (cA_4, .int), (cA_6, .int), (cA_8, .int), (cA_10, .boolean), (cA_12, .int), (cA_14, .int), (cA_18, .int)]) [1, 2, 3, 4, 5, 6, 7, 8, 0] [1, 2, 3, 4, 5, 6, 7, 0] rfl rfl rfl
  refine lv_pop hf.1 hf.2.1 dX3_init_138 rfl ?_
  refine lv_iconst (v := 0) hf.1 hf.2.1 dX3_init_139 (by decide) ?_
  refine lv_istore_n (lv' := [(2, .int 0), (1, .ref q_17), (0, .ref h0)]) hf.1 hf.2.1 dX3_init_140 rfl hl (by decide) rfl (fun ls hl => ?_)
  refine lv_iload_n hf.1 hf.2.1 dX3_init_141 rfl (lv_at hl 0 rfl) ?_
  refine lv_iconst (v := 4) hf.1 hf.2.1 dX3_init_142 (by decide) ?_
  refine lv_icmp_gt (tgt := 161) hf.1 hf.2.1 dX3_init_143 (by decide) (fun c_67 => absurd c_67 (by decide)) (fun c_67 => ?_)
  refine lv_aload_n hf.1 hf.2.1 dX3_init_146 rfl (lv_at hl 2 rfl) ?_
  refine lv_aload_n hf.1 hf.2.1 dX3_init_147 rfl (lv_at hl 1 rfl) ?_
  refine lv_iconst (v := 0) hf.1 hf.2.1 dX3_init_148 (by decide) ?_
  refine lv_iload_n hf.1 hf.2.1 dX3_init_149 rfl (lv_at hl 0 rfl) ?_
  refine lv_iconst (v := 2) hf.1 hf.2.1 dX3_init_150 (by decide) ?_
  refine mV_i (As := [.ref q_17, .int 0, .int 0, .int 2]) (rest := []) (wr := []) (tr := []) hf hw (c_functionOf l dC dI h0 q_1 q_3 q_5 q_7 q_9 q_11 q_13 cA_2 cA_4 cA_6 cA_8 cA_10 cA_12 cA_14 g_57 g_58 g_59 g_60 g_61 g_62 g_63 n_56 0 0 2 q_17 cA_18 4 f_22 H.size (by omega) hKhk_64 (by decide)) ka_X3_functionOf kv_X3_functionOf 0 rfl rfl k246 [0, 1, 2, 3, 4, 5, 6, 7, 8] [0, 1, 2, 3, 4, 5, 6, 7] [] [] rfl rfl rfl rfl rfl (by decide) rfl rfl rfl hl.1 rfl rfl ⟨Nat.le_of_ble_eq_true rfl, Nat.le_of_ble_eq_true rfl⟩ (Nat.le_of_ble_eq_true rfl) (ce := 8) (sl := 16006) rfl rfl ⟨Nat.le_of_ble_eq_true rfl, Nat.le_of_ble_eq_true rfl⟩ dX3_init_151 (fun r_77 u_78 hu_78 H locs hw => ?_)
  obtain ⟨n_68, g_69, g_70, g_71, g_72, g_73, g_74, g_75⟩ := u_78
  obtain ⟨hrhk_76, hlohk_76, hhihk_76, hchk_76, hKhk_76⟩ := hu_78
  have hw : Wd dC dI A [(h0, .inr (3, [.int (nI n_68), .ref q_1, .ref q_3, .ref q_5, .ref q_7, .ref q_9, .ref q_11, .ref q_13])), (q_1, .inl (cA_2, 1549, .inl g_69)), (q_3, .inl (cA_4, 1549, .inl g_70)), (q_5, .inl (cA_6, 7745, .inl g_71)), (q_7, .inl (cA_8, 1549, .inl g_72)), (q_9, .inl (cA_10, 1549, .inl g_73)), (q_11, .inl (cA_12, 512, .inl g_74)), (q_13, .inl (cA_14, 1549, .inl g_75)), (q_17, .inl (cA_18, 4, .inl f_22))] [(cA_2, .int), (cA_4, .int), (cA_6, .int), (cA_8, .int), (cA_10, .boolean), (cA_12, .int), (cA_14, .int), (cA_18, .int)] s H locs := hw
  refine lv_pop hf.1 hf.2.1 dX3_init_154 rfl ?_
  obtain ⟨x_79, ex_79⟩ : ∃ y : Int32, y = 0 + 1 := ⟨_, rfl⟩
  refine lv_iinc (v := x_79) (lv' := [(2, .int x_79), (1, .ref q_17), (0, .ref h0)]) hf.1 hf.2.1 dX3_init_155 hl (k := 0) rfl (by rw [ex_79]; rfl) (by decide) rfl (fun ls hl => ?_)
  obtain rfl : x_79 = 1 := by rw [ex_79]; decide
  refine lv_goto (tgt := 141) hf.1 hf.2.1 dX3_init_158 (by decide) ?_
  refine lv_iload_n hf.1 hf.2.1 dX3_init_141 rfl (lv_at hl 0 rfl) ?_
  refine lv_iconst (v := 4) hf.1 hf.2.1 dX3_init_142 (by decide) ?_
  refine lv_icmp_gt (tgt := 161) hf.1 hf.2.1 dX3_init_143 (by decide) (fun c_80 => absurd c_80 (by decide)) (fun c_80 => ?_)
  refine lv_aload_n hf.1 hf.2.1 dX3_init_146 rfl (lv_at hl 2 rfl) ?_
  refine lv_aload_n hf.1 hf.2.1 dX3_init_147 rfl (lv_at hl 1 rfl) ?_
  refine lv_iconst (v := 0) hf.1 hf.2.1 dX3_init_148 (by decide) ?_
  refine lv_iload_n hf.1 hf.2.1 dX3_init_149 rfl (lv_at hl 0 rfl) ?_
  refine lv_iconst (v := 2) hf.1 hf.2.1 dX3_init_150 (by decide) ?_
  refine mV_i (As := [.ref q_17, .int 0, .int 1, .int 2]) (rest := []) (wr := []) (tr := []) hf hw (c_functionOf l dC dI h0 q_1 q_3 q_5 q_7 q_9 q_11 q_13 cA_2 cA_4 cA_6 cA_8 cA_10 cA_12 cA_14 g_69 g_70 g_71 g_72 g_73 g_74 g_75 n_68 1 0 2 q_17 cA_18 4 f_22 H.size (by omega) hKhk_76 (by decide)) ka_X3_functionOf kv_X3_functionOf 0 rfl rfl k246 [0, 1, 2, 3, 4, 5, 6, 7, 8] [0, 1, 2, 3, 4, 5, 6, 7] [] [] rfl rfl rfl rfl rfl (by decide) rfl rfl rfl hl.1 rfl rfl ⟨Nat.le_of_ble_eq_true rfl, Nat.le_of_ble_eq_true rfl⟩ (Nat.le_of_ble_eq_true rfl) (ce := 8) (sl := 16006) rfl rfl ⟨Nat.le_of_ble_eq_true rfl, Nat.le_of_ble_eq_true rfl⟩ dX3_init_151 (fun r_90 u_91 hu_91 H locs hw => ?_)
  obtain ⟨n_81, g_82, g_83, g_84, g_85, g_86, g_87, g_88⟩ := u_91
  obtain ⟨hrhk_89, hlohk_89, hhihk_89, hchk_89, hKhk_89⟩ := hu_91
  have hw : Wd dC dI A [(h0, .inr (3, [.int (nI n_81), .ref q_1, .ref q_3, .ref q_5, .ref q_7, .ref q_9, .ref q_11, .ref q_13])), (q_1, .inl (cA_2, 1549, .inl g_82)), (q_3, .inl (cA_4, 1549, .inl g_83)), (q_5, .inl (cA_6, 7745, .inl g_84)), (q_7, .inl (cA_8, 1549, .inl g_85)), (q_9, .inl (cA_10, 1549, .inl g_86)), (q_11, .inl (cA_12, 512, .inl g_87)), (q_13, .inl (cA_14, 1549, .inl g_88)), (q_17, .inl (cA_18, 4, .inl f_22))] [(cA_2, .int), (cA_4, .int), (cA_6, .int), (cA_8, .int), (cA_10, .boolean), (cA_12, .int), (cA_14, .int), (cA_18, .int)] s H locs := hw
  refine lv_pop hf.1 hf.2.1 dX3_init_154 rfl ?_
  obtain ⟨x_92, ex_92⟩ : ∃ y : Int32, y = 1 + 1 := ⟨_, rfl⟩
  refine lv_iinc (v := x_92) (lv' := [(2, .int x_92), (1, .ref q_17), (0, .ref h0)]) hf.1 hf.2.1 dX3_init_155 hl (k := 0) rfl (by rw [ex_92]; rfl) (by decide) rfl (fun ls hl => ?_)
  obtain rfl : x_92 = 2 := by rw [ex_92]; decide
  refine lv_goto (tgt := 141) hf.1 hf.2.1 dX3_init_158 (by decide) ?_
  refine lv_iload_n hf.1 hf.2.1 dX3_init_141 rfl (lv_at hl 0 rfl) ?_
  refine lv_iconst (v := 4) hf.1 hf.2.1 dX3_init_142 (by decide) ?_
  refine lv_icmp_gt (tgt := 161) hf.1 hf.2.1 dX3_init_143 (by decide) (fun c_93 => absurd c_93 (by decide)) (fun c_93 => ?_)
  refine lv_aload_n hf.1 hf.2.1 dX3_init_146 rfl (lv_at hl 2 rfl) ?_
  refine lv_aload_n hf.1 hf.2.1 dX3_init_147 rfl (lv_at hl 1 rfl) ?_
  refine lv_iconst (v := 0) hf.1 hf.2.1 dX3_init_148 (by decide) ?_
  refine lv_iload_n hf.1 hf.2.1 dX3_init_149 rfl (lv_at hl 0 rfl) ?_
  refine lv_iconst (v := 2) hf.1 hf.2.1 dX3_init_150 (by decide) ?_
  refine mV_i (As := [.ref q_17, .int 0, .int 2, .int 2]) (rest := []) (wr := []) (tr := []) hf hw (c_functionOf l dC dI h0 q_1 q_3 q_5 q_7 q_9 q_11 q_13 cA_2 cA_4 cA_6 cA_8 cA_10 cA_12 cA_14 g_82 g_83 g_84 g_85 g_86 g_87 g_88 n_81 2 0 2 q_17 cA_18 4 f_22 H.size (by omega) hKhk_89 (by decide)) ka_X3_functionOf kv_X3_functionOf 0 rfl rfl k246 [0, 1, 2, 3, 4, 5, 6, 7, 8] [0, 1, 2, 3, 4, 5, 6, 7] [] [] rfl rfl rfl rfl rfl (by decide) rfl rfl rfl hl.1 rfl rfl ⟨Nat.le_of_ble_eq_true rfl, Nat.le_of_ble_eq_true rfl⟩ (Nat.le_of_ble_eq_true rfl) (ce := 8) (sl := 16006) rfl rfl ⟨Nat.le_of_ble_eq_true rfl, Nat.le_of_ble_eq_true rfl⟩ dX3_init_151 (fun r_103 u_104 hu_104 H locs hw => ?_)
  obtain ⟨n_94, g_95, g_96, g_97, g_98, g_99, g_100, g_101⟩ := u_104
  obtain ⟨hrhk_102, hlohk_102, hhihk_102, hchk_102, hKhk_102⟩ := hu_104
  have hw : Wd dC dI A [(h0, .inr (3, [.int (nI n_94), .ref q_1, .ref q_3, .ref q_5, .ref q_7, .ref q_9, .ref q_11, .ref q_13])), (q_1, .inl (cA_2, 1549, .inl g_95)), (q_3, .inl (cA_4, 1549, .inl g_96)), (q_5, .inl (cA_6, 7745, .inl g_97)), (q_7, .inl (cA_8, 1549, .inl g_98)), (q_9, .inl (cA_10, 1549, .inl g_99)), (q_11, .inl (cA_12, 512, .inl g_100)), (q_13, .inl (cA_14, 1549, .inl g_101)), (q_17, .inl (cA_18, 4, .inl f_22))] [(cA_2, .int), (cA_4, .int), (cA_6, .int), (cA_8, .int), (cA_10, .boolean), (cA_12, .int), (cA_14, .int), (cA_18, .int)] s H locs := hw
  refine lv_pop hf.1 hf.2.1 dX3_init_154 rfl ?_
  obtain ⟨x_105, ex_105⟩ : ∃ y : Int32, y = 2 + 1 := ⟨_, rfl⟩
  refine lv_iinc (v := x_105) (lv' := [(2, .int x_105), (1, .ref q_17), (0, .ref h0)]) hf.1 hf.2.1 dX3_init_155 hl (k := 0) rfl (by rw [ex_105]; rfl) (by decide) rfl (fun ls hl => ?_)
  obtain rfl : x_105 = 3 := by rw [ex_105]; decide
  refine lv_goto (tgt := 141) hf.1 hf.2.1 dX3_init_158 (by decide) ?_
  refine lv_iload_n hf.1 hf.2.1 dX3_init_141 rfl (lv_at hl 0 rfl) ?_
  refine lv_iconst (v := 4) hf.1 hf.2.1 dX3_init_142 (by decide) ?_
  refine lv_icmp_gt (tgt := 161) hf.1 hf.2.1 dX3_init_143 (by decide) (fun c_106 => absurd c_106 (by decide)) (fun c_106 => ?_)
  refine lv_aload_n hf.1 hf.2.1 dX3_init_146 rfl (lv_at hl 2 rfl) ?_
  refine lv_aload_n hf.1 hf.2.1 dX3_init_147 rfl (lv_at hl 1 rfl) ?_
  refine lv_iconst (v := 0) hf.1 hf.2.1 dX3_init_148 (by decide) ?_
  refine lv_iload_n hf.1 hf.2.1 dX3_init_149 rfl (lv_at hl 0 rfl) ?_
  refine lv_iconst (v := 2) hf.1 hf.2.1 dX3_init_150 (by decide) ?_
  refine mV_i (As := [.ref q_17, .int 0, .int 3, .int 2]) (rest := []) (wr := []) (tr := []) hf hw (c_functionOf l dC dI h0 q_1 q_3 q_5 q_7 q_9 q_11 q_13 cA_2 cA_4 cA_6 cA_8 cA_10 cA_12 cA_14 g_95 g_96 g_97 g_98 g_99 g_100 g_101 n_94 3 0 2 q_17 cA_18 4 f_22 H.size (by omega) hKhk_102 (by decide)) ka_X3_functionOf kv_X3_functionOf 0 rfl rfl k246 [0, 1, 2, 3, 4, 5, 6, 7, 8] [0, 1, 2, 3, 4, 5, 6, 7] [] [] rfl rfl rfl rfl rfl (by decide) rfl rfl rfl hl.1 rfl rfl ⟨Nat.le_of_ble_eq_true rfl, Nat.le_of_ble_eq_true rfl⟩ (Nat.le_of_ble_eq_true rfl) (ce := 8) (sl := 16006) rfl rfl ⟨Nat.le_of_ble_eq_true rfl, Nat.le_of_ble_eq_true rfl⟩ dX3_init_151 (fun r_116 u_117 hu_117 H locs hw => ?_)
  obtain ⟨n_107, g_108, g_109, g_110, g_111, g_112, g_113, g_114⟩ := u_117
  obtain ⟨hrhk_115, hlohk_115, hhihk_115, hchk_115, hKhk_115⟩ := hu_117
  have hw : Wd dC dI A [(h0, .inr (3, [.int (nI n_107), .ref q_1, .ref q_3, .ref q_5, .ref q_7, .ref q_9, .ref q_11, .ref q_13])), (q_1, .inl (cA_2, 1549, .inl g_108)), (q_3, .inl (cA_4, 1549, .inl g_109)), (q_5, .inl (cA_6, 7745, .inl g_110)), (q_7, .inl (cA_8, 1549, .inl g_111)), (q_9, .inl (cA_10, 1549, .inl g_112)), (q_11, .inl (cA_12, 512, .inl g_113)), (q_13, .inl (cA_14, 1549, .inl g_114)), (q_17, .inl (cA_18, 4, .inl f_22))] [(cA_2, .int), (cA_4, .int), (cA_6, .int), (cA_8, .int), (cA_10, .boolean), (cA_12, .int), (cA_14, .int), (cA_18, .int)] s H locs := hw
  refine lv_pop hf.1 hf.2.1 dX3_init_154 rfl ?_
  obtain ⟨x_118, ex_118⟩ : ∃ y : Int32, y = 3 + 1 := ⟨_, rfl⟩
  refine lv_iinc (v := x_118) (lv' := [(2, .int x_118), (1, .ref q_17), (0, .ref h0)]) hf.1 hf.2.1 dX3_init_155 hl (k := 0) rfl (by rw [ex_118]; rfl) (by decide) rfl (fun ls hl => ?_)
  obtain rfl : x_118 = 4 := by rw [ex_118]; decide
  refine lv_goto (tgt := 141) hf.1 hf.2.1 dX3_init_158 (by decide) ?_
  refine lv_iload_n hf.1 hf.2.1 dX3_init_141 rfl (lv_at hl 0 rfl) ?_
  refine lv_iconst (v := 4) hf.1 hf.2.1 dX3_init_142 (by decide) ?_
  refine lv_icmp_gt (tgt := 161) hf.1 hf.2.1 dX3_init_143 (by decide) (fun c_119 => absurd c_119 (by decide)) (fun c_119 => ?_)
  refine lv_aload_n hf.1 hf.2.1 dX3_init_146 rfl (lv_at hl 2 rfl) ?_
  refine lv_aload_n hf.1 hf.2.1 dX3_init_147 rfl (lv_at hl 1 rfl) ?_
  refine lv_iconst (v := 0) hf.1 hf.2.1 dX3_init_148 (by decide) ?_
  refine lv_iload_n hf.1 hf.2.1 dX3_init_149 rfl (lv_at hl 0 rfl) ?_
  refine lv_iconst (v := 2) hf.1 hf.2.1 dX3_init_150 (by decide) ?_
  refine mV_i (As := [.ref q_17, .int 0, .int 4, .int 2]) (rest := []) (wr := []) (tr := []) hf hw (c_functionOf l dC dI h0 q_1 q_3 q_5 q_7 q_9 q_11 q_13 cA_2 cA_4 cA_6 cA_8 cA_10 cA_12 cA_14 g_108 g_109 g_110 g_111 g_112 g_113 g_114 n_107 4 0 2 q_17 cA_18 4 f_22 H.size (by omega) hKhk_115 (by decide)) ka_X3_functionOf kv_X3_functionOf 0 rfl rfl k246 [0, 1, 2, 3, 4, 5, 6, 7, 8] [0, 1, 2, 3, 4, 5, 6, 7] [] [] rfl rfl rfl rfl rfl (by decide) rfl rfl rfl hl.1 rfl rfl ⟨Nat.le_of_ble_eq_true rfl, Nat.le_of_ble_eq_true rfl⟩ (Nat.le_of_ble_eq_true rfl) (ce := 8) (sl := 16006) rfl rfl ⟨Nat.le_of_ble_eq_true rfl, Nat.le_of_ble_eq_true rfl⟩ dX3_init_151 (fun r_129 u_130 hu_130 H locs hw => ?_)
  obtain ⟨n_120, g_121, g_122, g_123, g_124, g_125, g_126, g_127⟩ := u_130
  obtain ⟨hrhk_128, hlohk_128, hhihk_128, hchk_128, hKhk_128⟩ := hu_130
  have hw : Wd dC dI A [(h0, .inr (3, [.int (nI n_120), .ref q_1, .ref q_3, .ref q_5, .ref q_7, .ref q_9, .ref q_11, .ref q_13])), (q_1, .inl (cA_2, 1549, .inl g_121)), (q_3, .inl (cA_4, 1549, .inl g_122)), (q_5, .inl (cA_6, 7745, .inl g_123)), (q_7, .inl (cA_8, 1549, .inl g_124)), (q_9, .inl (cA_10, 1549, .inl g_125)), (q_11, .inl (cA_12, 512, .inl g_126)), (q_13, .inl (cA_14, 1549, .inl g_127)), (q_17, .inl (cA_18, 4, .inl f_22))] [(cA_2, .int), (cA_4, .int), (cA_6, .int), (cA_8, .int), (cA_10, .boolean), (cA_12, .int), (cA_14, .int), (cA_18, .int)] s H locs := hw
  refine lv_pop hf.1 hf.2.1 dX3_init_154 rfl ?_
  obtain ⟨x_131, ex_131⟩ : ∃ y : Int32, y = 4 + 1 := ⟨_, rfl⟩
  refine lv_iinc (v := x_131) (lv' := [(2, .int x_131), (1, .ref q_17), (0, .ref h0)]) hf.1 hf.2.1 dX3_init_155 hl (k := 0) rfl (by rw [ex_131]; rfl) (by decide) rfl (fun ls hl => ?_)
  obtain rfl : x_131 = 5 := by rw [ex_131]; decide
  refine lv_goto (tgt := 141) hf.1 hf.2.1 dX3_init_158 (by decide) ?_
  refine lv_iload_n hf.1 hf.2.1 dX3_init_141 rfl (lv_at hl 0 rfl) ?_
  refine lv_iconst (v := 4) hf.1 hf.2.1 dX3_init_142 (by decide) ?_
  refine lv_icmp_gt (tgt := 161) hf.1 hf.2.1 dX3_init_143 (by decide) (fun c_132 => ?_) (fun c_132 => absurd (by decide) c_132)
  exact mret_v hf hr hlk hw (n_120, [.ref q_1, .ref q_3, .ref q_5, .ref q_7, .ref q_9, .ref q_11, .ref q_13]) ⟨by omega, rfl⟩ [0] [] rfl rfl rfl (Nat.le_of_ble_eq_true rfl) (Nat.le_of_ble_eq_true rfl) dX3_init_161
