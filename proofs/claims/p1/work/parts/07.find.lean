theorem dX3_findOrAdd_0 : decode cX3_findOrAdd 0 = .ok (.iload 6, 2) := by decide +kernel
theorem dX3_findOrAdd_2 : decode cX3_findOrAdd 2 = .ok (.invokestatic 60, 3) := by decide +kernel
theorem dX3_findOrAdd_5 : decode cX3_findOrAdd 5 = .ok (.istore 7, 2) := by decide +kernel
theorem dX3_findOrAdd_7 : decode cX3_findOrAdd 7 = .ok (.aload_n 0, 1) := by decide +kernel
theorem dX3_findOrAdd_8 : decode cX3_findOrAdd 8 = .ok (.getfield 28, 3) := by decide +kernel
theorem dX3_findOrAdd_11 : decode cX3_findOrAdd 11 = .ok (.iload 7, 2) := by decide +kernel
theorem dX3_findOrAdd_13 : decode cX3_findOrAdd 13 = .ok (.iaload, 1) := by decide +kernel
theorem dX3_findOrAdd_14 : decode cX3_findOrAdd 14 = .ok (.istore 8, 2) := by decide +kernel
theorem dX3_findOrAdd_16 : decode cX3_findOrAdd 16 = .ok (.iconst 0, 1) := by decide +kernel
theorem dX3_findOrAdd_17 : decode cX3_findOrAdd 17 = .ok (.istore 9, 2) := by decide +kernel
theorem dX3_findOrAdd_19 : decode cX3_findOrAdd 19 = .ok (.iload 9, 2) := by decide +kernel
theorem dX3_findOrAdd_21 : decode cX3_findOrAdd 21 = .ok (.sipush 1549, 3) := by decide +kernel
theorem dX3_findOrAdd_24 : decode cX3_findOrAdd 24 = .ok (.if_icmp .ge 53, 3) := by decide +kernel
theorem dX3_findOrAdd_27 : decode cX3_findOrAdd 27 = .ok (.iload 8, 2) := by decide +kernel
theorem dX3_findOrAdd_29 : decode cX3_findOrAdd 29 = .ok (.iconst (-1), 1) := by decide +kernel
theorem dX3_findOrAdd_30 : decode cX3_findOrAdd 30 = .ok (.if_icmp .eq 47, 3) := by decide +kernel
theorem dX3_findOrAdd_33 : decode cX3_findOrAdd 33 = .ok (.aload_n 0, 1) := by decide +kernel
theorem dX3_findOrAdd_34 : decode cX3_findOrAdd 34 = .ok (.getfield 11, 3) := by decide +kernel
theorem dX3_findOrAdd_37 : decode cX3_findOrAdd 37 = .ok (.iload 8, 2) := by decide +kernel
theorem dX3_findOrAdd_39 : decode cX3_findOrAdd 39 = .ok (.iaload, 1) := by decide +kernel
theorem dX3_findOrAdd_40 : decode cX3_findOrAdd 40 = .ok (.iload_n 1, 1) := by decide +kernel
theorem dX3_findOrAdd_41 : decode cX3_findOrAdd 41 = .ok (.if_icmp .ne 21, 3) := by decide +kernel
theorem dX3_findOrAdd_44 : decode cX3_findOrAdd 44 = .ok (.aload_n 0, 1) := by decide +kernel
theorem dX3_findOrAdd_45 : decode cX3_findOrAdd 45 = .ok (.iload 8, 2) := by decide +kernel
theorem dX3_findOrAdd_47 : decode cX3_findOrAdd 47 = .ok (.iload_n 2, 1) := by decide +kernel
theorem dX3_findOrAdd_48 : decode cX3_findOrAdd 48 = .ok (.aload_n 3, 1) := by decide +kernel
theorem dX3_findOrAdd_49 : decode cX3_findOrAdd 49 = .ok (.iload 4, 2) := by decide +kernel
theorem dX3_findOrAdd_51 : decode cX3_findOrAdd 51 = .ok (.iload 5, 2) := by decide +kernel
theorem dX3_findOrAdd_53 : decode cX3_findOrAdd 53 = .ok (.invokevirtual 66, 3) := by decide +kernel
theorem dX3_findOrAdd_56 : decode cX3_findOrAdd 56 = .ok (.ifCond .eq 6, 3) := by decide +kernel
theorem dX3_findOrAdd_59 : decode cX3_findOrAdd 59 = .ok (.iload 8, 2) := by decide +kernel
theorem dX3_findOrAdd_61 : decode cX3_findOrAdd 61 = .ok (.ireturn, 1) := by decide +kernel
theorem dX3_findOrAdd_62 : decode cX3_findOrAdd 62 = .ok (.aload_n 0, 1) := by decide +kernel
theorem dX3_findOrAdd_63 : decode cX3_findOrAdd 63 = .ok (.getfield 31, 3) := by decide +kernel
theorem dX3_findOrAdd_66 : decode cX3_findOrAdd 66 = .ok (.iload 8, 2) := by decide +kernel
theorem dX3_findOrAdd_68 : decode cX3_findOrAdd 68 = .ok (.iaload, 1) := by decide +kernel
theorem dX3_findOrAdd_69 : decode cX3_findOrAdd 69 = .ok (.istore 8, 2) := by decide +kernel
theorem dX3_findOrAdd_71 : decode cX3_findOrAdd 71 = .ok (.iinc 9 1, 3) := by decide +kernel
theorem dX3_findOrAdd_74 : decode cX3_findOrAdd 74 = .ok (.goto (-55), 3) := by decide +kernel
theorem dX3_findOrAdd_77 : decode cX3_findOrAdd 77 = .ok (.aload_n 0, 1) := by decide +kernel
theorem dX3_findOrAdd_78 : decode cX3_findOrAdd 78 = .ok (.getfield 34, 3) := by decide +kernel
theorem dX3_findOrAdd_81 : decode cX3_findOrAdd 81 = .ok (.sipush 1549, 3) := by decide +kernel
theorem dX3_findOrAdd_84 : decode cX3_findOrAdd 84 = .ok (.if_icmp .lt 5, 3) := by decide +kernel
theorem dX3_findOrAdd_87 : decode cX3_findOrAdd 87 = .ok (.iconst 2, 1) := by decide +kernel
theorem dX3_findOrAdd_88 : decode cX3_findOrAdd 88 = .ok (.ireturn, 1) := by decide +kernel
theorem dX3_findOrAdd_89 : decode cX3_findOrAdd 89 = .ok (.aload_n 0, 1) := by decide +kernel
theorem dX3_findOrAdd_90 : decode cX3_findOrAdd 90 = .ok (.getfield 34, 3) := by decide +kernel
theorem dX3_findOrAdd_93 : decode cX3_findOrAdd 93 = .ok (.istore 8, 2) := by decide +kernel
theorem dX3_findOrAdd_95 : decode cX3_findOrAdd 95 = .ok (.aload_n 0, 1) := by decide +kernel
theorem dX3_findOrAdd_96 : decode cX3_findOrAdd 96 = .ok (.dup, 1) := by decide +kernel
theorem dX3_findOrAdd_97 : decode cX3_findOrAdd 97 = .ok (.getfield 34, 3) := by decide +kernel
theorem dX3_findOrAdd_100 : decode cX3_findOrAdd 100 = .ok (.iconst 1, 1) := by decide +kernel
theorem dX3_findOrAdd_101 : decode cX3_findOrAdd 101 = .ok (.iadd, 1) := by decide +kernel
theorem dX3_findOrAdd_102 : decode cX3_findOrAdd 102 = .ok (.putfield 34, 3) := by decide +kernel
theorem dX3_findOrAdd_105 : decode cX3_findOrAdd 105 = .ok (.aload_n 0, 1) := by decide +kernel
theorem dX3_findOrAdd_106 : decode cX3_findOrAdd 106 = .ok (.getfield 11, 3) := by decide +kernel
theorem dX3_findOrAdd_109 : decode cX3_findOrAdd 109 = .ok (.iload 8, 2) := by decide +kernel
theorem dX3_findOrAdd_111 : decode cX3_findOrAdd 111 = .ok (.iload_n 1, 1) := by decide +kernel
theorem dX3_findOrAdd_112 : decode cX3_findOrAdd 112 = .ok (.iastore, 1) := by decide +kernel
theorem dX3_findOrAdd_113 : decode cX3_findOrAdd 113 = .ok (.aload_n 0, 1) := by decide +kernel
theorem dX3_findOrAdd_114 : decode cX3_findOrAdd 114 = .ok (.getfield 15, 3) := by decide +kernel
theorem dX3_findOrAdd_117 : decode cX3_findOrAdd 117 = .ok (.iload 8, 2) := by decide +kernel
theorem dX3_findOrAdd_119 : decode cX3_findOrAdd 119 = .ok (.iload_n 2, 1) := by decide +kernel
theorem dX3_findOrAdd_120 : decode cX3_findOrAdd 120 = .ok (.iastore, 1) := by decide +kernel
theorem dX3_findOrAdd_121 : decode cX3_findOrAdd 121 = .ok (.aload_n 0, 1) := by decide +kernel
theorem dX3_findOrAdd_122 : decode cX3_findOrAdd 122 = .ok (.getfield 21, 3) := by decide +kernel
theorem dX3_findOrAdd_125 : decode cX3_findOrAdd 125 = .ok (.iload 8, 2) := by decide +kernel
theorem dX3_findOrAdd_127 : decode cX3_findOrAdd 127 = .ok (.iload 6, 2) := by decide +kernel
theorem dX3_findOrAdd_129 : decode cX3_findOrAdd 129 = .ok (.iastore, 1) := by decide +kernel
theorem dX3_findOrAdd_130 : decode cX3_findOrAdd 130 = .ok (.aload_n 0, 1) := by decide +kernel
theorem dX3_findOrAdd_131 : decode cX3_findOrAdd 131 = .ok (.getfield 18, 3) := by decide +kernel
theorem dX3_findOrAdd_134 : decode cX3_findOrAdd 134 = .ok (.iload 8, 2) := by decide +kernel
theorem dX3_findOrAdd_136 : decode cX3_findOrAdd 136 = .ok (.iconst 5, 1) := by decide +kernel
theorem dX3_findOrAdd_137 : decode cX3_findOrAdd 137 = .ok (.imul, 1) := by decide +kernel
theorem dX3_findOrAdd_138 : decode cX3_findOrAdd 138 = .ok (.iconst 4, 1) := by decide +kernel
theorem dX3_findOrAdd_139 : decode cX3_findOrAdd 139 = .ok (.iadd, 1) := by decide +kernel
theorem dX3_findOrAdd_140 : decode cX3_findOrAdd 140 = .ok (.iload 5, 2) := by decide +kernel
theorem dX3_findOrAdd_142 : decode cX3_findOrAdd 142 = .ok (.iastore, 1) := by decide +kernel
theorem dX3_findOrAdd_143 : decode cX3_findOrAdd 143 = .ok (.iload_n 1, 1) := by decide +kernel
theorem dX3_findOrAdd_144 : decode cX3_findOrAdd 144 = .ok (.iconst 2, 1) := by decide +kernel
theorem dX3_findOrAdd_145 : decode cX3_findOrAdd 145 = .ok (.if_icmp .eq 17, 3) := by decide +kernel
theorem dX3_findOrAdd_148 : decode cX3_findOrAdd 148 = .ok (.iload_n 1, 1) := by decide +kernel
theorem dX3_findOrAdd_149 : decode cX3_findOrAdd 149 = .ok (.iconst 3, 1) := by decide +kernel
theorem dX3_findOrAdd_150 : decode cX3_findOrAdd 150 = .ok (.if_icmp .lt 16, 3) := by decide +kernel
theorem dX3_findOrAdd_153 : decode cX3_findOrAdd 153 = .ok (.aload_n 0, 1) := by decide +kernel
theorem dX3_findOrAdd_154 : decode cX3_findOrAdd 154 = .ok (.iload 5, 2) := by decide +kernel
theorem dX3_findOrAdd_156 : decode cX3_findOrAdd 156 = .ok (.invokevirtual 70, 3) := by decide +kernel
theorem dX3_findOrAdd_159 : decode cX3_findOrAdd 159 = .ok (.ifCond .eq 7, 3) := by decide +kernel
theorem dX3_findOrAdd_162 : decode cX3_findOrAdd 162 = .ok (.iconst 1, 1) := by decide +kernel
theorem dX3_findOrAdd_163 : decode cX3_findOrAdd 163 = .ok (.goto 4, 3) := by decide +kernel
theorem dX3_findOrAdd_166 : decode cX3_findOrAdd 166 = .ok (.iconst 0, 1) := by decide +kernel
theorem dX3_findOrAdd_167 : decode cX3_findOrAdd 167 = .ok (.istore 9, 2) := by decide +kernel
theorem dX3_findOrAdd_169 : decode cX3_findOrAdd 169 = .ok (.iconst 0, 1) := by decide +kernel
theorem dX3_findOrAdd_170 : decode cX3_findOrAdd 170 = .ok (.istore 10, 2) := by decide +kernel
theorem dX3_findOrAdd_172 : decode cX3_findOrAdd 172 = .ok (.iload 10, 2) := by decide +kernel
theorem dX3_findOrAdd_174 : decode cX3_findOrAdd 174 = .ok (.iload_n 2, 1) := by decide +kernel
theorem dX3_findOrAdd_175 : decode cX3_findOrAdd 175 = .ok (.if_icmp .ge 54, 3) := by decide +kernel
theorem dX3_findOrAdd_178 : decode cX3_findOrAdd 178 = .ok (.aload_n 0, 1) := by decide +kernel
theorem dX3_findOrAdd_179 : decode cX3_findOrAdd 179 = .ok (.getfield 18, 3) := by decide +kernel
theorem dX3_findOrAdd_182 : decode cX3_findOrAdd 182 = .ok (.iload 8, 2) := by decide +kernel
theorem dX3_findOrAdd_184 : decode cX3_findOrAdd 184 = .ok (.iconst 5, 1) := by decide +kernel
theorem dX3_findOrAdd_185 : decode cX3_findOrAdd 185 = .ok (.imul, 1) := by decide +kernel
theorem dX3_findOrAdd_186 : decode cX3_findOrAdd 186 = .ok (.iload 10, 2) := by decide +kernel
theorem dX3_findOrAdd_188 : decode cX3_findOrAdd 188 = .ok (.iadd, 1) := by decide +kernel
theorem dX3_findOrAdd_189 : decode cX3_findOrAdd 189 = .ok (.aload_n 3, 1) := by decide +kernel
theorem dX3_findOrAdd_190 : decode cX3_findOrAdd 190 = .ok (.iload 4, 2) := by decide +kernel
theorem dX3_findOrAdd_192 : decode cX3_findOrAdd 192 = .ok (.iload 10, 2) := by decide +kernel
theorem dX3_findOrAdd_194 : decode cX3_findOrAdd 194 = .ok (.iadd, 1) := by decide +kernel
theorem dX3_findOrAdd_195 : decode cX3_findOrAdd 195 = .ok (.iaload, 1) := by decide +kernel
theorem dX3_findOrAdd_196 : decode cX3_findOrAdd 196 = .ok (.iastore, 1) := by decide +kernel
theorem dX3_findOrAdd_197 : decode cX3_findOrAdd 197 = .ok (.iload 9, 2) := by decide +kernel
theorem dX3_findOrAdd_199 : decode cX3_findOrAdd 199 = .ok (.ifCond .ne 17, 3) := by decide +kernel
theorem dX3_findOrAdd_202 : decode cX3_findOrAdd 202 = .ok (.aload_n 0, 1) := by decide +kernel
theorem dX3_findOrAdd_203 : decode cX3_findOrAdd 203 = .ok (.aload_n 3, 1) := by decide +kernel
theorem dX3_findOrAdd_204 : decode cX3_findOrAdd 204 = .ok (.iload 4, 2) := by decide +kernel
theorem dX3_findOrAdd_206 : decode cX3_findOrAdd 206 = .ok (.iload 10, 2) := by decide +kernel
theorem dX3_findOrAdd_208 : decode cX3_findOrAdd 208 = .ok (.iadd, 1) := by decide +kernel
theorem dX3_findOrAdd_209 : decode cX3_findOrAdd 209 = .ok (.iaload, 1) := by decide +kernel
theorem dX3_findOrAdd_210 : decode cX3_findOrAdd 210 = .ok (.invokevirtual 70, 3) := by decide +kernel
theorem dX3_findOrAdd_213 : decode cX3_findOrAdd 213 = .ok (.ifCond .eq 7, 3) := by decide +kernel
theorem dX3_findOrAdd_216 : decode cX3_findOrAdd 216 = .ok (.iconst 1, 1) := by decide +kernel
theorem dX3_findOrAdd_217 : decode cX3_findOrAdd 217 = .ok (.goto 4, 3) := by decide +kernel
theorem dX3_findOrAdd_220 : decode cX3_findOrAdd 220 = .ok (.iconst 0, 1) := by decide +kernel
theorem dX3_findOrAdd_221 : decode cX3_findOrAdd 221 = .ok (.istore 9, 2) := by decide +kernel
theorem dX3_findOrAdd_223 : decode cX3_findOrAdd 223 = .ok (.iinc 10 1, 3) := by decide +kernel
theorem dX3_findOrAdd_226 : decode cX3_findOrAdd 226 = .ok (.goto (-54), 3) := by decide +kernel
theorem dX3_findOrAdd_229 : decode cX3_findOrAdd 229 = .ok (.aload_n 0, 1) := by decide +kernel
theorem dX3_findOrAdd_230 : decode cX3_findOrAdd 230 = .ok (.getfield 24, 3) := by decide +kernel
theorem dX3_findOrAdd_233 : decode cX3_findOrAdd 233 = .ok (.iload 8, 2) := by decide +kernel
theorem dX3_findOrAdd_235 : decode cX3_findOrAdd 235 = .ok (.iload 9, 2) := by decide +kernel
theorem dX3_findOrAdd_237 : decode cX3_findOrAdd 237 = .ok (.bastore, 1) := by decide +kernel
theorem dX3_findOrAdd_238 : decode cX3_findOrAdd 238 = .ok (.aload_n 0, 1) := by decide +kernel
theorem dX3_findOrAdd_239 : decode cX3_findOrAdd 239 = .ok (.getfield 31, 3) := by decide +kernel
theorem dX3_findOrAdd_242 : decode cX3_findOrAdd 242 = .ok (.iload 8, 2) := by decide +kernel
theorem dX3_findOrAdd_244 : decode cX3_findOrAdd 244 = .ok (.aload_n 0, 1) := by decide +kernel
theorem dX3_findOrAdd_245 : decode cX3_findOrAdd 245 = .ok (.getfield 28, 3) := by decide +kernel
theorem dX3_findOrAdd_248 : decode cX3_findOrAdd 248 = .ok (.iload 7, 2) := by decide +kernel
theorem dX3_findOrAdd_250 : decode cX3_findOrAdd 250 = .ok (.iaload, 1) := by decide +kernel
theorem dX3_findOrAdd_251 : decode cX3_findOrAdd 251 = .ok (.iastore, 1) := by decide +kernel
theorem dX3_findOrAdd_252 : decode cX3_findOrAdd 252 = .ok (.aload_n 0, 1) := by decide +kernel
theorem dX3_findOrAdd_253 : decode cX3_findOrAdd 253 = .ok (.getfield 28, 3) := by decide +kernel
theorem dX3_findOrAdd_256 : decode cX3_findOrAdd 256 = .ok (.iload 7, 2) := by decide +kernel
theorem dX3_findOrAdd_258 : decode cX3_findOrAdd 258 = .ok (.iload 8, 2) := by decide +kernel
theorem dX3_findOrAdd_260 : decode cX3_findOrAdd 260 = .ok (.iastore, 1) := by decide +kernel
theorem dX3_findOrAdd_261 : decode cX3_findOrAdd 261 = .ok (.iload 8, 2) := by decide +kernel
theorem dX3_findOrAdd_263 : decode cX3_findOrAdd 263 = .ok (.ireturn, 1) := by decide +kernel
theorem k227 : Cond.methodLink "BlameCourt$Kinds" 60 yX3_bucketOf ∈ gtb := gtm (in_tables_1_1 (List.mem_of_getElem? (i := 41) rfl)) rfl
theorem k228 : Cond.static yX3_bucketOf ∈ gtb := gtm (in_tables_1_1 (List.mem_of_getElem? (i := 42) rfl)) rfl
theorem k230 : Cond.methodLink "BlameCourt$Kinds" 66 yX3_isSame ∈ gtb := gtm (in_tables_1_1 (List.mem_of_getElem? (i := 44) rfl)) rfl
theorem k234 : Cond.methodLink "BlameCourt$Kinds" 70 yX3_hasAny ∈ gtb := gtm (in_tables_1_1 (List.mem_of_getElem? (i := 48) rfl)) rfl
theorem k250 : Cond.fieldLink "BlameCourt$Kinds" 11 "BlameCourt$Kinds" "sort" "[I" ∈ gtb := gtm (in_tables_1_1 (List.mem_of_getElem? (i := 64) rfl)) rfl
theorem k255 : Cond.fieldLink "BlameCourt$Kinds" 28 "BlameCourt$Kinds" "bucket" "[I" ∈ gtb := gtm (in_tables_1_1 (List.mem_of_getElem? (i := 69) rfl)) rfl
theorem k256 : Cond.fieldLink "BlameCourt$Kinds" 31 "BlameCourt$Kinds" "nextInBucket" "[I" ∈ gtb := gtm (in_tables_1_1 (List.mem_of_getElem? (i := 70) rfl)) rfl
theorem k226 : Cond.code yX3_findOrAdd cX3_findOrAdd 11 (some .int) ∈ gtb := gtm (in_tables_1_1 (List.mem_of_getElem? (i := 40) rfl)) rfl
theorem ka_X3_findOrAdd : KA yX3_findOrAdd cX3_findOrAdd 11 (some .int) 6 := ⟨k226, k189, by decide, by decide, by decide +kernel⟩
theorem k225 : Cond.instanceMethod yX3_findOrAdd ∈ gtb := gtm (in_tables_1_1 (List.mem_of_getElem? (i := 39) rfl)) rfl
theorem k0 : Cond.selects "BlameCourt$Kinds" yX3_findOrAdd yX3_findOrAdd ∈ gtb := gtm (in_lw_privs_1 (q := (yX3_findOrAdd, 8)) (List.mem_of_getElem? (i := 0) rfl)) rfl
theorem kv_X3_findOrAdd : KV yX3_findOrAdd := ⟨k225, k0⟩
set_option maxHeartbeats 4000000 in
set_option maxRecDepth 100000 in
theorem c_findOrAdd (l : Launch) (dC : Nat → ClassId) (dI : Nat → Nat → Nat) (h0 q1 q2 q3 q4 q5 q6 q7 : Nat) (c1 c2 c3 c4 c5 c6 c7 : ClassId) (f1 f2 f3 f4 f5 f6 f7 : Nat → Int32) (cnt : Nat) (so n fr gi co : Int32) (pr : Nat) (cp : ClassId) (NP : Nat) (fp : Nat → Int32) (sz : Nat) (hc : cnt ≤ 1549) (hK : KI cnt f6 f7) (hn4 : n.toInt ≤ 4) (hfr : 0 ≤ fr.toInt) (hfp : fr.toInt + n.toInt ≤ NP) (hNP : NP < 2147483648) : Met l yX3_findOrAdd (wsOf yX3_findOrAdd cX3_findOrAdd 11 (some .int)) ({ frames := 10, cells := 0, slots := 0, locals := 150 } : Room) (va_Pc [.ref h0, .int so, .int n, .ref pr, .int fr, .int gi, .int co] (PB dC dI sz [(h0, .inr (3, [.int (nI cnt), .ref q1, .ref q2, .ref q3, .ref q4, .ref q5, .ref q6, .ref q7])), (q1, .inl (c1, 1549, .inl f1)), (q2, .inl (c2, 1549, .inl f2)), (q3, .inl (c3, 7745, .inl f3)), (q4, .inl (c4, 1549, .inl f4)), (q5, .inl (c5, 1549, .inl f5)), (q6, .inl (c6, 512, .inl f6)), (q7, .inl (c7, 1549, .inl f7)), (pr, .inl (cp, NP, .inl fp))] [(c1, .int), (c2, .int), (c3, .int), (c4, .int), (c5, .boolean), (c6, .int), (c7, .int), (cp, .int)])) (va_Qi (S := Nat × (Nat → Int32) × (Nat → Int32) × (Nat → Int32) × (Nat → Int32) × (Nat → Int32) × (Nat → Int32) × (Nat → Int32)) (fun r x => (∃ k : Nat, k < 1549 ∧ r = nI k) ∧ cnt ≤ x.1 ∧ x.1 ≤ cnt + 1 ∧ x.1 ≤ 1549 ∧ KI x.1 x.2.2.2.2.2.2.1 x.2.2.2.2.2.2.2) (fun x t => PW dC dI (va_A [(h0, .inr (3, [.int (nI cnt), .ref q1, .ref q2, .ref q3, .ref q4, .ref q5, .ref q6, .ref q7])), (q1, .inl (c1, 1549, .inl f1)), (q2, .inl (c2, 1549, .inl f2)), (q3, .inl (c3, 7745, .inl f3)), (q4, .inl (c4, 1549, .inl f4)), (q5, .inl (c5, 1549, .inl f5)), (q6, .inl (c6, 512, .inl f6)), (q7, .inl (c7, 1549, .inl f7)), (pr, .inl (cp, NP, .inl fp))] sz) ([(h0, .inr (3, [.int (nI x.1), .ref q1, .ref q2, .ref q3, .ref q4, .ref q5, .ref q6, .ref q7])), (q1, .inl (c1, 1549, .inl x.2.1)), (q2, .inl (c2, 1549, .inl x.2.2.1)), (q3, .inl (c3, 7745, .inl x.2.2.2.1)), (q4, .inl (c4, 1549, .inl x.2.2.2.2.1)), (q5, .inl (c5, 1549, .inl x.2.2.2.2.2.1)), (q6, .inl (c6, 512, .inl x.2.2.2.2.2.2.1)), (q7, .inl (c7, 1549, .inl x.2.2.2.2.2.2.2)), (pr, .inl (cp, NP, .inl fp))]) ([(c1, .int), (c2, .int), (c3, .int), (c4, .int), (c5, .boolean), (c6, .int), (c7, .int), (cp, .int)]) t) (va_A [(h0, .inr (3, [.int (nI cnt), .ref q1, .ref q2, .ref q3, .ref q4, .ref q5, .ref q6, .ref q7])), (q1, .inl (c1, 1549, .inl f1)), (q2, .inl (c2, 1549, .inl f2)), (q3, .inl (c3, 7745, .inl f3)), (q4, .inl (c4, 1549, .inl f4)), (q5, .inl (c5, 1549, .inl f5)), (q6, .inl (c6, 512, .inl f6)), (q7, .inl (c7, 1549, .inl f7)), (pr, .inl (cp, NP, .inl fp))] sz)) 0 0 (va_A [(h0, .inr (3, [.int (nI cnt), .ref q1, .ref q2, .ref q3, .ref q4, .ref q5, .ref q6, .ref q7])), (q1, .inl (c1, 1549, .inl f1)), (q2, .inl (c2, 1549, .inl f2)), (q3, .inl (c3, 7745, .inl f3)), (q4, .inl (c4, 1549, .inl f4)), (q5, .inl (c5, 1549, .inl f5)), (q6, .inl (c6, 512, .inl f6)), (q7, .inl (c7, 1549, .inl f7)), (pr, .inl (cp, NP, .inl fp))] sz) := by
  refine mbody (y := yX3_findOrAdd) (av := [.ref h0, .int so, .int n, .ref pr, .int fr, .int gi, .int co]) (b := cX3_findOrAdd) (n := 11) (ret := (some .int)) (Qc := fun A => (va_Qi (S := Nat × (Nat → Int32) × (Nat → Int32) × (Nat → Int32) × (Nat → Int32) × (Nat → Int32) × (Nat → Int32) × (Nat → Int32)) (fun r x => (∃ k : Nat, k < 1549 ∧ r = nI k) ∧ cnt ≤ x.1 ∧ x.1 ≤ cnt + 1 ∧ x.1 ≤ 1549 ∧ KI x.1 x.2.2.2.2.2.2.1 x.2.2.2.2.2.2.2) (fun x t => PW dC dI A ([(h0, .inr (3, [.int (nI x.1), .ref q1, .ref q2, .ref q3, .ref q4, .ref q5, .ref q6, .ref q7])), (q1, .inl (c1, 1549, .inl x.2.1)), (q2, .inl (c2, 1549, .inl x.2.2.1)), (q3, .inl (c3, 7745, .inl x.2.2.2.1)), (q4, .inl (c4, 1549, .inl x.2.2.2.2.1)), (q5, .inl (c5, 1549, .inl x.2.2.2.2.2.1)), (q6, .inl (c6, 512, .inl x.2.2.2.2.2.2.1)), (q7, .inl (c7, 1549, .inl x.2.2.2.2.2.2.2)), (pr, .inl (cp, NP, .inl fp))]) ([(c1, .int), (c2, .int), (c3, .int), (c4, .int), (c5, .boolean), (c6, .int), (c7, .int), (cp, .int)]) t) A)) (by decide) (Nat.le_of_ble_eq_true rfl) ?_
  intro p e s m below meth c ls A H hf hr hin hlk hw hl
  have hl : lv_has ls 11 [(0, .ref h0), (1, .int so), (2, .int n), (3, .ref pr), (4, .int fr), (5, .int gi), (6, .int co)] := hl
  refine lv_iload hf.1 hf.2.1 dX3_findOrAdd_0 (lv_at hl 6 rfl) ?_
  refine mS_i (As := [.int co]) (rest := []) (wr := [(h0, .inr (3, [.int (nI cnt), .ref q1, .ref q2, .ref q3, .ref q4, .ref q5, .ref q6, .ref q7])), (q1, .inl (c1, 1549, .inl f1)), (q2, .inl (c2, 1549, .inl f2)), (q3, .inl (c3, 7745, .inl f3)), (q4, .inl (c4, 1549, .inl f4)), (q5, .inl (c5, 1549, .inl f5)), (q6, .inl (c6, 512, .inl f6)), (q7, .inl (c7, 1549, .inl f7)), (pr, .inl (cp, NP, .inl fp))]) (tr := [(c1, .int), (c2, .int), (c3, .int), (c4, .int), (c5, .boolean), (c6, .int), (c7, .int), (cp, .int)]) hf hw (c_bucketOf l dC dI co H.size) ka_X3_bucketOf k228 k227 [] [] [0, 1, 2, 3, 4, 5, 6, 7, 8] [0, 1, 2, 3, 4, 5, 6, 7] rfl rfl rfl rfl rfl (by decide) rfl rfl rfl hl.1 rfl rfl ⟨Nat.le_of_ble_eq_true rfl, Nat.le_of_ble_eq_true rfl⟩ (Nat.le_of_ble_eq_true rfl) (ce := 0) (sl := 0) rfl rfl ⟨Nat.le_of_ble_eq_true rfl, Nat.le_of_ble_eq_true rfl⟩ dX3_findOrAdd_2 (fun r_1 u_2 hu_2 H locs hw => ?_)
  have hw : Wd dC dI A [(h0, .inr (3, [.int (nI cnt), .ref q1, .ref q2, .ref q3, .ref q4, .ref q5, .ref q6, .ref q7])), (q1, .inl (c1, 1549, .inl f1)), (q2, .inl (c2, 1549, .inl f2)), (q3, .inl (c3, 7745, .inl f3)), (q4, .inl (c4, 1549, .inl f4)), (q5, .inl (c5, 1549, .inl f5)), (q6, .inl (c6, 512, .inl f6)), (q7, .inl (c7, 1549, .inl f7)), (pr, .inl (cp, NP, .inl fp))] [(c1, .int), (c2, .int), (c3, .int), (c4, .int), (c5, .boolean), (c6, .int), (c7, .int), (cp, .int)] s H locs := hw
  obtain ⟨b, hb, rfl⟩ := hu_2
  have hw := hw.pick (ws' := [(h0, .inr (3, [.int (nI cnt), .ref q1, .ref q2, .ref q3, .ref q4, .ref q5, .ref q6, .ref q7])), (q1, .inl (c1, 1549, .inl f1)), (q2, .inl (c2, 1549, .inl f2)), (q3, .inl (c3, 7745, .inl f3)), (q4, .inl (c4, 1549, .inl f4)), (q5, .inl (c5, 1549, .inl f5)), (q6, .inl (c6, 512, .inl f6)), (q7, .inl (c7, 1549, .inl f7)), (pr, .inl (cp, NP, .inl fp))]) (tys' := [(c1, .int), (c2, .int), (c3, .int), (c4, .int), (c5, .boolean), (c6, .int), (c7, .int), (cp, .int)]) [0, 1, 2, 3, 4, 5, 6, 7, 8] [0, 1, 2, 3, 4, 5, 6, 7] rfl rfl rfl
  refine lv_istore (lv' := [(7, .int (nI b)), (0, .ref h0), (1, .int so), (2, .int n), (3, .ref pr), (4, .int fr), (5, .int gi), (6, .int co)]) hf.1 hf.2.1 dX3_findOrAdd_5 hl (by decide) rfl (fun ls hl => ?_)
  refine lv_aload_n hf.1 hf.2.1 dX3_findOrAdd_7 rfl (lv_at hl 1 rfl) ?_
  refine mget hf hw iX3 0 rfl rfl 6 (by decide) k255 rfl dX3_findOrAdd_8 ?_
  refine lv_iload hf.1 hf.2.1 dX3_findOrAdd_11 (lv_at hl 0 rfl) ?_
  refine miald hf hw 6 5 rfl rfl (vp_in_nI hb (by decide)) dX3_findOrAdd_13 ?_
  refine lv_topi (fun x_3 ex_3 => ?_)
  have hkd : kiv cnt x_3 := by rw [ex_3, nI_tc (by omega)]; exact hK.1 b hb
  refine lv_istore (lv' := [(8, .int x_3), (7, .int (nI b)), (0, .ref h0), (1, .int so), (2, .int n), (3, .ref pr), (4, .int fr), (5, .int gi), (6, .int co)]) hf.1 hf.2.1 dX3_findOrAdd_14 hl (by decide) rfl (fun ls hl => ?_)
  refine lv_iconst (v := 0) hf.1 hf.2.1 dX3_findOrAdd_16 (by decide) ?_
  refine lv_istore (lv' := [(9, .int 0), (8, .int x_3), (7, .int (nI b)), (0, .ref h0), (1, .int so), (2, .int n), (3, .ref pr), (4, .int fr), (5, .int gi), (6, .int co)]) hf.1 hf.2.1 dX3_findOrAdd_17 hl (by decide) rfl (fun ls hl => ?_)
  have J77 : ∀ (xi kd : Int32) (H : Heap) (locs : List Loc) (ls : Array Slot), Wd dC dI A [(h0, .inr (3, [.int (nI cnt), .ref q1, .ref q2, .ref q3, .ref q4, .ref q5, .ref q6, .ref q7])), (q1, .inl (c1, 1549, .inl f1)), (q2, .inl (c2, 1549, .inl f2)), (q3, .inl (c3, 7745, .inl f3)), (q4, .inl (c4, 1549, .inl f4)), (q5, .inl (c5, 1549, .inl f5)), (q6, .inl (c6, 512, .inl f6)), (q7, .inl (c7, 1549, .inl f7)), (pr, .inl (cp, NP, .inl fp))] [(c1, .int), (c2, .int), (c3, .int), (c4, .int), (c5, .boolean), (c6, .int), (c7, .int), (cp, .int)] s H locs → lv_has ls 11 [(9, .int xi), (8, .int kd), (7, .int (nI b)), (0, .ref h0), (1, .int so), (2, .int n), (3, .ref pr), (4, .int fr), (5, .int gi), (6, .int co)] → W p l e ({ frames := 10, cells := 0, slots := 0, locals := 150 } : Room) s m [.ref h0, .int so, .int n, .ref pr, .int fr, .int gi, .int co].toArray below meth c H locs 0 0 (MQ below (va_Qi (S := Nat × (Nat → Int32) × (Nat → Int32) × (Nat → Int32) × (Nat → Int32) × (Nat → Int32) × (Nat → Int32) × (Nat → Int32)) (fun r x => (∃ k : Nat, k < 1549 ∧ r = nI k) ∧ cnt ≤ x.1 ∧ x.1 ≤ cnt + 1 ∧ x.1 ≤ 1549 ∧ KI x.1 x.2.2.2.2.2.2.1 x.2.2.2.2.2.2.2) (fun x t => PW dC dI A ([(h0, .inr (3, [.int (nI x.1), .ref q1, .ref q2, .ref q3, .ref q4, .ref q5, .ref q6, .ref q7])), (q1, .inl (c1, 1549, .inl x.2.1)), (q2, .inl (c2, 1549, .inl x.2.2.1)), (q3, .inl (c3, 7745, .inl x.2.2.2.1)), (q4, .inl (c4, 1549, .inl x.2.2.2.2.1)), (q5, .inl (c5, 1549, .inl x.2.2.2.2.2.1)), (q6, .inl (c6, 512, .inl x.2.2.2.2.2.2.1)), (q7, .inl (c7, 1549, .inl x.2.2.2.2.2.2.2)), (pr, .inl (cp, NP, .inl fp))]) ([(c1, .int), (c2, .int), (c3, .int), (c4, .int), (c5, .boolean), (c6, .int), (c7, .int), (cp, .int)]) t) A) [.ref h0, .int so, .int n, .ref pr, .int fr, .int gi, .int co].toArray s 0 0 A) (F0 m 77 ls []) := by
    intro xi kd H locs ls  hw hl
    refine lv_aload_n hf.1 hf.2.1 dX3_findOrAdd_77 rfl (lv_at hl 3 rfl) ?_
    refine mget hf hw iX3 0 rfl rfl 0 (by decide) k257 rfl dX3_findOrAdd_78 ?_
    refine lv_sipush (v := 1549) hf.1 hf.2.1 dX3_findOrAdd_81 (by decide) ?_
    refine lv_icmp_lt (tgt := 89) hf.1 hf.2.1 dX3_findOrAdd_84 (by decide) (fun c_4 => ?_) (fun c_4 => ?_)
    · have hlt : cnt < 1549 := (nI_ltI (by omega) (by decide)).mp c_4
      refine lv_aload_n hf.1 hf.2.1 dX3_findOrAdd_89 rfl (lv_at hl 3 rfl) ?_
      refine mget hf hw iX3 0 rfl rfl 0 (by decide) k257 rfl dX3_findOrAdd_90 ?_
      refine lv_istore (lv' := [(8, .int (nI cnt)), (9, .int xi), (7, .int (nI b)), (0, .ref h0), (1, .int so), (2, .int n), (3, .ref pr), (4, .int fr), (5, .int gi), (6, .int co)]) hf.1 hf.2.1 dX3_findOrAdd_93 hl (by decide) rfl (fun ls hl => ?_)
      refine lv_aload_n hf.1 hf.2.1 dX3_findOrAdd_95 rfl (lv_at hl 3 rfl) ?_
      refine lv_dup hf.1 hf.2.1 dX3_findOrAdd_96 rfl ?_
      refine mget hf hw iX3 0 rfl rfl 0 (by decide) k257 rfl dX3_findOrAdd_97 ?_
      refine lv_iconst (v := 1) hf.1 hf.2.1 dX3_findOrAdd_100 (by decide) ?_
      refine lv_iadd hf.1 hf.2.1 dX3_findOrAdd_101 ?_
      refine lv_topi (fun x_5 ex_5 => ?_)
      obtain rfl : x_5 = nI (cnt + 1) := by rw [ex_5, nI_1]
      refine mput hf hw iX3 tyX3 tyX3_ok nmX3 0 rfl rfl 0 (by decide) k257 rfl rfl rfl (Nat.le_of_ble_eq_true rfl) (ws' := [(h0, .inr (3, [.int (nI (cnt + 1)), .ref q1, .ref q2, .ref q3, .ref q4, .ref q5, .ref q6, .ref q7])), (q1, .inl (c1, 1549, .inl f1)), (q2, .inl (c2, 1549, .inl f2)), (q3, .inl (c3, 7745, .inl f3)), (q4, .inl (c4, 1549, .inl f4)), (q5, .inl (c5, 1549, .inl f5)), (q6, .inl (c6, 512, .inl f6)), (q7, .inl (c7, 1549, .inl f7)), (pr, .inl (cp, NP, .inl fp))]) rfl dX3_findOrAdd_102 (fun H locs hw => ?_)
      refine lv_aload_n hf.1 hf.2.1 dX3_findOrAdd_105 rfl (lv_at hl 3 rfl) ?_
      refine mget hf hw iX3 0 rfl rfl 1 (by decide) k250 rfl dX3_findOrAdd_106 ?_
      refine lv_iload hf.1 hf.2.1 dX3_findOrAdd_109 (lv_at hl 0 rfl) ?_
      refine lv_iload_n hf.1 hf.2.1 dX3_findOrAdd_111 rfl (lv_at hl 4 rfl) ?_
      refine miast hf hw 1 0 rfl rfl (vp_in_nI hlt (by decide)) dX3_findOrAdd_112 (fun f_6 ef_6 H locs hw => ?_)
      have hw : Wd dC dI A [(h0, .inr (3, [.int (nI (cnt + 1)), .ref q1, .ref q2, .ref q3, .ref q4, .ref q5, .ref q6, .ref q7])), (q1, .inl (c1, 1549, .inl f_6)), (q2, .inl (c2, 1549, .inl f2)), (q3, .inl (c3, 7745, .inl f3)), (q4, .inl (c4, 1549, .inl f4)), (q5, .inl (c5, 1549, .inl f5)), (q6, .inl (c6, 512, .inl f6)), (q7, .inl (c7, 1549, .inl f7)), (pr, .inl (cp, NP, .inl fp))] [(c1, .int), (c2, .int), (c3, .int), (c4, .int), (c5, .boolean), (c6, .int), (c7, .int), (cp, .int)] s H locs := hw
      refine lv_aload_n hf.1 hf.2.1 dX3_findOrAdd_113 rfl (lv_at hl 3 rfl) ?_
      refine mget hf hw iX3 0 rfl rfl 2 (by decide) k251 rfl dX3_findOrAdd_114 ?_
      refine lv_iload hf.1 hf.2.1 dX3_findOrAdd_117 (lv_at hl 0 rfl) ?_
      refine lv_iload_n hf.1 hf.2.1 dX3_findOrAdd_119 rfl (lv_at hl 5 rfl) ?_
      refine miast hf hw 2 1 rfl rfl (vp_in_nI hlt (by decide)) dX3_findOrAdd_120 (fun f_7 ef_7 H locs hw => ?_)
      have hw : Wd dC dI A [(h0, .inr (3, [.int (nI (cnt + 1)), .ref q1, .ref q2, .ref q3, .ref q4, .ref q5, .ref q6, .ref q7])), (q1, .inl (c1, 1549, .inl f_6)), (q2, .inl (c2, 1549, .inl f_7)), (q3, .inl (c3, 7745, .inl f3)), (q4, .inl (c4, 1549, .inl f4)), (q5, .inl (c5, 1549, .inl f5)), (q6, .inl (c6, 512, .inl f6)), (q7, .inl (c7, 1549, .inl f7)), (pr, .inl (cp, NP, .inl fp))] [(c1, .int), (c2, .int), (c3, .int), (c4, .int), (c5, .boolean), (c6, .int), (c7, .int), (cp, .int)] s H locs := hw
      refine lv_aload_n hf.1 hf.2.1 dX3_findOrAdd_121 rfl (lv_at hl 3 rfl) ?_
      refine mget hf hw iX3 0 rfl rfl 4 (by decide) k253 rfl dX3_findOrAdd_122 ?_
      refine lv_iload hf.1 hf.2.1 dX3_findOrAdd_125 (lv_at hl 0 rfl) ?_
      refine lv_iload hf.1 hf.2.1 dX3_findOrAdd_127 (lv_at hl 9 rfl) ?_
      refine miast hf hw 4 3 rfl rfl (vp_in_nI hlt (by decide)) dX3_findOrAdd_129 (fun f_8 ef_8 H locs hw => ?_)
      have hw : Wd dC dI A [(h0, .inr (3, [.int (nI (cnt + 1)), .ref q1, .ref q2, .ref q3, .ref q4, .ref q5, .ref q6, .ref q7])), (q1, .inl (c1, 1549, .inl f_6)), (q2, .inl (c2, 1549, .inl f_7)), (q3, .inl (c3, 7745, .inl f3)), (q4, .inl (c4, 1549, .inl f_8)), (q5, .inl (c5, 1549, .inl f5)), (q6, .inl (c6, 512, .inl f6)), (q7, .inl (c7, 1549, .inl f7)), (pr, .inl (cp, NP, .inl fp))] [(c1, .int), (c2, .int), (c3, .int), (c4, .int), (c5, .boolean), (c6, .int), (c7, .int), (cp, .int)] s H locs := hw
      refine lv_aload_n hf.1 hf.2.1 dX3_findOrAdd_130 rfl (lv_at hl 3 rfl) ?_
      refine mget hf hw iX3 0 rfl rfl 3 (by decide) k252 rfl dX3_findOrAdd_131 ?_
      refine lv_iload hf.1 hf.2.1 dX3_findOrAdd_134 (lv_at hl 0 rfl) ?_
      refine lv_iconst (v := 5) hf.1 hf.2.1 dX3_findOrAdd_136 (by decide) ?_
      refine lv_imul hf.1 hf.2.1 dX3_findOrAdd_137 ?_
      refine lv_topi (fun x_9 ex_9 => ?_)
      obtain rfl : x_9 = nI (cnt * 5) := by rw [ex_9]; exact nI_mul cnt 5
      refine lv_iconst (v := 4) hf.1 hf.2.1 dX3_findOrAdd_138 (by decide) ?_
      refine lv_iadd hf.1 hf.2.1 dX3_findOrAdd_139 ?_
      refine lv_topi (fun x_10 ex_10 => ?_)
      obtain rfl : x_10 = nI (cnt * 5 + 4) := by rw [ex_10]; exact nI_add _ 4
      refine lv_iload hf.1 hf.2.1 dX3_findOrAdd_140 (lv_at hl 8 rfl) ?_
      refine miast hf hw 3 2 rfl rfl (vp_in_nI (by omega) (by decide)) dX3_findOrAdd_142 (fun f_11 ef_11 H locs hw => ?_)
      have hw : Wd dC dI A [(h0, .inr (3, [.int (nI (cnt + 1)), .ref q1, .ref q2, .ref q3, .ref q4, .ref q5, .ref q6, .ref q7])), (q1, .inl (c1, 1549, .inl f_6)), (q2, .inl (c2, 1549, .inl f_7)), (q3, .inl (c3, 7745, .inl f_11)), (q4, .inl (c4, 1549, .inl f_8)), (q5, .inl (c5, 1549, .inl f5)), (q6, .inl (c6, 512, .inl f6)), (q7, .inl (c7, 1549, .inl f7)), (pr, .inl (cp, NP, .inl fp))] [(c1, .int), (c2, .int), (c3, .int), (c4, .int), (c5, .boolean), (c6, .int), (c7, .int), (cp, .int)] s H locs := hw
      refine lv_iload_n hf.1 hf.2.1 dX3_findOrAdd_143 rfl (lv_at hl 4 rfl) ?_
      refine lv_iconst (v := 2) hf.1 hf.2.1 dX3_findOrAdd_144 (by decide) ?_
      have J229 : ∀ (xa any : Int32) (g3 : Nat → Int32) (H : Heap) (locs : List Loc) (ls : Array Slot), Wd dC dI A [(h0, .inr (3, [.int (nI (cnt + 1)), .ref q1, .ref q2, .ref q3, .ref q4, .ref q5, .ref q6, .ref q7])), (q1, .inl (c1, 1549, .inl f_6)), (q2, .inl (c2, 1549, .inl f_7)), (q3, .inl (c3, 7745, .inl g3)), (q4, .inl (c4, 1549, .inl f_8)), (q5, .inl (c5, 1549, .inl f5)), (q6, .inl (c6, 512, .inl f6)), (q7, .inl (c7, 1549, .inl f7)), (pr, .inl (cp, NP, .inl fp))] [(c1, .int), (c2, .int), (c3, .int), (c4, .int), (c5, .boolean), (c6, .int), (c7, .int), (cp, .int)] s H locs → lv_has ls 11 [(10, .int xa), (9, .int any), (7, .int (nI b)), (8, .int (nI cnt)), (0, .ref h0), (1, .int so), (2, .int n), (3, .ref pr), (4, .int fr), (5, .int gi), (6, .int co)] → W p l e ({ frames := 10, cells := 0, slots := 0, locals := 150 } : Room) s m [.ref h0, .int so, .int n, .ref pr, .int fr, .int gi, .int co].toArray below meth c H locs 0 0 (MQ below (va_Qi (S := Nat × (Nat → Int32) × (Nat → Int32) × (Nat → Int32) × (Nat → Int32) × (Nat → Int32) × (Nat → Int32) × (Nat → Int32)) (fun r x => (∃ k : Nat, k < 1549 ∧ r = nI k) ∧ cnt ≤ x.1 ∧ x.1 ≤ cnt + 1 ∧ x.1 ≤ 1549 ∧ KI x.1 x.2.2.2.2.2.2.1 x.2.2.2.2.2.2.2) (fun x t => PW dC dI A ([(h0, .inr (3, [.int (nI x.1), .ref q1, .ref q2, .ref q3, .ref q4, .ref q5, .ref q6, .ref q7])), (q1, .inl (c1, 1549, .inl x.2.1)), (q2, .inl (c2, 1549, .inl x.2.2.1)), (q3, .inl (c3, 7745, .inl x.2.2.2.1)), (q4, .inl (c4, 1549, .inl x.2.2.2.2.1)), (q5, .inl (c5, 1549, .inl x.2.2.2.2.2.1)), (q6, .inl (c6, 512, .inl x.2.2.2.2.2.2.1)), (q7, .inl (c7, 1549, .inl x.2.2.2.2.2.2.2)), (pr, .inl (cp, NP, .inl fp))]) ([(c1, .int), (c2, .int), (c3, .int), (c4, .int), (c5, .boolean), (c6, .int), (c7, .int), (cp, .int)]) t) A) [.ref h0, .int so, .int n, .ref pr, .int fr, .int gi, .int co].toArray s 0 0 A) (F0 m 229 ls []) := by
        intro xa any g3 H locs ls  hw hl
        refine lv_aload_n hf.1 hf.2.1 dX3_findOrAdd_229 rfl (lv_at hl 4 rfl) ?_
        refine mget hf hw iX3 0 rfl rfl 5 (by decide) k254 rfl dX3_findOrAdd_230 ?_
        refine lv_iload hf.1 hf.2.1 dX3_findOrAdd_233 (lv_at hl 3 rfl) ?_
        refine lv_iload hf.1 hf.2.1 dX3_findOrAdd_235 (lv_at hl 1 rfl) ?_
        refine mzast hf hw 5 4 rfl rfl (vp_in_nI hlt (by decide)) dX3_findOrAdd_237 (fun f_12 ef_12 H locs hw => ?_)
        have hw : Wd dC dI A [(h0, .inr (3, [.int (nI (cnt + 1)), .ref q1, .ref q2, .ref q3, .ref q4, .ref q5, .ref q6, .ref q7])), (q1, .inl (c1, 1549, .inl f_6)), (q2, .inl (c2, 1549, .inl f_7)), (q3, .inl (c3, 7745, .inl g3)), (q4, .inl (c4, 1549, .inl f_8)), (q5, .inl (c5, 1549, .inl f_12)), (q6, .inl (c6, 512, .inl f6)), (q7, .inl (c7, 1549, .inl f7)), (pr, .inl (cp, NP, .inl fp))] [(c1, .int), (c2, .int), (c3, .int), (c4, .int), (c5, .boolean), (c6, .int), (c7, .int), (cp, .int)] s H locs := hw
        refine lv_aload_n hf.1 hf.2.1 dX3_findOrAdd_238 rfl (lv_at hl 4 rfl) ?_
        refine mget hf hw iX3 0 rfl rfl 7 (by decide) k256 rfl dX3_findOrAdd_239 ?_
        refine lv_iload hf.1 hf.2.1 dX3_findOrAdd_242 (lv_at hl 3 rfl) ?_
        refine lv_aload_n hf.1 hf.2.1 dX3_findOrAdd_244 rfl (lv_at hl 4 rfl) ?_
        refine mget hf hw iX3 0 rfl rfl 6 (by decide) k255 rfl dX3_findOrAdd_245 ?_
        refine lv_iload hf.1 hf.2.1 dX3_findOrAdd_248 (lv_at hl 2 rfl) ?_
        refine miald hf hw 6 5 rfl rfl (vp_in_nI hb (by decide)) dX3_findOrAdd_250 ?_
        refine lv_topi (fun x_13 ex_13 => ?_)
        refine miast hf hw 7 6 rfl rfl (vp_in_nI hlt (by decide)) dX3_findOrAdd_251 (fun f_14 ef_14 H locs hw => ?_)
        have hw : Wd dC dI A [(h0, .inr (3, [.int (nI (cnt + 1)), .ref q1, .ref q2, .ref q3, .ref q4, .ref q5, .ref q6, .ref q7])), (q1, .inl (c1, 1549, .inl f_6)), (q2, .inl (c2, 1549, .inl f_7)), (q3, .inl (c3, 7745, .inl g3)), (q4, .inl (c4, 1549, .inl f_8)), (q5, .inl (c5, 1549, .inl f_12)), (q6, .inl (c6, 512, .inl f6)), (q7, .inl (c7, 1549, .inl f_14)), (pr, .inl (cp, NP, .inl fp))] [(c1, .int), (c2, .int), (c3, .int), (c4, .int), (c5, .boolean), (c6, .int), (c7, .int), (cp, .int)] s H locs := hw
        refine lv_aload_n hf.1 hf.2.1 dX3_findOrAdd_252 rfl (lv_at hl 4 rfl) ?_
        refine mget hf hw iX3 0 rfl rfl 6 (by decide) k255 rfl dX3_findOrAdd_253 ?_
        refine lv_iload hf.1 hf.2.1 dX3_findOrAdd_256 (lv_at hl 2 rfl) ?_
        refine lv_iload hf.1 hf.2.1 dX3_findOrAdd_258 (lv_at hl 3 rfl) ?_
        refine miast hf hw 6 5 rfl rfl (vp_in_nI hb (by decide)) dX3_findOrAdd_260 (fun f_15 ef_15 H locs hw => ?_)
        have hw : Wd dC dI A [(h0, .inr (3, [.int (nI (cnt + 1)), .ref q1, .ref q2, .ref q3, .ref q4, .ref q5, .ref q6, .ref q7])), (q1, .inl (c1, 1549, .inl f_6)), (q2, .inl (c2, 1549, .inl f_7)), (q3, .inl (c3, 7745, .inl g3)), (q4, .inl (c4, 1549, .inl f_8)), (q5, .inl (c5, 1549, .inl f_12)), (q6, .inl (c6, 512, .inl f_15)), (q7, .inl (c7, 1549, .inl f_14)), (pr, .inl (cp, NP, .inl fp))] [(c1, .int), (c2, .int), (c3, .int), (c4, .int), (c5, .boolean), (c6, .int), (c7, .int), (cp, .int)] s H locs := hw
        refine lv_iload hf.1 hf.2.1 dX3_findOrAdd_261 (lv_at hl 3 rfl) ?_
        have hK2 : KI (cnt + 1) f_15 f_14 := by
          rw [ef_15, ef_14, ex_13, nI_tc (by omega), nI_tc (by omega)]
          exact hK.ins hb
        exact mret_i (v := (nI cnt)) hf hr hlk hw (cnt + 1, f_6, f_7, g3, f_8, f_12, f_15, f_14) ⟨⟨cnt, hlt, rfl⟩, Nat.le_succ _, Nat.le_refl _, hlt, hK2⟩ [0, 1, 2, 3, 4, 5, 6, 7, 8] [0, 1, 2, 3, 4, 5, 6, 7] rfl rfl rfl (Nat.le_of_ble_eq_true rfl) (Nat.le_of_ble_eq_true rfl) dX3_findOrAdd_263
      have loop2 : ∀ (N : Nat) (j : Nat) (any : Int32) (g3 : Nat → Int32) (H : Heap) (locs : List Loc) (ls : Array Slot), 5 - j < N → (j : Int) ≤ 4 → Wd dC dI A [(h0, .inr (3, [.int (nI (cnt + 1)), .ref q1, .ref q2, .ref q3, .ref q4, .ref q5, .ref q6, .ref q7])), (q1, .inl (c1, 1549, .inl f_6)), (q2, .inl (c2, 1549, .inl f_7)), (q3, .inl (c3, 7745, .inl g3)), (q4, .inl (c4, 1549, .inl f_8)), (q5, .inl (c5, 1549, .inl f5)), (q6, .inl (c6, 512, .inl f6)), (q7, .inl (c7, 1549, .inl f7)), (pr, .inl (cp, NP, .inl fp))] [(c1, .int), (c2, .int), (c3, .int), (c4, .int), (c5, .boolean), (c6, .int), (c7, .int), (cp, .int)] s H locs → lv_has ls 11 [(10, .int (nI j)), (9, .int any), (7, .int (nI b)), (8, .int (nI cnt)), (0, .ref h0), (1, .int so), (2, .int n), (3, .ref pr), (4, .int fr), (5, .int gi), (6, .int co)] → W p l e ({ frames := 10, cells := 0, slots := 0, locals := 150 } : Room) s m [.ref h0, .int so, .int n, .ref pr, .int fr, .int gi, .int co].toArray below meth c H locs 0 0 (MQ below (va_Qi (S := Nat × (Nat → Int32) × (Nat → Int32) × (Nat → Int32) × (Nat → Int32) × (Nat → Int32) × (Nat → Int32) × (Nat → Int32)) (fun r x => (∃ k : Nat, k < 1549 ∧ r = nI k) ∧ cnt ≤ x.1 ∧ x.1 ≤ cnt + 1 ∧ x.1 ≤ 1549 ∧ KI x.1 x.2.2.2.2.2.2.1 x.2.2.2.2.2.2.2) (fun x t => PW dC dI A ([(h0, .inr (3, [.int (nI x.1), .ref q1, .ref q2, .ref q3, .ref q4, .ref q5, .ref q6, .ref q7])), (q1, .inl (c1, 1549, .inl x.2.1)), (q2, .inl (c2, 1549, .inl x.2.2.1)), (q3, .inl (c3, 7745, .inl x.2.2.2.1)), (q4, .inl (c4, 1549, .inl x.2.2.2.2.1)), (q5, .inl (c5, 1549, .inl x.2.2.2.2.2.1)), (q6, .inl (c6, 512, .inl x.2.2.2.2.2.2.1)), (q7, .inl (c7, 1549, .inl x.2.2.2.2.2.2.2)), (pr, .inl (cp, NP, .inl fp))]) ([(c1, .int), (c2, .int), (c3, .int), (c4, .int), (c5, .boolean), (c6, .int), (c7, .int), (cp, .int)]) t) A) [.ref h0, .int so, .int n, .ref pr, .int fr, .int gi, .int co].toArray s 0 0 A) (F0 m 172 ls []) := by
        intro N
        induction N with
        | zero => intro j any g3 H locs ls hm; exact absurd hm (Nat.not_lt_zero _)
        | succ N ih =>
          intro j any g3 H locs ls hm hj4 hw hl
          refine lv_iload hf.1 hf.2.1 dX3_findOrAdd_172 (lv_at hl 0 rfl) ?_
          refine lv_iload_n hf.1 hf.2.1 dX3_findOrAdd_174 rfl (lv_at hl 6 rfl) ?_
          refine lv_icmp_ge (tgt := 229) hf.1 hf.2.1 dX3_findOrAdd_175 (by decide) (fun c_16 => ?_) (fun c_16 => ?_)
          · exact J229 (nI j) any g3 _ _ _  hw (lv_sub hl [0, 1, 2, 3, 4, 5, 6, 7, 8, 9, 10] rfl)
          · have hj : (j : Int) < n.toInt := nI_lt_lit (by omega) (Int32.not_le.mp c_16)
            refine lv_aload_n hf.1 hf.2.1 dX3_findOrAdd_178 rfl (lv_at hl 4 rfl) ?_
            refine mget hf hw iX3 0 rfl rfl 3 (by decide) k252 rfl dX3_findOrAdd_179 ?_
            refine lv_iload hf.1 hf.2.1 dX3_findOrAdd_182 (lv_at hl 3 rfl) ?_
            refine lv_iconst (v := 5) hf.1 hf.2.1 dX3_findOrAdd_184 (by decide) ?_
            refine lv_imul hf.1 hf.2.1 dX3_findOrAdd_185 ?_
            refine lv_topi (fun x_17 ex_17 => ?_)
            obtain rfl : x_17 = nI (cnt * 5) := by rw [ex_17]; exact nI_mul cnt 5
            refine lv_iload hf.1 hf.2.1 dX3_findOrAdd_186 (lv_at hl 0 rfl) ?_
            refine lv_iadd hf.1 hf.2.1 dX3_findOrAdd_188 ?_
            refine lv_topi (fun x_18 ex_18 => ?_)
            obtain rfl : x_18 = nI (cnt * 5 + j) := by rw [ex_18]; exact nI_add _ j
            refine lv_aload_n hf.1 hf.2.1 dX3_findOrAdd_189 rfl (lv_at hl 7 rfl) ?_
            refine lv_iload hf.1 hf.2.1 dX3_findOrAdd_190 (lv_at hl 8 rfl) ?_
            refine lv_iload hf.1 hf.2.1 dX3_findOrAdd_192 (lv_at hl 0 rfl) ?_
            refine lv_iadd hf.1 hf.2.1 dX3_findOrAdd_194 ?_
            refine lv_topi (fun x_19 ex_19 => ?_)
            refine miald hf hw 8 7 rfl rfl (by rw [ex_19]; exact vp_in_add hfr (by omega) hNP) dX3_findOrAdd_195 ?_
            refine lv_topi (fun x_20 ex_20 => ?_)
            refine miast hf hw 3 2 rfl rfl (vp_in_nI (by omega) (by decide)) dX3_findOrAdd_196 (fun f_21 ef_21 H locs hw => ?_)
            have hw : Wd dC dI A [(h0, .inr (3, [.int (nI (cnt + 1)), .ref q1, .ref q2, .ref q3, .ref q4, .ref q5, .ref q6, .ref q7])), (q1, .inl (c1, 1549, .inl f_6)), (q2, .inl (c2, 1549, .inl f_7)), (q3, .inl (c3, 7745, .inl f_21)), (q4, .inl (c4, 1549, .inl f_8)), (q5, .inl (c5, 1549, .inl f5)), (q6, .inl (c6, 512, .inl f6)), (q7, .inl (c7, 1549, .inl f7)), (pr, .inl (cp, NP, .inl fp))] [(c1, .int), (c2, .int), (c3, .int), (c4, .int), (c5, .boolean), (c6, .int), (c7, .int), (cp, .int)] s H locs := hw
            refine lv_iload hf.1 hf.2.1 dX3_findOrAdd_197 (lv_at hl 1 rfl) ?_
            have J221 : ∀ (av : Int32) (H : Heap) (locs : List Loc) (ls : Array Slot), Wd dC dI A [(h0, .inr (3, [.int (nI (cnt + 1)), .ref q1, .ref q2, .ref q3, .ref q4, .ref q5, .ref q6, .ref q7])), (q1, .inl (c1, 1549, .inl f_6)), (q2, .inl (c2, 1549, .inl f_7)), (q3, .inl (c3, 7745, .inl f_21)), (q4, .inl (c4, 1549, .inl f_8)), (q5, .inl (c5, 1549, .inl f5)), (q6, .inl (c6, 512, .inl f6)), (q7, .inl (c7, 1549, .inl f7)), (pr, .inl (cp, NP, .inl fp))] [(c1, .int), (c2, .int), (c3, .int), (c4, .int), (c5, .boolean), (c6, .int), (c7, .int), (cp, .int)] s H locs → lv_has ls 11 [(10, .int (nI j)), (9, .int any), (7, .int (nI b)), (8, .int (nI cnt)), (0, .ref h0), (1, .int so), (2, .int n), (3, .ref pr), (4, .int fr), (5, .int gi), (6, .int co)] → W p l e ({ frames := 10, cells := 0, slots := 0, locals := 150 } : Room) s m [.ref h0, .int so, .int n, .ref pr, .int fr, .int gi, .int co].toArray below meth c H locs 0 0 (MQ below (va_Qi (S := Nat × (Nat → Int32) × (Nat → Int32) × (Nat → Int32) × (Nat → Int32) × (Nat → Int32) × (Nat → Int32) × (Nat → Int32)) (fun r x => (∃ k : Nat, k < 1549 ∧ r = nI k) ∧ cnt ≤ x.1 ∧ x.1 ≤ cnt + 1 ∧ x.1 ≤ 1549 ∧ KI x.1 x.2.2.2.2.2.2.1 x.2.2.2.2.2.2.2) (fun x t => PW dC dI A ([(h0, .inr (3, [.int (nI x.1), .ref q1, .ref q2, .ref q3, .ref q4, .ref q5, .ref q6, .ref q7])), (q1, .inl (c1, 1549, .inl x.2.1)), (q2, .inl (c2, 1549, .inl x.2.2.1)), (q3, .inl (c3, 7745, .inl x.2.2.2.1)), (q4, .inl (c4, 1549, .inl x.2.2.2.2.1)), (q5, .inl (c5, 1549, .inl x.2.2.2.2.2.1)), (q6, .inl (c6, 512, .inl x.2.2.2.2.2.2.1)), (q7, .inl (c7, 1549, .inl x.2.2.2.2.2.2.2)), (pr, .inl (cp, NP, .inl fp))]) ([(c1, .int), (c2, .int), (c3, .int), (c4, .int), (c5, .boolean), (c6, .int), (c7, .int), (cp, .int)]) t) A) [.ref h0, .int so, .int n, .ref pr, .int fr, .int gi, .int co].toArray s 0 0 A) (F0 m 221 ls [.int av]) := by
              intro av H locs ls  hw hl
              refine lv_istore (lv' := [(9, .int av), (10, .int (nI j)), (7, .int (nI b)), (8, .int (nI cnt)), (0, .ref h0), (1, .int so), (2, .int n), (3, .ref pr), (4, .int fr), (5, .int gi), (6, .int co)]) hf.1 hf.2.1 dX3_findOrAdd_221 hl (by decide) rfl (fun ls hl => ?_)
              obtain ⟨x_22, ex_22⟩ : ∃ y : Int32, y = (nI j) + 1 := ⟨_, rfl⟩
              refine lv_iinc (v := x_22) (lv' := [(10, .int x_22), (9, .int av), (7, .int (nI b)), (8, .int (nI cnt)), (0, .ref h0), (1, .int so), (2, .int n), (3, .ref pr), (4, .int fr), (5, .int gi), (6, .int co)]) hf.1 hf.2.1 dX3_findOrAdd_223 hl (k := 1) rfl (by rw [ex_22]; rfl) (by decide) rfl (fun ls hl => ?_)
              obtain rfl : x_22 = nI (j + 1) := by rw [ex_22, nI_1]
              refine lv_goto (tgt := 172) hf.1 hf.2.1 dX3_findOrAdd_226 (by decide) ?_
              exact ih (j + 1) av f_21 _ _ _ (by omega) (by omega) hw (lv_sub hl [0, 1, 2, 3, 4, 5, 6, 7, 8, 9, 10] rfl)
            refine lv_if_ne (tgt := 216) hf.1 hf.2.1 dX3_findOrAdd_199 (by decide) (fun c_23 => ?_) (fun c_23 => ?_)
            · refine lv_iconst (v := 1) hf.1 hf.2.1 dX3_findOrAdd_216 (by decide) ?_
              refine lv_goto (tgt := 221) hf.1 hf.2.1 dX3_findOrAdd_217 (by decide) ?_
              exact J221 _ _ _ _ hw (lv_sub hl [0, 1, 2, 3, 4, 5, 6, 7, 8, 9, 10] rfl)
            · refine lv_aload_n hf.1 hf.2.1 dX3_findOrAdd_202 rfl (lv_at hl 4 rfl) ?_
              refine lv_aload_n hf.1 hf.2.1 dX3_findOrAdd_203 rfl (lv_at hl 7 rfl) ?_
              refine lv_iload hf.1 hf.2.1 dX3_findOrAdd_204 (lv_at hl 8 rfl) ?_
              refine lv_iload hf.1 hf.2.1 dX3_findOrAdd_206 (lv_at hl 0 rfl) ?_
              refine lv_iadd hf.1 hf.2.1 dX3_findOrAdd_208 ?_
              refine lv_topi (fun x_24 ex_24 => ?_)
              refine miald hf hw 8 7 rfl rfl (by rw [ex_24]; exact vp_in_add hfr (by omega) hNP) dX3_findOrAdd_209 ?_
              refine lv_topi (fun x_25 ex_25 => ?_)
              refine mV_i (As := [.int x_25]) (rest := []) (wr := [(q1, .inl (c1, 1549, .inl f_6)), (q2, .inl (c2, 1549, .inl f_7)), (q3, .inl (c3, 7745, .inl f_21)), (q4, .inl (c4, 1549, .inl f_8)), (q6, .inl (c6, 512, .inl f6)), (q7, .inl (c7, 1549, .inl f7)), (pr, .inl (cp, NP, .inl fp))]) (tr := [(c1, .int), (c2, .int), (c3, .int), (c4, .int), (c6, .int), (c7, .int), (cp, .int)]) hf hw (c_hasAny l dC dI h0 q1 q2 q3 q4 q5 q6 q7 c5 f5 (cnt + 1) x_25 H.size hlt) ka_X3_hasAny kv_X3_hasAny 0 rfl rfl k234 [0, 5] [4] [1, 2, 3, 4, 6, 7, 8] [0, 1, 2, 3, 5, 6, 7] rfl rfl rfl rfl rfl (by decide) rfl rfl rfl hl.1 rfl rfl ⟨Nat.le_of_ble_eq_true rfl, Nat.le_of_ble_eq_true rfl⟩ (Nat.le_of_ble_eq_true rfl) (ce := 0) (sl := 0) rfl rfl ⟨Nat.le_of_ble_eq_true rfl, Nat.le_of_ble_eq_true rfl⟩ dX3_findOrAdd_210 (fun r_26 u_27 hu_27 H locs hw => ?_)
              have hw : Wd dC dI A [(q1, .inl (c1, 1549, .inl f_6)), (q2, .inl (c2, 1549, .inl f_7)), (q3, .inl (c3, 7745, .inl f_21)), (q4, .inl (c4, 1549, .inl f_8)), (q6, .inl (c6, 512, .inl f6)), (q7, .inl (c7, 1549, .inl f7)), (pr, .inl (cp, NP, .inl fp)), (h0, .inr (3, [.int (nI (cnt + 1)), .ref q1, .ref q2, .ref q3, .ref q4, .ref q5, .ref q6, .ref q7])), (q5, .inl (c5, 1549, .inl f5))] [(c1, .int), (c2, .int), (c3, .int), (c4, .int), (c6, .int), (c7, .int), (cp, .int), (c5, .boolean)] s H locs := hw
              have hw := hw.pick (ws' := [(h0, .inr (3, [.int (nI (cnt + 1)), .ref q1, .ref q2, .ref q3, .ref q4, .ref q5, .ref q6, .ref q7])), (q1, .inl (c1, 1549, .inl f_6)), (q2, .inl (c2, 1549, .inl f_7)), (q3, .inl (c3, 7745, .inl f_21)), (q4, .inl (c4, 1549, .inl f_8)), (q5, .inl (c5, 1549, .inl f5)), (q6, .inl (c6, 512, .inl f6)), (q7, .inl (c7, 1549, .inl f7)), (pr, .inl (cp, NP, .inl fp))]) (tys' := [(c1, .int), (c2, .int), (c3, .int), (c4, .int), (c5, .boolean), (c6, .int), (c7, .int), (cp, .int)]) [7, 0, 1, 2, 3, 8, 4, 5, 6] [0, 1, 2, 3, 7, 4, 5, 6] rfl rfl rfl
              refine lv_if_eq (tgt := 220) hf.1 hf.2.1 dX3_findOrAdd_213 (by decide) (fun c_28 => ?_) (fun c_28 => ?_)
              · refine lv_iconst (v := 0) hf.1 hf.2.1 dX3_findOrAdd_220 (by decide) ?_
                exact J221 _ _ _ _ hw (lv_sub hl [0, 1, 2, 3, 4, 5, 6, 7, 8, 9, 10] rfl)
              · refine lv_iconst (v := 1) hf.1 hf.2.1 dX3_findOrAdd_216 (by decide) ?_
                refine lv_goto (tgt := 221) hf.1 hf.2.1 dX3_findOrAdd_217 (by decide) ?_
                exact J221 _ _ _ _ hw (lv_sub hl [0, 1, 2, 3, 4, 5, 6, 7, 8, 9, 10] rfl)
      have J167 : ∀ (v : Int32) (H : Heap) (locs : List Loc) (ls : Array Slot), Wd dC dI A [(h0, .inr (3, [.int (nI (cnt + 1)), .ref q1, .ref q2, .ref q3, .ref q4, .ref q5, .ref q6, .ref q7])), (q1, .inl (c1, 1549, .inl f_6)), (q2, .inl (c2, 1549, .inl f_7)), (q3, .inl (c3, 7745, .inl f_11)), (q4, .inl (c4, 1549, .inl f_8)), (q5, .inl (c5, 1549, .inl f5)), (q6, .inl (c6, 512, .inl f6)), (q7, .inl (c7, 1549, .inl f7)), (pr, .inl (cp, NP, .inl fp))] [(c1, .int), (c2, .int), (c3, .int), (c4, .int), (c5, .boolean), (c6, .int), (c7, .int), (cp, .int)] s H locs → lv_has ls 11 [(8, .int (nI cnt)), (9, .int xi), (7, .int (nI b)), (0, .ref h0), (1, .int so), (2, .int n), (3, .ref pr), (4, .int fr), (5, .int gi), (6, .int co)] → W p l e ({ frames := 10, cells := 0, slots := 0, locals := 150 } : Room) s m [.ref h0, .int so, .int n, .ref pr, .int fr, .int gi, .int co].toArray below meth c H locs 0 0 (MQ below (va_Qi (S := Nat × (Nat → Int32) × (Nat → Int32) × (Nat → Int32) × (Nat → Int32) × (Nat → Int32) × (Nat → Int32) × (Nat → Int32)) (fun r x => (∃ k : Nat, k < 1549 ∧ r = nI k) ∧ cnt ≤ x.1 ∧ x.1 ≤ cnt + 1 ∧ x.1 ≤ 1549 ∧ KI x.1 x.2.2.2.2.2.2.1 x.2.2.2.2.2.2.2) (fun x t => PW dC dI A ([(h0, .inr (3, [.int (nI x.1), .ref q1, .ref q2, .ref q3, .ref q4, .ref q5, .ref q6, .ref q7])), (q1, .inl (c1, 1549, .inl x.2.1)), (q2, .inl (c2, 1549, .inl x.2.2.1)), (q3, .inl (c3, 7745, .inl x.2.2.2.1)), (q4, .inl (c4, 1549, .inl x.2.2.2.2.1)), (q5, .inl (c5, 1549, .inl x.2.2.2.2.2.1)), (q6, .inl (c6, 512, .inl x.2.2.2.2.2.2.1)), (q7, .inl (c7, 1549, .inl x.2.2.2.2.2.2.2)), (pr, .inl (cp, NP, .inl fp))]) ([(c1, .int), (c2, .int), (c3, .int), (c4, .int), (c5, .boolean), (c6, .int), (c7, .int), (cp, .int)]) t) A) [.ref h0, .int so, .int n, .ref pr, .int fr, .int gi, .int co].toArray s 0 0 A) (F0 m 167 ls [.int v]) := by
        intro v H locs ls  hw hl
        refine lv_istore (lv' := [(9, .int v), (8, .int (nI cnt)), (7, .int (nI b)), (0, .ref h0), (1, .int so), (2, .int n), (3, .ref pr), (4, .int fr), (5, .int gi), (6, .int co)]) hf.1 hf.2.1 dX3_findOrAdd_167 hl (by decide) rfl (fun ls hl => ?_)
        refine lv_iconst (v := 0) hf.1 hf.2.1 dX3_findOrAdd_169 (by decide) ?_
        refine lv_istore (lv' := [(10, .int 0), (9, .int v), (8, .int (nI cnt)), (7, .int (nI b)), (0, .ref h0), (1, .int so), (2, .int n), (3, .ref pr), (4, .int fr), (5, .int gi), (6, .int co)]) hf.1 hf.2.1 dX3_findOrAdd_170 hl (by decide) rfl (fun ls hl => ?_)
        exact loop2 6 0 v _ _ _ _ (by omega) (by omega) hw (lv_sub hl [0, 1, 3, 2, 4, 5, 6, 7, 8, 9, 10] rfl)
      refine lv_icmp_eq (tgt := 162) hf.1 hf.2.1 dX3_findOrAdd_145 (by decide) (fun c_29 => ?_) (fun c_29 => ?_)
      · refine lv_iconst (v := 1) hf.1 hf.2.1 dX3_findOrAdd_162 (by decide) ?_
        refine lv_goto (tgt := 167) hf.1 hf.2.1 dX3_findOrAdd_163 (by decide) ?_
        exact J167 _ _ _ _ hw (lv_sub hl [0, 1, 2, 3, 4, 5, 6, 7, 8, 9] rfl)
      · refine lv_iload_n hf.1 hf.2.1 dX3_findOrAdd_148 rfl (lv_at hl 4 rfl) ?_
        refine lv_iconst (v := 3) hf.1 hf.2.1 dX3_findOrAdd_149 (by decide) ?_
        refine lv_icmp_lt (tgt := 166) hf.1 hf.2.1 dX3_findOrAdd_150 (by decide) (fun c_30 => ?_) (fun c_30 => ?_)
        · refine lv_iconst (v := 0) hf.1 hf.2.1 dX3_findOrAdd_166 (by decide) ?_
          exact J167 _ _ _ _ hw (lv_sub hl [0, 1, 2, 3, 4, 5, 6, 7, 8, 9] rfl)
        · refine lv_aload_n hf.1 hf.2.1 dX3_findOrAdd_153 rfl (lv_at hl 3 rfl) ?_
          refine lv_iload hf.1 hf.2.1 dX3_findOrAdd_154 (lv_at hl 8 rfl) ?_
          refine mV_i (As := [.int gi]) (rest := []) (wr := [(q1, .inl (c1, 1549, .inl f_6)), (q2, .inl (c2, 1549, .inl f_7)), (q3, .inl (c3, 7745, .inl f_11)), (q4, .inl (c4, 1549, .inl f_8)), (q6, .inl (c6, 512, .inl f6)), (q7, .inl (c7, 1549, .inl f7)), (pr, .inl (cp, NP, .inl fp))]) (tr := [(c1, .int), (c2, .int), (c3, .int), (c4, .int), (c6, .int), (c7, .int), (cp, .int)]) hf hw (c_hasAny l dC dI h0 q1 q2 q3 q4 q5 q6 q7 c5 f5 (cnt + 1) gi H.size hlt) ka_X3_hasAny kv_X3_hasAny 0 rfl rfl k234 [0, 5] [4] [1, 2, 3, 4, 6, 7, 8] [0, 1, 2, 3, 5, 6, 7] rfl rfl rfl rfl rfl (by decide) rfl rfl rfl hl.1 rfl rfl ⟨Nat.le_of_ble_eq_true rfl, Nat.le_of_ble_eq_true rfl⟩ (Nat.le_of_ble_eq_true rfl) (ce := 0) (sl := 0) rfl rfl ⟨Nat.le_of_ble_eq_true rfl, Nat.le_of_ble_eq_true rfl⟩ dX3_findOrAdd_156 (fun r_31 u_32 hu_32 H locs hw => ?_)
          have hw : Wd dC dI A [(q1, .inl (c1, 1549, .inl f_6)), (q2, .inl (c2, 1549, .inl f_7)), (q3, .inl (c3, 7745, .inl f_11)), (q4, .inl (c4, 1549, .inl f_8)), (q6, .inl (c6, 512, .inl f6)), (q7, .inl (c7, 1549, .inl f7)), (pr, .inl (cp, NP, .inl fp)), (h0, .inr (3, [.int (nI (cnt + 1)), .ref q1, .ref q2, .ref q3, .ref q4, .ref q5, .ref q6, .ref q7])), (q5, .inl (c5, 1549, .inl f5))] [(c1, .int), (c2, .int), (c3, .int), (c4, .int), (c6, .int), (c7, .int), (cp, .int), (c5, .boolean)] s H locs := hw
          have hw := hw.pick (ws' := [(h0, .inr (3, [.int (nI (cnt + 1)), .ref q1, .ref q2, .ref q3, .ref q4, .ref q5, .ref q6, .ref q7])), (q1, .inl (c1, 1549, .inl f_6)), (q2, .inl (c2, 1549, .inl f_7)), (q3, .inl (c3, 7745, .inl f_11)), (q4, .inl (c4, 1549, .inl f_8)), (q5, .inl (c5, 1549, .inl f5)), (q6, .inl (c6, 512, .inl f6)), (q7, .inl (c7, 1549, .inl f7)), (pr, .inl (cp, NP, .inl fp))]) (tys' := [(c1, .int), (c2, .int), (c3, .int), (c4, .int), (c5, .boolean), (c6, .int), (c7, .int), (cp, .int)]) [7, 0, 1, 2, 3, 8, 4, 5, 6] [0, 1, 2, 3, 7, 4, 5, 6] rfl rfl rfl
          refine lv_if_eq (tgt := 166) hf.1 hf.2.1 dX3_findOrAdd_159 (by decide) (fun c_33 => ?_) (fun c_33 => ?_)
          · refine lv_iconst (v := 0) hf.1 hf.2.1 dX3_findOrAdd_166 (by decide) ?_
            exact J167 _ _ _ _ hw (lv_sub hl [0, 1, 2, 3, 4, 5, 6, 7, 8, 9] rfl)
          · refine lv_iconst (v := 1) hf.1 hf.2.1 dX3_findOrAdd_162 (by decide) ?_
            refine lv_goto (tgt := 167) hf.1 hf.2.1 dX3_findOrAdd_163 (by decide) ?_
            exact J167 _ _ _ _ hw (lv_sub hl [0, 1, 2, 3, 4, 5, 6, 7, 8, 9] rfl)
    · refine lv_iconst (v := 2) hf.1 hf.2.1 dX3_findOrAdd_87 (by decide) ?_
      exact mret_i (v := 2) hf hr hlk hw (cnt, f1, f2, f3, f4, f5, f6, f7) ⟨⟨2, by decide, rfl⟩, Nat.le_refl _, Nat.le_succ _, hc, hK⟩ [0, 1, 2, 3, 4, 5, 6, 7, 8] [0, 1, 2, 3, 4, 5, 6, 7] rfl rfl rfl (Nat.le_of_ble_eq_true rfl) (Nat.le_of_ble_eq_true rfl) dX3_findOrAdd_88
  have loop1 : ∀ (N : Nat) (i : Nat) (kd : Int32) (H : Heap) (locs : List Loc) (ls : Array Slot), 1549 - i < N → kiv cnt kd → i ≤ 1549 → Wd dC dI A [(h0, .inr (3, [.int (nI cnt), .ref q1, .ref q2, .ref q3, .ref q4, .ref q5, .ref q6, .ref q7])), (q1, .inl (c1, 1549, .inl f1)), (q2, .inl (c2, 1549, .inl f2)), (q3, .inl (c3, 7745, .inl f3)), (q4, .inl (c4, 1549, .inl f4)), (q5, .inl (c5, 1549, .inl f5)), (q6, .inl (c6, 512, .inl f6)), (q7, .inl (c7, 1549, .inl f7)), (pr, .inl (cp, NP, .inl fp))] [(c1, .int), (c2, .int), (c3, .int), (c4, .int), (c5, .boolean), (c6, .int), (c7, .int), (cp, .int)] s H locs → lv_has ls 11 [(9, .int (nI i)), (8, .int kd), (7, .int (nI b)), (0, .ref h0), (1, .int so), (2, .int n), (3, .ref pr), (4, .int fr), (5, .int gi), (6, .int co)] → W p l e ({ frames := 10, cells := 0, slots := 0, locals := 150 } : Room) s m [.ref h0, .int so, .int n, .ref pr, .int fr, .int gi, .int co].toArray below meth c H locs 0 0 (MQ below (va_Qi (S := Nat × (Nat → Int32) × (Nat → Int32) × (Nat → Int32) × (Nat → Int32) × (Nat → Int32) × (Nat → Int32) × (Nat → Int32)) (fun r x => (∃ k : Nat, k < 1549 ∧ r = nI k) ∧ cnt ≤ x.1 ∧ x.1 ≤ cnt + 1 ∧ x.1 ≤ 1549 ∧ KI x.1 x.2.2.2.2.2.2.1 x.2.2.2.2.2.2.2) (fun x t => PW dC dI A ([(h0, .inr (3, [.int (nI x.1), .ref q1, .ref q2, .ref q3, .ref q4, .ref q5, .ref q6, .ref q7])), (q1, .inl (c1, 1549, .inl x.2.1)), (q2, .inl (c2, 1549, .inl x.2.2.1)), (q3, .inl (c3, 7745, .inl x.2.2.2.1)), (q4, .inl (c4, 1549, .inl x.2.2.2.2.1)), (q5, .inl (c5, 1549, .inl x.2.2.2.2.2.1)), (q6, .inl (c6, 512, .inl x.2.2.2.2.2.2.1)), (q7, .inl (c7, 1549, .inl x.2.2.2.2.2.2.2)), (pr, .inl (cp, NP, .inl fp))]) ([(c1, .int), (c2, .int), (c3, .int), (c4, .int), (c5, .boolean), (c6, .int), (c7, .int), (cp, .int)]) t) A) [.ref h0, .int so, .int n, .ref pr, .int fr, .int gi, .int co].toArray s 0 0 A) (F0 m 19 ls []) := by
    intro N
    induction N with
    | zero => intro i kd H locs ls hm; exact absurd hm (Nat.not_lt_zero _)
    | succ N ih =>
      intro i kd H locs ls hm hv hi4 hw hl
      refine lv_iload hf.1 hf.2.1 dX3_findOrAdd_19 (lv_at hl 0 rfl) ?_
      refine lv_sipush (v := 1549) hf.1 hf.2.1 dX3_findOrAdd_21 (by decide) ?_
      refine lv_icmp_ge (tgt := 77) hf.1 hf.2.1 dX3_findOrAdd_24 (by decide) (fun c_34 => ?_) (fun c_34 => ?_)
      · exact J77 (nI i) kd _ _ _  hw (lv_sub hl [0, 1, 2, 3, 4, 5, 6, 7, 8, 9] rfl)
      · have hi : i < 1549 := (nI_ltI (by omega) (by decide)).mp (Int32.not_le.mp c_34)
        refine lv_iload hf.1 hf.2.1 dX3_findOrAdd_27 (lv_at hl 1 rfl) ?_
        refine lv_iconst (v := (-1)) hf.1 hf.2.1 dX3_findOrAdd_29 (by decide) ?_
        refine lv_icmp_eq (tgt := 77) hf.1 hf.2.1 dX3_findOrAdd_30 (by decide) (fun c_35 => ?_) (fun c_35 => ?_)
        · exact J77 (nI i) kd _ _ _  hw (lv_sub hl [0, 1, 2, 3, 4, 5, 6, 7, 8, 9] rfl)
        · obtain ⟨k, hk, rfl⟩ : ∃ k : Nat, k < cnt ∧ kd = nI k := hv.resolve_left c_35
          have J62 : ∀ (H : Heap) (locs : List Loc) (ls : Array Slot), Wd dC dI A [(h0, .inr (3, [.int (nI cnt), .ref q1, .ref q2, .ref q3, .ref q4, .ref q5, .ref q6, .ref q7])), (q1, .inl (c1, 1549, .inl f1)), (q2, .inl (c2, 1549, .inl f2)), (q3, .inl (c3, 7745, .inl f3)), (q4, .inl (c4, 1549, .inl f4)), (q5, .inl (c5, 1549, .inl f5)), (q6, .inl (c6, 512, .inl f6)), (q7, .inl (c7, 1549, .inl f7)), (pr, .inl (cp, NP, .inl fp))] [(c1, .int), (c2, .int), (c3, .int), (c4, .int), (c5, .boolean), (c6, .int), (c7, .int), (cp, .int)] s H locs → lv_has ls 11 [(9, .int (nI i)), (8, .int (nI k)), (7, .int (nI b)), (0, .ref h0), (1, .int so), (2, .int n), (3, .ref pr), (4, .int fr), (5, .int gi), (6, .int co)] → W p l e ({ frames := 10, cells := 0, slots := 0, locals := 150 } : Room) s m [.ref h0, .int so, .int n, .ref pr, .int fr, .int gi, .int co].toArray below meth c H locs 0 0 (MQ below (va_Qi (S := Nat × (Nat → Int32) × (Nat → Int32) × (Nat → Int32) × (Nat → Int32) × (Nat → Int32) × (Nat → Int32) × (Nat → Int32)) (fun r x => (∃ k : Nat, k < 1549 ∧ r = nI k) ∧ cnt ≤ x.1 ∧ x.1 ≤ cnt + 1 ∧ x.1 ≤ 1549 ∧ KI x.1 x.2.2.2.2.2.2.1 x.2.2.2.2.2.2.2) (fun x t => PW dC dI A ([(h0, .inr (3, [.int (nI x.1), .ref q1, .ref q2, .ref q3, .ref q4, .ref q5, .ref q6, .ref q7])), (q1, .inl (c1, 1549, .inl x.2.1)), (q2, .inl (c2, 1549, .inl x.2.2.1)), (q3, .inl (c3, 7745, .inl x.2.2.2.1)), (q4, .inl (c4, 1549, .inl x.2.2.2.2.1)), (q5, .inl (c5, 1549, .inl x.2.2.2.2.2.1)), (q6, .inl (c6, 512, .inl x.2.2.2.2.2.2.1)), (q7, .inl (c7, 1549, .inl x.2.2.2.2.2.2.2)), (pr, .inl (cp, NP, .inl fp))]) ([(c1, .int), (c2, .int), (c3, .int), (c4, .int), (c5, .boolean), (c6, .int), (c7, .int), (cp, .int)]) t) A) [.ref h0, .int so, .int n, .ref pr, .int fr, .int gi, .int co].toArray s 0 0 A) (F0 m 62 ls []) := by
            intro  H locs ls  hw hl
            refine lv_aload_n hf.1 hf.2.1 dX3_findOrAdd_62 rfl (lv_at hl 3 rfl) ?_
            refine mget hf hw iX3 0 rfl rfl 7 (by decide) k256 rfl dX3_findOrAdd_63 ?_
            refine lv_iload hf.1 hf.2.1 dX3_findOrAdd_66 (lv_at hl 1 rfl) ?_
            refine miald hf hw 7 6 rfl rfl (vp_in_nI (by omega) (by decide)) dX3_findOrAdd_68 ?_
            refine lv_topi (fun x_36 ex_36 => ?_)
            have hz : kiv cnt x_36 := by rw [ex_36, nI_tc (by omega)]; exact hK.2 k hk
            refine lv_istore (lv' := [(8, .int x_36), (9, .int (nI i)), (7, .int (nI b)), (0, .ref h0), (1, .int so), (2, .int n), (3, .ref pr), (4, .int fr), (5, .int gi), (6, .int co)]) hf.1 hf.2.1 dX3_findOrAdd_69 hl (by decide) rfl (fun ls hl => ?_)
            obtain ⟨x_37, ex_37⟩ : ∃ y : Int32, y = (nI i) + 1 := ⟨_, rfl⟩
            refine lv_iinc (v := x_37) (lv' := [(9, .int x_37), (8, .int x_36), (7, .int (nI b)), (0, .ref h0), (1, .int so), (2, .int n), (3, .ref pr), (4, .int fr), (5, .int gi), (6, .int co)]) hf.1 hf.2.1 dX3_findOrAdd_71 hl (k := 1) rfl (by rw [ex_37]; rfl) (by decide) rfl (fun ls hl => ?_)
            obtain rfl : x_37 = nI (i + 1) := by rw [ex_37, nI_1]
            refine lv_goto (tgt := 19) hf.1 hf.2.1 dX3_findOrAdd_74 (by decide) ?_
            exact ih (i + 1) x_36 _ _ _ (by omega) hz (by omega) hw (lv_sub hl [0, 1, 2, 3, 4, 5, 6, 7, 8, 9] rfl)
          refine lv_aload_n hf.1 hf.2.1 dX3_findOrAdd_33 rfl (lv_at hl 3 rfl) ?_
          refine mget hf hw iX3 0 rfl rfl 1 (by decide) k250 rfl dX3_findOrAdd_34 ?_
          refine lv_iload hf.1 hf.2.1 dX3_findOrAdd_37 (lv_at hl 1 rfl) ?_
          refine miald hf hw 1 0 rfl rfl (vp_in_nI (by omega) (by decide)) dX3_findOrAdd_39 ?_
          refine lv_topi (fun x_38 ex_38 => ?_)
          refine lv_iload_n hf.1 hf.2.1 dX3_findOrAdd_40 rfl (lv_at hl 4 rfl) ?_
          refine lv_icmp_ne (tgt := 62) hf.1 hf.2.1 dX3_findOrAdd_41 (by decide) (fun c_39 => ?_) (fun c_39 => ?_)
          · exact J62 _ _ _ hw (lv_sub hl [0, 1, 2, 3, 4, 5, 6, 7, 8, 9] rfl)
          · refine lv_aload_n hf.1 hf.2.1 dX3_findOrAdd_44 rfl (lv_at hl 3 rfl) ?_
            refine lv_iload hf.1 hf.2.1 dX3_findOrAdd_45 (lv_at hl 1 rfl) ?_
            refine lv_iload_n hf.1 hf.2.1 dX3_findOrAdd_47 rfl (lv_at hl 5 rfl) ?_
            refine lv_aload_n hf.1 hf.2.1 dX3_findOrAdd_48 rfl (lv_at hl 6 rfl) ?_
            refine lv_iload hf.1 hf.2.1 dX3_findOrAdd_49 (lv_at hl 7 rfl) ?_
            refine lv_iload hf.1 hf.2.1 dX3_findOrAdd_51 (lv_at hl 8 rfl) ?_
            refine mV_i (As := [.int (nI k), .int n, .ref pr, .int fr, .int gi]) (rest := []) (wr := [(q1, .inl (c1, 1549, .inl f1)), (q4, .inl (c4, 1549, .inl f4)), (q5, .inl (c5, 1549, .inl f5)), (q6, .inl (c6, 512, .inl f6)), (q7, .inl (c7, 1549, .inl f7))]) (tr := [(c1, .int), (c4, .int), (c5, .boolean), (c6, .int), (c7, .int)]) hf hw (c_isSame l dC dI h0 q1 q2 q3 q4 q5 q6 q7 c2 c3 f2 f3 cnt k n fr gi pr cp NP fp H.size (by omega) hn4 hfr hfp hNP) ka_X3_isSame kv_X3_isSame 0 rfl rfl k230 [0, 2, 3, 8] [1, 2, 7] [1, 4, 5, 6, 7] [0, 3, 4, 5, 6] rfl rfl rfl rfl rfl (by decide) rfl rfl rfl hl.1 rfl rfl ⟨Nat.le_of_ble_eq_true rfl, Nat.le_of_ble_eq_true rfl⟩ (Nat.le_of_ble_eq_true rfl) (ce := 0) (sl := 0) rfl rfl ⟨Nat.le_of_ble_eq_true rfl, Nat.le_of_ble_eq_true rfl⟩ dX3_findOrAdd_53 (fun r_40 u_41 hu_41 H locs hw => ?_)
            have hw : Wd dC dI A [(q1, .inl (c1, 1549, .inl f1)), (q4, .inl (c4, 1549, .inl f4)), (q5, .inl (c5, 1549, .inl f5)), (q6, .inl (c6, 512, .inl f6)), (q7, .inl (c7, 1549, .inl f7)), (h0, .inr (3, [.int (nI cnt), .ref q1, .ref q2, .ref q3, .ref q4, .ref q5, .ref q6, .ref q7])), (q2, .inl (c2, 1549, .inl f2)), (q3, .inl (c3, 7745, .inl f3)), (pr, .inl (cp, NP, .inl fp))] [(c1, .int), (c4, .int), (c5, .boolean), (c6, .int), (c7, .int), (c2, .int), (c3, .int), (cp, .int)] s H locs := hw
            have hw := hw.pick (ws' := [(h0, .inr (3, [.int (nI cnt), .ref q1, .ref q2, .ref q3, .ref q4, .ref q5, .ref q6, .ref q7])), (q1, .inl (c1, 1549, .inl f1)), (q2, .inl (c2, 1549, .inl f2)), (q3, .inl (c3, 7745, .inl f3)), (q4, .inl (c4, 1549, .inl f4)), (q5, .inl (c5, 1549, .inl f5)), (q6, .inl (c6, 512, .inl f6)), (q7, .inl (c7, 1549, .inl f7)), (pr, .inl (cp, NP, .inl fp))]) (tys' := [(c1, .int), (c2, .int), (c3, .int), (c4, .int), (c5, .boolean), (c6, .int), (c7, .int), (cp, .int)]) [5, 0, 6, 7, 1, 2, 3, 4, 8] [0, 5, 6, 1, 2, 3, 4, 7] rfl rfl rfl
            refine lv_if_eq (tgt := 62) hf.1 hf.2.1 dX3_findOrAdd_56 (by decide) (fun c_42 => ?_) (fun c_42 => ?_)
            · exact J62 _ _ _ hw (lv_sub hl [0, 1, 2, 3, 4, 5, 6, 7, 8, 9] rfl)
            · refine lv_iload hf.1 hf.2.1 dX3_findOrAdd_59 (lv_at hl 1 rfl) ?_
              exact mret_i (v := (nI k)) hf hr hlk hw (cnt, f1, f2, f3, f4, f5, f6, f7) ⟨⟨k, by omega, rfl⟩, Nat.le_refl _, Nat.le_succ _, hc, hK⟩ [0, 1, 2, 3, 4, 5, 6, 7, 8] [0, 1, 2, 3, 4, 5, 6, 7] rfl rfl rfl (Nat.le_of_ble_eq_true rfl) (Nat.le_of_ble_eq_true rfl) dX3_findOrAdd_61
  exact loop1 1550 0 _ _ _ _ (by omega) hkd (by omega) hw (lv_sub hl [0, 1, 2, 3, 4, 5, 6, 7, 8, 9] rfl)

set_option maxHeartbeats 4000000 in
set_option maxRecDepth 100000 in
theorem c_findOrAdd0 (l : Launch) (dC : Nat → ClassId) (dI : Nat → Nat → Nat) (h0 q1 q2 q3 q4 q5 q6 q7 : Nat) (c1 c2 c3 c4 c5 c6 c7 : ClassId) (f1 f2 f3 f4 f5 f6 f7 : Nat → Int32) (cnt : Nat) (so n fr gi co : Int32) (pr : Nat) (sz : Nat) (hc : cnt ≤ 1549) (hK : KI cnt f6 f7) (hn4 : n.toInt = 0) : Met l yX3_findOrAdd (wsOf yX3_findOrAdd cX3_findOrAdd 11 (some .int)) ({ frames := 10, cells := 0, slots := 0, locals := 150 } : Room) (va_Pc [.ref h0, .int so, .int n, .ref pr, .int fr, .int gi, .int co] (PB dC dI sz [(h0, .inr (3, [.int (nI cnt), .ref q1, .ref q2, .ref q3, .ref q4, .ref q5, .ref q6, .ref q7])), (q1, .inl (c1, 1549, .inl f1)), (q2, .inl (c2, 1549, .inl f2)), (q3, .inl (c3, 7745, .inl f3)), (q4, .inl (c4, 1549, .inl f4)), (q5, .inl (c5, 1549, .inl f5)), (q6, .inl (c6, 512, .inl f6)), (q7, .inl (c7, 1549, .inl f7))] [(c1, .int), (c2, .int), (c3, .int), (c4, .int), (c5, .boolean), (c6, .int), (c7, .int)])) (va_Qi (S := Nat × (Nat → Int32) × (Nat → Int32) × (Nat → Int32) × (Nat → Int32) × (Nat → Int32) × (Nat → Int32) × (Nat → Int32)) (fun r x => (∃ k : Nat, k < 1549 ∧ r = nI k) ∧ cnt ≤ x.1 ∧ x.1 ≤ cnt + 1 ∧ x.1 ≤ 1549 ∧ KI x.1 x.2.2.2.2.2.2.1 x.2.2.2.2.2.2.2) (fun x t => PW dC dI (va_A [(h0, .inr (3, [.int (nI cnt), .ref q1, .ref q2, .ref q3, .ref q4, .ref q5, .ref q6, .ref q7])), (q1, .inl (c1, 1549, .inl f1)), (q2, .inl (c2, 1549, .inl f2)), (q3, .inl (c3, 7745, .inl f3)), (q4, .inl (c4, 1549, .inl f4)), (q5, .inl (c5, 1549, .inl f5)), (q6, .inl (c6, 512, .inl f6)), (q7, .inl (c7, 1549, .inl f7))] sz) ([(h0, .inr (3, [.int (nI x.1), .ref q1, .ref q2, .ref q3, .ref q4, .ref q5, .ref q6, .ref q7])), (q1, .inl (c1, 1549, .inl x.2.1)), (q2, .inl (c2, 1549, .inl x.2.2.1)), (q3, .inl (c3, 7745, .inl x.2.2.2.1)), (q4, .inl (c4, 1549, .inl x.2.2.2.2.1)), (q5, .inl (c5, 1549, .inl x.2.2.2.2.2.1)), (q6, .inl (c6, 512, .inl x.2.2.2.2.2.2.1)), (q7, .inl (c7, 1549, .inl x.2.2.2.2.2.2.2))]) ([(c1, .int), (c2, .int), (c3, .int), (c4, .int), (c5, .boolean), (c6, .int), (c7, .int)]) t) (va_A [(h0, .inr (3, [.int (nI cnt), .ref q1, .ref q2, .ref q3, .ref q4, .ref q5, .ref q6, .ref q7])), (q1, .inl (c1, 1549, .inl f1)), (q2, .inl (c2, 1549, .inl f2)), (q3, .inl (c3, 7745, .inl f3)), (q4, .inl (c4, 1549, .inl f4)), (q5, .inl (c5, 1549, .inl f5)), (q6, .inl (c6, 512, .inl f6)), (q7, .inl (c7, 1549, .inl f7))] sz)) 0 0 (va_A [(h0, .inr (3, [.int (nI cnt), .ref q1, .ref q2, .ref q3, .ref q4, .ref q5, .ref q6, .ref q7])), (q1, .inl (c1, 1549, .inl f1)), (q2, .inl (c2, 1549, .inl f2)), (q3, .inl (c3, 7745, .inl f3)), (q4, .inl (c4, 1549, .inl f4)), (q5, .inl (c5, 1549, .inl f5)), (q6, .inl (c6, 512, .inl f6)), (q7, .inl (c7, 1549, .inl f7))] sz) := by
  refine mbody (y := yX3_findOrAdd) (av := [.ref h0, .int so, .int n, .ref pr, .int fr, .int gi, .int co]) (b := cX3_findOrAdd) (n := 11) (ret := (some .int)) (Qc := fun A => (va_Qi (S := Nat × (Nat → Int32) × (Nat → Int32) × (Nat → Int32) × (Nat → Int32) × (Nat → Int32) × (Nat → Int32) × (Nat → Int32)) (fun r x => (∃ k : Nat, k < 1549 ∧ r = nI k) ∧ cnt ≤ x.1 ∧ x.1 ≤ cnt + 1 ∧ x.1 ≤ 1549 ∧ KI x.1 x.2.2.2.2.2.2.1 x.2.2.2.2.2.2.2) (fun x t => PW dC dI A ([(h0, .inr (3, [.int (nI x.1), .ref q1, .ref q2, .ref q3, .ref q4, .ref q5, .ref q6, .ref q7])), (q1, .inl (c1, 1549, .inl x.2.1)), (q2, .inl (c2, 1549, .inl x.2.2.1)), (q3, .inl (c3, 7745, .inl x.2.2.2.1)), (q4, .inl (c4, 1549, .inl x.2.2.2.2.1)), (q5, .inl (c5, 1549, .inl x.2.2.2.2.2.1)), (q6, .inl (c6, 512, .inl x.2.2.2.2.2.2.1)), (q7, .inl (c7, 1549, .inl x.2.2.2.2.2.2.2))]) ([(c1, .int), (c2, .int), (c3, .int), (c4, .int), (c5, .boolean), (c6, .int), (c7, .int)]) t) A)) (by decide) (Nat.le_of_ble_eq_true rfl) ?_
  intro p e s m below meth c ls A H hf hr hin hlk hw hl
  have hl : lv_has ls 11 [(0, .ref h0), (1, .int so), (2, .int n), (3, .ref pr), (4, .int fr), (5, .int gi), (6, .int co)] := hl
  refine lv_iload hf.1 hf.2.1 dX3_findOrAdd_0 (lv_at hl 6 rfl) ?_
  refine mS_i (As := [.int co]) (rest := []) (wr := [(h0, .inr (3, [.int (nI cnt), .ref q1, .ref q2, .ref q3, .ref q4, .ref q5, .ref q6, .ref q7])), (q1, .inl (c1, 1549, .inl f1)), (q2, .inl (c2, 1549, .inl f2)), (q3, .inl (c3, 7745, .inl f3)), (q4, .inl (c4, 1549, .inl f4)), (q5, .inl (c5, 1549, .inl f5)), (q6, .inl (c6, 512, .inl f6)), (q7, .inl (c7, 1549, .inl f7))]) (tr := [(c1, .int), (c2, .int), (c3, .int), (c4, .int), (c5, .boolean), (c6, .int), (c7, .int)]) hf hw (c_bucketOf l dC dI co H.size) ka_X3_bucketOf k228 k227 [] [] [0, 1, 2, 3, 4, 5, 6, 7] [0, 1, 2, 3, 4, 5, 6] rfl rfl rfl rfl rfl (by decide) rfl rfl rfl hl.1 rfl rfl ⟨Nat.le_of_ble_eq_true rfl, Nat.le_of_ble_eq_true rfl⟩ (Nat.le_of_ble_eq_true rfl) (ce := 0) (sl := 0) rfl rfl ⟨Nat.le_of_ble_eq_true rfl, Nat.le_of_ble_eq_true rfl⟩ dX3_findOrAdd_2 (fun r_1 u_2 hu_2 H locs hw => ?_)
  have hw : Wd dC dI A [(h0, .inr (3, [.int (nI cnt), .ref q1, .ref q2, .ref q3, .ref q4, .ref q5, .ref q6, .ref q7])), (q1, .inl (c1, 1549, .inl f1)), (q2, .inl (c2, 1549, .inl f2)), (q3, .inl (c3, 7745, .inl f3)), (q4, .inl (c4, 1549, .inl f4)), (q5, .inl (c5, 1549, .inl f5)), (q6, .inl (c6, 512, .inl f6)), (q7, .inl (c7, 1549, .inl f7))] [(c1, .int), (c2, .int), (c3, .int), (c4, .int), (c5, .boolean), (c6, .int), (c7, .int)] s H locs := hw
  obtain ⟨b, hb, rfl⟩ := hu_2
  have hw := hw.pick (ws' := [(h0, .inr (3, [.int (nI cnt), .ref q1, .ref q2, .ref q3, .ref q4, .ref q5, .ref q6, .ref q7])), (q1, .inl (c1, 1549, .inl f1)), (q2, .inl (c2, 1549, .inl f2)), (q3, .inl (c3, 7745, .inl f3)), (q4, .inl (c4, 1549, .inl f4)), (q5, .inl (c5, 1549, .inl f5)), (q6, .inl (c6, 512, .inl f6)), (q7, .inl (c7, 1549, .inl f7))]) (tys' := [(c1, .int), (c2, .int), (c3, .int), (c4, .int), (c5, .boolean), (c6, .int), (c7, .int)]) [0, 1, 2, 3, 4, 5, 6, 7] [0, 1, 2, 3, 4, 5, 6] rfl rfl rfl
  refine lv_istore (lv' := [(7, .int (nI b)), (0, .ref h0), (1, .int so), (2, .int n), (3, .ref pr), (4, .int fr), (5, .int gi), (6, .int co)]) hf.1 hf.2.1 dX3_findOrAdd_5 hl (by decide) rfl (fun ls hl => ?_)
  refine lv_aload_n hf.1 hf.2.1 dX3_findOrAdd_7 rfl (lv_at hl 1 rfl) ?_
  refine mget hf hw iX3 0 rfl rfl 6 (by decide) k255 rfl dX3_findOrAdd_8 ?_
  refine lv_iload hf.1 hf.2.1 dX3_findOrAdd_11 (lv_at hl 0 rfl) ?_
  refine miald hf hw 6 5 rfl rfl (vp_in_nI hb (by decide)) dX3_findOrAdd_13 ?_
  refine lv_topi (fun x_3 ex_3 => ?_)
  have hkd : kiv cnt x_3 := by rw [ex_3, nI_tc (by omega)]; exact hK.1 b hb
  refine lv_istore (lv' := [(8, .int x_3), (7, .int (nI b)), (0, .ref h0), (1, .int so), (2, .int n), (3, .ref pr), (4, .int fr), (5, .int gi), (6, .int co)]) hf.1 hf.2.1 dX3_findOrAdd_14 hl (by decide) rfl (fun ls hl => ?_)
  refine lv_iconst (v := 0) hf.1 hf.2.1 dX3_findOrAdd_16 (by decide) ?_
  refine lv_istore (lv' := [(9, .int 0), (8, .int x_3), (7, .int (nI b)), (0, .ref h0), (1, .int so), (2, .int n), (3, .ref pr), (4, .int fr), (5, .int gi), (6, .int co)]) hf.1 hf.2.1 dX3_findOrAdd_17 hl (by decide) rfl (fun ls hl => ?_)
  have J77 : ∀ (xi kd : Int32) (H : Heap) (locs : List Loc) (ls : Array Slot), Wd dC dI A [(h0, .inr (3, [.int (nI cnt), .ref q1, .ref q2, .ref q3, .ref q4, .ref q5, .ref q6, .ref q7])), (q1, .inl (c1, 1549, .inl f1)), (q2, .inl (c2, 1549, .inl f2)), (q3, .inl (c3, 7745, .inl f3)), (q4, .inl (c4, 1549, .inl f4)), (q5, .inl (c5, 1549, .inl f5)), (q6, .inl (c6, 512, .inl f6)), (q7, .inl (c7, 1549, .inl f7))] [(c1, .int), (c2, .int), (c3, .int), (c4, .int), (c5, .boolean), (c6, .int), (c7, .int)] s H locs → lv_has ls 11 [(9, .int xi), (8, .int kd), (7, .int (nI b)), (0, .ref h0), (1, .int so), (2, .int n), (3, .ref pr), (4, .int fr), (5, .int gi), (6, .int co)] → W p l e ({ frames := 10, cells := 0, slots := 0, locals := 150 } : Room) s m [.ref h0, .int so, .int n, .ref pr, .int fr, .int gi, .int co].toArray below meth c H locs 0 0 (MQ below (va_Qi (S := Nat × (Nat → Int32) × (Nat → Int32) × (Nat → Int32) × (Nat → Int32) × (Nat → Int32) × (Nat → Int32) × (Nat → Int32)) (fun r x => (∃ k : Nat, k < 1549 ∧ r = nI k) ∧ cnt ≤ x.1 ∧ x.1 ≤ cnt + 1 ∧ x.1 ≤ 1549 ∧ KI x.1 x.2.2.2.2.2.2.1 x.2.2.2.2.2.2.2) (fun x t => PW dC dI A ([(h0, .inr (3, [.int (nI x.1), .ref q1, .ref q2, .ref q3, .ref q4, .ref q5, .ref q6, .ref q7])), (q1, .inl (c1, 1549, .inl x.2.1)), (q2, .inl (c2, 1549, .inl x.2.2.1)), (q3, .inl (c3, 7745, .inl x.2.2.2.1)), (q4, .inl (c4, 1549, .inl x.2.2.2.2.1)), (q5, .inl (c5, 1549, .inl x.2.2.2.2.2.1)), (q6, .inl (c6, 512, .inl x.2.2.2.2.2.2.1)), (q7, .inl (c7, 1549, .inl x.2.2.2.2.2.2.2))]) ([(c1, .int), (c2, .int), (c3, .int), (c4, .int), (c5, .boolean), (c6, .int), (c7, .int)]) t) A) [.ref h0, .int so, .int n, .ref pr, .int fr, .int gi, .int co].toArray s 0 0 A) (F0 m 77 ls []) := by
    intro xi kd H locs ls  hw hl
    refine lv_aload_n hf.1 hf.2.1 dX3_findOrAdd_77 rfl (lv_at hl 3 rfl) ?_
    refine mget hf hw iX3 0 rfl rfl 0 (by decide) k257 rfl dX3_findOrAdd_78 ?_
    refine lv_sipush (v := 1549) hf.1 hf.2.1 dX3_findOrAdd_81 (by decide) ?_
    refine lv_icmp_lt (tgt := 89) hf.1 hf.2.1 dX3_findOrAdd_84 (by decide) (fun c_4 => ?_) (fun c_4 => ?_)
    · have hlt : cnt < 1549 := (nI_ltI (by omega) (by decide)).mp c_4
      refine lv_aload_n hf.1 hf.2.1 dX3_findOrAdd_89 rfl (lv_at hl 3 rfl) ?_
      refine mget hf hw iX3 0 rfl rfl 0 (by decide) k257 rfl dX3_findOrAdd_90 ?_
      refine lv_istore (lv' := [(8, .int (nI cnt)), (9, .int xi), (7, .int (nI b)), (0, .ref h0), (1, .int so), (2, .int n), (3, .ref pr), (4, .int fr), (5, .int gi), (6, .int co)]) hf.1 hf.2.1 dX3_findOrAdd_93 hl (by decide) rfl (fun ls hl => ?_)
      refine lv_aload_n hf.1 hf.2.1 dX3_findOrAdd_95 rfl (lv_at hl 3 rfl) ?_
      refine lv_dup hf.1 hf.2.1 dX3_findOrAdd_96 rfl ?_
      refine mget hf hw iX3 0 rfl rfl 0 (by decide) k257 rfl dX3_findOrAdd_97 ?_
      refine lv_iconst (v := 1) hf.1 hf.2.1 dX3_findOrAdd_100 (by decide) ?_
      refine lv_iadd hf.1 hf.2.1 dX3_findOrAdd_101 ?_
      refine lv_topi (fun x_5 ex_5 => ?_)
      obtain rfl : x_5 = nI (cnt + 1) := by rw [ex_5, nI_1]
      refine mput hf hw iX3 tyX3 tyX3_ok nmX3 0 rfl rfl 0 (by decide) k257 rfl rfl rfl (Nat.le_of_ble_eq_true rfl) (ws' := [(h0, .inr (3, [.int (nI (cnt + 1)), .ref q1, .ref q2, .ref q3, .ref q4, .ref q5, .ref q6, .ref q7])), (q1, .inl (c1, 1549, .inl f1)), (q2, .inl (c2, 1549, .inl f2)), (q3, .inl (c3, 7745, .inl f3)), (q4, .inl (c4, 1549, .inl f4)), (q5, .inl (c5, 1549, .inl f5)), (q6, .inl (c6, 512, .inl f6)), (q7, .inl (c7, 1549, .inl f7))]) rfl dX3_findOrAdd_102 (fun H locs hw => ?_)
      refine lv_aload_n hf.1 hf.2.1 dX3_findOrAdd_105 rfl (lv_at hl 3 rfl) ?_
      refine mget hf hw iX3 0 rfl rfl 1 (by decide) k250 rfl dX3_findOrAdd_106 ?_
      refine lv_iload hf.1 hf.2.1 dX3_findOrAdd_109 (lv_at hl 0 rfl) ?_
      refine lv_iload_n hf.1 hf.2.1 dX3_findOrAdd_111 rfl (lv_at hl 4 rfl) ?_
      refine miast hf hw 1 0 rfl rfl (vp_in_nI hlt (by decide)) dX3_findOrAdd_112 (fun f_6 ef_6 H locs hw => ?_)
      have hw : Wd dC dI A [(h0, .inr (3, [.int (nI (cnt + 1)), .ref q1, .ref q2, .ref q3, .ref q4, .ref q5, .ref q6, .ref q7])), (q1, .inl (c1, 1549, .inl f_6)), (q2, .inl (c2, 1549, .inl f2)), (q3, .inl (c3, 7745, .inl f3)), (q4, .inl (c4, 1549, .inl f4)), (q5, .inl (c5, 1549, .inl f5)), (q6, .inl (c6, 512, .inl f6)), (q7, .inl (c7, 1549, .inl f7))] [(c1, .int), (c2, .int), (c3, .int), (c4, .int), (c5, .boolean), (c6, .int), (c7, .int)] s H locs := hw
      refine lv_aload_n hf.1 hf.2.1 dX3_findOrAdd_113 rfl (lv_at hl 3 rfl) ?_
      refine mget hf hw iX3 0 rfl rfl 2 (by decide) k251 rfl dX3_findOrAdd_114 ?_
      refine lv_iload hf.1 hf.2.1 dX3_findOrAdd_117 (lv_at hl 0 rfl) ?_
      refine lv_iload_n hf.1 hf.2.1 dX3_findOrAdd_119 rfl (lv_at hl 5 rfl) ?_
      refine miast hf hw 2 1 rfl rfl (vp_in_nI hlt (by decide)) dX3_findOrAdd_120 (fun f_7 ef_7 H locs hw => ?_)
      have hw : Wd dC dI A [(h0, .inr (3, [.int (nI (cnt + 1)), .ref q1, .ref q2, .ref q3, .ref q4, .ref q5, .ref q6, .ref q7])), (q1, .inl (c1, 1549, .inl f_6)), (q2, .inl (c2, 1549, .inl f_7)), (q3, .inl (c3, 7745, .inl f3)), (q4, .inl (c4, 1549, .inl f4)), (q5, .inl (c5, 1549, .inl f5)), (q6, .inl (c6, 512, .inl f6)), (q7, .inl (c7, 1549, .inl f7))] [(c1, .int), (c2, .int), (c3, .int), (c4, .int), (c5, .boolean), (c6, .int), (c7, .int)] s H locs := hw
      refine lv_aload_n hf.1 hf.2.1 dX3_findOrAdd_121 rfl (lv_at hl 3 rfl) ?_
      refine mget hf hw iX3 0 rfl rfl 4 (by decide) k253 rfl dX3_findOrAdd_122 ?_
      refine lv_iload hf.1 hf.2.1 dX3_findOrAdd_125 (lv_at hl 0 rfl) ?_
      refine lv_iload hf.1 hf.2.1 dX3_findOrAdd_127 (lv_at hl 9 rfl) ?_
      refine miast hf hw 4 3 rfl rfl (vp_in_nI hlt (by decide)) dX3_findOrAdd_129 (fun f_8 ef_8 H locs hw => ?_)
      have hw : Wd dC dI A [(h0, .inr (3, [.int (nI (cnt + 1)), .ref q1, .ref q2, .ref q3, .ref q4, .ref q5, .ref q6, .ref q7])), (q1, .inl (c1, 1549, .inl f_6)), (q2, .inl (c2, 1549, .inl f_7)), (q3, .inl (c3, 7745, .inl f3)), (q4, .inl (c4, 1549, .inl f_8)), (q5, .inl (c5, 1549, .inl f5)), (q6, .inl (c6, 512, .inl f6)), (q7, .inl (c7, 1549, .inl f7))] [(c1, .int), (c2, .int), (c3, .int), (c4, .int), (c5, .boolean), (c6, .int), (c7, .int)] s H locs := hw
      refine lv_aload_n hf.1 hf.2.1 dX3_findOrAdd_130 rfl (lv_at hl 3 rfl) ?_
      refine mget hf hw iX3 0 rfl rfl 3 (by decide) k252 rfl dX3_findOrAdd_131 ?_
      refine lv_iload hf.1 hf.2.1 dX3_findOrAdd_134 (lv_at hl 0 rfl) ?_
      refine lv_iconst (v := 5) hf.1 hf.2.1 dX3_findOrAdd_136 (by decide) ?_
      refine lv_imul hf.1 hf.2.1 dX3_findOrAdd_137 ?_
      refine lv_topi (fun x_9 ex_9 => ?_)
      obtain rfl : x_9 = nI (cnt * 5) := by rw [ex_9]; exact nI_mul cnt 5
      refine lv_iconst (v := 4) hf.1 hf.2.1 dX3_findOrAdd_138 (by decide) ?_
      refine lv_iadd hf.1 hf.2.1 dX3_findOrAdd_139 ?_
      refine lv_topi (fun x_10 ex_10 => ?_)
      obtain rfl : x_10 = nI (cnt * 5 + 4) := by rw [ex_10]; exact nI_add _ 4
      refine lv_iload hf.1 hf.2.1 dX3_findOrAdd_140 (lv_at hl 8 rfl) ?_
      refine miast hf hw 3 2 rfl rfl (vp_in_nI (by omega) (by decide)) dX3_findOrAdd_142 (fun f_11 ef_11 H locs hw => ?_)
      have hw : Wd dC dI A [(h0, .inr (3, [.int (nI (cnt + 1)), .ref q1, .ref q2, .ref q3, .ref q4, .ref q5, .ref q6, .ref q7])), (q1, .inl (c1, 1549, .inl f_6)), (q2, .inl (c2, 1549, .inl f_7)), (q3, .inl (c3, 7745, .inl f_11)), (q4, .inl (c4, 1549, .inl f_8)), (q5, .inl (c5, 1549, .inl f5)), (q6, .inl (c6, 512, .inl f6)), (q7, .inl (c7, 1549, .inl f7))] [(c1, .int), (c2, .int), (c3, .int), (c4, .int), (c5, .boolean), (c6, .int), (c7, .int)] s H locs := hw
      refine lv_iload_n hf.1 hf.2.1 dX3_findOrAdd_143 rfl (lv_at hl 4 rfl) ?_
      refine lv_iconst (v := 2) hf.1 hf.2.1 dX3_findOrAdd_144 (by decide) ?_
      have J229 : ∀ (xa any : Int32) (g3 : Nat → Int32) (H : Heap) (locs : List Loc) (ls : Array Slot), Wd dC dI A [(h0, .inr (3, [.int (nI (cnt + 1)), .ref q1, .ref q2, .ref q3, .ref q4, .ref q5, .ref q6, .ref q7])), (q1, .inl (c1, 1549, .inl f_6)), (q2, .inl (c2, 1549, .inl f_7)), (q3, .inl (c3, 7745, .inl g3)), (q4, .inl (c4, 1549, .inl f_8)), (q5, .inl (c5, 1549, .inl f5)), (q6, .inl (c6, 512, .inl f6)), (q7, .inl (c7, 1549, .inl f7))] [(c1, .int), (c2, .int), (c3, .int), (c4, .int), (c5, .boolean), (c6, .int), (c7, .int)] s H locs → lv_has ls 11 [(10, .int xa), (9, .int any), (7, .int (nI b)), (8, .int (nI cnt)), (0, .ref h0), (1, .int so), (2, .int n), (3, .ref pr), (4, .int fr), (5, .int gi), (6, .int co)] → W p l e ({ frames := 10, cells := 0, slots := 0, locals := 150 } : Room) s m [.ref h0, .int so, .int n, .ref pr, .int fr, .int gi, .int co].toArray below meth c H locs 0 0 (MQ below (va_Qi (S := Nat × (Nat → Int32) × (Nat → Int32) × (Nat → Int32) × (Nat → Int32) × (Nat → Int32) × (Nat → Int32) × (Nat → Int32)) (fun r x => (∃ k : Nat, k < 1549 ∧ r = nI k) ∧ cnt ≤ x.1 ∧ x.1 ≤ cnt + 1 ∧ x.1 ≤ 1549 ∧ KI x.1 x.2.2.2.2.2.2.1 x.2.2.2.2.2.2.2) (fun x t => PW dC dI A ([(h0, .inr (3, [.int (nI x.1), .ref q1, .ref q2, .ref q3, .ref q4, .ref q5, .ref q6, .ref q7])), (q1, .inl (c1, 1549, .inl x.2.1)), (q2, .inl (c2, 1549, .inl x.2.2.1)), (q3, .inl (c3, 7745, .inl x.2.2.2.1)), (q4, .inl (c4, 1549, .inl x.2.2.2.2.1)), (q5, .inl (c5, 1549, .inl x.2.2.2.2.2.1)), (q6, .inl (c6, 512, .inl x.2.2.2.2.2.2.1)), (q7, .inl (c7, 1549, .inl x.2.2.2.2.2.2.2))]) ([(c1, .int), (c2, .int), (c3, .int), (c4, .int), (c5, .boolean), (c6, .int), (c7, .int)]) t) A) [.ref h0, .int so, .int n, .ref pr, .int fr, .int gi, .int co].toArray s 0 0 A) (F0 m 229 ls []) := by
        intro xa any g3 H locs ls  hw hl
        refine lv_aload_n hf.1 hf.2.1 dX3_findOrAdd_229 rfl (lv_at hl 4 rfl) ?_
        refine mget hf hw iX3 0 rfl rfl 5 (by decide) k254 rfl dX3_findOrAdd_230 ?_
        refine lv_iload hf.1 hf.2.1 dX3_findOrAdd_233 (lv_at hl 3 rfl) ?_
        refine lv_iload hf.1 hf.2.1 dX3_findOrAdd_235 (lv_at hl 1 rfl) ?_
        refine mzast hf hw 5 4 rfl rfl (vp_in_nI hlt (by decide)) dX3_findOrAdd_237 (fun f_12 ef_12 H locs hw => ?_)
        have hw : Wd dC dI A [(h0, .inr (3, [.int (nI (cnt + 1)), .ref q1, .ref q2, .ref q3, .ref q4, .ref q5, .ref q6, .ref q7])), (q1, .inl (c1, 1549, .inl f_6)), (q2, .inl (c2, 1549, .inl f_7)), (q3, .inl (c3, 7745, .inl g3)), (q4, .inl (c4, 1549, .inl f_8)), (q5, .inl (c5, 1549, .inl f_12)), (q6, .inl (c6, 512, .inl f6)), (q7, .inl (c7, 1549, .inl f7))] [(c1, .int), (c2, .int), (c3, .int), (c4, .int), (c5, .boolean), (c6, .int), (c7, .int)] s H locs := hw
        refine lv_aload_n hf.1 hf.2.1 dX3_findOrAdd_238 rfl (lv_at hl 4 rfl) ?_
        refine mget hf hw iX3 0 rfl rfl 7 (by decide) k256 rfl dX3_findOrAdd_239 ?_
        refine lv_iload hf.1 hf.2.1 dX3_findOrAdd_242 (lv_at hl 3 rfl) ?_
        refine lv_aload_n hf.1 hf.2.1 dX3_findOrAdd_244 rfl (lv_at hl 4 rfl) ?_
        refine mget hf hw iX3 0 rfl rfl 6 (by decide) k255 rfl dX3_findOrAdd_245 ?_
        refine lv_iload hf.1 hf.2.1 dX3_findOrAdd_248 (lv_at hl 2 rfl) ?_
        refine miald hf hw 6 5 rfl rfl (vp_in_nI hb (by decide)) dX3_findOrAdd_250 ?_
        refine lv_topi (fun x_13 ex_13 => ?_)
        refine miast hf hw 7 6 rfl rfl (vp_in_nI hlt (by decide)) dX3_findOrAdd_251 (fun f_14 ef_14 H locs hw => ?_)
        have hw : Wd dC dI A [(h0, .inr (3, [.int (nI (cnt + 1)), .ref q1, .ref q2, .ref q3, .ref q4, .ref q5, .ref q6, .ref q7])), (q1, .inl (c1, 1549, .inl f_6)), (q2, .inl (c2, 1549, .inl f_7)), (q3, .inl (c3, 7745, .inl g3)), (q4, .inl (c4, 1549, .inl f_8)), (q5, .inl (c5, 1549, .inl f_12)), (q6, .inl (c6, 512, .inl f6)), (q7, .inl (c7, 1549, .inl f_14))] [(c1, .int), (c2, .int), (c3, .int), (c4, .int), (c5, .boolean), (c6, .int), (c7, .int)] s H locs := hw
        refine lv_aload_n hf.1 hf.2.1 dX3_findOrAdd_252 rfl (lv_at hl 4 rfl) ?_
        refine mget hf hw iX3 0 rfl rfl 6 (by decide) k255 rfl dX3_findOrAdd_253 ?_
        refine lv_iload hf.1 hf.2.1 dX3_findOrAdd_256 (lv_at hl 2 rfl) ?_
        refine lv_iload hf.1 hf.2.1 dX3_findOrAdd_258 (lv_at hl 3 rfl) ?_
        refine miast hf hw 6 5 rfl rfl (vp_in_nI hb (by decide)) dX3_findOrAdd_260 (fun f_15 ef_15 H locs hw => ?_)
        have hw : Wd dC dI A [(h0, .inr (3, [.int (nI (cnt + 1)), .ref q1, .ref q2, .ref q3, .ref q4, .ref q5, .ref q6, .ref q7])), (q1, .inl (c1, 1549, .inl f_6)), (q2, .inl (c2, 1549, .inl f_7)), (q3, .inl (c3, 7745, .inl g3)), (q4, .inl (c4, 1549, .inl f_8)), (q5, .inl (c5, 1549, .inl f_12)), (q6, .inl (c6, 512, .inl f_15)), (q7, .inl (c7, 1549, .inl f_14))] [(c1, .int), (c2, .int), (c3, .int), (c4, .int), (c5, .boolean), (c6, .int), (c7, .int)] s H locs := hw
        refine lv_iload hf.1 hf.2.1 dX3_findOrAdd_261 (lv_at hl 3 rfl) ?_
        have hK2 : KI (cnt + 1) f_15 f_14 := by
          rw [ef_15, ef_14, ex_13, nI_tc (by omega), nI_tc (by omega)]
          exact hK.ins hb
        exact mret_i (v := (nI cnt)) hf hr hlk hw (cnt + 1, f_6, f_7, g3, f_8, f_12, f_15, f_14) ⟨⟨cnt, hlt, rfl⟩, Nat.le_succ _, Nat.le_refl _, hlt, hK2⟩ [0, 1, 2, 3, 4, 5, 6, 7] [0, 1, 2, 3, 4, 5, 6] rfl rfl rfl (Nat.le_of_ble_eq_true rfl) (Nat.le_of_ble_eq_true rfl) dX3_findOrAdd_263
      have loop2 : ∀ (N : Nat) (j : Nat) (any : Int32) (g3 : Nat → Int32) (H : Heap) (locs : List Loc) (ls : Array Slot), 5 - j < N → (j : Int) ≤ 4 → Wd dC dI A [(h0, .inr (3, [.int (nI (cnt + 1)), .ref q1, .ref q2, .ref q3, .ref q4, .ref q5, .ref q6, .ref q7])), (q1, .inl (c1, 1549, .inl f_6)), (q2, .inl (c2, 1549, .inl f_7)), (q3, .inl (c3, 7745, .inl g3)), (q4, .inl (c4, 1549, .inl f_8)), (q5, .inl (c5, 1549, .inl f5)), (q6, .inl (c6, 512, .inl f6)), (q7, .inl (c7, 1549, .inl f7))] [(c1, .int), (c2, .int), (c3, .int), (c4, .int), (c5, .boolean), (c6, .int), (c7, .int)] s H locs → lv_has ls 11 [(10, .int (nI j)), (9, .int any), (7, .int (nI b)), (8, .int (nI cnt)), (0, .ref h0), (1, .int so), (2, .int n), (3, .ref pr), (4, .int fr), (5, .int gi), (6, .int co)] → W p l e ({ frames := 10, cells := 0, slots := 0, locals := 150 } : Room) s m [.ref h0, .int so, .int n, .ref pr, .int fr, .int gi, .int co].toArray below meth c H locs 0 0 (MQ below (va_Qi (S := Nat × (Nat → Int32) × (Nat → Int32) × (Nat → Int32) × (Nat → Int32) × (Nat → Int32) × (Nat → Int32) × (Nat → Int32)) (fun r x => (∃ k : Nat, k < 1549 ∧ r = nI k) ∧ cnt ≤ x.1 ∧ x.1 ≤ cnt + 1 ∧ x.1 ≤ 1549 ∧ KI x.1 x.2.2.2.2.2.2.1 x.2.2.2.2.2.2.2) (fun x t => PW dC dI A ([(h0, .inr (3, [.int (nI x.1), .ref q1, .ref q2, .ref q3, .ref q4, .ref q5, .ref q6, .ref q7])), (q1, .inl (c1, 1549, .inl x.2.1)), (q2, .inl (c2, 1549, .inl x.2.2.1)), (q3, .inl (c3, 7745, .inl x.2.2.2.1)), (q4, .inl (c4, 1549, .inl x.2.2.2.2.1)), (q5, .inl (c5, 1549, .inl x.2.2.2.2.2.1)), (q6, .inl (c6, 512, .inl x.2.2.2.2.2.2.1)), (q7, .inl (c7, 1549, .inl x.2.2.2.2.2.2.2))]) ([(c1, .int), (c2, .int), (c3, .int), (c4, .int), (c5, .boolean), (c6, .int), (c7, .int)]) t) A) [.ref h0, .int so, .int n, .ref pr, .int fr, .int gi, .int co].toArray s 0 0 A) (F0 m 172 ls []) := by
        intro N
        induction N with
        | zero => intro j any g3 H locs ls hm; exact absurd hm (Nat.not_lt_zero _)
        | succ N ih =>
          intro j any g3 H locs ls hm hj4 hw hl
          refine lv_iload hf.1 hf.2.1 dX3_findOrAdd_172 (lv_at hl 0 rfl) ?_
          refine lv_iload_n hf.1 hf.2.1 dX3_findOrAdd_174 rfl (lv_at hl 6 rfl) ?_
          refine lv_icmp_ge (tgt := 229) hf.1 hf.2.1 dX3_findOrAdd_175 (by decide) (fun c_16 => ?_) (fun c_16 => ?_)
          · exact J229 (nI j) any g3 _ _ _  hw (lv_sub hl [0, 1, 2, 3, 4, 5, 6, 7, 8, 9, 10] rfl)
          · have hj : (j : Int) < n.toInt := nI_lt_lit (by omega) (Int32.not_le.mp c_16)
            exfalso; omega
      have J167 : ∀ (v : Int32) (H : Heap) (locs : List Loc) (ls : Array Slot), Wd dC dI A [(h0, .inr (3, [.int (nI (cnt + 1)), .ref q1, .ref q2, .ref q3, .ref q4, .ref q5, .ref q6, .ref q7])), (q1, .inl (c1, 1549, .inl f_6)), (q2, .inl (c2, 1549, .inl f_7)), (q3, .inl (c3, 7745, .inl f_11)), (q4, .inl (c4, 1549, .inl f_8)), (q5, .inl (c5, 1549, .inl f5)), (q6, .inl (c6, 512, .inl f6)), (q7, .inl (c7, 1549, .inl f7))] [(c1, .int), (c2, .int), (c3, .int), (c4, .int), (c5, .boolean), (c6, .int), (c7, .int)] s H locs → lv_has ls 11 [(8, .int (nI cnt)), (9, .int xi), (7, .int (nI b)), (0, .ref h0), (1, .int so), (2, .int n), (3, .ref pr), (4, .int fr), (5, .int gi), (6, .int co)] → W p l e ({ frames := 10, cells := 0, slots := 0, locals := 150 } : Room) s m [.ref h0, .int so, .int n, .ref pr, .int fr, .int gi, .int co].toArray below meth c H locs 0 0 (MQ below (va_Qi (S := Nat × (Nat → Int32) × (Nat → Int32) × (Nat → Int32) × (Nat → Int32) × (Nat → Int32) × (Nat → Int32) × (Nat → Int32)) (fun r x => (∃ k : Nat, k < 1549 ∧ r = nI k) ∧ cnt ≤ x.1 ∧ x.1 ≤ cnt + 1 ∧ x.1 ≤ 1549 ∧ KI x.1 x.2.2.2.2.2.2.1 x.2.2.2.2.2.2.2) (fun x t => PW dC dI A ([(h0, .inr (3, [.int (nI x.1), .ref q1, .ref q2, .ref q3, .ref q4, .ref q5, .ref q6, .ref q7])), (q1, .inl (c1, 1549, .inl x.2.1)), (q2, .inl (c2, 1549, .inl x.2.2.1)), (q3, .inl (c3, 7745, .inl x.2.2.2.1)), (q4, .inl (c4, 1549, .inl x.2.2.2.2.1)), (q5, .inl (c5, 1549, .inl x.2.2.2.2.2.1)), (q6, .inl (c6, 512, .inl x.2.2.2.2.2.2.1)), (q7, .inl (c7, 1549, .inl x.2.2.2.2.2.2.2))]) ([(c1, .int), (c2, .int), (c3, .int), (c4, .int), (c5, .boolean), (c6, .int), (c7, .int)]) t) A) [.ref h0, .int so, .int n, .ref pr, .int fr, .int gi, .int co].toArray s 0 0 A) (F0 m 167 ls [.int v]) := by
        intro v H locs ls  hw hl
        refine lv_istore (lv' := [(9, .int v), (8, .int (nI cnt)), (7, .int (nI b)), (0, .ref h0), (1, .int so), (2, .int n), (3, .ref pr), (4, .int fr), (5, .int gi), (6, .int co)]) hf.1 hf.2.1 dX3_findOrAdd_167 hl (by decide) rfl (fun ls hl => ?_)
        refine lv_iconst (v := 0) hf.1 hf.2.1 dX3_findOrAdd_169 (by decide) ?_
        refine lv_istore (lv' := [(10, .int 0), (9, .int v), (8, .int (nI cnt)), (7, .int (nI b)), (0, .ref h0), (1, .int so), (2, .int n), (3, .ref pr), (4, .int fr), (5, .int gi), (6, .int co)]) hf.1 hf.2.1 dX3_findOrAdd_170 hl (by decide) rfl (fun ls hl => ?_)
        exact loop2 6 0 v _ _ _ _ (by omega) (by omega) hw (lv_sub hl [0, 1, 3, 2, 4, 5, 6, 7, 8, 9, 10] rfl)
      refine lv_icmp_eq (tgt := 162) hf.1 hf.2.1 dX3_findOrAdd_145 (by decide) (fun c_17 => ?_) (fun c_17 => ?_)
      · refine lv_iconst (v := 1) hf.1 hf.2.1 dX3_findOrAdd_162 (by decide) ?_
        refine lv_goto (tgt := 167) hf.1 hf.2.1 dX3_findOrAdd_163 (by decide) ?_
        exact J167 _ _ _ _ hw (lv_sub hl [0, 1, 2, 3, 4, 5, 6, 7, 8, 9] rfl)
      · refine lv_iload_n hf.1 hf.2.1 dX3_findOrAdd_148 rfl (lv_at hl 4 rfl) ?_
        refine lv_iconst (v := 3) hf.1 hf.2.1 dX3_findOrAdd_149 (by decide) ?_
        refine lv_icmp_lt (tgt := 166) hf.1 hf.2.1 dX3_findOrAdd_150 (by decide) (fun c_18 => ?_) (fun c_18 => ?_)
        · refine lv_iconst (v := 0) hf.1 hf.2.1 dX3_findOrAdd_166 (by decide) ?_
          exact J167 _ _ _ _ hw (lv_sub hl [0, 1, 2, 3, 4, 5, 6, 7, 8, 9] rfl)
        · refine lv_aload_n hf.1 hf.2.1 dX3_findOrAdd_153 rfl (lv_at hl 3 rfl) ?_
          refine lv_iload hf.1 hf.2.1 dX3_findOrAdd_154 (lv_at hl 8 rfl) ?_
          refine mV_i (As := [.int gi]) (rest := []) (wr := [(q1, .inl (c1, 1549, .inl f_6)), (q2, .inl (c2, 1549, .inl f_7)), (q3, .inl (c3, 7745, .inl f_11)), (q4, .inl (c4, 1549, .inl f_8)), (q6, .inl (c6, 512, .inl f6)), (q7, .inl (c7, 1549, .inl f7))]) (tr := [(c1, .int), (c2, .int), (c3, .int), (c4, .int), (c6, .int), (c7, .int)]) hf hw (c_hasAny l dC dI h0 q1 q2 q3 q4 q5 q6 q7 c5 f5 (cnt + 1) gi H.size hlt) ka_X3_hasAny kv_X3_hasAny 0 rfl rfl k234 [0, 5] [4] [1, 2, 3, 4, 6, 7] [0, 1, 2, 3, 5, 6] rfl rfl rfl rfl rfl (by decide) rfl rfl rfl hl.1 rfl rfl ⟨Nat.le_of_ble_eq_true rfl, Nat.le_of_ble_eq_true rfl⟩ (Nat.le_of_ble_eq_true rfl) (ce := 0) (sl := 0) rfl rfl ⟨Nat.le_of_ble_eq_true rfl, Nat.le_of_ble_eq_true rfl⟩ dX3_findOrAdd_156 (fun r_19 u_20 hu_20 H locs hw => ?_)
          have hw : Wd dC dI A [(q1, .inl (c1, 1549, .inl f_6)), (q2, .inl (c2, 1549, .inl f_7)), (q3, .inl (c3, 7745, .inl f_11)), (q4, .inl (c4, 1549, .inl f_8)), (q6, .inl (c6, 512, .inl f6)), (q7, .inl (c7, 1549, .inl f7)), (h0, .inr (3, [.int (nI (cnt + 1)), .ref q1, .ref q2, .ref q3, .ref q4, .ref q5, .ref q6, .ref q7])), (q5, .inl (c5, 1549, .inl f5))] [(c1, .int), (c2, .int), (c3, .int), (c4, .int), (c6, .int), (c7, .int), (c5, .boolean)] s H locs := hw
          have hw := hw.pick (ws' := [(h0, .inr (3, [.int (nI (cnt + 1)), .ref q1, .ref q2, .ref q3, .ref q4, .ref q5, .ref q6, .ref q7])), (q1, .inl (c1, 1549, .inl f_6)), (q2, .inl (c2, 1549, .inl f_7)), (q3, .inl (c3, 7745, .inl f_11)), (q4, .inl (c4, 1549, .inl f_8)), (q5, .inl (c5, 1549, .inl f5)), (q6, .inl (c6, 512, .inl f6)), (q7, .inl (c7, 1549, .inl f7))]) (tys' := [(c1, .int), (c2, .int), (c3, .int), (c4, .int), (c5, .boolean), (c6, .int), (c7, .int)]) [6, 0, 1, 2, 3, 7, 4, 5] [0, 1, 2, 3, 6, 4, 5] rfl rfl rfl
          refine lv_if_eq (tgt := 166) hf.1 hf.2.1 dX3_findOrAdd_159 (by decide) (fun c_21 => ?_) (fun c_21 => ?_)
          · refine lv_iconst (v := 0) hf.1 hf.2.1 dX3_findOrAdd_166 (by decide) ?_
            exact J167 _ _ _ _ hw (lv_sub hl [0, 1, 2, 3, 4, 5, 6, 7, 8, 9] rfl)
          · refine lv_iconst (v := 1) hf.1 hf.2.1 dX3_findOrAdd_162 (by decide) ?_
            refine lv_goto (tgt := 167) hf.1 hf.2.1 dX3_findOrAdd_163 (by decide) ?_
            exact J167 _ _ _ _ hw (lv_sub hl [0, 1, 2, 3, 4, 5, 6, 7, 8, 9] rfl)
    · refine lv_iconst (v := 2) hf.1 hf.2.1 dX3_findOrAdd_87 (by decide) ?_
      exact mret_i (v := 2) hf hr hlk hw (cnt, f1, f2, f3, f4, f5, f6, f7) ⟨⟨2, by decide, rfl⟩, Nat.le_refl _, Nat.le_succ _, hc, hK⟩ [0, 1, 2, 3, 4, 5, 6, 7] [0, 1, 2, 3, 4, 5, 6] rfl rfl rfl (Nat.le_of_ble_eq_true rfl) (Nat.le_of_ble_eq_true rfl) dX3_findOrAdd_88
  have loop1 : ∀ (N : Nat) (i : Nat) (kd : Int32) (H : Heap) (locs : List Loc) (ls : Array Slot), 1549 - i < N → kiv cnt kd → i ≤ 1549 → Wd dC dI A [(h0, .inr (3, [.int (nI cnt), .ref q1, .ref q2, .ref q3, .ref q4, .ref q5, .ref q6, .ref q7])), (q1, .inl (c1, 1549, .inl f1)), (q2, .inl (c2, 1549, .inl f2)), (q3, .inl (c3, 7745, .inl f3)), (q4, .inl (c4, 1549, .inl f4)), (q5, .inl (c5, 1549, .inl f5)), (q6, .inl (c6, 512, .inl f6)), (q7, .inl (c7, 1549, .inl f7))] [(c1, .int), (c2, .int), (c3, .int), (c4, .int), (c5, .boolean), (c6, .int), (c7, .int)] s H locs → lv_has ls 11 [(9, .int (nI i)), (8, .int kd), (7, .int (nI b)), (0, .ref h0), (1, .int so), (2, .int n), (3, .ref pr), (4, .int fr), (5, .int gi), (6, .int co)] → W p l e ({ frames := 10, cells := 0, slots := 0, locals := 150 } : Room) s m [.ref h0, .int so, .int n, .ref pr, .int fr, .int gi, .int co].toArray below meth c H locs 0 0 (MQ below (va_Qi (S := Nat × (Nat → Int32) × (Nat → Int32) × (Nat → Int32) × (Nat → Int32) × (Nat → Int32) × (Nat → Int32) × (Nat → Int32)) (fun r x => (∃ k : Nat, k < 1549 ∧ r = nI k) ∧ cnt ≤ x.1 ∧ x.1 ≤ cnt + 1 ∧ x.1 ≤ 1549 ∧ KI x.1 x.2.2.2.2.2.2.1 x.2.2.2.2.2.2.2) (fun x t => PW dC dI A ([(h0, .inr (3, [.int (nI x.1), .ref q1, .ref q2, .ref q3, .ref q4, .ref q5, .ref q6, .ref q7])), (q1, .inl (c1, 1549, .inl x.2.1)), (q2, .inl (c2, 1549, .inl x.2.2.1)), (q3, .inl (c3, 7745, .inl x.2.2.2.1)), (q4, .inl (c4, 1549, .inl x.2.2.2.2.1)), (q5, .inl (c5, 1549, .inl x.2.2.2.2.2.1)), (q6, .inl (c6, 512, .inl x.2.2.2.2.2.2.1)), (q7, .inl (c7, 1549, .inl x.2.2.2.2.2.2.2))]) ([(c1, .int), (c2, .int), (c3, .int), (c4, .int), (c5, .boolean), (c6, .int), (c7, .int)]) t) A) [.ref h0, .int so, .int n, .ref pr, .int fr, .int gi, .int co].toArray s 0 0 A) (F0 m 19 ls []) := by
    intro N
    induction N with
    | zero => intro i kd H locs ls hm; exact absurd hm (Nat.not_lt_zero _)
    | succ N ih =>
      intro i kd H locs ls hm hv hi4 hw hl
      refine lv_iload hf.1 hf.2.1 dX3_findOrAdd_19 (lv_at hl 0 rfl) ?_
      refine lv_sipush (v := 1549) hf.1 hf.2.1 dX3_findOrAdd_21 (by decide) ?_
      refine lv_icmp_ge (tgt := 77) hf.1 hf.2.1 dX3_findOrAdd_24 (by decide) (fun c_22 => ?_) (fun c_22 => ?_)
      · exact J77 (nI i) kd _ _ _  hw (lv_sub hl [0, 1, 2, 3, 4, 5, 6, 7, 8, 9] rfl)
      · have hi : i < 1549 := (nI_ltI (by omega) (by decide)).mp (Int32.not_le.mp c_22)
        refine lv_iload hf.1 hf.2.1 dX3_findOrAdd_27 (lv_at hl 1 rfl) ?_
        refine lv_iconst (v := (-1)) hf.1 hf.2.1 dX3_findOrAdd_29 (by decide) ?_
        refine lv_icmp_eq (tgt := 77) hf.1 hf.2.1 dX3_findOrAdd_30 (by decide) (fun c_23 => ?_) (fun c_23 => ?_)
        · exact J77 (nI i) kd _ _ _  hw (lv_sub hl [0, 1, 2, 3, 4, 5, 6, 7, 8, 9] rfl)
        · obtain ⟨k, hk, rfl⟩ : ∃ k : Nat, k < cnt ∧ kd = nI k := hv.resolve_left c_23
          have J62 : ∀ (H : Heap) (locs : List Loc) (ls : Array Slot), Wd dC dI A [(h0, .inr (3, [.int (nI cnt), .ref q1, .ref q2, .ref q3, .ref q4, .ref q5, .ref q6, .ref q7])), (q1, .inl (c1, 1549, .inl f1)), (q2, .inl (c2, 1549, .inl f2)), (q3, .inl (c3, 7745, .inl f3)), (q4, .inl (c4, 1549, .inl f4)), (q5, .inl (c5, 1549, .inl f5)), (q6, .inl (c6, 512, .inl f6)), (q7, .inl (c7, 1549, .inl f7))] [(c1, .int), (c2, .int), (c3, .int), (c4, .int), (c5, .boolean), (c6, .int), (c7, .int)] s H locs → lv_has ls 11 [(9, .int (nI i)), (8, .int (nI k)), (7, .int (nI b)), (0, .ref h0), (1, .int so), (2, .int n), (3, .ref pr), (4, .int fr), (5, .int gi), (6, .int co)] → W p l e ({ frames := 10, cells := 0, slots := 0, locals := 150 } : Room) s m [.ref h0, .int so, .int n, .ref pr, .int fr, .int gi, .int co].toArray below meth c H locs 0 0 (MQ below (va_Qi (S := Nat × (Nat → Int32) × (Nat → Int32) × (Nat → Int32) × (Nat → Int32) × (Nat → Int32) × (Nat → Int32) × (Nat → Int32)) (fun r x => (∃ k : Nat, k < 1549 ∧ r = nI k) ∧ cnt ≤ x.1 ∧ x.1 ≤ cnt + 1 ∧ x.1 ≤ 1549 ∧ KI x.1 x.2.2.2.2.2.2.1 x.2.2.2.2.2.2.2) (fun x t => PW dC dI A ([(h0, .inr (3, [.int (nI x.1), .ref q1, .ref q2, .ref q3, .ref q4, .ref q5, .ref q6, .ref q7])), (q1, .inl (c1, 1549, .inl x.2.1)), (q2, .inl (c2, 1549, .inl x.2.2.1)), (q3, .inl (c3, 7745, .inl x.2.2.2.1)), (q4, .inl (c4, 1549, .inl x.2.2.2.2.1)), (q5, .inl (c5, 1549, .inl x.2.2.2.2.2.1)), (q6, .inl (c6, 512, .inl x.2.2.2.2.2.2.1)), (q7, .inl (c7, 1549, .inl x.2.2.2.2.2.2.2))]) ([(c1, .int), (c2, .int), (c3, .int), (c4, .int), (c5, .boolean), (c6, .int), (c7, .int)]) t) A) [.ref h0, .int so, .int n, .ref pr, .int fr, .int gi, .int co].toArray s 0 0 A) (F0 m 62 ls []) := by
            intro  H locs ls  hw hl
            refine lv_aload_n hf.1 hf.2.1 dX3_findOrAdd_62 rfl (lv_at hl 3 rfl) ?_
            refine mget hf hw iX3 0 rfl rfl 7 (by decide) k256 rfl dX3_findOrAdd_63 ?_
            refine lv_iload hf.1 hf.2.1 dX3_findOrAdd_66 (lv_at hl 1 rfl) ?_
            refine miald hf hw 7 6 rfl rfl (vp_in_nI (by omega) (by decide)) dX3_findOrAdd_68 ?_
            refine lv_topi (fun x_24 ex_24 => ?_)
            have hz : kiv cnt x_24 := by rw [ex_24, nI_tc (by omega)]; exact hK.2 k hk
            refine lv_istore (lv' := [(8, .int x_24), (9, .int (nI i)), (7, .int (nI b)), (0, .ref h0), (1, .int so), (2, .int n), (3, .ref pr), (4, .int fr), (5, .int gi), (6, .int co)]) hf.1 hf.2.1 dX3_findOrAdd_69 hl (by decide) rfl (fun ls hl => ?_)
            obtain ⟨x_25, ex_25⟩ : ∃ y : Int32, y = (nI i) + 1 := ⟨_, rfl⟩
            refine lv_iinc (v := x_25) (lv' := [(9, .int x_25), (8, .int x_24), (7, .int (nI b)), (0, .ref h0), (1, .int so), (2, .int n), (3, .ref pr), (4, .int fr), (5, .int gi), (6, .int co)]) hf.1 hf.2.1 dX3_findOrAdd_71 hl (k := 1) rfl (by rw [ex_25]; rfl) (by decide) rfl (fun ls hl => ?_)
            obtain rfl : x_25 = nI (i + 1) := by rw [ex_25, nI_1]
            refine lv_goto (tgt := 19) hf.1 hf.2.1 dX3_findOrAdd_74 (by decide) ?_
            exact ih (i + 1) x_24 _ _ _ (by omega) hz (by omega) hw (lv_sub hl [0, 1, 2, 3, 4, 5, 6, 7, 8, 9] rfl)
          refine lv_aload_n hf.1 hf.2.1 dX3_findOrAdd_33 rfl (lv_at hl 3 rfl) ?_
          refine mget hf hw iX3 0 rfl rfl 1 (by decide) k250 rfl dX3_findOrAdd_34 ?_
          refine lv_iload hf.1 hf.2.1 dX3_findOrAdd_37 (lv_at hl 1 rfl) ?_
          refine miald hf hw 1 0 rfl rfl (vp_in_nI (by omega) (by decide)) dX3_findOrAdd_39 ?_
          refine lv_topi (fun x_26 ex_26 => ?_)
          refine lv_iload_n hf.1 hf.2.1 dX3_findOrAdd_40 rfl (lv_at hl 4 rfl) ?_
          refine lv_icmp_ne (tgt := 62) hf.1 hf.2.1 dX3_findOrAdd_41 (by decide) (fun c_27 => ?_) (fun c_27 => ?_)
          · exact J62 _ _ _ hw (lv_sub hl [0, 1, 2, 3, 4, 5, 6, 7, 8, 9] rfl)
          · refine lv_aload_n hf.1 hf.2.1 dX3_findOrAdd_44 rfl (lv_at hl 3 rfl) ?_
            refine lv_iload hf.1 hf.2.1 dX3_findOrAdd_45 (lv_at hl 1 rfl) ?_
            refine lv_iload_n hf.1 hf.2.1 dX3_findOrAdd_47 rfl (lv_at hl 5 rfl) ?_
            refine lv_aload_n hf.1 hf.2.1 dX3_findOrAdd_48 rfl (lv_at hl 6 rfl) ?_
            refine lv_iload hf.1 hf.2.1 dX3_findOrAdd_49 (lv_at hl 7 rfl) ?_
            refine lv_iload hf.1 hf.2.1 dX3_findOrAdd_51 (lv_at hl 8 rfl) ?_
            refine mV_i (As := [.int (nI k), .int n, .ref pr, .int fr, .int gi]) (rest := []) (wr := [(q1, .inl (c1, 1549, .inl f1)), (q4, .inl (c4, 1549, .inl f4)), (q5, .inl (c5, 1549, .inl f5)), (q6, .inl (c6, 512, .inl f6)), (q7, .inl (c7, 1549, .inl f7))]) (tr := [(c1, .int), (c4, .int), (c5, .boolean), (c6, .int), (c7, .int)]) hf hw (c_isSame0 l dC dI h0 q1 q2 q3 q4 q5 q6 q7 c2 c3 f2 f3 cnt k n fr gi pr H.size (by omega) hn4) ka_X3_isSame kv_X3_isSame 0 rfl rfl k230 [0, 2, 3] [1, 2] [1, 4, 5, 6, 7] [0, 3, 4, 5, 6] rfl rfl rfl rfl rfl (by decide) rfl rfl rfl hl.1 rfl rfl ⟨Nat.le_of_ble_eq_true rfl, Nat.le_of_ble_eq_true rfl⟩ (Nat.le_of_ble_eq_true rfl) (ce := 0) (sl := 0) rfl rfl ⟨Nat.le_of_ble_eq_true rfl, Nat.le_of_ble_eq_true rfl⟩ dX3_findOrAdd_53 (fun r_28 u_29 hu_29 H locs hw => ?_)
            have hw : Wd dC dI A [(q1, .inl (c1, 1549, .inl f1)), (q4, .inl (c4, 1549, .inl f4)), (q5, .inl (c5, 1549, .inl f5)), (q6, .inl (c6, 512, .inl f6)), (q7, .inl (c7, 1549, .inl f7)), (h0, .inr (3, [.int (nI cnt), .ref q1, .ref q2, .ref q3, .ref q4, .ref q5, .ref q6, .ref q7])), (q2, .inl (c2, 1549, .inl f2)), (q3, .inl (c3, 7745, .inl f3))] [(c1, .int), (c4, .int), (c5, .boolean), (c6, .int), (c7, .int), (c2, .int), (c3, .int)] s H locs := hw
            have hw := hw.pick (ws' := [(h0, .inr (3, [.int (nI cnt), .ref q1, .ref q2, .ref q3, .ref q4, .ref q5, .ref q6, .ref q7])), (q1, .inl (c1, 1549, .inl f1)), (q2, .inl (c2, 1549, .inl f2)), (q3, .inl (c3, 7745, .inl f3)), (q4, .inl (c4, 1549, .inl f4)), (q5, .inl (c5, 1549, .inl f5)), (q6, .inl (c6, 512, .inl f6)), (q7, .inl (c7, 1549, .inl f7))]) (tys' := [(c1, .int), (c2, .int), (c3, .int), (c4, .int), (c5, .boolean), (c6, .int), (c7, .int)]) [5, 0, 6, 7, 1, 2, 3, 4] [0, 5, 6, 1, 2, 3, 4] rfl rfl rfl
            refine lv_if_eq (tgt := 62) hf.1 hf.2.1 dX3_findOrAdd_56 (by decide) (fun c_30 => ?_) (fun c_30 => ?_)
            · exact J62 _ _ _ hw (lv_sub hl [0, 1, 2, 3, 4, 5, 6, 7, 8, 9] rfl)
            · refine lv_iload hf.1 hf.2.1 dX3_findOrAdd_59 (lv_at hl 1 rfl) ?_
              exact mret_i (v := (nI k)) hf hr hlk hw (cnt, f1, f2, f3, f4, f5, f6, f7) ⟨⟨k, by omega, rfl⟩, Nat.le_refl _, Nat.le_succ _, hc, hK⟩ [0, 1, 2, 3, 4, 5, 6, 7] [0, 1, 2, 3, 4, 5, 6] rfl rfl rfl (Nat.le_of_ble_eq_true rfl) (Nat.le_of_ble_eq_true rfl) dX3_findOrAdd_61
  exact loop1 1550 0 _ _ _ _ (by omega) hkd (by omega) hw (lv_sub hl [0, 1, 2, 3, 4, 5, 6, 7, 8, 9] rfl)
