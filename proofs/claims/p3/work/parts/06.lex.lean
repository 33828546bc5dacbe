theorem dX11_fails_0 : decode cX11_fails 0 = .ok (.aload_n 0, 1) := by decide +kernel
theorem dX11_fails_1 : decode cX11_fails 1 = .ok (.getfield 286, 3) := by decide +kernel
theorem dX11_fails_4 : decode cX11_fails 4 = .ok (.ifCond .ne 13, 3) := by decide +kernel
theorem dX11_fails_7 : decode cX11_fails 7 = .ok (.aload_n 0, 1) := by decide +kernel
theorem dX11_fails_8 : decode cX11_fails 8 = .ok (.iload_n 1, 1) := by decide +kernel
theorem dX11_fails_9 : decode cX11_fails 9 = .ok (.putfield 286, 3) := by decide +kernel
theorem dX11_fails_12 : decode cX11_fails 12 = .ok (.aload_n 0, 1) := by decide +kernel
theorem dX11_fails_13 : decode cX11_fails 13 = .ok (.iload_n 2, 1) := by decide +kernel
theorem dX11_fails_14 : decode cX11_fails 14 = .ok (.putfield 289, 3) := by decide +kernel
theorem dX11_fails_17 : decode cX11_fails 17 = .ok (.return_, 1) := by decide +kernel
theorem dX11_in_0 : decode cX11_in 0 = .ok (.iload_n 0, 1) := by decide +kernel
theorem dX11_in_1 : decode cX11_in 1 = .ok (.iload_n 1, 1) := by decide +kernel
theorem dX11_in_2 : decode cX11_in 2 = .ok (.if_icmp .lt 12, 3) := by decide +kernel
theorem dX11_in_5 : decode cX11_in 5 = .ok (.iload_n 0, 1) := by decide +kernel
theorem dX11_in_6 : decode cX11_in 6 = .ok (.iload_n 2, 1) := by decide +kernel
theorem dX11_in_7 : decode cX11_in 7 = .ok (.if_icmp .gt 7, 3) := by decide +kernel
theorem dX11_in_10 : decode cX11_in 10 = .ok (.iconst 1, 1) := by decide +kernel
theorem dX11_in_11 : decode cX11_in 11 = .ok (.goto 4, 3) := by decide +kernel
theorem dX11_in_14 : decode cX11_in 14 = .ok (.iconst 0, 1) := by decide +kernel
theorem dX11_in_15 : decode cX11_in 15 = .ok (.ireturn, 1) := by decide +kernel
theorem dX11_isSign_0 : decode cX11_isSign 0 = .ok (.aload_n 0, 1) := by decide +kernel
theorem dX11_isSign_1 : decode cX11_isSign 1 = .ok (.invokevirtual 341, 3) := by decide +kernel
theorem dX11_isSign_4 : decode cX11_isSign 4 = .ok (.ifCond .eq 25, 3) := by decide +kernel
theorem dX11_isSign_7 : decode cX11_isSign 7 = .ok (.aload_n 0, 1) := by decide +kernel
theorem dX11_isSign_8 : decode cX11_isSign 8 = .ok (.getfield 309, 3) := by decide +kernel
theorem dX11_isSign_11 : decode cX11_isSign 11 = .ok (.iconst 4, 1) := by decide +kernel
theorem dX11_isSign_12 : decode cX11_isSign 12 = .ok (.if_icmp .ne 17, 3) := by decide +kernel
theorem dX11_isSign_15 : decode cX11_isSign 15 = .ok (.aload_n 0, 1) := by decide +kernel
theorem dX11_isSign_16 : decode cX11_isSign 16 = .ok (.getfield 305, 3) := by decide +kernel
theorem dX11_isSign_19 : decode cX11_isSign 19 = .ok (.iload_n 1, 1) := by decide +kernel
theorem dX11_isSign_20 : decode cX11_isSign 20 = .ok (.i2l, 1) := by decide +kernel
theorem dX11_isSign_21 : decode cX11_isSign 21 = .ok (.lcmp, 1) := by decide +kernel
theorem dX11_isSign_22 : decode cX11_isSign 22 = .ok (.ifCond .ne 7, 3) := by decide +kernel
theorem dX11_isSign_25 : decode cX11_isSign 25 = .ok (.iconst 1, 1) := by decide +kernel
theorem dX11_isSign_26 : decode cX11_isSign 26 = .ok (.goto 4, 3) := by decide +kernel
theorem dX11_isSign_29 : decode cX11_isSign 29 = .ok (.iconst 0, 1) := by decide +kernel
theorem dX11_isSign_30 : decode cX11_isSign 30 = .ok (.ireturn, 1) := by decide +kernel
theorem dX11_isWell_0 : decode cX11_isWell 0 = .ok (.aload_n 0, 1) := by decide +kernel
theorem dX11_isWell_1 : decode cX11_isWell 1 = .ok (.getfield 286, 3) := by decide +kernel
theorem dX11_isWell_4 : decode cX11_isWell 4 = .ok (.ifCond .ne 7, 3) := by decide +kernel
theorem dX11_isWell_7 : decode cX11_isWell 7 = .ok (.iconst 1, 1) := by decide +kernel
theorem dX11_isWell_8 : decode cX11_isWell 8 = .ok (.goto 4, 3) := by decide +kernel
theorem dX11_isWell_11 : decode cX11_isWell 11 = .ok (.iconst 0, 1) := by decide +kernel
theorem dX11_isWell_12 : decode cX11_isWell 12 = .ok (.ireturn, 1) := by decide +kernel
theorem dX11_isWord_0 : decode cX11_isWord 0 = .ok (.aload_n 0, 1) := by decide +kernel
theorem dX11_isWord_1 : decode cX11_isWord 1 = .ok (.invokevirtual 341, 3) := by decide +kernel
theorem dX11_isWord_4 : decode cX11_isWord 4 = .ok (.ifCond .eq 25, 3) := by decide +kernel
theorem dX11_isWord_7 : decode cX11_isWord 7 = .ok (.aload_n 0, 1) := by decide +kernel
theorem dX11_isWord_8 : decode cX11_isWord 8 = .ok (.getfield 309, 3) := by decide +kernel
theorem dX11_isWord_11 : decode cX11_isWord 11 = .ok (.iconst 2, 1) := by decide +kernel
theorem dX11_isWord_12 : decode cX11_isWord 12 = .ok (.if_icmp .ne 17, 3) := by decide +kernel
theorem dX11_isWord_15 : decode cX11_isWord 15 = .ok (.aload_n 0, 1) := by decide +kernel
theorem dX11_isWord_16 : decode cX11_isWord 16 = .ok (.getfield 305, 3) := by decide +kernel
theorem dX11_isWord_19 : decode cX11_isWord 19 = .ok (.iload_n 1, 1) := by decide +kernel
theorem dX11_isWord_20 : decode cX11_isWord 20 = .ok (.i2l, 1) := by decide +kernel
theorem dX11_isWord_21 : decode cX11_isWord 21 = .ok (.lcmp, 1) := by decide +kernel
theorem dX11_isWord_22 : decode cX11_isWord 22 = .ok (.ifCond .ne 7, 3) := by decide +kernel
theorem dX11_isWord_25 : decode cX11_isWord 25 = .ok (.iconst 1, 1) := by decide +kernel
theorem dX11_isWord_26 : decode cX11_isWord 26 = .ok (.goto 4, 3) := by decide +kernel
theorem dX11_isWord_29 : decode cX11_isWord 29 = .ok (.iconst 0, 1) := by decide +kernel
theorem dX11_isWord_30 : decode cX11_isWord 30 = .ok (.ireturn, 1) := by decide +kernel
theorem dX11_letterOf_0 : decode cX11_letterOf 0 = .ok (.iload_n 0, 1) := by decide +kernel
theorem dX11_letterOf_1 : decode cX11_letterOf 1 = .ok (.bipush 97, 2) := by decide +kernel
theorem dX11_letterOf_3 : decode cX11_letterOf 3 = .ok (.bipush 122, 2) := by decide +kernel
theorem dX11_letterOf_5 : decode cX11_letterOf 5 = .ok (.invokestatic 282, 3) := by decide +kernel
theorem dX11_letterOf_8 : decode cX11_letterOf 8 = .ok (.ifCond .eq 10, 3) := by decide +kernel
theorem dX11_letterOf_11 : decode cX11_letterOf 11 = .ok (.iload_n 0, 1) := by decide +kernel
theorem dX11_letterOf_12 : decode cX11_letterOf 12 = .ok (.bipush 96, 2) := by decide +kernel
theorem dX11_letterOf_14 : decode cX11_letterOf 14 = .ok (.isub, 1) := by decide +kernel
theorem dX11_letterOf_15 : decode cX11_letterOf 15 = .ok (.goto 22, 3) := by decide +kernel
theorem dX11_letterOf_18 : decode cX11_letterOf 18 = .ok (.iload_n 0, 1) := by decide +kernel
theorem dX11_letterOf_19 : decode cX11_letterOf 19 = .ok (.bipush 65, 2) := by decide +kernel
theorem dX11_letterOf_21 : decode cX11_letterOf 21 = .ok (.bipush 90, 2) := by decide +kernel
theorem dX11_letterOf_23 : decode cX11_letterOf 23 = .ok (.invokestatic 282, 3) := by decide +kernel
theorem dX11_letterOf_26 : decode cX11_letterOf 26 = .ok (.ifCond .eq 10, 3) := by decide +kernel
theorem dX11_letterOf_29 : decode cX11_letterOf 29 = .ok (.iload_n 0, 1) := by decide +kernel
theorem dX11_letterOf_30 : decode cX11_letterOf 30 = .ok (.bipush 38, 2) := by decide +kernel
theorem dX11_letterOf_32 : decode cX11_letterOf 32 = .ok (.isub, 1) := by decide +kernel
theorem dX11_letterOf_33 : decode cX11_letterOf 33 = .ok (.goto 4, 3) := by decide +kernel
theorem dX11_letterOf_36 : decode cX11_letterOf 36 = .ok (.iconst 0, 1) := by decide +kernel
theorem dX11_letterOf_37 : decode cX11_letterOf 37 = .ok (.ireturn, 1) := by decide +kernel
theorem dX11_stray_0 : decode cX11_stray 0 = .ok (.aload_n 0, 1) := by decide +kernel
theorem dX11_stray_1 : decode cX11_stray 1 = .ok (.iconst 1, 1) := by decide +kernel
theorem dX11_stray_2 : decode cX11_stray 2 = .ok (.aload_n 0, 1) := by decide +kernel
theorem dX11_stray_3 : decode cX11_stray 3 = .ok (.getfield 292, 3) := by decide +kernel
theorem dX11_stray_6 : decode cX11_stray 6 = .ok (.invokevirtual 295, 3) := by decide +kernel
theorem dX11_stray_9 : decode cX11_stray 9 = .ok (.return_, 1) := by decide +kernel
theorem dX11_wordOf_0 : decode cX11_wordOf 0 = .ok (.lload_n 0, 1) := by decide +kernel
theorem dX11_wordOf_1 : decode cX11_wordOf 1 = .ok (.ldc2_w 337, 3) := by decide +kernel
theorem dX11_wordOf_4 : decode cX11_wordOf 4 = .ok (.lcmp, 1) := by decide +kernel
theorem dX11_wordOf_5 : decode cX11_wordOf 5 = .ok (.ifCond .le 5, 3) := by decide +kernel
theorem dX11_wordOf_8 : decode cX11_wordOf 8 = .ok (.iconst (-1), 1) := by decide +kernel
theorem dX11_wordOf_9 : decode cX11_wordOf 9 = .ok (.ireturn, 1) := by decide +kernel
theorem dX11_wordOf_10 : decode cX11_wordOf 10 = .ok (.lload_n 0, 1) := by decide +kernel
theorem dX11_wordOf_11 : decode cX11_wordOf 11 = .ok (.l2i, 1) := by decide +kernel
theorem dX11_wordOf_12 : decode cX11_wordOf 12 = .ok (.lookupswitch 171 #[(398, 168), (582, 138), (590, 136), (5017, 165), (37780, 159), (49492, 134), (57687, 150), (1361093, 142), (1622087, 162), (4199572, 132), (5019269, 153), (5275982, 140), (5317957, 144), (100975813, 147), (273191828, 156)], 132) := by decide +kernel
theorem dX11_wordOf_144 : decode cX11_wordOf 144 = .ok (.iconst 0, 1) := by decide +kernel
theorem dX11_wordOf_145 : decode cX11_wordOf 145 = .ok (.ireturn, 1) := by decide +kernel
theorem dX11_wordOf_146 : decode cX11_wordOf 146 = .ok (.iconst 1, 1) := by decide +kernel
theorem dX11_wordOf_147 : decode cX11_wordOf 147 = .ok (.ireturn, 1) := by decide +kernel
theorem dX11_wordOf_148 : decode cX11_wordOf 148 = .ok (.iconst 2, 1) := by decide +kernel
theorem dX11_wordOf_149 : decode cX11_wordOf 149 = .ok (.ireturn, 1) := by decide +kernel
theorem dX11_wordOf_150 : decode cX11_wordOf 150 = .ok (.iconst 3, 1) := by decide +kernel
theorem dX11_wordOf_151 : decode cX11_wordOf 151 = .ok (.ireturn, 1) := by decide +kernel
theorem dX11_wordOf_152 : decode cX11_wordOf 152 = .ok (.iconst 4, 1) := by decide +kernel
theorem dX11_wordOf_153 : decode cX11_wordOf 153 = .ok (.ireturn, 1) := by decide +kernel
theorem dX11_wordOf_154 : decode cX11_wordOf 154 = .ok (.iconst 5, 1) := by decide +kernel
theorem dX11_wordOf_155 : decode cX11_wordOf 155 = .ok (.ireturn, 1) := by decide +kernel
theorem dX11_wordOf_156 : decode cX11_wordOf 156 = .ok (.bipush 6, 2) := by decide +kernel
theorem dX11_wordOf_158 : decode cX11_wordOf 158 = .ok (.ireturn, 1) := by decide +kernel
theorem dX11_wordOf_159 : decode cX11_wordOf 159 = .ok (.bipush 7, 2) := by decide +kernel
theorem dX11_wordOf_161 : decode cX11_wordOf 161 = .ok (.ireturn, 1) := by decide +kernel
theorem dX11_wordOf_162 : decode cX11_wordOf 162 = .ok (.bipush 8, 2) := by decide +kernel
theorem dX11_wordOf_164 : decode cX11_wordOf 164 = .ok (.ireturn, 1) := by decide +kernel
theorem dX11_wordOf_165 : decode cX11_wordOf 165 = .ok (.bipush 9, 2) := by decide +kernel
theorem dX11_wordOf_167 : decode cX11_wordOf 167 = .ok (.ireturn, 1) := by decide +kernel
theorem dX11_wordOf_168 : decode cX11_wordOf 168 = .ok (.bipush 10, 2) := by decide +kernel
theorem dX11_wordOf_170 : decode cX11_wordOf 170 = .ok (.ireturn, 1) := by decide +kernel
theorem dX11_wordOf_171 : decode cX11_wordOf 171 = .ok (.bipush 11, 2) := by decide +kernel
theorem dX11_wordOf_173 : decode cX11_wordOf 173 = .ok (.ireturn, 1) := by decide +kernel
theorem dX11_wordOf_174 : decode cX11_wordOf 174 = .ok (.bipush 12, 2) := by decide +kernel
theorem dX11_wordOf_176 : decode cX11_wordOf 176 = .ok (.ireturn, 1) := by decide +kernel
theorem dX11_wordOf_177 : decode cX11_wordOf 177 = .ok (.bipush 13, 2) := by decide +kernel
theorem dX11_wordOf_179 : decode cX11_wordOf 179 = .ok (.ireturn, 1) := by decide +kernel
theorem dX11_wordOf_180 : decode cX11_wordOf 180 = .ok (.bipush 14, 2) := by decide +kernel
theorem dX11_wordOf_182 : decode cX11_wordOf 182 = .ok (.ireturn, 1) := by decide +kernel
theorem dX11_wordOf_183 : decode cX11_wordOf 183 = .ok (.iconst (-1), 1) := by decide +kernel
theorem dX11_wordOf_184 : decode cX11_wordOf 184 = .ok (.ireturn, 1) := by decide +kernel
theorem k1374 : Cond.fieldLink "BlameCourtModel" 292 "BlameCourtModel" "token" "I" ∈ gtb := gtm (in_tables_1_5 (List.mem_of_getElem? (i := 228) rfl)) rfl
theorem k1375 : Cond.fieldLink "BlameCourtModel" 309 "BlameCourtModel" "sort" "I" ∈ gtb := gtm (in_tables_1_5 (List.mem_of_getElem? (i := 229) rfl)) rfl
theorem k1376 : Cond.fieldLink "BlameCourtModel" 305 "BlameCourtModel" "told" "J" ∈ gtb := gtm (in_tables_1_5 (List.mem_of_getElem? (i := 230) rfl)) rfl
theorem k1378 : Cond.fieldLink "BlameCourtModel" 286 "BlameCourtModel" "wrong" "I" ∈ gtb := gtm (in_tables_1_5 (List.mem_of_getElem? (i := 232) rfl)) rfl
theorem k1379 : Cond.fieldLink "BlameCourtModel" 289 "BlameCourtModel" "wrongAt" "I" ∈ gtb := gtm (in_tables_1_5 (List.mem_of_getElem? (i := 233) rfl)) rfl
theorem k1765 : Cond.methodLink "BlameCourtModel" 282 yX11_in ∈ gtb := gtm (in_tables_1_7 (List.mem_of_getElem? (i := 139) rfl)) rfl
theorem k1766 : Cond.static yX11_in ∈ gtb := gtm (in_tables_1_7 (List.mem_of_getElem? (i := 140) rfl)) rfl
theorem k1781 : Cond.static yX11_letterOf ∈ gtb := gtm (in_tables_1_7 (List.mem_of_getElem? (i := 155) rfl)) rfl
theorem k1789 : Cond.static yX11_wordOf ∈ gtb := gtm (in_tables_1_7 (List.mem_of_getElem? (i := 163) rfl)) rfl
theorem k1791 : Cond.constantLong "BlameCourtModel" 337 2000000000 ∈ gtb := gtm (in_tables_1_7 (List.mem_of_getElem? (i := 165) rfl)) rfl
theorem k1800 : Cond.methodLink "BlameCourtModel" 341 yX11_isWell ∈ gtb := gtm (in_tables_1_7 (List.mem_of_getElem? (i := 174) rfl)) rfl
theorem k1812 : Cond.methodLink "BlameCourtModel" 295 yX11_fails ∈ gtb := gtm (in_tables_1_7 (List.mem_of_getElem? (i := 186) rfl)) rfl
theorem k1815 : Cond.code yX11_fails cX11_fails 3 none ∈ gtb := gtm (in_tables_1_7 (List.mem_of_getElem? (i := 189) rfl)) rfl
theorem k197 : Cond.initialized "BlameCourtModel" ∈ gtb := gtm (in_tables_1_1 (List.mem_of_getElem? (i := 11) rfl)) rfl
theorem ka_X11_fails : KA yX11_fails cX11_fails 3 none 2 := ⟨k1815, k197, by decide, by decide, by decide +kernel⟩
theorem k1814 : Cond.instanceMethod yX11_fails ∈ gtb := gtm (in_tables_1_7 (List.mem_of_getElem? (i := 188) rfl)) rfl
theorem k105 : Cond.selects "BlameCourtModel" yX11_fails yX11_fails ∈ gtb := gtm (in_lw_privs_7 (q := (yX11_fails, 129)) (List.mem_of_getElem? (i := 9) rfl)) rfl
theorem kv_X11_fails : KV yX11_fails := ⟨k1814, k105⟩
theorem k1767 : Cond.code yX11_in cX11_in 3 (some .boolean) ∈ gtb := gtm (in_tables_1_7 (List.mem_of_getElem? (i := 141) rfl)) rfl
theorem ka_X11_in : KA yX11_in cX11_in 3 (some .boolean) 3 := ⟨k1767, k197, by decide, by decide, by decide +kernel⟩
theorem k1827 : Cond.code yX11_isSign cX11_isSign 2 (some .boolean) ∈ gtb := gtm (in_tables_1_7 (List.mem_of_getElem? (i := 201) rfl)) rfl
theorem ka_X11_isSign : KA yX11_isSign cX11_isSign 2 (some .boolean) 1 := ⟨k1827, k197, by decide, by decide, by decide +kernel⟩
theorem k1826 : Cond.instanceMethod yX11_isSign ∈ gtb := gtm (in_tables_1_7 (List.mem_of_getElem? (i := 200) rfl)) rfl
theorem k108 : Cond.selects "BlameCourtModel" yX11_isSign yX11_isSign ∈ gtb := gtm (in_lw_privs_7 (q := (yX11_isSign, 129)) (List.mem_of_getElem? (i := 12) rfl)) rfl
theorem kv_X11_isSign : KV yX11_isSign := ⟨k1826, k108⟩
theorem k1803 : Cond.code yX11_isWell cX11_isWell 1 (some .boolean) ∈ gtb := gtm (in_tables_1_7 (List.mem_of_getElem? (i := 177) rfl)) rfl
theorem ka_X11_isWell : KA yX11_isWell cX11_isWell 1 (some .boolean) 0 := ⟨k1803, k197, by decide, by decide, by decide +kernel⟩
theorem k1802 : Cond.instanceMethod yX11_isWell ∈ gtb := gtm (in_tables_1_7 (List.mem_of_getElem? (i := 176) rfl)) rfl
theorem k102 : Cond.selects "BlameCourtModel" yX11_isWell yX11_isWell ∈ gtb := gtm (in_lw_privs_7 (q := (yX11_isWell, 129)) (List.mem_of_getElem? (i := 6) rfl)) rfl
theorem kv_X11_isWell : KV yX11_isWell := ⟨k1802, k102⟩
theorem k1807 : Cond.code yX11_isWord cX11_isWord 2 (some .boolean) ∈ gtb := gtm (in_tables_1_7 (List.mem_of_getElem? (i := 181) rfl)) rfl
theorem ka_X11_isWord : KA yX11_isWord cX11_isWord 2 (some .boolean) 1 := ⟨k1807, k197, by decide, by decide, by decide +kernel⟩
theorem k1806 : Cond.instanceMethod yX11_isWord ∈ gtb := gtm (in_tables_1_7 (List.mem_of_getElem? (i := 180) rfl)) rfl
theorem k103 : Cond.selects "BlameCourtModel" yX11_isWord yX11_isWord ∈ gtb := gtm (in_lw_privs_7 (q := (yX11_isWord, 129)) (List.mem_of_getElem? (i := 7) rfl)) rfl
theorem kv_X11_isWord : KV yX11_isWord := ⟨k1806, k103⟩
theorem k1782 : Cond.code yX11_letterOf cX11_letterOf 1 (some .int) ∈ gtb := gtm (in_tables_1_7 (List.mem_of_getElem? (i := 156) rfl)) rfl
theorem ka_X11_letterOf : KA yX11_letterOf cX11_letterOf 1 (some .int) 1 := ⟨k1782, k197, by decide, by decide, by decide +kernel⟩
theorem k1811 : Cond.code yX11_stray cX11_stray 1 none ∈ gtb := gtm (in_tables_1_7 (List.mem_of_getElem? (i := 185) rfl)) rfl
theorem ka_X11_stray : KA yX11_stray cX11_stray 1 none 0 := ⟨k1811, k197, by decide, by decide, by decide +kernel⟩
theorem k1810 : Cond.instanceMethod yX11_stray ∈ gtb := gtm (in_tables_1_7 (List.mem_of_getElem? (i := 184) rfl)) rfl
theorem k104 : Cond.selects "BlameCourtModel" yX11_stray yX11_stray ∈ gtb := gtm (in_lw_privs_7 (q := (yX11_stray, 129)) (List.mem_of_getElem? (i := 8) rfl)) rfl
theorem kv_X11_stray : KV yX11_stray := ⟨k1810, k104⟩
theorem k1790 : Cond.code yX11_wordOf cX11_wordOf 2 (some .int) ∈ gtb := gtm (in_tables_1_7 (List.mem_of_getElem? (i := 164) rfl)) rfl
theorem ka_X11_wordOf : KA yX11_wordOf cX11_wordOf 2 (some .int) 1 := ⟨k1790, k197, by decide, by decide, by decide +kernel⟩
theorem nar01 {x : Int32} (h : x.toInt = 0 ∨ x.toInt = 1) : narrow .boolean (.int x) = .int x := by
  have e : x = 0 ∨ x = 1 := by
    rcases h with q | q
    · exact Or.inl (Int32.toInt_inj.mp q)
    · exact Or.inr (Int32.toInt_inj.mp q)
  rcases e with q | q
  · subst q; rfl
  · subst q; rfl
theorem Dtop_le {D : Dn} (h : Dle Dtop D) : Dtop = D := by
  have e1 : Dtop.1 = D.1 := funext (fun k => propext ⟨fun _ => h.1 k trivial, fun _ => trivial⟩)
  have e2 : Dtop.2.1 = D.2.1 := propext ⟨fun _ => h.2.1 trivial, fun _ => trivial⟩
  have e3 : Dtop.2.2.1 = D.2.2.1 := funext (fun i => funext (fun j => propext ⟨fun _ => h.2.2.1 i j trivial, fun _ => trivial⟩))
  have e4 : Dtop.2.2.2 = D.2.2.2 := funext (fun i => funext (fun j => propext ⟨fun _ => h.2.2.2 i j trivial, fun _ => trivial⟩))
  exact Prod.ext e1 (Prod.ext e2 (Prod.ext e3 e4))

/-! pure static methods as functions -/
def inV (x lo hi : Int32) : Int32 := if lo.toInt ≤ x.toInt ∧ x.toInt ≤ hi.toInt then 1 else 0
theorem inV_f {x lo hi r : Int32} (h : r = inV x lo hi) : (r = 1 ∧ (lo.toInt ≤ x.toInt ∧ x.toInt ≤ hi.toInt)) ∨ (r = 0 ∧ (x.toInt < lo.toInt ∨ hi.toInt < x.toInt)) := by
  unfold inV at h
  split at h
  · exact Or.inl ⟨h, by assumption⟩
  · exact Or.inr ⟨h, by omega⟩
def letV (x : Int32) : Int32 := if 97 ≤ x.toInt ∧ x.toInt ≤ 122 then x - 96 else if 65 ≤ x.toInt ∧ x.toInt ≤ 90 then x - 38 else 0

set_option maxHeartbeats 4000000 in
set_option maxRecDepth 100000 in
theorem m_in (l : Launch) (dC : Nat → ClassId) (dI : Nat → Nat → Nat) (x lo hi : Int32) (sz : Nat) : PCi l dC dI yX11_in cX11_in 3 (some .boolean) ({ frames := 6, cells := 0, slots := 0, locals := 90 } : Room) [.int x, .int lo, .int hi] (fun r => r = inV x lo hi) sz := by
  refine pbody_i (by decide) (Nat.le_of_ble_eq_true rfl) ?_
  intro p e s m below meth c ls A H hf hr hlk hw hl
  have hl : lv_has ls 3 [(0, .int x), (1, .int lo), (2, .int hi)] := hl
  refine lv_iload_n hf.1 hf.2.1 dX11_in_0 rfl (lv_at hl 0 rfl) ?_
  refine lv_iload_n hf.1 hf.2.1 dX11_in_1 rfl (lv_at hl 1 rfl) ?_
  refine lv_icmp_lt (tgt := 14) hf.1 hf.2.1 dX11_in_2 (by decide) (fun c_1 => ?_) (fun c_1 => ?_)
  · have ic_1 : x.toInt < lo.toInt := ti_lt c_1
    refine lv_iconst (v := 0) hf.1 hf.2.1 dX11_in_14 (by decide) ?_
    exact mret_z (v := 0) hf hr hlk (by decide) hw () (by unfold inV; first | (rw [if_pos (by omega)]; done) | (rw [if_neg (by omega)]; done)) [] [] rfl rfl rfl (Nat.le_refl _) (Nat.le_refl _) dX11_in_15
  · have ic_1 : lo.toInt ≤ x.toInt := ti_nlt c_1
    refine lv_iload_n hf.1 hf.2.1 dX11_in_5 rfl (lv_at hl 0 rfl) ?_
    refine lv_iload_n hf.1 hf.2.1 dX11_in_6 rfl (lv_at hl 2 rfl) ?_
    refine lv_icmp_gt (tgt := 14) hf.1 hf.2.1 dX11_in_7 (by decide) (fun c_2 => ?_) (fun c_2 => ?_)
    · have ic_2 : hi.toInt < x.toInt := ti_lt c_2
      refine lv_iconst (v := 0) hf.1 hf.2.1 dX11_in_14 (by decide) ?_
      exact mret_z (v := 0) hf hr hlk (by decide) hw () (by unfold inV; first | (rw [if_pos (by omega)]; done) | (rw [if_neg (by omega)]; done)) [] [] rfl rfl rfl (Nat.le_refl _) (Nat.le_refl _) dX11_in_15
    · have ic_2 : x.toInt ≤ hi.toInt := ti_nlt c_2
      refine lv_iconst (v := 1) hf.1 hf.2.1 dX11_in_10 (by decide) ?_
      refine lv_goto (tgt := 15) hf.1 hf.2.1 dX11_in_11 (by decide) ?_
      exact mret_z (v := 1) hf hr hlk (by decide) hw () (by unfold inV; first | (rw [if_pos (by omega)]; done) | (rw [if_neg (by omega)]; done)) [] [] rfl rfl rfl (Nat.le_refl _) (Nat.le_refl _) dX11_in_15

set_option maxHeartbeats 4000000 in
set_option maxRecDepth 100000 in
theorem m_letterOf (l : Launch) (dC : Nat → ClassId) (dI : Nat → Nat → Nat) (x : Int32) (sz : Nat) : PCi l dC dI yX11_letterOf cX11_letterOf 1 (some .int) ({ frames := 10, cells := 0, slots := 0, locals := 150 } : Room) [.int x] (fun r => r = letV x) sz := by
  refine pbody_i (by decide) (Nat.le_of_ble_eq_true rfl) ?_
  intro p e s m below meth c ls A H hf hr hlk hw hl
  have hl : lv_has ls 1 [(0, .int x)] := hl
  refine lv_iload_n hf.1 hf.2.1 dX11_letterOf_0 rfl (lv_at hl 0 rfl) ?_
  refine lv_bipush (v := 97) hf.1 hf.2.1 dX11_letterOf_1 (by decide) ?_
  refine lv_bipush (v := 122) hf.1 hf.2.1 dX11_letterOf_3 (by decide) ?_
  refine pcall_i (As := [.int x, .int 97, .int 122]) (rest := []) hf hw (m_in l dC dI x 97 122 H.size) ka_X11_in k1766 k1765 rfl rfl hl.1 rfl rfl ⟨Nat.le_of_ble_eq_true rfl, Nat.le_of_ble_eq_true rfl⟩ (Nat.le_of_ble_eq_true rfl) ⟨Nat.le_refl _, Nat.le_refl _⟩ dX11_letterOf_5 (fun r_1 hr_1 H locs hw => ?_)
  have hr_1 : r_1 = inV x lo hi := hr_1
  have hr_1 := inV_f (x := x) (lo := 97) (hi := 122) hr_1
  have hr_1 : (r_1 = 1 ∧ ((97 : Int) ≤ x.toInt ∧ x.toInt ≤ (122 : Int))) ∨ (r_1 = 0 ∧ (x.toInt < (97 : Int) ∨ (122 : Int) < x.toInt)) := hr_1
  have hr_1 : (r_1.toInt = 1 ∧ ((97 : Int) ≤ x.toInt ∧ x.toInt ≤ (122 : Int))) ∨ (r_1.toInt = 0 ∧ (x.toInt < (97 : Int) ∨ (122 : Int) < x.toInt)) := hr_1.imp (fun q => ⟨ti_eq q.1, q.2⟩) (fun q => ⟨ti_eq q.1, q.2⟩)
  refine lv_if_eq (tgt := 18) hf.1 hf.2.1 dX11_letterOf_8 (by decide) (fun c_2 => ?_) (fun c_2 => ?_)
  · have ic_2 : r_1.toInt = (0 : Int) := ti_eq c_2
    refine lv_iload_n hf.1 hf.2.1 dX11_letterOf_18 rfl (lv_at hl 0 rfl) ?_
    refine lv_bipush (v := 65) hf.1 hf.2.1 dX11_letterOf_19 (by decide) ?_
    refine lv_bipush (v := 90) hf.1 hf.2.1 dX11_letterOf_21 (by decide) ?_
    refine pcall_i (As := [.int x, .int 65, .int 90]) (rest := []) hf hw (m_in l dC dI x 65 90 H.size) ka_X11_in k1766 k1765 rfl rfl hl.1 rfl rfl ⟨Nat.le_of_ble_eq_true rfl, Nat.le_of_ble_eq_true rfl⟩ (Nat.le_of_ble_eq_true rfl) ⟨Nat.le_refl _, Nat.le_refl _⟩ dX11_letterOf_23 (fun r_3 hr_3 H locs hw => ?_)
    have hr_3 : r_3 = inV x lo hi := hr_3
    have hr_3 := inV_f (x := x) (lo := 65) (hi := 90) hr_3
    have hr_3 : (r_3 = 1 ∧ ((65 : Int) ≤ x.toInt ∧ x.toInt ≤ (90 : Int))) ∨ (r_3 = 0 ∧ (x.toInt < (65 : Int) ∨ (90 : Int) < x.toInt)) := hr_3
    have hr_3 : (r_3.toInt = 1 ∧ ((65 : Int) ≤ x.toInt ∧ x.toInt ≤ (90 : Int))) ∨ (r_3.toInt = 0 ∧ (x.toInt < (65 : Int) ∨ (90 : Int) < x.toInt)) := hr_3.imp (fun q => ⟨ti_eq q.1, q.2⟩) (fun q => ⟨ti_eq q.1, q.2⟩)
    refine lv_if_eq (tgt := 36) hf.1 hf.2.1 dX11_letterOf_26 (by decide) (fun c_4 => ?_) (fun c_4 => ?_)
    · have ic_4 : r_3.toInt = (0 : Int) := ti_eq c_4
      refine lv_iconst (v := 0) hf.1 hf.2.1 dX11_letterOf_36 (by decide) ?_
      exact mret_i (v := 0) hf hr hlk hw () (by unfold letV; first | (rw [if_pos (by omega)]; done) | (rw [if_neg (by omega), if_pos (by omega)]; done) | (rw [if_neg (by omega), if_neg (by omega)]; done)) [] [] rfl rfl rfl (Nat.le_refl _) (Nat.le_refl _) dX11_letterOf_37
    · have ic_4 : ¬ r_3.toInt = (0 : Int) := ti_ne c_4
      refine lv_iload_n hf.1 hf.2.1 dX11_letterOf_29 rfl (lv_at hl 0 rfl) ?_
      refine lv_bipush (v := 38) hf.1 hf.2.1 dX11_letterOf_30 (by decide) ?_
      refine lv_isub hf.1 hf.2.1 dX11_letterOf_32 ?_
      refine lv_topi (fun x_5 ex_5 => ?_)
      refine lv_goto (tgt := 37) hf.1 hf.2.1 dX11_letterOf_33 (by decide) ?_
      exact mret_i (v := x_5) hf hr hlk hw () (by unfold letV; first | (rw [if_pos (by omega)]; exact ex_5; done) | (rw [if_neg (by omega), if_pos (by omega)]; exact ex_5; done) | (rw [if_neg (by omega), if_neg (by omega)]; done)) [] [] rfl rfl rfl (Nat.le_refl _) (Nat.le_refl _) dX11_letterOf_37
  · have ic_2 : ¬ r_1.toInt = (0 : Int) := ti_ne c_2
    refine lv_iload_n hf.1 hf.2.1 dX11_letterOf_11 rfl (lv_at hl 0 rfl) ?_
    refine lv_bipush (v := 96) hf.1 hf.2.1 dX11_letterOf_12 (by decide) ?_
    refine lv_isub hf.1 hf.2.1 dX11_letterOf_14 ?_
    refine lv_topi (fun x_6 ex_6 => ?_)
    refine lv_goto (tgt := 37) hf.1 hf.2.1 dX11_letterOf_15 (by decide) ?_
    exact mret_i (v := x_6) hf hr hlk hw () (by unfold letV; first | (rw [if_pos (by omega)]; exact ex_6; done) | (rw [if_neg (by omega), if_pos (by omega)]; exact ex_6; done) | (rw [if_neg (by omega), if_neg (by omega)]; done)) [] [] rfl rfl rfl (Nat.le_refl _) (Nat.le_refl _) dX11_letterOf_37

def wordW (y : Int32) : Int32 := if y = 398 then 14 else if y = 582 then 3 else if y = 590 then 2 else if y = 5017 then 13 else if y = 37780 then 11 else if y = 49492 then 1 else if y = 57687 then 8 else if y = 1361093 then 5 else if y = 1622087 then 12 else if y = 4199572 then 0 else if y = 5019269 then 9 else if y = 5275982 then 4 else if y = 5317957 then 6 else if y = 100975813 then 7 else if y = 273191828 then 10 else -1
def wordV (x : Int64) : Int32 := if ¬ (lg_cmp x 2000000000).toInt ≤ 0 then -1 else wordW x.toInt32
theorem wordV_f {x : Int64} {r : Int32} (h : r = wordV x) : -1 ≤ r.toInt ∧ r.toInt ≤ 14 := by
  subst h
  unfold wordV wordW
  repeat' split
  all_goals decide
set_option maxHeartbeats 4000000 in
set_option maxRecDepth 100000 in
theorem m_wordOf (l : Launch) (dC : Nat → ClassId) (dI : Nat → Nat → Nat) (x : Int64) (sz : Nat) : PCi l dC dI yX11_wordOf cX11_wordOf 2 (some .int) ({ frames := 6, cells := 0, slots := 0, locals := 90 } : Room) [.long x] (fun r => r = wordV x) sz := by
  refine pbody_i (by decide) (Nat.le_of_ble_eq_true rfl) ?_
  intro p e s m below meth c ls A H hf hr hlk hw hl
  have hl : lv_has ls 2 [(0, .long x)] := hl
  refine lv_lload_n hf.1 hf.2.1 dX11_wordOf_0 rfl (lv_at hl 0 rfl) ?_
  refine lv_ldc2 (v := 2000000000) hf.1 hf.2.1 hf.2.2.2.1 (hf.2.2.2.2.1 _ k1791) dX11_wordOf_1 ?_
  refine W.lcmp hf.1 hf.2.1 dX11_wordOf_4 ?_
  refine lv_topi (fun x_1 ex_1 => ?_)
  refine lv_if_le (tgt := 10) hf.1 hf.2.1 dX11_wordOf_5 (by decide) (fun c_2 => ?_) (fun c_2 => ?_)
  · have ic_2 : x_1.toInt ≤ (0 : Int) := ti_le c_2
    refine lv_lload_n hf.1 hf.2.1 dX11_wordOf_10 rfl (lv_at hl 0 rfl) ?_
    refine lv_l2i hf.1 hf.2.1 dX11_wordOf_11 rfl ?_
    refine lv_topi (fun y_3 ey_3 => ?_)
    by_cases lk_4 : y_3 = 398
    · refine lv_lookup (tgt := 180) (off := 168) hf.1 hf.2.1 dX11_wordOf_12 (by decide) (by rw [lk_4]; rfl) (by decide) ?_
      refine lv_bipush (v := 14) hf.1 hf.2.1 dX11_wordOf_180 (by decide) ?_
      exact mret_i (v := 14) hf hr hlk hw () (by unfold wordV wordW; rw [if_neg (by rw [← ex_1]; omega), ← ey_3]; rw [if_pos lk_4]) [] [] rfl rfl rfl (Nat.le_refl _) (Nat.le_refl _) dX11_wordOf_182
    · by_cases lk_5 : y_3 = 582
      · refine lv_lookup (tgt := 150) (off := 138) hf.1 hf.2.1 dX11_wordOf_12 (by decide) (by rw [lk_5]; rfl) (by decide) ?_
        refine lv_iconst (v := 3) hf.1 hf.2.1 dX11_wordOf_150 (by decide) ?_
        exact mret_i (v := 3) hf hr hlk hw () (by unfold wordV wordW; rw [if_neg (by rw [← ex_1]; omega), ← ey_3]; rw [if_neg lk_4, if_pos lk_5]) [] [] rfl rfl rfl (Nat.le_refl _) (Nat.le_refl _) dX11_wordOf_151
      · by_cases lk_6 : y_3 = 590
        · refine lv_lookup (tgt := 148) (off := 136) hf.1 hf.2.1 dX11_wordOf_12 (by decide) (by rw [lk_6]; rfl) (by decide) ?_
          refine lv_iconst (v := 2) hf.1 hf.2.1 dX11_wordOf_148 (by decide) ?_
          exact mret_i (v := 2) hf hr hlk hw () (by unfold wordV wordW; rw [if_neg (by rw [← ex_1]; omega), ← ey_3]; rw [if_neg lk_4, if_neg lk_5, if_pos lk_6]) [] [] rfl rfl rfl (Nat.le_refl _) (Nat.le_refl _) dX11_wordOf_149
        · by_cases lk_7 : y_3 = 5017
          · refine lv_lookup (tgt := 177) (off := 165) hf.1 hf.2.1 dX11_wordOf_12 (by decide) (by rw [lk_7]; rfl) (by decide) ?_
            refine lv_bipush (v := 13) hf.1 hf.2.1 dX11_wordOf_177 (by decide) ?_
            exact mret_i (v := 13) hf hr hlk hw () (by unfold wordV wordW; rw [if_neg (by rw [← ex_1]; omega), ← ey_3]; rw [if_neg lk_4, if_neg lk_5, if_neg lk_6, if_pos lk_7]) [] [] rfl rfl rfl (Nat.le_refl _) (Nat.le_refl _) dX11_wordOf_179
          · by_cases lk_8 : y_3 = 37780
            · refine lv_lookup (tgt := 171) (off := 159) hf.1 hf.2.1 dX11_wordOf_12 (by decide) (by rw [lk_8]; rfl) (by decide) ?_
              refine lv_bipush (v := 11) hf.1 hf.2.1 dX11_wordOf_171 (by decide) ?_
              exact mret_i (v := 11) hf hr hlk hw () (by unfold wordV wordW; rw [if_neg (by rw [← ex_1]; omega), ← ey_3]; rw [if_neg lk_4, if_neg lk_5, if_neg lk_6, if_neg lk_7, if_pos lk_8]) [] [] rfl rfl rfl (Nat.le_refl _) (Nat.le_refl _) dX11_wordOf_173
            · by_cases lk_9 : y_3 = 49492
              · refine lv_lookup (tgt := 146) (off := 134) hf.1 hf.2.1 dX11_wordOf_12 (by decide) (by rw [lk_9]; rfl) (by decide) ?_
                refine lv_iconst (v := 1) hf.1 hf.2.1 dX11_wordOf_146 (by decide) ?_
                exact mret_i (v := 1) hf hr hlk hw () (by unfold wordV wordW; rw [if_neg (by rw [← ex_1]; omega), ← ey_3]; rw [if_neg lk_4, if_neg lk_5, if_neg lk_6, if_neg lk_7, if_neg lk_8, if_pos lk_9]) [] [] rfl rfl rfl (Nat.le_refl _) (Nat.le_refl _) dX11_wordOf_147
              · by_cases lk_10 : y_3 = 57687
                · refine lv_lookup (tgt := 162) (off := 150) hf.1 hf.2.1 dX11_wordOf_12 (by decide) (by rw [lk_10]; rfl) (by decide) ?_
                  refine lv_bipush (v := 8) hf.1 hf.2.1 dX11_wordOf_162 (by decide) ?_
                  exact mret_i (v := 8) hf hr hlk hw () (by unfold wordV wordW; rw [if_neg (by rw [← ex_1]; omega), ← ey_3]; rw [if_neg lk_4, if_neg lk_5, if_neg lk_6, if_neg lk_7, if_neg lk_8, if_neg lk_9, if_pos lk_10]) [] [] rfl rfl rfl (Nat.le_refl _) (Nat.le_refl _) dX11_wordOf_164
                · by_cases lk_11 : y_3 = 1361093
                  · refine lv_lookup (tgt := 154) (off := 142) hf.1 hf.2.1 dX11_wordOf_12 (by decide) (by rw [lk_11]; rfl) (by decide) ?_
                    refine lv_iconst (v := 5) hf.1 hf.2.1 dX11_wordOf_154 (by decide) ?_
                    exact mret_i (v := 5) hf hr hlk hw () (by unfold wordV wordW; rw [if_neg (by rw [← ex_1]; omega), ← ey_3]; rw [if_neg lk_4, if_neg lk_5, if_neg lk_6, if_neg lk_7, if_neg lk_8, if_neg lk_9, if_neg lk_10, if_pos lk_11]) [] [] rfl rfl rfl (Nat.le_refl _) (Nat.le_refl _) dX11_wordOf_155
                  · by_cases lk_12 : y_3 = 1622087
                    · refine lv_lookup (tgt := 174) (off := 162) hf.1 hf.2.1 dX11_wordOf_12 (by decide) (by rw [lk_12]; rfl) (by decide) ?_
                      refine lv_bipush (v := 12) hf.1 hf.2.1 dX11_wordOf_174 (by decide) ?_
                      exact mret_i (v := 12) hf hr hlk hw () (by unfold wordV wordW; rw [if_neg (by rw [← ex_1]; omega), ← ey_3]; rw [if_neg lk_4, if_neg lk_5, if_neg lk_6, if_neg lk_7, if_neg lk_8, if_neg lk_9, if_neg lk_10, if_neg lk_11, if_pos lk_12]) [] [] rfl rfl rfl (Nat.le_refl _) (Nat.le_refl _) dX11_wordOf_176
                    · by_cases lk_13 : y_3 = 4199572
                      · refine lv_lookup (tgt := 144) (off := 132) hf.1 hf.2.1 dX11_wordOf_12 (by decide) (by rw [lk_13]; rfl) (by decide) ?_
                        refine lv_iconst (v := 0) hf.1 hf.2.1 dX11_wordOf_144 (by decide) ?_
                        exact mret_i (v := 0) hf hr hlk hw () (by unfold wordV wordW; rw [if_neg (by rw [← ex_1]; omega), ← ey_3]; rw [if_neg lk_4, if_neg lk_5, if_neg lk_6, if_neg lk_7, if_neg lk_8, if_neg lk_9, if_neg lk_10, if_neg lk_11, if_neg lk_12, if_pos lk_13]) [] [] rfl rfl rfl (Nat.le_refl _) (Nat.le_refl _) dX11_wordOf_145
                      · by_cases lk_14 : y_3 = 5019269
                        · refine lv_lookup (tgt := 165) (off := 153) hf.1 hf.2.1 dX11_wordOf_12 (by decide) (by rw [lk_14]; rfl) (by decide) ?_
                          refine lv_bipush (v := 9) hf.1 hf.2.1 dX11_wordOf_165 (by decide) ?_
                          exact mret_i (v := 9) hf hr hlk hw () (by unfold wordV wordW; rw [if_neg (by rw [← ex_1]; omega), ← ey_3]; rw [if_neg lk_4, if_neg lk_5, if_neg lk_6, if_neg lk_7, if_neg lk_8, if_neg lk_9, if_neg lk_10, if_neg lk_11, if_neg lk_12, if_neg lk_13, if_pos lk_14]) [] [] rfl rfl rfl (Nat.le_refl _) (Nat.le_refl _) dX11_wordOf_167
                        · by_cases lk_15 : y_3 = 5275982
                          · refine lv_lookup (tgt := 152) (off := 140) hf.1 hf.2.1 dX11_wordOf_12 (by decide) (by rw [lk_15]; rfl) (by decide) ?_
                            refine lv_iconst (v := 4) hf.1 hf.2.1 dX11_wordOf_152 (by decide) ?_
                            exact mret_i (v := 4) hf hr hlk hw () (by unfold wordV wordW; rw [if_neg (by rw [← ex_1]; omega), ← ey_3]; rw [if_neg lk_4, if_neg lk_5, if_neg lk_6, if_neg lk_7, if_neg lk_8, if_neg lk_9, if_neg lk_10, if_neg lk_11, if_neg lk_12, if_neg lk_13, if_neg lk_14, if_pos lk_15]) [] [] rfl rfl rfl (Nat.le_refl _) (Nat.le_refl _) dX11_wordOf_153
                          · by_cases lk_16 : y_3 = 5317957
                            · refine lv_lookup (tgt := 156) (off := 144) hf.1 hf.2.1 dX11_wordOf_12 (by decide) (by rw [lk_16]; rfl) (by decide) ?_
                              refine lv_bipush (v := 6) hf.1 hf.2.1 dX11_wordOf_156 (by decide) ?_
                              exact mret_i (v := 6) hf hr hlk hw () (by unfold wordV wordW; rw [if_neg (by rw [← ex_1]; omega), ← ey_3]; rw [if_neg lk_4, if_neg lk_5, if_neg lk_6, if_neg lk_7, if_neg lk_8, if_neg lk_9, if_neg lk_10, if_neg lk_11, if_neg lk_12, if_neg lk_13, if_neg lk_14, if_neg lk_15, if_pos lk_16]) [] [] rfl rfl rfl (Nat.le_refl _) (Nat.le_refl _) dX11_wordOf_158
                            · by_cases lk_17 : y_3 = 100975813
                              · refine lv_lookup (tgt := 159) (off := 147) hf.1 hf.2.1 dX11_wordOf_12 (by decide) (by rw [lk_17]; rfl) (by decide) ?_
                                refine lv_bipush (v := 7) hf.1 hf.2.1 dX11_wordOf_159 (by decide) ?_
                                exact mret_i (v := 7) hf hr hlk hw () (by unfold wordV wordW; rw [if_neg (by rw [← ex_1]; omega), ← ey_3]; rw [if_neg lk_4, if_neg lk_5, if_neg lk_6, if_neg lk_7, if_neg lk_8, if_neg lk_9, if_neg lk_10, if_neg lk_11, if_neg lk_12, if_neg lk_13, if_neg lk_14, if_neg lk_15, if_neg lk_16, if_pos lk_17]) [] [] rfl rfl rfl (Nat.le_refl _) (Nat.le_refl _) dX11_wordOf_161
                              · by_cases lk_18 : y_3 = 273191828
                                · refine lv_lookup (tgt := 168) (off := 156) hf.1 hf.2.1 dX11_wordOf_12 (by decide) (by rw [lk_18]; rfl) (by decide) ?_
                                  refine lv_bipush (v := 10) hf.1 hf.2.1 dX11_wordOf_168 (by decide) ?_
                                  exact mret_i (v := 10) hf hr hlk hw () (by unfold wordV wordW; rw [if_neg (by rw [← ex_1]; omega), ← ey_3]; rw [if_neg lk_4, if_neg lk_5, if_neg lk_6, if_neg lk_7, if_neg lk_8, if_neg lk_9, if_neg lk_10, if_neg lk_11, if_neg lk_12, if_neg lk_13, if_neg lk_14, if_neg lk_15, if_neg lk_16, if_neg lk_17, if_pos lk_18]) [] [] rfl rfl rfl (Nat.le_refl _) (Nat.le_refl _) dX11_wordOf_170
                                · refine lv_lookup (tgt := 183) (off := 171) hf.1 hf.2.1 dX11_wordOf_12 (by decide) ((lv_osw lk_4 rfl).trans ((lv_osw lk_5 rfl).trans ((lv_osw lk_6 rfl).trans ((lv_osw lk_7 rfl).trans ((lv_osw lk_8 rfl).trans ((lv_osw lk_9 rfl).trans ((lv_osw lk_10 rfl).trans ((lv_osw lk_11 rfl).trans ((lv_osw lk_12 rfl).trans ((lv_osw lk_13 rfl).trans ((lv_osw lk_14 rfl).trans ((lv_osw lk_15 rfl).trans ((lv_osw lk_16 rfl).trans ((lv_osw lk_17 rfl).trans ((lv_osw lk_18 rfl).trans rfl))))))))))))))) (by decide) ?_
                                  refine lv_iconst (v := (-1)) hf.1 hf.2.1 dX11_wordOf_183 (by decide) ?_
                                  exact mret_i (v := (-1)) hf hr hlk hw () (by unfold wordV wordW; rw [if_neg (by rw [← ex_1]; omega), ← ey_3]; rw [if_neg lk_4, if_neg lk_5, if_neg lk_6, if_neg lk_7, if_neg lk_8, if_neg lk_9, if_neg lk_10, if_neg lk_11, if_neg lk_12, if_neg lk_13, if_neg lk_14, if_neg lk_15, if_neg lk_16, if_neg lk_17, if_neg lk_18]) [] [] rfl rfl rfl (Nat.le_refl _) (Nat.le_refl _) dX11_wordOf_184
  · have ic_2 : (0 : Int) < x_1.toInt := ti_nle c_2
    refine lv_iconst (v := (-1)) hf.1 hf.2.1 dX11_wordOf_8 (by decide) ?_
    exact mret_i (v := (-1)) hf hr hlk hw () (by unfold wordV; rw [if_pos (by rw [← ex_1]; omega)]) [] [] rfl rfl rfl (Nat.le_refl _) (Nat.le_refl _) dX11_wordOf_9

abbrev K_m_isWell : MK := (cX11_isWell, 1, "BlameCourtModel", (some .boolean), ({ frames := 6, cells := 0, slots := 0, locals := 90 } : Room))
abbrev L_m_isWell : Lm := ([], false, [], [])
set_option maxHeartbeats 4000000 in
set_option maxRecDepth 100000 in
theorem m_isWell (Γ : Sx) (σ : Nat → Int32) (τ : Int64) (α : Nat → Nat → Int32) (β : Nat → Nat → Int64) (D : Dn) (x9 : Int32) (v9 : σ 9 = x9) (hds : DS D [9]) : MCE Γ yX11_isWell K_m_isWell [] L_m_isWell false (σ, τ, α, β) D (fun r x D' => (r = 1 ∧ x9.toInt = 0) ∨ (r = 0 ∧ ¬ x9.toInt = 0)) := by
  subst v9
  refine MCE.of_i (by decide) (Nat.le_of_ble_eq_true rfl) rfl ?_
  show E Γ K_m_isWell [] L_m_isWell false 0 [(0, .ref Γ.2.2.2.1)] [] (σ, τ, α, β) D _
  refine E.aload_n dX11_isWell_0 rfl 0 rfl ?_
  refine E.get (w := (σ 9)) 9 (by decide) (hds 9 (by decide)) k1378 rfl dX11_isWell_1 ?_
  refine E.if_ne (pc1 := 11) dX11_isWell_4 (by decide) (fun c_1 ic_1 => ?_) (fun c_1 ic_1 => ?_)
  · have ic_1 : ¬ (σ 9).toInt = (0 : Int) := ic_1
    refine E.iconst (w := 0) dX11_isWell_11 (by decide) ?_
    exact E.ret_z (x := 0) rfl rfl (Or.inr ⟨rfl, (by show ¬ (σ 9).toInt = 0; omega)⟩) dX11_isWell_12
  · have ic_1 : (σ 9).toInt = (0 : Int) := ic_1
    refine E.iconst (w := 1) dX11_isWell_7 (by decide) ?_
    refine E.goto (pc1 := 12) dX11_isWell_8 (by decide) ?_
    exact E.ret_z (x := 1) rfl rfl (Or.inl ⟨rfl, (by show (σ 9).toInt = 0; omega)⟩) dX11_isWell_12

abbrev K_m_fails : MK := (cX11_fails, 3, "BlameCourtModel", none, ({ frames := 6, cells := 0, slots := 0, locals := 90 } : Room))
abbrev L_m_fails : Lm := ([9, 10], false, [], [])
set_option maxHeartbeats 4000000 in
set_option maxRecDepth 100000 in
theorem m_fails (Γ : Sx) (σ : Nat → Int32) (τ : Int64) (α : Nat → Nat → Int32) (β : Nat → Nat → Int64) (D : Dn) (f pl : Int32) (x9 : Int32) (v9 : σ 9 = x9) (hds : DS D [9]) : MCE Γ yX11_fails K_m_fails [.int f, .int pl] L_m_fails true (σ, τ, α, β) D (fun r x D' => ((x9.toInt = 0 ∧ (x.1 9).toInt = f.toInt) ∨ (¬ x9.toInt = 0 ∧ ¬ (x.1 9).toInt = 0))) := by
  subst v9
  refine MCE.of_v (by decide) (Nat.le_of_ble_eq_true rfl) rfl rfl ?_
  show E Γ K_m_fails [.int f, .int pl] L_m_fails true 0 [(0, .ref Γ.2.2.2.1), (1, .int f), (2, .int pl)] [] (σ, τ, α, β) D _
  refine E.aload_n dX11_fails_0 rfl 0 rfl ?_
  refine E.get (w := (σ 9)) 9 (by decide) (hds 9 (by decide)) k1378 rfl dX11_fails_1 ?_
  refine E.if_ne (pc1 := 17) dX11_fails_4 (by decide) (fun c_1 ic_1 => ?_) (fun c_1 ic_1 => ?_)
  · have ic_1 : ¬ (σ 9).toInt = (0 : Int) := ic_1
    exact E.ret_v rfl (by show ((σ 9).toInt = 0 ∧ (σ 9).toInt = f.toInt) ∨ (¬ (σ 9).toInt = 0 ∧ ¬ (σ 9).toInt = 0); omega) dX11_fails_17
  · have ic_1 : (σ 9).toInt = (0 : Int) := ic_1
    refine E.aload_n dX11_fails_7 rfl 0 rfl ?_
    refine E.iload_n dX11_fails_8 rfl 1 rfl ?_
    refine E.put 9 (by decide) (by decide) k1378 rfl rfl rfl dX11_fails_9 ?_
    refine E.aload_n dX11_fails_12 rfl 0 rfl ?_
    refine E.iload_n dX11_fails_13 rfl 2 rfl ?_
    refine E.putN 10 (by decide) (by decide) k1379 rfl rfl rfl dX11_fails_14 (fun D6 le_5 hk_7 => ?_)
    have hds_8 : DS D6 [9] := hds.le le_5
    have hds_9 : DS D6 [10, 9] := DS.cons hk_7 hds_8
    exact E.ret_v rfl (by show ((σ 9).toInt = 0 ∧ f.toInt = f.toInt) ∨ (¬ (σ 9).toInt = 0 ∧ ¬ f.toInt = 0); omega) dX11_fails_17

abbrev K_m_stray : MK := (cX11_stray, 1, "BlameCourtModel", none, ({ frames := 10, cells := 0, slots := 0, locals := 150 } : Room))
abbrev L_m_stray : Lm := ([9, 10], false, [], [])
set_option maxHeartbeats 4000000 in
set_option maxRecDepth 100000 in
theorem m_stray (Γ : Sx) (σ : Nat → Int32) (τ : Int64) (α : Nat → Nat → Int32) (β : Nat → Nat → Int64) (D : Dn) (hds : DS D [6, 9]) : MCE Γ yX11_stray K_m_stray [] L_m_stray true (σ, τ, α, β) D (fun r x D' => (¬ (x.1 9).toInt = 0)) := by
  refine MCE.of_v (by decide) (Nat.le_of_ble_eq_true rfl) rfl rfl ?_
  show E Γ K_m_stray [] L_m_stray true 0 [(0, .ref Γ.2.2.2.1)] [] (σ, τ, α, β) D _
  refine E.aload_n dX11_stray_0 rfl 0 rfl ?_
  refine E.iconst (w := 1) dX11_stray_1 (by decide) ?_
  refine E.aload_n dX11_stray_2 rfl 0 rfl ?_
  refine E.get (w := (σ 6)) 6 (by decide) (hds 6 (by decide)) k1374 rfl dX11_stray_3 ?_
  refine E.call_v (As1 := [.int 1, .int (σ 6)]) (rest := []) (m_fails Γ _ _ _ _ _ 1 (σ 6) (σ 9) rfl (hds.sub (by decide))) ka_X11_fails kv_X11_fails rfl k1812 rfl rfl rfl rfl ⟨Nat.le_of_ble_eq_true rfl, Nat.le_of_ble_eq_true rfl⟩ (Nat.le_of_ble_eq_true rfl) ⟨by decide, by decide, by decide, by decide⟩ dX11_stray_6 (fun S_1 D_1 hF_1 leD_1 h_1 => ?_)
  obtain ⟨σ_1, τ_1, α_1, β_1⟩ := S_1
  obtain ⟨_, h_1⟩ := h_1
  obtain rfl : τ = τ_1 := (hF_1.2.1 rfl).symm
  have hp_1 := h_1
  have hds_2 : DS D_1 [6, 9] := hds.le leD_1
  have hp_1 : ((σ 9).toInt = 0 ∧ (σ_1 9).toInt = (1 : Int)) ∨ (¬ (σ 9).toInt = 0 ∧ ¬ (σ_1 9).toInt = 0) := hp_1
  exact E.ret_v rfl (by show ¬ (σ_1 9).toInt = 0; omega) dX11_stray_9

abbrev K_m_isSign : MK := (cX11_isSign, 2, "BlameCourtModel", (some .boolean), ({ frames := 10, cells := 0, slots := 0, locals := 150 } : Room))
abbrev L_m_isSign : Lm := ([], false, [], [])
set_option maxHeartbeats 4000000 in
set_option maxRecDepth 100000 in
theorem m_isSign (Γ : Sx) (σ : Nat → Int32) (τ : Int64) (α : Nat → Nat → Int32) (β : Nat → Nat → Int64) (D : Dn) (s0 : Int32) (x7 : Int32) (x9 : Int32) (v7 : σ 7 = x7) (v9 : σ 9 = x9) (hds : DS D [7, 9]) (hdt : D.2.1) : MCE Γ yX11_isSign K_m_isSign [.int s0] L_m_isSign false (σ, τ, α, β) D (fun r x D' => (r = 1 ∧ x9.toInt = 0 ∧ x7.toInt = 4) ∨ (r = 0 ∧ True)) := by
  subst v7 v9
  refine MCE.of_i (by decide) (Nat.le_of_ble_eq_true rfl) rfl ?_
  show E Γ K_m_isSign [.int s0] L_m_isSign false 0 [(0, .ref Γ.2.2.2.1), (1, .int s0)] [] (σ, τ, α, β) D _
  refine E.aload_n dX11_isSign_0 rfl 0 rfl ?_
  refine E.call_p (As1 := []) (rest := []) (m_isWell Γ _ _ _ _ _ (σ 9) rfl (hds.sub (by decide))) ka_X11_isWell kv_X11_isWell rfl k1800 rfl rfl rfl rfl ⟨Nat.le_of_ble_eq_true rfl, Nat.le_of_ble_eq_true rfl⟩ (Nat.le_of_ble_eq_true rfl) rfl dX11_isSign_1 (fun r_1 h_1 => ?_)
  have h_1 : (r_1 = 1 ∧ (σ 9).toInt = 0) ∨ (r_1 = 0 ∧ ¬ (σ 9).toInt = 0) := h_1.elim (fun _ h => h)
  rcases h_1 with ⟨rfl, qh_1⟩ | ⟨rfl, qh_1⟩
  · have qh_1 : ¬ (σ 9).toInt = 0 := qh_1
    refine E.if_eq (pc1 := 29) dX11_isSign_4 (by decide) (fun _ _ => ?_) (fun c_2 ic_2 => absurd (show ¬ (0 : Int) = (0 : Int) from ic_2) (by decide))
    refine E.iconst (w := 0) dX11_isSign_29 (by decide) ?_
    exact E.ret_z (x := 0) rfl rfl (Or.inr ⟨rfl, trivial⟩) dX11_isSign_30
  · have qh_1 : (σ 9).toInt = 0 := qh_1
    refine E.if_eq (pc1 := 29) dX11_isSign_4 (by decide) (fun c_3 ic_3 => absurd (show (1 : Int) = (0 : Int) from ic_3) (by decide)) (fun _ _ => ?_)
    refine E.aload_n dX11_isSign_7 rfl 0 rfl ?_
    refine E.get (w := (σ 7)) 7 (by decide) (hds 7 (by decide)) k1375 rfl dX11_isSign_8 ?_
    refine E.iconst (w := 4) dX11_isSign_11 (by decide) ?_
    refine E.icmp_ne (pc1 := 29) dX11_isSign_12 (by decide) (fun c_4 ic_4 => ?_) (fun c_4 ic_4 => ?_)
    · have ic_4 : ¬ (σ 7).toInt = (4 : Int) := ic_4
      refine E.iconst (w := 0) dX11_isSign_29 (by decide) ?_
      exact E.ret_z (x := 0) rfl rfl (Or.inr ⟨rfl, trivial⟩) dX11_isSign_30
    · have ic_4 : (σ 7).toInt = (4 : Int) := ic_4
      refine E.aload_n dX11_isSign_15 rfl 0 rfl ?_
      refine E.getL (w := τ) hdt k1376 rfl dX11_isSign_16 ?_
      refine E.iload_n dX11_isSign_19 rfl 1 rfl ?_
      refine E.i2l dX11_isSign_20 (fun y_6 ey_6 => ?_)
      refine E.lcmp dX11_isSign_21 (fun x_7 ex_7 => ?_)
      refine E.if_ne (pc1 := 29) dX11_isSign_22 (by decide) (fun c_8 ic_8 => ?_) (fun c_8 ic_8 => ?_)
      · have ic_8 : ¬ x_7.toInt = (0 : Int) := ic_8
        refine E.iconst (w := 0) dX11_isSign_29 (by decide) ?_
        exact E.ret_z (x := 0) rfl rfl (Or.inr ⟨rfl, trivial⟩) dX11_isSign_30
      · have ic_8 : x_7.toInt = (0 : Int) := ic_8
        refine E.iconst (w := 1) dX11_isSign_25 (by decide) ?_
        refine E.goto (pc1 := 30) dX11_isSign_26 (by decide) ?_
        exact E.ret_z (x := 1) rfl rfl (Or.inl ⟨rfl, (by show (σ 9).toInt = 0 ∧ (σ 7).toInt = 4; omega)⟩) dX11_isSign_30

abbrev K_m_isWord : MK := (cX11_isWord, 2, "BlameCourtModel", (some .boolean), ({ frames := 10, cells := 0, slots := 0, locals := 150 } : Room))
abbrev L_m_isWord : Lm := ([], false, [], [])
set_option maxHeartbeats 4000000 in
set_option maxRecDepth 100000 in
theorem m_isWord (Γ : Sx) (σ : Nat → Int32) (τ : Int64) (α : Nat → Nat → Int32) (β : Nat → Nat → Int64) (D : Dn) (s0 : Int32) (x7 : Int32) (x9 : Int32) (v7 : σ 7 = x7) (v9 : σ 9 = x9) (hds : DS D [7, 9]) (hdt : D.2.1) : MCE Γ yX11_isWord K_m_isWord [.int s0] L_m_isWord false (σ, τ, α, β) D (fun r x D' => (r = 1 ∧ x9.toInt = 0 ∧ x7.toInt = 2) ∨ (r = 0 ∧ True)) := by
  subst v7 v9
  refine MCE.of_i (by decide) (Nat.le_of_ble_eq_true rfl) rfl ?_
  show E Γ K_m_isWord [.int s0] L_m_isWord false 0 [(0, .ref Γ.2.2.2.1), (1, .int s0)] [] (σ, τ, α, β) D _
  refine E.aload_n dX11_isWord_0 rfl 0 rfl ?_
  refine E.call_p (As1 := []) (rest := []) (m_isWell Γ _ _ _ _ _ (σ 9) rfl (hds.sub (by decide))) ka_X11_isWell kv_X11_isWell rfl k1800 rfl rfl rfl rfl ⟨Nat.le_of_ble_eq_true rfl, Nat.le_of_ble_eq_true rfl⟩ (Nat.le_of_ble_eq_true rfl) rfl dX11_isWord_1 (fun r_1 h_1 => ?_)
  have h_1 : (r_1 = 1 ∧ (σ 9).toInt = 0) ∨ (r_1 = 0 ∧ ¬ (σ 9).toInt = 0) := h_1.elim (fun _ h => h)
  rcases h_1 with ⟨rfl, qh_1⟩ | ⟨rfl, qh_1⟩
  · have qh_1 : ¬ (σ 9).toInt = 0 := qh_1
    refine E.if_eq (pc1 := 29) dX11_isWord_4 (by decide) (fun _ _ => ?_) (fun c_2 ic_2 => absurd (show ¬ (0 : Int) = (0 : Int) from ic_2) (by decide))
    refine E.iconst (w := 0) dX11_isWord_29 (by decide) ?_
    exact E.ret_z (x := 0) rfl rfl (Or.inr ⟨rfl, trivial⟩) dX11_isWord_30
  · have qh_1 : (σ 9).toInt = 0 := qh_1
    refine E.if_eq (pc1 := 29) dX11_isWord_4 (by decide) (fun c_3 ic_3 => absurd (show (1 : Int) = (0 : Int) from ic_3) (by decide)) (fun _ _ => ?_)
    refine E.aload_n dX11_isWord_7 rfl 0 rfl ?_
    refine E.get (w := (σ 7)) 7 (by decide) (hds 7 (by decide)) k1375 rfl dX11_isWord_8 ?_
    refine E.iconst (w := 2) dX11_isWord_11 (by decide) ?_
    refine E.icmp_ne (pc1 := 29) dX11_isWord_12 (by decide) (fun c_4 ic_4 => ?_) (fun c_4 ic_4 => ?_)
    · have ic_4 : ¬ (σ 7).toInt = (2 : Int) := ic_4
      refine E.iconst (w := 0) dX11_isWord_29 (by decide) ?_
      exact E.ret_z (x := 0) rfl rfl (Or.inr ⟨rfl, trivial⟩) dX11_isWord_30
    · have ic_4 : (σ 7).toInt = (2 : Int) := ic_4
      refine E.aload_n dX11_isWord_15 rfl 0 rfl ?_
      refine E.getL (w := τ) hdt k1376 rfl dX11_isWord_16 ?_
      refine E.iload_n dX11_isWord_19 rfl 1 rfl ?_
      refine E.i2l dX11_isWord_20 (fun y_6 ey_6 => ?_)
      refine E.lcmp dX11_isWord_21 (fun x_7 ex_7 => ?_)
      refine E.if_ne (pc1 := 29) dX11_isWord_22 (by decide) (fun c_8 ic_8 => ?_) (fun c_8 ic_8 => ?_)
      · have ic_8 : ¬ x_7.toInt = (0 : Int) := ic_8
        refine E.iconst (w := 0) dX11_isWord_29 (by decide) ?_
        exact E.ret_z (x := 0) rfl rfl (Or.inr ⟨rfl, trivial⟩) dX11_isWord_30
      · have ic_8 : x_7.toInt = (0 : Int) := ic_8
        refine E.iconst (w := 1) dX11_isWord_25 (by decide) ?_
        refine E.goto (pc1 := 30) dX11_isWord_26 (by decide) ?_
        exact E.ret_z (x := 1) rfl rfl (Or.inl ⟨rfl, (by show (σ 9).toInt = 0 ∧ (σ 7).toInt = 2; omega)⟩) dX11_isWord_30
