theorem dX11_closes_0 : decode cX11_closes 0 = .ok (.aload_n 0, 1) := by decide +kernel
theorem dX11_closes_1 : decode cX11_closes 1 = .ok (.iload_n 1, 1) := by decide +kernel
theorem dX11_closes_2 : decode cX11_closes 2 = .ok (.invokevirtual 361, 3) := by decide +kernel
theorem dX11_closes_5 : decode cX11_closes 5 = .ok (.aload_n 0, 1) := by decide +kernel
theorem dX11_closes_6 : decode cX11_closes 6 = .ok (.dup, 1) := by decide +kernel
theorem dX11_closes_7 : decode cX11_closes 7 = .ok (.getfield 355, 3) := by decide +kernel
theorem dX11_closes_10 : decode cX11_closes 10 = .ok (.iconst 1, 1) := by decide +kernel
theorem dX11_closes_11 : decode cX11_closes 11 = .ok (.isub, 1) := by decide +kernel
theorem dX11_closes_12 : decode cX11_closes 12 = .ok (.putfield 355, 3) := by decide +kernel
theorem dX11_closes_15 : decode cX11_closes 15 = .ok (.return_, 1) := by decide +kernel
theorem dX11_nests_0 : decode cX11_nests 0 = .ok (.aload_n 0, 1) := by decide +kernel
theorem dX11_nests_1 : decode cX11_nests 1 = .ok (.getfield 355, 3) := by decide +kernel
theorem dX11_nests_4 : decode cX11_nests 4 = .ok (.bipush 40, 2) := by decide +kernel
theorem dX11_nests_6 : decode cX11_nests 6 = .ok (.if_icmp .ne 12, 3) := by decide +kernel
theorem dX11_nests_9 : decode cX11_nests 9 = .ok (.aload_n 0, 1) := by decide +kernel
theorem dX11_nests_10 : decode cX11_nests 10 = .ok (.iconst 3, 1) := by decide +kernel
theorem dX11_nests_11 : decode cX11_nests 11 = .ok (.aload_n 0, 1) := by decide +kernel
theorem dX11_nests_12 : decode cX11_nests 12 = .ok (.getfield 292, 3) := by decide +kernel
theorem dX11_nests_15 : decode cX11_nests 15 = .ok (.invokevirtual 295, 3) := by decide +kernel
theorem dX11_nests_18 : decode cX11_nests 18 = .ok (.aload_n 0, 1) := by decide +kernel
theorem dX11_nests_19 : decode cX11_nests 19 = .ok (.dup, 1) := by decide +kernel
theorem dX11_nests_20 : decode cX11_nests 20 = .ok (.getfield 355, 3) := by decide +kernel
theorem dX11_nests_23 : decode cX11_nests 23 = .ok (.iconst 1, 1) := by decide +kernel
theorem dX11_nests_24 : decode cX11_nests 24 = .ok (.iadd, 1) := by decide +kernel
theorem dX11_nests_25 : decode cX11_nests 25 = .ok (.putfield 355, 3) := by decide +kernel
theorem dX11_nests_28 : decode cX11_nests 28 = .ok (.return_, 1) := by decide +kernel
theorem dX11_opens_0 : decode cX11_opens 0 = .ok (.aload_n 0, 1) := by decide +kernel
theorem dX11_opens_1 : decode cX11_opens 1 = .ok (.iload_n 1, 1) := by decide +kernel
theorem dX11_opens_2 : decode cX11_opens 2 = .ok (.invokevirtual 345, 3) := by decide +kernel
theorem dX11_opens_5 : decode cX11_opens 5 = .ok (.ifCond .ne 8, 3) := by decide +kernel
theorem dX11_opens_8 : decode cX11_opens 8 = .ok (.aload_n 0, 1) := by decide +kernel
theorem dX11_opens_9 : decode cX11_opens 9 = .ok (.invokevirtual 352, 3) := by decide +kernel
theorem dX11_opens_12 : decode cX11_opens 12 = .ok (.return_, 1) := by decide +kernel
theorem dX11_opens_13 : decode cX11_opens 13 = .ok (.aload_n 0, 1) := by decide +kernel
theorem dX11_opens_14 : decode cX11_opens 14 = .ok (.invokevirtual 358, 3) := by decide +kernel
theorem dX11_opens_17 : decode cX11_opens 17 = .ok (.aload_n 0, 1) := by decide +kernel
theorem dX11_opens_18 : decode cX11_opens 18 = .ok (.invokevirtual 341, 3) := by decide +kernel
theorem dX11_opens_21 : decode cX11_opens 21 = .ok (.ifCond .eq 7, 3) := by decide +kernel
theorem dX11_opens_24 : decode cX11_opens 24 = .ok (.aload_n 0, 1) := by decide +kernel
theorem dX11_opens_25 : decode cX11_opens 25 = .ok (.invokevirtual 349, 3) := by decide +kernel
theorem dX11_opens_28 : decode cX11_opens 28 = .ok (.return_, 1) := by decide +kernel
theorem dX11_plainKind_0 : decode cX11_plainKind 0 = .ok (.aload_n 0, 1) := by decide +kernel
theorem dX11_plainKind_1 : decode cX11_plainKind 1 = .ok (.bipush 11, 2) := by decide +kernel
theorem dX11_plainKind_3 : decode cX11_plainKind 3 = .ok (.invokevirtual 370, 3) := by decide +kernel
theorem dX11_plainKind_6 : decode cX11_plainKind 6 = .ok (.ifCond .eq 7, 3) := by decide +kernel
theorem dX11_plainKind_9 : decode cX11_plainKind 9 = .ok (.iconst 0, 1) := by decide +kernel
theorem dX11_plainKind_10 : decode cX11_plainKind 10 = .ok (.goto 30, 3) := by decide +kernel
theorem dX11_plainKind_13 : decode cX11_plainKind 13 = .ok (.aload_n 0, 1) := by decide +kernel
theorem dX11_plainKind_14 : decode cX11_plainKind 14 = .ok (.bipush 12, 2) := by decide +kernel
theorem dX11_plainKind_16 : decode cX11_plainKind 16 = .ok (.invokevirtual 370, 3) := by decide +kernel
theorem dX11_plainKind_19 : decode cX11_plainKind 19 = .ok (.ifCond .eq 7, 3) := by decide +kernel
theorem dX11_plainKind_22 : decode cX11_plainKind 22 = .ok (.iconst 1, 1) := by decide +kernel
theorem dX11_plainKind_23 : decode cX11_plainKind 23 = .ok (.goto 17, 3) := by decide +kernel
theorem dX11_plainKind_26 : decode cX11_plainKind 26 = .ok (.aload_n 0, 1) := by decide +kernel
theorem dX11_plainKind_27 : decode cX11_plainKind 27 = .ok (.bipush 13, 2) := by decide +kernel
theorem dX11_plainKind_29 : decode cX11_plainKind 29 = .ok (.invokevirtual 370, 3) := by decide +kernel
theorem dX11_plainKind_32 : decode cX11_plainKind 32 = .ok (.ifCond .eq 7, 3) := by decide +kernel
theorem dX11_plainKind_35 : decode cX11_plainKind 35 = .ok (.iconst 2, 1) := by decide +kernel
theorem dX11_plainKind_36 : decode cX11_plainKind 36 = .ok (.goto 4, 3) := by decide +kernel
theorem dX11_plainKind_39 : decode cX11_plainKind 39 = .ok (.iconst (-1), 1) := by decide +kernel
theorem dX11_plainKind_40 : decode cX11_plainKind 40 = .ok (.istore_n 1, 1) := by decide +kernel
theorem dX11_plainKind_41 : decode cX11_plainKind 41 = .ok (.iload_n 1, 1) := by decide +kernel
theorem dX11_plainKind_42 : decode cX11_plainKind 42 = .ok (.ifCond .ge 10, 3) := by decide +kernel
theorem dX11_plainKind_45 : decode cX11_plainKind 45 = .ok (.aload_n 0, 1) := by decide +kernel
theorem dX11_plainKind_46 : decode cX11_plainKind 46 = .ok (.invokevirtual 352, 3) := by decide +kernel
theorem dX11_plainKind_49 : decode cX11_plainKind 49 = .ok (.goto 7, 3) := by decide +kernel
theorem dX11_plainKind_52 : decode cX11_plainKind 52 = .ok (.aload_n 0, 1) := by decide +kernel
theorem dX11_plainKind_53 : decode cX11_plainKind 53 = .ok (.invokevirtual 349, 3) := by decide +kernel
theorem dX11_plainKind_56 : decode cX11_plainKind 56 = .ok (.iload_n 1, 1) := by decide +kernel
theorem dX11_plainKind_57 : decode cX11_plainKind 57 = .ok (.ireturn, 1) := by decide +kernel
theorem dX11_takes_0 : decode cX11_takes 0 = .ok (.aload_n 0, 1) := by decide +kernel
theorem dX11_takes_1 : decode cX11_takes 1 = .ok (.iload_n 1, 1) := by decide +kernel
theorem dX11_takes_2 : decode cX11_takes 2 = .ok (.invokevirtual 345, 3) := by decide +kernel
theorem dX11_takes_5 : decode cX11_takes 5 = .ok (.ifCond .eq 10, 3) := by decide +kernel
theorem dX11_takes_8 : decode cX11_takes 8 = .ok (.aload_n 0, 1) := by decide +kernel
theorem dX11_takes_9 : decode cX11_takes 9 = .ok (.invokevirtual 349, 3) := by decide +kernel
theorem dX11_takes_12 : decode cX11_takes 12 = .ok (.goto 7, 3) := by decide +kernel
theorem dX11_takes_15 : decode cX11_takes 15 = .ok (.aload_n 0, 1) := by decide +kernel
theorem dX11_takes_16 : decode cX11_takes 16 = .ok (.invokevirtual 352, 3) := by decide +kernel
theorem dX11_takes_19 : decode cX11_takes 19 = .ok (.return_, 1) := by decide +kernel
theorem dX11_word_0 : decode cX11_word 0 = .ok (.aload_n 0, 1) := by decide +kernel
theorem dX11_word_1 : decode cX11_word 1 = .ok (.iload_n 1, 1) := by decide +kernel
theorem dX11_word_2 : decode cX11_word 2 = .ok (.invokevirtual 370, 3) := by decide +kernel
theorem dX11_word_5 : decode cX11_word 5 = .ok (.ifCond .eq 10, 3) := by decide +kernel
theorem dX11_word_8 : decode cX11_word 8 = .ok (.aload_n 0, 1) := by decide +kernel
theorem dX11_word_9 : decode cX11_word 9 = .ok (.invokevirtual 349, 3) := by decide +kernel
theorem dX11_word_12 : decode cX11_word 12 = .ok (.goto 7, 3) := by decide +kernel
theorem dX11_word_15 : decode cX11_word 15 = .ok (.aload_n 0, 1) := by decide +kernel
theorem dX11_word_16 : decode cX11_word 16 = .ok (.invokevirtual 352, 3) := by decide +kernel
theorem dX11_word_19 : decode cX11_word 19 = .ok (.return_, 1) := by decide +kernel
theorem k1419 : Cond.fieldLink "BlameCourtModel" 355 "BlameCourtModel" "nest" "I" ∈ gtb := gtm (in_tables_1_6 (List.mem_of_getElem? (i := 33) rfl)) rfl
theorem k1776 : Cond.methodLink "BlameCourtModel" 349 yX11_next ∈ gtb := gtm (in_tables_1_7 (List.mem_of_getElem? (i := 150) rfl)) rfl
theorem k1804 : Cond.methodLink "BlameCourtModel" 370 yX11_isWord ∈ gtb := gtm (in_tables_1_7 (List.mem_of_getElem? (i := 178) rfl)) rfl
theorem k1808 : Cond.methodLink "BlameCourtModel" 352 yX11_stray ∈ gtb := gtm (in_tables_1_7 (List.mem_of_getElem? (i := 182) rfl)) rfl
theorem k1824 : Cond.methodLink "BlameCourtModel" 345 yX11_isSign ∈ gtb := gtm (in_tables_1_7 (List.mem_of_getElem? (i := 198) rfl)) rfl
theorem k1828 : Cond.methodLink "BlameCourtModel" 358 yX11_nests ∈ gtb := gtm (in_tables_1_7 (List.mem_of_getElem? (i := 202) rfl)) rfl
theorem k1836 : Cond.methodLink "BlameCourtModel" 361 yX11_takes ∈ gtb := gtm (in_tables_1_7 (List.mem_of_getElem? (i := 210) rfl)) rfl
theorem k1835 : Cond.code yX11_closes cX11_closes 2 none ∈ gtb := gtm (in_tables_1_7 (List.mem_of_getElem? (i := 209) rfl)) rfl
theorem ka_X11_closes : KA yX11_closes cX11_closes 2 none 1 := ⟨k1835, k197, by decide, by decide, by decide +kernel⟩
theorem k1834 : Cond.instanceMethod yX11_closes ∈ gtb := gtm (in_tables_1_7 (List.mem_of_getElem? (i := 208) rfl)) rfl
theorem k110 : Cond.selects "BlameCourtModel" yX11_closes yX11_closes ∈ gtb := gtm (in_lw_privs_7 (q := (yX11_closes, 129)) (List.mem_of_getElem? (i := 14) rfl)) rfl
theorem kv_X11_closes : KV yX11_closes := ⟨k1834, k110⟩
theorem k1831 : Cond.code yX11_nests cX11_nests 1 none ∈ gtb := gtm (in_tables_1_7 (List.mem_of_getElem? (i := 205) rfl)) rfl
theorem ka_X11_nests : KA yX11_nests cX11_nests 1 none 0 := ⟨k1831, k197, by decide, by decide, by decide +kernel⟩
theorem k1830 : Cond.instanceMethod yX11_nests ∈ gtb := gtm (in_tables_1_7 (List.mem_of_getElem? (i := 204) rfl)) rfl
theorem k109 : Cond.selects "BlameCourtModel" yX11_nests yX11_nests ∈ gtb := gtm (in_lw_privs_7 (q := (yX11_nests, 129)) (List.mem_of_getElem? (i := 13) rfl)) rfl
theorem kv_X11_nests : KV yX11_nests := ⟨k1830, k109⟩
theorem k1823 : Cond.code yX11_opens cX11_opens 2 none ∈ gtb := gtm (in_tables_1_7 (List.mem_of_getElem? (i := 197) rfl)) rfl
theorem ka_X11_opens : KA yX11_opens cX11_opens 2 none 1 := ⟨k1823, k197, by decide, by decide, by decide +kernel⟩
theorem k1822 : Cond.instanceMethod yX11_opens ∈ gtb := gtm (in_tables_1_7 (List.mem_of_getElem? (i := 196) rfl)) rfl
theorem k107 : Cond.selects "BlameCourtModel" yX11_opens yX11_opens ∈ gtb := gtm (in_lw_privs_7 (q := (yX11_opens, 129)) (List.mem_of_getElem? (i := 11) rfl)) rfl
theorem kv_X11_opens : KV yX11_opens := ⟨k1822, k107⟩
theorem k1851 : Cond.code yX11_plainKind cX11_plainKind 2 (some .int) ∈ gtb := gtm (in_tables_1_7 (List.mem_of_getElem? (i := 225) rfl)) rfl
theorem ka_X11_plainKind : KA yX11_plainKind cX11_plainKind 2 (some .int) 0 := ⟨k1851, k197, by decide, by decide, by decide +kernel⟩
theorem k1850 : Cond.instanceMethod yX11_plainKind ∈ gtb := gtm (in_tables_1_7 (List.mem_of_getElem? (i := 224) rfl)) rfl
theorem k114 : Cond.selects "BlameCourtModel" yX11_plainKind yX11_plainKind ∈ gtb := gtm (in_lw_privs_8 (q := (yX11_plainKind, 129)) (List.mem_of_getElem? (i := 2) rfl)) rfl
theorem kv_X11_plainKind : KV yX11_plainKind := ⟨k1850, k114⟩
theorem k1839 : Cond.code yX11_takes cX11_takes 2 none ∈ gtb := gtm (in_tables_1_7 (List.mem_of_getElem? (i := 213) rfl)) rfl
theorem ka_X11_takes : KA yX11_takes cX11_takes 2 none 1 := ⟨k1839, k197, by decide, by decide, by decide +kernel⟩
theorem k1838 : Cond.instanceMethod yX11_takes ∈ gtb := gtm (in_tables_1_7 (List.mem_of_getElem? (i := 212) rfl)) rfl
theorem k111 : Cond.selects "BlameCourtModel" yX11_takes yX11_takes ∈ gtb := gtm (in_lw_privs_7 (q := (yX11_takes, 129)) (List.mem_of_getElem? (i := 15) rfl)) rfl
theorem kv_X11_takes : KV yX11_takes := ⟨k1838, k111⟩
theorem k1942 : Cond.code yX11_word cX11_word 2 none ∈ gtb := gtm (in_tables_1_8 (List.mem_of_getElem? (i := 76) rfl)) rfl
theorem ka_X11_word : KA yX11_word cX11_word 2 none 1 := ⟨k1942, k197, by decide, by decide, by decide +kernel⟩
theorem k1941 : Cond.instanceMethod yX11_word ∈ gtb := gtm (in_tables_1_8 (List.mem_of_getElem? (i := 75) rfl)) rfl
theorem k132 : Cond.selects "BlameCourtModel" yX11_word yX11_word ∈ gtb := gtm (in_lw_privs_9 (q := (yX11_word, 129)) (List.mem_of_getElem? (i := 4) rfl)) rfl
theorem kv_X11_word : KV yX11_word := ⟨k1941, k132⟩
set_option maxHeartbeats 4000000 in
set_option maxRecDepth 100000 in
theorem m_fails2 (l : Launch) (dC : Nat → ClassId) (dI : Nat → Nat → Nat) (h0 : Nat) (ad : Nat → Nat) (cA : Nat → ClassId) (σ : Nat → Int32) (τ : Int64) (α : Nat → Nat → Int32) (β : Nat → Nat → Int64) (f pl : Int32) (sz : Nat) : MCv l dC dI h0 ad cA yX11_fails cX11_fails 3 ({ frames := 6, cells := 0, slots := 0, locals := 90 } : Room) [.int f, .int pl] σ τ α β (fun x => offS [9, 10] σ x.1 ∧ offA [] α x.2.2.1 ∧ offA [] β x.2.2.2 ∧ x.2.1 = τ ∧ ((¬ f.toInt = 0 → ¬ (x.1 9).toInt = 0) ∧ ((x.1 9).toInt = 0 → (σ 9).toInt = 0))) sz := by
  refine gbody_v (by decide) (Nat.le_of_ble_eq_true rfl) ?_
  intro p e s m below meth c ls A H hf hr hlk hw hl
  have hl : lv_has ls 3 [(0, .ref h0), (1, .int f), (2, .int pl)] := hl
  refine lv_aload_n hf.1 hf.2.1 dX11_fails_0 rfl (lv_at hl 0 rfl) ?_
  refine gget hf hw 9 (by decide) k1378 (v := σ 9) rfl dX11_fails_1 ?_
  refine lv_if_ne (tgt := 17) hf.1 hf.2.1 dX11_fails_4 (by decide) (fun c_1 => ?_) (fun c_1 => ?_)
  · have ic_1 : ¬ (σ 9).toInt = (0 : Int) := ti_ne c_1
    exact gret_v hf hr hlk hw ⟨offS.rf, offA.rf, offA.rf, rfl, (by show (¬ f.toInt = 0 → ¬ (σ 9).toInt = 0) ∧ ((σ 9).toInt = 0 → (σ 9).toInt = 0); omega)⟩ dX11_fails_17
  · have ic_1 : (σ 9).toInt = (0 : Int) := ti_eq c_1
    refine lv_aload_n hf.1 hf.2.1 dX11_fails_7 rfl (lv_at hl 0 rfl) ?_
    refine lv_iload_n hf.1 hf.2.1 dX11_fails_8 rfl (lv_at hl 1 rfl) ?_
    refine gput hf hw 9 (by decide) k1378 rfl rfl rfl dX11_fails_9 (fun H locs hw => ?_)
    refine lv_aload_n hf.1 hf.2.1 dX11_fails_12 rfl (lv_at hl 0 rfl) ?_
    refine lv_iload_n hf.1 hf.2.1 dX11_fails_13 rfl (lv_at hl 2 rfl) ?_
    refine gput hf hw 10 (by decide) k1379 rfl rfl rfl dX11_fails_14 (fun H locs hw => ?_)
    exact gret_v hf hr hlk hw ⟨((offS.rf.put 9 (by decide) f).put 10 (by decide) pl), offA.rf, offA.rf, rfl, (by show (¬ f.toInt = 0 → ¬ f.toInt = 0) ∧ (f.toInt = 0 → (σ 9).toInt = 0); omega)⟩ dX11_fails_17

set_option maxHeartbeats 4000000 in
set_option maxRecDepth 100000 in
theorem m_takes (l : Launch) (dC : Nat → ClassId) (dI : Nat → Nat → Nat) (h0 : Nat) (ad : Nat → Nat) (cA : Nat → ClassId) (σ : Nat → Int32) (τ : Int64) (α : Nat → Nat → Int32) (β : Nat → Nat → Int64) (v : Int32) (sz : Nat) (hLI : 0 ≤ (σ 6).toInt ∧ (σ 6).toInt ≤ (σ 5).toInt ∧ (σ 5).toInt ≤ (σ 1).toInt ∧ (σ 1).toInt ≤ 3000 ∧ 0 ≤ (σ 7).toInt ∧ (σ 7).toInt ≤ 5 ∧ (¬ (σ 7).toInt = 0 → (σ 6).toInt < (σ 5).toInt)) : MCv l dC dI h0 ad cA yX11_takes cX11_takes 2 ({ frames := 22, cells := 0, slots := 0, locals := 330 } : Room) [.int v] σ τ α β (fun x => offS [5, 6, 7, 8, 9, 10] σ x.1 ∧ offA [] α x.2.2.1 ∧ offA [] β x.2.2.2 ∧ ((0 ≤ (x.1 6).toInt ∧ (x.1 6).toInt ≤ (x.1 5).toInt ∧ (x.1 5).toInt ≤ (x.1 1).toInt ∧ (x.1 1).toInt ≤ 3000 ∧ 0 ≤ (x.1 7).toInt ∧ (x.1 7).toInt ≤ 5 ∧ (¬ (x.1 7).toInt = 0 → (x.1 6).toInt < (x.1 5).toInt)) ∧ (σ 6).toInt ≤ (x.1 6).toInt ∧ ((x.1 9).toInt = 0 → (σ 9).toInt = 0 ∧ (σ 7).toInt = 4 ∧ (σ 6).toInt < (x.1 6).toInt))) sz := by
  refine gbody_v (by decide) (Nat.le_of_ble_eq_true rfl) ?_
  intro p e s m below meth c ls A H hf hr hlk hw hl
  have hl : lv_has ls 2 [(0, .ref h0), (1, .int v)] := hl
  refine lv_aload_n hf.1 hf.2.1 dX11_takes_0 rfl (lv_at hl 0 rfl) ?_
  refine lv_iload_n hf.1 hf.2.1 dX11_takes_1 rfl (lv_at hl 1 rfl) ?_
  refine gcall_i (As := [.int v]) (rest := []) hf hw (m_isSign l dC dI h0 ad cA σ τ α β v H.size ) ka_X11_isSign kv_X11_isSign rfl k1824 rfl rfl hl.1 rfl rfl ⟨Nat.le_of_ble_eq_true rfl, Nat.le_of_ble_eq_true rfl⟩ (Nat.le_of_ble_eq_true rfl) ⟨Nat.le_refl _, Nat.le_refl _⟩ dX11_takes_2 (fun r_2 w_1 hw_1 H locs hw => ?_)
  obtain ⟨σ_1, τ_1, α_1, β_1⟩ := w_1
  obtain ⟨hS_1, hA_1, hB_1, hT_1, hp_1⟩ := hw_1
  obtain rfl : σ = σ_1 := (offS_nil hS_1).symm
  obtain rfl : τ = τ_1 := hT_1.symm
  obtain rfl : α = α_1 := (offA_nil hA_1).symm
  obtain rfl : β = β_1 := (offA_nil hB_1).symm
  have hp_1 : (r_2.toInt = 0 ∨ r_2.toInt = 1) ∧ (r_2.toInt = 1 → (σ 9).toInt = 0 ∧ (σ 7).toInt = 4) := hp_1
  have hw : Wd dC dI A (MW h0 ad cA σ τ α β) (MT cA) s H locs := hw
  refine lv_if_eq (tgt := 15) hf.1 hf.2.1 dX11_takes_5 (by decide) (fun c_3 => ?_) (fun c_3 => ?_)
  · have ic_3 : r_2.toInt = (0 : Int) := ti_eq c_3
    refine lv_aload_n hf.1 hf.2.1 dX11_takes_15 rfl (lv_at hl 0 rfl) ?_
    refine gcall_v (As := []) (rest := []) hf hw (m_stray l dC dI h0 ad cA σ τ α β  H.size ) ka_X11_stray kv_X11_stray rfl k1808 rfl rfl hl.1 rfl rfl ⟨Nat.le_of_ble_eq_true rfl, Nat.le_of_ble_eq_true rfl⟩ (Nat.le_of_ble_eq_true rfl) ⟨Nat.le_refl _, Nat.le_refl _⟩ dX11_takes_16 (fun w_4 hw_4 H locs hw => ?_)
    obtain ⟨σ_4, τ_4, α_4, β_4⟩ := w_4
    obtain ⟨hS_4, hA_4, hB_4, hT_4, hp_4⟩ := hw_4
    obtain rfl : τ = τ_4 := hT_4.symm
    obtain rfl : α = α_4 := (offA_nil hA_4).symm
    obtain rfl : β = β_4 := (offA_nil hB_4).symm
    have hp_4 : ¬ (σ_4 9).toInt = 0 := hp_4
    have f_4_0 : (σ_4 0).toInt = (σ 0).toInt := congrArg Int32.toInt (hS_4 0 (by decide))
    have f_4_1 : (σ_4 1).toInt = (σ 1).toInt := congrArg Int32.toInt (hS_4 1 (by decide))
    have f_4_5 : (σ_4 5).toInt = (σ 5).toInt := congrArg Int32.toInt (hS_4 5 (by decide))
    have f_4_6 : (σ_4 6).toInt = (σ 6).toInt := congrArg Int32.toInt (hS_4 6 (by decide))
    have f_4_7 : (σ_4 7).toInt = (σ 7).toInt := congrArg Int32.toInt (hS_4 7 (by decide))
    have f_4_13 : (σ_4 13).toInt = (σ 13).toInt := congrArg Int32.toInt (hS_4 13 (by decide))
    have f_4_15 : (σ_4 15).toInt = (σ 15).toInt := congrArg Int32.toInt (hS_4 15 (by decide))
    have f_4_17 : (σ_4 17).toInt = (σ 17).toInt := congrArg Int32.toInt (hS_4 17 (by decide))
    have f_4_18 : (σ_4 18).toInt = (σ 18).toInt := congrArg Int32.toInt (hS_4 18 (by decide))
    have f_4_19 : (σ_4 19).toInt = (σ 19).toInt := congrArg Int32.toInt (hS_4 19 (by decide))
    have f_4_20 : (σ_4 20).toInt = (σ 20).toInt := congrArg Int32.toInt (hS_4 20 (by decide))
    have f_4_21 : (σ_4 21).toInt = (σ 21).toInt := congrArg Int32.toInt (hS_4 21 (by decide))
    have f_4_22 : (σ_4 22).toInt = (σ 22).toInt := congrArg Int32.toInt (hS_4 22 (by decide))
    have hw : Wd dC dI A (MW h0 ad cA σ_4 τ α β) (MT cA) s H locs := hw
    exact gret_v hf hr hlk hw ⟨(offS.rf.tr hS_4 (by decide)), offA.rf, offA.rf, (by show (0 ≤ (σ_4 6).toInt ∧ (σ_4 6).toInt ≤ (σ_4 5).toInt ∧ (σ_4 5).toInt ≤ (σ_4 1).toInt ∧ (σ_4 1).toInt ≤ 3000 ∧ 0 ≤ (σ_4 7).toInt ∧ (σ_4 7).toInt ≤ 5 ∧ (¬ (σ_4 7).toInt = 0 → (σ_4 6).toInt < (σ_4 5).toInt)) ∧ (σ 6).toInt ≤ (σ_4 6).toInt ∧ ((σ_4 9).toInt = 0 → (σ 9).toInt = 0 ∧ (σ 7).toInt = 4 ∧ (σ 6).toInt < (σ_4 6).toInt); omega)⟩ dX11_takes_19
  · have ic_3 : ¬ r_2.toInt = (0 : Int) := ti_ne c_3
    refine lv_aload_n hf.1 hf.2.1 dX11_takes_8 rfl (lv_at hl 0 rfl) ?_
    refine gcall_v (As := []) (rest := []) hf hw (m_next l dC dI h0 ad cA σ τ α β  H.size (by show (σ 1).toInt ≤ 3000; omega) (by show 0 ≤ (σ 5).toInt; omega) (by show (σ 5).toInt ≤ (σ 1).toInt; omega)) ka_X11_next kv_X11_next rfl k1776 rfl rfl hl.1 rfl rfl ⟨Nat.le_of_ble_eq_true rfl, Nat.le_of_ble_eq_true rfl⟩ (Nat.le_of_ble_eq_true rfl) ⟨Nat.le_refl _, Nat.le_refl _⟩ dX11_takes_9 (fun w_6 hw_6 H locs hw => ?_)
    obtain ⟨σ_6, τ_6, α_6, β_6⟩ := w_6
    obtain ⟨hS_6, hA_6, hB_6, hp_6⟩ := hw_6
    obtain rfl : α = α_6 := (offA_nil hA_6).symm
    obtain rfl : β = β_6 := (offA_nil hB_6).symm
    have hp_6 : (σ 5).toInt ≤ (σ_6 6).toInt ∧ (σ_6 6).toInt ≤ (σ_6 5).toInt ∧ (σ_6 5).toInt ≤ (σ 1).toInt ∧ (((σ_6 7).toInt = 0 ∧ (σ_6 5).toInt = (σ 1).toInt) ∨ (1 ≤ (σ_6 7).toInt ∧ (σ_6 7).toInt ≤ 5 ∧ (σ_6 6).toInt < (σ_6 5).toInt)) := hp_6
    have f_6_0 : (σ_6 0).toInt = (σ 0).toInt := congrArg Int32.toInt (hS_6 0 (by decide))
    have f_6_1 : (σ_6 1).toInt = (σ 1).toInt := congrArg Int32.toInt (hS_6 1 (by decide))
    have f_6_9 : (σ_6 9).toInt = (σ 9).toInt := congrArg Int32.toInt (hS_6 9 (by decide))
    have f_6_13 : (σ_6 13).toInt = (σ 13).toInt := congrArg Int32.toInt (hS_6 13 (by decide))
    have f_6_15 : (σ_6 15).toInt = (σ 15).toInt := congrArg Int32.toInt (hS_6 15 (by decide))
    have f_6_17 : (σ_6 17).toInt = (σ 17).toInt := congrArg Int32.toInt (hS_6 17 (by decide))
    have f_6_18 : (σ_6 18).toInt = (σ 18).toInt := congrArg Int32.toInt (hS_6 18 (by decide))
    have f_6_19 : (σ_6 19).toInt = (σ 19).toInt := congrArg Int32.toInt (hS_6 19 (by decide))
    have f_6_20 : (σ_6 20).toInt = (σ 20).toInt := congrArg Int32.toInt (hS_6 20 (by decide))
    have f_6_21 : (σ_6 21).toInt = (σ 21).toInt := congrArg Int32.toInt (hS_6 21 (by decide))
    have f_6_22 : (σ_6 22).toInt = (σ 22).toInt := congrArg Int32.toInt (hS_6 22 (by decide))
    have hw : Wd dC dI A (MW h0 ad cA σ_6 τ_6 α β) (MT cA) s H locs := hw
    refine lv_goto (tgt := 19) hf.1 hf.2.1 dX11_takes_12 (by decide) ?_
    exact gret_v hf hr hlk hw ⟨(offS.rf.tr hS_6 (by decide)), offA.rf, offA.rf, (by show (0 ≤ (σ_6 6).toInt ∧ (σ_6 6).toInt ≤ (σ_6 5).toInt ∧ (σ_6 5).toInt ≤ (σ_6 1).toInt ∧ (σ_6 1).toInt ≤ 3000 ∧ 0 ≤ (σ_6 7).toInt ∧ (σ_6 7).toInt ≤ 5 ∧ (¬ (σ_6 7).toInt = 0 → (σ_6 6).toInt < (σ_6 5).toInt)) ∧ (σ 6).toInt ≤ (σ_6 6).toInt ∧ ((σ_6 9).toInt = 0 → (σ 9).toInt = 0 ∧ (σ 7).toInt = 4 ∧ (σ 6).toInt < (σ_6 6).toInt); omega)⟩ dX11_takes_19

set_option maxHeartbeats 4000000 in
set_option maxRecDepth 100000 in
theorem m_word (l : Launch) (dC : Nat → ClassId) (dI : Nat → Nat → Nat) (h0 : Nat) (ad : Nat → Nat) (cA : Nat → ClassId) (σ : Nat → Int32) (τ : Int64) (α : Nat → Nat → Int32) (β : Nat → Nat → Int64) (v : Int32) (sz : Nat) (hLI : 0 ≤ (σ 6).toInt ∧ (σ 6).toInt ≤ (σ 5).toInt ∧ (σ 5).toInt ≤ (σ 1).toInt ∧ (σ 1).toInt ≤ 3000 ∧ 0 ≤ (σ 7).toInt ∧ (σ 7).toInt ≤ 5 ∧ (¬ (σ 7).toInt = 0 → (σ 6).toInt < (σ 5).toInt)) : MCv l dC dI h0 ad cA yX11_word cX11_word 2 ({ frames := 22, cells := 0, slots := 0, locals := 330 } : Room) [.int v] σ τ α β (fun x => offS [5, 6, 7, 8, 9, 10] σ x.1 ∧ offA [] α x.2.2.1 ∧ offA [] β x.2.2.2 ∧ ((0 ≤ (x.1 6).toInt ∧ (x.1 6).toInt ≤ (x.1 5).toInt ∧ (x.1 5).toInt ≤ (x.1 1).toInt ∧ (x.1 1).toInt ≤ 3000 ∧ 0 ≤ (x.1 7).toInt ∧ (x.1 7).toInt ≤ 5 ∧ (¬ (x.1 7).toInt = 0 → (x.1 6).toInt < (x.1 5).toInt)) ∧ (σ 6).toInt ≤ (x.1 6).toInt ∧ ((x.1 9).toInt = 0 → (σ 9).toInt = 0 ∧ (σ 7).toInt = 2 ∧ (σ 6).toInt < (x.1 6).toInt))) sz := by
  refine gbody_v (by decide) (Nat.le_of_ble_eq_true rfl) ?_
  intro p e s m below meth c ls A H hf hr hlk hw hl
  have hl : lv_has ls 2 [(0, .ref h0), (1, .int v)] := hl
  refine lv_aload_n hf.1 hf.2.1 dX11_word_0 rfl (lv_at hl 0 rfl) ?_
  refine lv_iload_n hf.1 hf.2.1 dX11_word_1 rfl (lv_at hl 1 rfl) ?_
  refine gcall_i (As := [.int v]) (rest := []) hf hw (m_isWord l dC dI h0 ad cA σ τ α β v H.size ) ka_X11_isWord kv_X11_isWord rfl k1804 rfl rfl hl.1 rfl rfl ⟨Nat.le_of_ble_eq_true rfl, Nat.le_of_ble_eq_true rfl⟩ (Nat.le_of_ble_eq_true rfl) ⟨Nat.le_refl _, Nat.le_refl _⟩ dX11_word_2 (fun r_2 w_1 hw_1 H locs hw => ?_)
  obtain ⟨σ_1, τ_1, α_1, β_1⟩ := w_1
  obtain ⟨hS_1, hA_1, hB_1, hT_1, hp_1⟩ := hw_1
  obtain rfl : σ = σ_1 := (offS_nil hS_1).symm
  obtain rfl : τ = τ_1 := hT_1.symm
  obtain rfl : α = α_1 := (offA_nil hA_1).symm
  obtain rfl : β = β_1 := (offA_nil hB_1).symm
  have hp_1 : (r_2.toInt = 0 ∨ r_2.toInt = 1) ∧ (r_2.toInt = 1 → (σ 9).toInt = 0 ∧ (σ 7).toInt = 2) := hp_1
  have hw : Wd dC dI A (MW h0 ad cA σ τ α β) (MT cA) s H locs := hw
  refine lv_if_eq (tgt := 15) hf.1 hf.2.1 dX11_word_5 (by decide) (fun c_3 => ?_) (fun c_3 => ?_)
  · have ic_3 : r_2.toInt = (0 : Int) := ti_eq c_3
    refine lv_aload_n hf.1 hf.2.1 dX11_word_15 rfl (lv_at hl 0 rfl) ?_
    refine gcall_v (As := []) (rest := []) hf hw (m_stray l dC dI h0 ad cA σ τ α β  H.size ) ka_X11_stray kv_X11_stray rfl k1808 rfl rfl hl.1 rfl rfl ⟨Nat.le_of_ble_eq_true rfl, Nat.le_of_ble_eq_true rfl⟩ (Nat.le_of_ble_eq_true rfl) ⟨Nat.le_refl _, Nat.le_refl _⟩ dX11_word_16 (fun w_4 hw_4 H locs hw => ?_)
    obtain ⟨σ_4, τ_4, α_4, β_4⟩ := w_4
    obtain ⟨hS_4, hA_4, hB_4, hT_4, hp_4⟩ := hw_4
    obtain rfl : τ = τ_4 := hT_4.symm
    obtain rfl : α = α_4 := (offA_nil hA_4).symm
    obtain rfl : β = β_4 := (offA_nil hB_4).symm
    have hp_4 : ¬ (σ_4 9).toInt = 0 := hp_4
    have f_4_0 : (σ_4 0).toInt = (σ 0).toInt := congrArg Int32.toInt (hS_4 0 (by decide))
    have f_4_1 : (σ_4 1).toInt = (σ 1).toInt := congrArg Int32.toInt (hS_4 1 (by decide))
    have f_4_5 : (σ_4 5).toInt = (σ 5).toInt := congrArg Int32.toInt (hS_4 5 (by decide))
    have f_4_6 : (σ_4 6).toInt = (σ 6).toInt := congrArg Int32.toInt (hS_4 6 (by decide))
    have f_4_7 : (σ_4 7).toInt = (σ 7).toInt := congrArg Int32.toInt (hS_4 7 (by decide))
    have f_4_13 : (σ_4 13).toInt = (σ 13).toInt := congrArg Int32.toInt (hS_4 13 (by decide))
    have f_4_15 : (σ_4 15).toInt = (σ 15).toInt := congrArg Int32.toInt (hS_4 15 (by decide))
    have f_4_17 : (σ_4 17).toInt = (σ 17).toInt := congrArg Int32.toInt (hS_4 17 (by decide))
    have f_4_18 : (σ_4 18).toInt = (σ 18).toInt := congrArg Int32.toInt (hS_4 18 (by decide))
    have f_4_19 : (σ_4 19).toInt = (σ 19).toInt := congrArg Int32.toInt (hS_4 19 (by decide))
    have f_4_20 : (σ_4 20).toInt = (σ 20).toInt := congrArg Int32.toInt (hS_4 20 (by decide))
    have f_4_21 : (σ_4 21).toInt = (σ 21).toInt := congrArg Int32.toInt (hS_4 21 (by decide))
    have f_4_22 : (σ_4 22).toInt = (σ 22).toInt := congrArg Int32.toInt (hS_4 22 (by decide))
    have hw : Wd dC dI A (MW h0 ad cA σ_4 τ α β) (MT cA) s H locs := hw
    exact gret_v hf hr hlk hw ⟨(offS.rf.tr hS_4 (by decide)), offA.rf, offA.rf, (by show (0 ≤ (σ_4 6).toInt ∧ (σ_4 6).toInt ≤ (σ_4 5).toInt ∧ (σ_4 5).toInt ≤ (σ_4 1).toInt ∧ (σ_4 1).toInt ≤ 3000 ∧ 0 ≤ (σ_4 7).toInt ∧ (σ_4 7).toInt ≤ 5 ∧ (¬ (σ_4 7).toInt = 0 → (σ_4 6).toInt < (σ_4 5).toInt)) ∧ (σ 6).toInt ≤ (σ_4 6).toInt ∧ ((σ_4 9).toInt = 0 → (σ 9).toInt = 0 ∧ (σ 7).toInt = 2 ∧ (σ 6).toInt < (σ_4 6).toInt); omega)⟩ dX11_word_19
  · have ic_3 : ¬ r_2.toInt = (0 : Int) := ti_ne c_3
    refine lv_aload_n hf.1 hf.2.1 dX11_word_8 rfl (lv_at hl 0 rfl) ?_
    refine gcall_v (As := []) (rest := []) hf hw (m_next l dC dI h0 ad cA σ τ α β  H.size (by show (σ 1).toInt ≤ 3000; omega) (by show 0 ≤ (σ 5).toInt; omega) (by show (σ 5).toInt ≤ (σ 1).toInt; omega)) ka_X11_next kv_X11_next rfl k1776 rfl rfl hl.1 rfl rfl ⟨Nat.le_of_ble_eq_true rfl, Nat.le_of_ble_eq_true rfl⟩ (Nat.le_of_ble_eq_true rfl) ⟨Nat.le_refl _, Nat.le_refl _⟩ dX11_word_9 (fun w_6 hw_6 H locs hw => ?_)
    obtain ⟨σ_6, τ_6, α_6, β_6⟩ := w_6
    obtain ⟨hS_6, hA_6, hB_6, hp_6⟩ := hw_6
    obtain rfl : α = α_6 := (offA_nil hA_6).symm
    obtain rfl : β = β_6 := (offA_nil hB_6).symm
    have hp_6 : (σ 5).toInt ≤ (σ_6 6).toInt ∧ (σ_6 6).toInt ≤ (σ_6 5).toInt ∧ (σ_6 5).toInt ≤ (σ 1).toInt ∧ (((σ_6 7).toInt = 0 ∧ (σ_6 5).toInt = (σ 1).toInt) ∨ (1 ≤ (σ_6 7).toInt ∧ (σ_6 7).toInt ≤ 5 ∧ (σ_6 6).toInt < (σ_6 5).toInt)) := hp_6
    have f_6_0 : (σ_6 0).toInt = (σ 0).toInt := congrArg Int32.toInt (hS_6 0 (by decide))
    have f_6_1 : (σ_6 1).toInt = (σ 1).toInt := congrArg Int32.toInt (hS_6 1 (by decide))
    have f_6_9 : (σ_6 9).toInt = (σ 9).toInt := congrArg Int32.toInt (hS_6 9 (by decide))
    have f_6_13 : (σ_6 13).toInt = (σ 13).toInt := congrArg Int32.toInt (hS_6 13 (by decide))
    have f_6_15 : (σ_6 15).toInt = (σ 15).toInt := congrArg Int32.toInt (hS_6 15 (by decide))
    have f_6_17 : (σ_6 17).toInt = (σ 17).toInt := congrArg Int32.toInt (hS_6 17 (by decide))
    have f_6_18 : (σ_6 18).toInt = (σ 18).toInt := congrArg Int32.toInt (hS_6 18 (by decide))
    have f_6_19 : (σ_6 19).toInt = (σ 19).toInt := congrArg Int32.toInt (hS_6 19 (by decide))
    have f_6_20 : (σ_6 20).toInt = (σ 20).toInt := congrArg Int32.toInt (hS_6 20 (by decide))
    have f_6_21 : (σ_6 21).toInt = (σ 21).toInt := congrArg Int32.toInt (hS_6 21 (by decide))
    have f_6_22 : (σ_6 22).toInt = (σ 22).toInt := congrArg Int32.toInt (hS_6 22 (by decide))
    have hw : Wd dC dI A (MW h0 ad cA σ_6 τ_6 α β) (MT cA) s H locs := hw
    refine lv_goto (tgt := 19) hf.1 hf.2.1 dX11_word_12 (by decide) ?_
    exact gret_v hf hr hlk hw ⟨(offS.rf.tr hS_6 (by decide)), offA.rf, offA.rf, (by show (0 ≤ (σ_6 6).toInt ∧ (σ_6 6).toInt ≤ (σ_6 5).toInt ∧ (σ_6 5).toInt ≤ (σ_6 1).toInt ∧ (σ_6 1).toInt ≤ 3000 ∧ 0 ≤ (σ_6 7).toInt ∧ (σ_6 7).toInt ≤ 5 ∧ (¬ (σ_6 7).toInt = 0 → (σ_6 6).toInt < (σ_6 5).toInt)) ∧ (σ 6).toInt ≤ (σ_6 6).toInt ∧ ((σ_6 9).toInt = 0 → (σ 9).toInt = 0 ∧ (σ 7).toInt = 2 ∧ (σ 6).toInt < (σ_6 6).toInt); omega)⟩ dX11_word_19

set_option maxHeartbeats 4000000 in
set_option maxRecDepth 100000 in
theorem m_nests (l : Launch) (dC : Nat → ClassId) (dI : Nat → Nat → Nat) (h0 : Nat) (ad : Nat → Nat) (cA : Nat → ClassId) (σ : Nat → Int32) (τ : Int64) (α : Nat → Nat → Int32) (β : Nat → Nat → Int64) (sz : Nat) (hn : 0 ≤ (σ 21).toInt ∧ (σ 21).toInt ≤ 100) : MCv l dC dI h0 ad cA yX11_nests cX11_nests 1 ({ frames := 10, cells := 0, slots := 0, locals := 150 } : Room) [] σ τ α β (fun x => offS [9, 10, 21] σ x.1 ∧ offA [] α x.2.2.1 ∧ offA [] β x.2.2.2 ∧ x.2.1 = τ ∧ ((x.1 21).toInt = (σ 21).toInt + 1 ∧ ((x.1 9).toInt = 0 → (σ 9).toInt = 0 ∧ ¬ (σ 21).toInt = 40))) sz := by
  refine gbody_v (by decide) (Nat.le_of_ble_eq_true rfl) ?_
  intro p e s m below meth c ls A H hf hr hlk hw hl
  have hl : lv_has ls 1 [(0, .ref h0)] := hl
  refine lv_aload_n hf.1 hf.2.1 dX11_nests_0 rfl (lv_at hl 0 rfl) ?_
  refine gget hf hw 21 (by decide) k1419 (v := σ 21) rfl dX11_nests_1 ?_
  refine lv_bipush (v := 40) hf.1 hf.2.1 dX11_nests_4 (by decide) ?_
  refine lv_icmp_ne (tgt := 18) hf.1 hf.2.1 dX11_nests_6 (by decide) (fun c_1 => ?_) (fun c_1 => ?_)
  · have ic_1 : ¬ (σ 21).toInt = (40 : Int) := ti_ne c_1
    refine lv_aload_n hf.1 hf.2.1 dX11_nests_18 rfl (lv_at hl 0 rfl) ?_
    refine lv_dup hf.1 hf.2.1 dX11_nests_19 rfl ?_
    refine gget hf hw 21 (by decide) k1419 (v := σ 21) rfl dX11_nests_20 ?_
    refine lv_iconst (v := 1) hf.1 hf.2.1 dX11_nests_23 (by decide) ?_
    refine lv_iadd hf.1 hf.2.1 dX11_nests_24 ?_
    refine lv_topi (fun x_2 ex_2 => ?_)
    have tx_2 : x_2.toInt = (σ 21).toInt + (1 : Int) := by rw [ex_2]; exact ti_add (by show _ ≤ (σ 21).toInt + (1 : Int); omega) (by show (σ 21).toInt + (1 : Int) ≤ _; omega)
    refine gput hf hw 21 (by decide) k1419 rfl rfl rfl dX11_nests_25 (fun H locs hw => ?_)
    exact gret_v hf hr hlk hw ⟨(offS.rf.put 21 (by decide) x_2), offA.rf, offA.rf, rfl, (by show x_2.toInt = (σ 21).toInt + 1 ∧ ((σ 9).toInt = 0 → (σ 9).toInt = 0 ∧ ¬ (σ 21).toInt = 40); omega)⟩ dX11_nests_28
  · have ic_1 : (σ 21).toInt = (40 : Int) := ti_eq c_1
    refine lv_aload_n hf.1 hf.2.1 dX11_nests_9 rfl (lv_at hl 0 rfl) ?_
    refine lv_iconst (v := 3) hf.1 hf.2.1 dX11_nests_10 (by decide) ?_
    refine lv_aload_n hf.1 hf.2.1 dX11_nests_11 rfl (lv_at hl 0 rfl) ?_
    refine gget hf hw 6 (by decide) k1374 (v := σ 6) rfl dX11_nests_12 ?_
    refine gcall_v (As := [.int 3, .int (σ 6)]) (rest := []) hf hw (m_fails2 l dC dI h0 ad cA σ τ α β 3 ((σ 6)) H.size ) ka_X11_fails kv_X11_fails rfl k1812 rfl rfl hl.1 rfl rfl ⟨Nat.le_of_ble_eq_true rfl, Nat.le_of_ble_eq_true rfl⟩ (Nat.le_of_ble_eq_true rfl) ⟨Nat.le_refl _, Nat.le_refl _⟩ dX11_nests_15 (fun w_3 hw_3 H locs hw => ?_)
    obtain ⟨σ_3, τ_3, α_3, β_3⟩ := w_3
    obtain ⟨hS_3, hA_3, hB_3, hT_3, hp_3⟩ := hw_3
    obtain rfl : τ = τ_3 := hT_3.symm
    obtain rfl : α = α_3 := (offA_nil hA_3).symm
    obtain rfl : β = β_3 := (offA_nil hB_3).symm
    have hp_3 : (¬ (3 : Int) = 0 → ¬ (σ_3 9).toInt = 0) ∧ ((σ_3 9).toInt = 0 → (σ 9).toInt = 0) := hp_3
    have f_3_0 : (σ_3 0).toInt = (σ 0).toInt := congrArg Int32.toInt (hS_3 0 (by decide))
    have f_3_1 : (σ_3 1).toInt = (σ 1).toInt := congrArg Int32.toInt (hS_3 1 (by decide))
    have f_3_5 : (σ_3 5).toInt = (σ 5).toInt := congrArg Int32.toInt (hS_3 5 (by decide))
    have f_3_6 : (σ_3 6).toInt = (σ 6).toInt := congrArg Int32.toInt (hS_3 6 (by decide))
    have f_3_7 : (σ_3 7).toInt = (σ 7).toInt := congrArg Int32.toInt (hS_3 7 (by decide))
    have f_3_13 : (σ_3 13).toInt = (σ 13).toInt := congrArg Int32.toInt (hS_3 13 (by decide))
    have f_3_15 : (σ_3 15).toInt = (σ 15).toInt := congrArg Int32.toInt (hS_3 15 (by decide))
    have f_3_17 : (σ_3 17).toInt = (σ 17).toInt := congrArg Int32.toInt (hS_3 17 (by decide))
    have f_3_18 : (σ_3 18).toInt = (σ 18).toInt := congrArg Int32.toInt (hS_3 18 (by decide))
    have f_3_19 : (σ_3 19).toInt = (σ 19).toInt := congrArg Int32.toInt (hS_3 19 (by decide))
    have f_3_20 : (σ_3 20).toInt = (σ 20).toInt := congrArg Int32.toInt (hS_3 20 (by decide))
    have f_3_21 : (σ_3 21).toInt = (σ 21).toInt := congrArg Int32.toInt (hS_3 21 (by decide))
    have f_3_22 : (σ_3 22).toInt = (σ 22).toInt := congrArg Int32.toInt (hS_3 22 (by decide))
    have hw : Wd dC dI A (MW h0 ad cA σ_3 τ α β) (MT cA) s H locs := hw
    refine lv_aload_n hf.1 hf.2.1 dX11_nests_18 rfl (lv_at hl 0 rfl) ?_
    refine lv_dup hf.1 hf.2.1 dX11_nests_19 rfl ?_
    refine gget hf hw 21 (by decide) k1419 (v := σ_3 21) rfl dX11_nests_20 ?_
    refine lv_iconst (v := 1) hf.1 hf.2.1 dX11_nests_23 (by decide) ?_
    refine lv_iadd hf.1 hf.2.1 dX11_nests_24 ?_
    refine lv_topi (fun x_5 ex_5 => ?_)
    have tx_5 : x_5.toInt = (σ_3 21).toInt + (1 : Int) := by rw [ex_5]; exact ti_add (by show _ ≤ (σ_3 21).toInt + (1 : Int); omega) (by show (σ_3 21).toInt + (1 : Int) ≤ _; omega)
    refine gput hf hw 21 (by decide) k1419 rfl rfl rfl dX11_nests_25 (fun H locs hw => ?_)
    exact gret_v hf hr hlk hw ⟨((offS.rf.tr hS_3 (by decide)).put 21 (by decide) x_5), offA.rf, offA.rf, rfl, (by show x_5.toInt = (σ 21).toInt + 1 ∧ ((σ_3 9).toInt = 0 → (σ 9).toInt = 0 ∧ ¬ (σ 21).toInt = 40); omega)⟩ dX11_nests_28

set_option maxHeartbeats 4000000 in
set_option maxRecDepth 100000 in
theorem m_opens (l : Launch) (dC : Nat → ClassId) (dI : Nat → Nat → Nat) (h0 : Nat) (ad : Nat → Nat) (cA : Nat → ClassId) (σ : Nat → Int32) (τ : Int64) (α : Nat → Nat → Int32) (β : Nat → Nat → Int64) (v : Int32) (sz : Nat) (hLI : 0 ≤ (σ 6).toInt ∧ (σ 6).toInt ≤ (σ 5).toInt ∧ (σ 5).toInt ≤ (σ 1).toInt ∧ (σ 1).toInt ≤ 3000 ∧ 0 ≤ (σ 7).toInt ∧ (σ 7).toInt ≤ 5 ∧ (¬ (σ 7).toInt = 0 → (σ 6).toInt < (σ 5).toInt)) (hn : 0 ≤ (σ 21).toInt ∧ (σ 21).toInt ≤ 100) : MCv l dC dI h0 ad cA yX11_opens cX11_opens 2 ({ frames := 22, cells := 0, slots := 0, locals := 330 } : Room) [.int v] σ τ α β (fun x => offS [5, 6, 7, 8, 9, 10, 21] σ x.1 ∧ offA [] α x.2.2.1 ∧ offA [] β x.2.2.2 ∧ ((0 ≤ (x.1 6).toInt ∧ (x.1 6).toInt ≤ (x.1 5).toInt ∧ (x.1 5).toInt ≤ (x.1 1).toInt ∧ (x.1 1).toInt ≤ 3000 ∧ 0 ≤ (x.1 7).toInt ∧ (x.1 7).toInt ≤ 5 ∧ (¬ (x.1 7).toInt = 0 → (x.1 6).toInt < (x.1 5).toInt)) ∧ (σ 6).toInt ≤ (x.1 6).toInt ∧ (σ 21).toInt ≤ (x.1 21).toInt ∧ (x.1 21).toInt ≤ (σ 21).toInt + 1 ∧ ((x.1 9).toInt = 0 → (σ 9).toInt = 0 ∧ (σ 7).toInt = 4 ∧ (σ 6).toInt < (x.1 6).toInt ∧ (x.1 21).toInt = (σ 21).toInt + 1 ∧ ¬ (σ 21).toInt = 40))) sz := by
  refine gbody_v (by decide) (Nat.le_of_ble_eq_true rfl) ?_
  intro p e s m below meth c ls A H hf hr hlk hw hl
  have hl : lv_has ls 2 [(0, .ref h0), (1, .int v)] := hl
  refine lv_aload_n hf.1 hf.2.1 dX11_opens_0 rfl (lv_at hl 0 rfl) ?_
  refine lv_iload_n hf.1 hf.2.1 dX11_opens_1 rfl (lv_at hl 1 rfl) ?_
  refine gcall_i (As := [.int v]) (rest := []) hf hw (m_isSign l dC dI h0 ad cA σ τ α β v H.size ) ka_X11_isSign kv_X11_isSign rfl k1824 rfl rfl hl.1 rfl rfl ⟨Nat.le_of_ble_eq_true rfl, Nat.le_of_ble_eq_true rfl⟩ (Nat.le_of_ble_eq_true rfl) ⟨Nat.le_refl _, Nat.le_refl _⟩ dX11_opens_2 (fun r_2 w_1 hw_1 H locs hw => ?_)
  obtain ⟨σ_1, τ_1, α_1, β_1⟩ := w_1
  obtain ⟨hS_1, hA_1, hB_1, hT_1, hp_1⟩ := hw_1
  obtain rfl : σ = σ_1 := (offS_nil hS_1).symm
  obtain rfl : τ = τ_1 := hT_1.symm
  obtain rfl : α = α_1 := (offA_nil hA_1).symm
  obtain rfl : β = β_1 := (offA_nil hB_1).symm
  have hp_1 : (r_2.toInt = 0 ∨ r_2.toInt = 1) ∧ (r_2.toInt = 1 → (σ 9).toInt = 0 ∧ (σ 7).toInt = 4) := hp_1
  have hw : Wd dC dI A (MW h0 ad cA σ τ α β) (MT cA) s H locs := hw
  refine lv_if_ne (tgt := 13) hf.1 hf.2.1 dX11_opens_5 (by decide) (fun c_3 => ?_) (fun c_3 => ?_)
  · have ic_3 : ¬ r_2.toInt = (0 : Int) := ti_ne c_3
    refine lv_aload_n hf.1 hf.2.1 dX11_opens_13 rfl (lv_at hl 0 rfl) ?_
    refine gcall_v (As := []) (rest := []) hf hw (m_nests l dC dI h0 ad cA σ τ α β  H.size (by show 0 ≤ (σ 21).toInt ∧ (σ 21).toInt ≤ 100; omega)) ka_X11_nests kv_X11_nests rfl k1828 rfl rfl hl.1 rfl rfl ⟨Nat.le_of_ble_eq_true rfl, Nat.le_of_ble_eq_true rfl⟩ (Nat.le_of_ble_eq_true rfl) ⟨Nat.le_refl _, Nat.le_refl _⟩ dX11_opens_14 (fun w_4 hw_4 H locs hw => ?_)
    obtain ⟨σ_4, τ_4, α_4, β_4⟩ := w_4
    obtain ⟨hS_4, hA_4, hB_4, hT_4, hp_4⟩ := hw_4
    obtain rfl : τ = τ_4 := hT_4.symm
    obtain rfl : α = α_4 := (offA_nil hA_4).symm
    obtain rfl : β = β_4 := (offA_nil hB_4).symm
    have hp_4 : (σ_4 21).toInt = (σ 21).toInt + 1 ∧ ((σ_4 9).toInt = 0 → (σ 9).toInt = 0 ∧ ¬ (σ 21).toInt = 40) := hp_4
    have f_4_0 : (σ_4 0).toInt = (σ 0).toInt := congrArg Int32.toInt (hS_4 0 (by decide))
    have f_4_1 : (σ_4 1).toInt = (σ 1).toInt := congrArg Int32.toInt (hS_4 1 (by decide))
    have f_4_5 : (σ_4 5).toInt = (σ 5).toInt := congrArg Int32.toInt (hS_4 5 (by decide))
    have f_4_6 : (σ_4 6).toInt = (σ 6).toInt := congrArg Int32.toInt (hS_4 6 (by decide))
    have f_4_7 : (σ_4 7).toInt = (σ 7).toInt := congrArg Int32.toInt (hS_4 7 (by decide))
    have f_4_13 : (σ_4 13).toInt = (σ 13).toInt := congrArg Int32.toInt (hS_4 13 (by decide))
    have f_4_15 : (σ_4 15).toInt = (σ 15).toInt := congrArg Int32.toInt (hS_4 15 (by decide))
    have f_4_17 : (σ_4 17).toInt = (σ 17).toInt := congrArg Int32.toInt (hS_4 17 (by decide))
    have f_4_18 : (σ_4 18).toInt = (σ 18).toInt := congrArg Int32.toInt (hS_4 18 (by decide))
    have f_4_19 : (σ_4 19).toInt = (σ 19).toInt := congrArg Int32.toInt (hS_4 19 (by decide))
    have f_4_20 : (σ_4 20).toInt = (σ 20).toInt := congrArg Int32.toInt (hS_4 20 (by decide))
    have f_4_22 : (σ_4 22).toInt = (σ 22).toInt := congrArg Int32.toInt (hS_4 22 (by decide))
    have hw : Wd dC dI A (MW h0 ad cA σ_4 τ α β) (MT cA) s H locs := hw
    refine lv_aload_n hf.1 hf.2.1 dX11_opens_17 rfl (lv_at hl 0 rfl) ?_
    refine gcall_i (As := []) (rest := []) hf hw (m_isWell l dC dI h0 ad cA σ_4 τ α β  H.size ) ka_X11_isWell kv_X11_isWell rfl k1800 rfl rfl hl.1 rfl rfl ⟨Nat.le_of_ble_eq_true rfl, Nat.le_of_ble_eq_true rfl⟩ (Nat.le_of_ble_eq_true rfl) ⟨Nat.le_refl _, Nat.le_refl _⟩ dX11_opens_18 (fun r_7 w_6 hw_6 H locs hw => ?_)
    obtain ⟨σ_6, τ_6, α_6, β_6⟩ := w_6
    obtain ⟨hS_6, hA_6, hB_6, hT_6, hp_6⟩ := hw_6
    obtain rfl : σ_4 = σ_6 := (offS_nil hS_6).symm
    obtain rfl : τ = τ_6 := hT_6.symm
    obtain rfl : α = α_6 := (offA_nil hA_6).symm
    obtain rfl : β = β_6 := (offA_nil hB_6).symm
    have hp_6 : (r_7.toInt = 0 ∨ r_7.toInt = 1) ∧ (r_7.toInt = 1 → (σ_4 9).toInt = 0) ∧ (r_7.toInt = 0 → ¬ (σ_4 9).toInt = 0) := hp_6
    have hw : Wd dC dI A (MW h0 ad cA σ_4 τ α β) (MT cA) s H locs := hw
    refine lv_if_eq (tgt := 28) hf.1 hf.2.1 dX11_opens_21 (by decide) (fun c_8 => ?_) (fun c_8 => ?_)
    · have ic_8 : r_7.toInt = (0 : Int) := ti_eq c_8
      exact gret_v hf hr hlk hw ⟨(offS.rf.tr hS_4 (by decide)), offA.rf, offA.rf, (by show (0 ≤ (σ_4 6).toInt ∧ (σ_4 6).toInt ≤ (σ_4 5).toInt ∧ (σ_4 5).toInt ≤ (σ_4 1).toInt ∧ (σ_4 1).toInt ≤ 3000 ∧ 0 ≤ (σ_4 7).toInt ∧ (σ_4 7).toInt ≤ 5 ∧ (¬ (σ_4 7).toInt = 0 → (σ_4 6).toInt < (σ_4 5).toInt)) ∧ (σ 6).toInt ≤ (σ_4 6).toInt ∧ (σ 21).toInt ≤ (σ_4 21).toInt ∧ (σ_4 21).toInt ≤ (σ 21).toInt + 1 ∧ ((σ_4 9).toInt = 0 → (σ 9).toInt = 0 ∧ (σ 7).toInt = 4 ∧ (σ 6).toInt < (σ_4 6).toInt ∧ (σ_4 21).toInt = (σ 21).toInt + 1 ∧ ¬ (σ 21).toInt = 40); omega)⟩ dX11_opens_28
    · have ic_8 : ¬ r_7.toInt = (0 : Int) := ti_ne c_8
      refine lv_aload_n hf.1 hf.2.1 dX11_opens_24 rfl (lv_at hl 0 rfl) ?_
      refine gcall_v (As := []) (rest := []) hf hw (m_next l dC dI h0 ad cA σ_4 τ α β  H.size (by show (σ_4 1).toInt ≤ 3000; omega) (by show 0 ≤ (σ_4 5).toInt; omega) (by show (σ_4 5).toInt ≤ (σ_4 1).toInt; omega)) ka_X11_next kv_X11_next rfl k1776 rfl rfl hl.1 rfl rfl ⟨Nat.le_of_ble_eq_true rfl, Nat.le_of_ble_eq_true rfl⟩ (Nat.le_of_ble_eq_true rfl) ⟨Nat.le_refl _, Nat.le_refl _⟩ dX11_opens_25 (fun w_9 hw_9 H locs hw => ?_)
      obtain ⟨σ_9, τ_9, α_9, β_9⟩ := w_9
      obtain ⟨hS_9, hA_9, hB_9, hp_9⟩ := hw_9
      obtain rfl : α = α_9 := (offA_nil hA_9).symm
      obtain rfl : β = β_9 := (offA_nil hB_9).symm
      have hp_9 : (σ_4 5).toInt ≤ (σ_9 6).toInt ∧ (σ_9 6).toInt ≤ (σ_9 5).toInt ∧ (σ_9 5).toInt ≤ (σ_4 1).toInt ∧ (((σ_9 7).toInt = 0 ∧ (σ_9 5).toInt = (σ_4 1).toInt) ∨ (1 ≤ (σ_9 7).toInt ∧ (σ_9 7).toInt ≤ 5 ∧ (σ_9 6).toInt < (σ_9 5).toInt)) := hp_9
      have f_9_0 : (σ_9 0).toInt = (σ_4 0).toInt := congrArg Int32.toInt (hS_9 0 (by decide))
      have f_9_1 : (σ_9 1).toInt = (σ_4 1).toInt := congrArg Int32.toInt (hS_9 1 (by decide))
      have f_9_9 : (σ_9 9).toInt = (σ_4 9).toInt := congrArg Int32.toInt (hS_9 9 (by decide))
      have f_9_13 : (σ_9 13).toInt = (σ_4 13).toInt := congrArg Int32.toInt (hS_9 13 (by decide))
      have f_9_15 : (σ_9 15).toInt = (σ_4 15).toInt := congrArg Int32.toInt (hS_9 15 (by decide))
      have f_9_17 : (σ_9 17).toInt = (σ_4 17).toInt := congrArg Int32.toInt (hS_9 17 (by decide))
      have f_9_18 : (σ_9 18).toInt = (σ_4 18).toInt := congrArg Int32.toInt (hS_9 18 (by decide))
      have f_9_19 : (σ_9 19).toInt = (σ_4 19).toInt := congrArg Int32.toInt (hS_9 19 (by decide))
      have f_9_20 : (σ_9 20).toInt = (σ_4 20).toInt := congrArg Int32.toInt (hS_9 20 (by decide))
      have f_9_21 : (σ_9 21).toInt = (σ_4 21).toInt := congrArg Int32.toInt (hS_9 21 (by decide))
      have f_9_22 : (σ_9 22).toInt = (σ_4 22).toInt := congrArg Int32.toInt (hS_9 22 (by decide))
      have hw : Wd dC dI A (MW h0 ad cA σ_9 τ_9 α β) (MT cA) s H locs := hw
      exact gret_v hf hr hlk hw ⟨((offS.rf.tr hS_4 (by decide)).tr hS_9 (by decide)), offA.rf, offA.rf, (by show (0 ≤ (σ_9 6).toInt ∧ (σ_9 6).toInt ≤ (σ_9 5).toInt ∧ (σ_9 5).toInt ≤ (σ_9 1).toInt ∧ (σ_9 1).toInt ≤ 3000 ∧ 0 ≤ (σ_9 7).toInt ∧ (σ_9 7).toInt ≤ 5 ∧ (¬ (σ_9 7).toInt = 0 → (σ_9 6).toInt < (σ_9 5).toInt)) ∧ (σ 6).toInt ≤ (σ_9 6).toInt ∧ (σ 21).toInt ≤ (σ_9 21).toInt ∧ (σ_9 21).toInt ≤ (σ 21).toInt + 1 ∧ ((σ_9 9).toInt = 0 → (σ 9).toInt = 0 ∧ (σ 7).toInt = 4 ∧ (σ 6).toInt < (σ_9 6).toInt ∧ (σ_9 21).toInt = (σ 21).toInt + 1 ∧ ¬ (σ 21).toInt = 40); omega)⟩ dX11_opens_28
  · have ic_3 : r_2.toInt = (0 : Int) := ti_eq c_3
    refine lv_aload_n hf.1 hf.2.1 dX11_opens_8 rfl (lv_at hl 0 rfl) ?_
    refine gcall_v (As := []) (rest := []) hf hw (m_stray l dC dI h0 ad cA σ τ α β  H.size ) ka_X11_stray kv_X11_stray rfl k1808 rfl rfl hl.1 rfl rfl ⟨Nat.le_of_ble_eq_true rfl, Nat.le_of_ble_eq_true rfl⟩ (Nat.le_of_ble_eq_true rfl) ⟨Nat.le_refl _, Nat.le_refl _⟩ dX11_opens_9 (fun w_11 hw_11 H locs hw => ?_)
    obtain ⟨σ_11, τ_11, α_11, β_11⟩ := w_11
    obtain ⟨hS_11, hA_11, hB_11, hT_11, hp_11⟩ := hw_11
    obtain rfl : τ = τ_11 := hT_11.symm
    obtain rfl : α = α_11 := (offA_nil hA_11).symm
    obtain rfl : β = β_11 := (offA_nil hB_11).symm
    have hp_11 : ¬ (σ_11 9).toInt = 0 := hp_11
    have f_11_0 : (σ_11 0).toInt = (σ 0).toInt := congrArg Int32.toInt (hS_11 0 (by decide))
    have f_11_1 : (σ_11 1).toInt = (σ 1).toInt := congrArg Int32.toInt (hS_11 1 (by decide))
    have f_11_5 : (σ_11 5).toInt = (σ 5).toInt := congrArg Int32.toInt (hS_11 5 (by decide))
    have f_11_6 : (σ_11 6).toInt = (σ 6).toInt := congrArg Int32.toInt (hS_11 6 (by decide))
    have f_11_7 : (σ_11 7).toInt = (σ 7).toInt := congrArg Int32.toInt (hS_11 7 (by decide))
    have f_11_13 : (σ_11 13).toInt = (σ 13).toInt := congrArg Int32.toInt (hS_11 13 (by decide))
    have f_11_15 : (σ_11 15).toInt = (σ 15).toInt := congrArg Int32.toInt (hS_11 15 (by decide))
    have f_11_17 : (σ_11 17).toInt = (σ 17).toInt := congrArg Int32.toInt (hS_11 17 (by decide))
    have f_11_18 : (σ_11 18).toInt = (σ 18).toInt := congrArg Int32.toInt (hS_11 18 (by decide))
    have f_11_19 : (σ_11 19).toInt = (σ 19).toInt := congrArg Int32.toInt (hS_11 19 (by decide))
    have f_11_20 : (σ_11 20).toInt = (σ 20).toInt := congrArg Int32.toInt (hS_11 20 (by decide))
    have f_11_21 : (σ_11 21).toInt = (σ 21).toInt := congrArg Int32.toInt (hS_11 21 (by decide))
    have f_11_22 : (σ_11 22).toInt = (σ 22).toInt := congrArg Int32.toInt (hS_11 22 (by decide))
    have hw : Wd dC dI A (MW h0 ad cA σ_11 τ α β) (MT cA) s H locs := hw
    exact gret_v hf hr hlk hw ⟨(offS.rf.tr hS_11 (by decide)), offA.rf, offA.rf, (by show (0 ≤ (σ_11 6).toInt ∧ (σ_11 6).toInt ≤ (σ_11 5).toInt ∧ (σ_11 5).toInt ≤ (σ_11 1).toInt ∧ (σ_11 1).toInt ≤ 3000 ∧ 0 ≤ (σ_11 7).toInt ∧ (σ_11 7).toInt ≤ 5 ∧ (¬ (σ_11 7).toInt = 0 → (σ_11 6).toInt < (σ_11 5).toInt)) ∧ (σ 6).toInt ≤ (σ_11 6).toInt ∧ (σ 21).toInt ≤ (σ_11 21).toInt ∧ (σ_11 21).toInt ≤ (σ 21).toInt + 1 ∧ ((σ_11 9).toInt = 0 → (σ 9).toInt = 0 ∧ (σ 7).toInt = 4 ∧ (σ 6).toInt < (σ_11 6).toInt ∧ (σ_11 21).toInt = (σ 21).toInt + 1 ∧ ¬ (σ 21).toInt = 40); omega)⟩ dX11_opens_12

set_option maxHeartbeats 4000000 in
set_option maxRecDepth 100000 in
theorem m_closes (l : Launch) (dC : Nat → ClassId) (dI : Nat → Nat → Nat) (h0 : Nat) (ad : Nat → Nat) (cA : Nat → ClassId) (σ : Nat → Int32) (τ : Int64) (α : Nat → Nat → Int32) (β : Nat → Nat → Int64) (v : Int32) (sz : Nat) (hLI : 0 ≤ (σ 6).toInt ∧ (σ 6).toInt ≤ (σ 5).toInt ∧ (σ 5).toInt ≤ (σ 1).toInt ∧ (σ 1).toInt ≤ 3000 ∧ 0 ≤ (σ 7).toInt ∧ (σ 7).toInt ≤ 5 ∧ (¬ (σ 7).toInt = 0 → (σ 6).toInt < (σ 5).toInt)) (hn : -1 ≤ (σ 21).toInt ∧ (σ 21).toInt ≤ 100) : MCv l dC dI h0 ad cA yX11_closes cX11_closes 2 ({ frames := 26, cells := 0, slots := 0, locals := 390 } : Room) [.int v] σ τ α β (fun x => offS [5, 6, 7, 8, 9, 10, 21] σ x.1 ∧ offA [] α x.2.2.1 ∧ offA [] β x.2.2.2 ∧ ((0 ≤ (x.1 6).toInt ∧ (x.1 6).toInt ≤ (x.1 5).toInt ∧ (x.1 5).toInt ≤ (x.1 1).toInt ∧ (x.1 1).toInt ≤ 3000 ∧ 0 ≤ (x.1 7).toInt ∧ (x.1 7).toInt ≤ 5 ∧ (¬ (x.1 7).toInt = 0 → (x.1 6).toInt < (x.1 5).toInt)) ∧ (σ 6).toInt ≤ (x.1 6).toInt ∧ (x.1 21).toInt = (σ 21).toInt - 1 ∧ ((x.1 9).toInt = 0 → (σ 9).toInt = 0 ∧ (σ 7).toInt = 4 ∧ (σ 6).toInt < (x.1 6).toInt))) sz := by
  refine gbody_v (by decide) (Nat.le_of_ble_eq_true rfl) ?_
  intro p e s m below meth c ls A H hf hr hlk hw hl
  have hl : lv_has ls 2 [(0, .ref h0), (1, .int v)] := hl
  refine lv_aload_n hf.1 hf.2.1 dX11_closes_0 rfl (lv_at hl 0 rfl) ?_
  refine lv_iload_n hf.1 hf.2.1 dX11_closes_1 rfl (lv_at hl 1 rfl) ?_
  refine gcall_v (As := [.int v]) (rest := []) hf hw (m_takes l dC dI h0 ad cA σ τ α β v H.size (by show 0 ≤ (σ 6).toInt ∧ (σ 6).toInt ≤ (σ 5).toInt ∧ (σ 5).toInt ≤ (σ 1).toInt ∧ (σ 1).toInt ≤ 3000 ∧ 0 ≤ (σ 7).toInt ∧ (σ 7).toInt ≤ 5 ∧ (¬ (σ 7).toInt = 0 → (σ 6).toInt < (σ 5).toInt); omega)) ka_X11_takes kv_X11_takes rfl k1836 rfl rfl hl.1 rfl rfl ⟨Nat.le_of_ble_eq_true rfl, Nat.le_of_ble_eq_true rfl⟩ (Nat.le_of_ble_eq_true rfl) ⟨Nat.le_refl _, Nat.le_refl _⟩ dX11_closes_2 (fun w_1 hw_1 H locs hw => ?_)
  obtain ⟨σ_1, τ_1, α_1, β_1⟩ := w_1
  obtain ⟨hS_1, hA_1, hB_1, hp_1⟩ := hw_1
  obtain rfl : α = α_1 := (offA_nil hA_1).symm
  obtain rfl : β = β_1 := (offA_nil hB_1).symm
  have hp_1 : (0 ≤ (σ_1 6).toInt ∧ (σ_1 6).toInt ≤ (σ_1 5).toInt ∧ (σ_1 5).toInt ≤ (σ_1 1).toInt ∧ (σ_1 1).toInt ≤ 3000 ∧ 0 ≤ (σ_1 7).toInt ∧ (σ_1 7).toInt ≤ 5 ∧ (¬ (σ_1 7).toInt = 0 → (σ_1 6).toInt < (σ_1 5).toInt)) ∧ (σ 6).toInt ≤ (σ_1 6).toInt ∧ ((σ_1 9).toInt = 0 → (σ 9).toInt = 0 ∧ (σ 7).toInt = 4 ∧ (σ 6).toInt < (σ_1 6).toInt) := hp_1
  have f_1_0 : (σ_1 0).toInt = (σ 0).toInt := congrArg Int32.toInt (hS_1 0 (by decide))
  have f_1_1 : (σ_1 1).toInt = (σ 1).toInt := congrArg Int32.toInt (hS_1 1 (by decide))
  have f_1_13 : (σ_1 13).toInt = (σ 13).toInt := congrArg Int32.toInt (hS_1 13 (by decide))
  have f_1_15 : (σ_1 15).toInt = (σ 15).toInt := congrArg Int32.toInt (hS_1 15 (by decide))
  have f_1_17 : (σ_1 17).toInt = (σ 17).toInt := congrArg Int32.toInt (hS_1 17 (by decide))
  have f_1_18 : (σ_1 18).toInt = (σ 18).toInt := congrArg Int32.toInt (hS_1 18 (by decide))
  have f_1_19 : (σ_1 19).toInt = (σ 19).toInt := congrArg Int32.toInt (hS_1 19 (by decide))
  have f_1_20 : (σ_1 20).toInt = (σ 20).toInt := congrArg Int32.toInt (hS_1 20 (by decide))
  have f_1_21 : (σ_1 21).toInt = (σ 21).toInt := congrArg Int32.toInt (hS_1 21 (by decide))
  have f_1_22 : (σ_1 22).toInt = (σ 22).toInt := congrArg Int32.toInt (hS_1 22 (by decide))
  have hw : Wd dC dI A (MW h0 ad cA σ_1 τ_1 α β) (MT cA) s H locs := hw
  refine lv_aload_n hf.1 hf.2.1 dX11_closes_5 rfl (lv_at hl 0 rfl) ?_
  refine lv_dup hf.1 hf.2.1 dX11_closes_6 rfl ?_
  refine gget hf hw 21 (by decide) k1419 (v := σ_1 21) rfl dX11_closes_7 ?_
  refine lv_iconst (v := 1) hf.1 hf.2.1 dX11_closes_10 (by decide) ?_
  refine lv_isub hf.1 hf.2.1 dX11_closes_11 ?_
  refine lv_topi (fun x_3 ex_3 => ?_)
  have tx_3 : x_3.toInt = (σ_1 21).toInt - (1 : Int) := by rw [ex_3]; exact ti_sub (by show _ ≤ (σ_1 21).toInt - (1 : Int); omega) (by show (σ_1 21).toInt - (1 : Int) ≤ _; omega)
  refine gput hf hw 21 (by decide) k1419 rfl rfl rfl dX11_closes_12 (fun H locs hw => ?_)
  exact gret_v hf hr hlk hw ⟨((offS.rf.tr hS_1 (by decide)).put 21 (by decide) x_3), offA.rf, offA.rf, (by show (0 ≤ (σ_1 6).toInt ∧ (σ_1 6).toInt ≤ (σ_1 5).toInt ∧ (σ_1 5).toInt ≤ (σ_1 1).toInt ∧ (σ_1 1).toInt ≤ 3000 ∧ 0 ≤ (σ_1 7).toInt ∧ (σ_1 7).toInt ≤ 5 ∧ (¬ (σ_1 7).toInt = 0 → (σ_1 6).toInt < (σ_1 5).toInt)) ∧ (σ 6).toInt ≤ (σ_1 6).toInt ∧ x_3.toInt = (σ 21).toInt - 1 ∧ ((σ_1 9).toInt = 0 → (σ 9).toInt = 0 ∧ (σ 7).toInt = 4 ∧ (σ 6).toInt < (σ_1 6).toInt); omega)⟩ dX11_closes_15

set_option maxHeartbeats 4000000 in
set_option maxRecDepth 100000 in
theorem m_plainKind (l : Launch) (dC : Nat → ClassId) (dI : Nat → Nat → Nat) (h0 : Nat) (ad : Nat → Nat) (cA : Nat → ClassId) (σ : Nat → Int32) (τ : Int64) (α : Nat → Nat → Int32) (β : Nat → Nat → Int64) (sz : Nat) (hLI : 0 ≤ (σ 6).toInt ∧ (σ 6).toInt ≤ (σ 5).toInt ∧ (σ 5).toInt ≤ (σ 1).toInt ∧ (σ 1).toInt ≤ 3000 ∧ 0 ≤ (σ 7).toInt ∧ (σ 7).toInt ≤ 5 ∧ (¬ (σ 7).toInt = 0 → (σ 6).toInt < (σ 5).toInt)) : MCi l dC dI h0 ad cA yX11_plainKind cX11_plainKind 2 (some .int) ({ frames := 22, cells := 0, slots := 0, locals := 330 } : Room) [] σ τ α β (fun r x => offS [5, 6, 7, 8, 9, 10] σ x.1 ∧ offA [] α x.2.2.1 ∧ offA [] β x.2.2.2 ∧ ((0 ≤ (x.1 6).toInt ∧ (x.1 6).toInt ≤ (x.1 5).toInt ∧ (x.1 5).toInt ≤ (x.1 1).toInt ∧ (x.1 1).toInt ≤ 3000 ∧ 0 ≤ (x.1 7).toInt ∧ (x.1 7).toInt ≤ 5 ∧ (¬ (x.1 7).toInt = 0 → (x.1 6).toInt < (x.1 5).toInt)) ∧ (σ 6).toInt ≤ (x.1 6).toInt ∧ -1 ≤ r.toInt ∧ r.toInt ≤ 2 ∧ (r.toInt < 0 → ¬ (x.1 9).toInt = 0) ∧ (0 ≤ r.toInt → (σ 6).toInt < (x.1 6).toInt) ∧ ((x.1 9).toInt = 0 → (σ 9).toInt = 0))) sz := by
  refine gbody_i (by decide) (Nat.le_of_ble_eq_true rfl) ?_
  intro p e s m below meth c ls A H hf hr hlk hw hl
  have hl : lv_has ls 2 [(0, .ref h0)] := hl
  refine lv_aload_n hf.1 hf.2.1 dX11_plainKind_0 rfl (lv_at hl 0 rfl) ?_
  refine lv_bipush (v := 11) hf.1 hf.2.1 dX11_plainKind_1 (by decide) ?_
  refine gcall_i (As := [.int 11]) (rest := []) hf hw (m_isWord l dC dI h0 ad cA σ τ α β 11 H.size ) ka_X11_isWord kv_X11_isWord rfl k1804 rfl rfl hl.1 rfl rfl ⟨Nat.le_of_ble_eq_true rfl, Nat.le_of_ble_eq_true rfl⟩ (Nat.le_of_ble_eq_true rfl) ⟨Nat.le_refl _, Nat.le_refl _⟩ dX11_plainKind_3 (fun r_2 w_1 hw_1 H locs hw => ?_)
  obtain ⟨σ_1, τ_1, α_1, β_1⟩ := w_1
  obtain ⟨hS_1, hA_1, hB_1, hT_1, hp_1⟩ := hw_1
  obtain rfl : σ = σ_1 := (offS_nil hS_1).symm
  obtain rfl : τ = τ_1 := hT_1.symm
  obtain rfl : α = α_1 := (offA_nil hA_1).symm
  obtain rfl : β = β_1 := (offA_nil hB_1).symm
  have hp_1 : (r_2.toInt = 0 ∨ r_2.toInt = 1) ∧ (r_2.toInt = 1 → (σ 9).toInt = 0 ∧ (σ 7).toInt = 2) := hp_1
  have hw : Wd dC dI A (MW h0 ad cA σ τ α β) (MT cA) s H locs := hw
  refine lv_if_eq (tgt := 13) hf.1 hf.2.1 dX11_plainKind_6 (by decide) (fun c_3 => ?_) (fun c_3 => ?_)
  · have ic_3 : r_2.toInt = (0 : Int) := ti_eq c_3
    refine lv_aload_n hf.1 hf.2.1 dX11_plainKind_13 rfl (lv_at hl 0 rfl) ?_
    refine lv_bipush (v := 12) hf.1 hf.2.1 dX11_plainKind_14 (by decide) ?_
    refine gcall_i (As := [.int 12]) (rest := []) hf hw (m_isWord l dC dI h0 ad cA σ τ α β 12 H.size ) ka_X11_isWord kv_X11_isWord rfl k1804 rfl rfl hl.1 rfl rfl ⟨Nat.le_of_ble_eq_true rfl, Nat.le_of_ble_eq_true rfl⟩ (Nat.le_of_ble_eq_true rfl) ⟨Nat.le_refl _, Nat.le_refl _⟩ dX11_plainKind_16 (fun r_5 w_4 hw_4 H locs hw => ?_)
    obtain ⟨σ_4, τ_4, α_4, β_4⟩ := w_4
    obtain ⟨hS_4, hA_4, hB_4, hT_4, hp_4⟩ := hw_4
    obtain rfl : σ = σ_4 := (offS_nil hS_4).symm
    obtain rfl : τ = τ_4 := hT_4.symm
    obtain rfl : α = α_4 := (offA_nil hA_4).symm
    obtain rfl : β = β_4 := (offA_nil hB_4).symm
    have hp_4 : (r_5.toInt = 0 ∨ r_5.toInt = 1) ∧ (r_5.toInt = 1 → (σ 9).toInt = 0 ∧ (σ 7).toInt = 2) := hp_4
    have hw : Wd dC dI A (MW h0 ad cA σ τ α β) (MT cA) s H locs := hw
    refine lv_if_eq (tgt := 26) hf.1 hf.2.1 dX11_plainKind_19 (by decide) (fun c_6 => ?_) (fun c_6 => ?_)
    · have ic_6 : r_5.toInt = (0 : Int) := ti_eq c_6
      refine lv_aload_n hf.1 hf.2.1 dX11_plainKind_26 rfl (lv_at hl 0 rfl) ?_
      refine lv_bipush (v := 13) hf.1 hf.2.1 dX11_plainKind_27 (by decide) ?_
      refine gcall_i (As := [.int 13]) (rest := []) hf hw (m_isWord l dC dI h0 ad cA σ τ α β 13 H.size ) ka_X11_isWord kv_X11_isWord rfl k1804 rfl rfl hl.1 rfl rfl ⟨Nat.le_of_ble_eq_true rfl, Nat.le_of_ble_eq_true rfl⟩ (Nat.le_of_ble_eq_true rfl) ⟨Nat.le_refl _, Nat.le_refl _⟩ dX11_plainKind_29 (fun r_8 w_7 hw_7 H locs hw => ?_)
      obtain ⟨σ_7, τ_7, α_7, β_7⟩ := w_7
      obtain ⟨hS_7, hA_7, hB_7, hT_7, hp_7⟩ := hw_7
      obtain rfl : σ = σ_7 := (offS_nil hS_7).symm
      obtain rfl : τ = τ_7 := hT_7.symm
      obtain rfl : α = α_7 := (offA_nil hA_7).symm
      obtain rfl : β = β_7 := (offA_nil hB_7).symm
      have hp_7 : (r_8.toInt = 0 ∨ r_8.toInt = 1) ∧ (r_8.toInt = 1 → (σ 9).toInt = 0 ∧ (σ 7).toInt = 2) := hp_7
      have hw : Wd dC dI A (MW h0 ad cA σ τ α β) (MT cA) s H locs := hw
      refine lv_if_eq (tgt := 39) hf.1 hf.2.1 dX11_plainKind_32 (by decide) (fun c_9 => ?_) (fun c_9 => ?_)
      · have ic_9 : r_8.toInt = (0 : Int) := ti_eq c_9
        refine lv_iconst (v := (-1)) hf.1 hf.2.1 dX11_plainKind_39 (by decide) ?_
        refine lv_istore_n (lv' := [(1, .int (-1)), (0, .ref h0)]) hf.1 hf.2.1 dX11_plainKind_40 rfl hl (by decide) rfl (fun ls hl => ?_)
        refine lv_iload_n hf.1 hf.2.1 dX11_plainKind_41 rfl (lv_at hl 0 rfl) ?_
        refine lv_if_ge (tgt := 52) hf.1 hf.2.1 dX11_plainKind_42 (by decide) (fun c_10 => absurd c_10 (by decide)) (fun c_10 => ?_)
        refine lv_aload_n hf.1 hf.2.1 dX11_plainKind_45 rfl (lv_at hl 1 rfl) ?_
        refine gcall_v (As := []) (rest := []) hf hw (m_stray l dC dI h0 ad cA σ τ α β  H.size ) ka_X11_stray kv_X11_stray rfl k1808 rfl rfl hl.1 rfl rfl ⟨Nat.le_of_ble_eq_true rfl, Nat.le_of_ble_eq_true rfl⟩ (Nat.le_of_ble_eq_true rfl) ⟨Nat.le_refl _, Nat.le_refl _⟩ dX11_plainKind_46 (fun w_11 hw_11 H locs hw => ?_)
        obtain ⟨σ_11, τ_11, α_11, β_11⟩ := w_11
        obtain ⟨hS_11, hA_11, hB_11, hT_11, hp_11⟩ := hw_11
        obtain rfl : τ = τ_11 := hT_11.symm
        obtain rfl : α = α_11 := (offA_nil hA_11).symm
        obtain rfl : β = β_11 := (offA_nil hB_11).symm
        have hp_11 : ¬ (σ_11 9).toInt = 0 := hp_11
        have f_11_0 : (σ_11 0).toInt = (σ 0).toInt := congrArg Int32.toInt (hS_11 0 (by decide))
        have f_11_1 : (σ_11 1).toInt = (σ 1).toInt := congrArg Int32.toInt (hS_11 1 (by decide))
        have f_11_5 : (σ_11 5).toInt = (σ 5).toInt := congrArg Int32.toInt (hS_11 5 (by decide))
        have f_11_6 : (σ_11 6).toInt = (σ 6).toInt := congrArg Int32.toInt (hS_11 6 (by decide))
        have f_11_7 : (σ_11 7).toInt = (σ 7).toInt := congrArg Int32.toInt (hS_11 7 (by decide))
        have f_11_13 : (σ_11 13).toInt = (σ 13).toInt := congrArg Int32.toInt (hS_11 13 (by decide))
        have f_11_15 : (σ_11 15).toInt = (σ 15).toInt := congrArg Int32.toInt (hS_11 15 (by decide))
        have f_11_17 : (σ_11 17).toInt = (σ 17).toInt := congrArg Int32.toInt (hS_11 17 (by decide))
        have f_11_18 : (σ_11 18).toInt = (σ 18).toInt := congrArg Int32.toInt (hS_11 18 (by decide))
        have f_11_19 : (σ_11 19).toInt = (σ 19).toInt := congrArg Int32.toInt (hS_11 19 (by decide))
        have f_11_20 : (σ_11 20).toInt = (σ 20).toInt := congrArg Int32.toInt (hS_11 20 (by decide))
        have f_11_21 : (σ_11 21).toInt = (σ 21).toInt := congrArg Int32.toInt (hS_11 21 (by decide))
        have f_11_22 : (σ_11 22).toInt = (σ 22).toInt := congrArg Int32.toInt (hS_11 22 (by decide))
        have hw : Wd dC dI A (MW h0 ad cA σ_11 τ α β) (MT cA) s H locs := hw
        refine lv_goto (tgt := 56) hf.1 hf.2.1 dX11_plainKind_49 (by decide) ?_
        refine lv_iload_n hf.1 hf.2.1 dX11_plainKind_56 rfl (lv_at hl 0 rfl) ?_
        exact gret_i (v := (-1)) hf hr hlk hw ⟨(offS.rf.tr hS_11 (by decide)), offA.rf, offA.rf, (by show (0 ≤ (σ_11 6).toInt ∧ (σ_11 6).toInt ≤ (σ_11 5).toInt ∧ (σ_11 5).toInt ≤ (σ_11 1).toInt ∧ (σ_11 1).toInt ≤ 3000 ∧ 0 ≤ (σ_11 7).toInt ∧ (σ_11 7).toInt ≤ 5 ∧ (¬ (σ_11 7).toInt = 0 → (σ_11 6).toInt < (σ_11 5).toInt)) ∧ (σ 6).toInt ≤ (σ_11 6).toInt ∧ -1 ≤ (-1 : Int) ∧ (-1 : Int) ≤ 2 ∧ ((-1 : Int) < 0 → ¬ (σ_11 9).toInt = 0) ∧ (0 ≤ (-1 : Int) → (σ 6).toInt < (σ_11 6).toInt) ∧ ((σ_11 9).toInt = 0 → (σ 9).toInt = 0); omega)⟩ dX11_plainKind_57
      · have ic_9 : ¬ r_8.toInt = (0 : Int) := ti_ne c_9
        refine lv_iconst (v := 2) hf.1 hf.2.1 dX11_plainKind_35 (by decide) ?_
        refine lv_goto (tgt := 40) hf.1 hf.2.1 dX11_plainKind_36 (by decide) ?_
        refine lv_istore_n (lv' := [(1, .int 2), (0, .ref h0)]) hf.1 hf.2.1 dX11_plainKind_40 rfl hl (by decide) rfl (fun ls hl => ?_)
        refine lv_iload_n hf.1 hf.2.1 dX11_plainKind_41 rfl (lv_at hl 0 rfl) ?_
        refine lv_if_ge (tgt := 52) hf.1 hf.2.1 dX11_plainKind_42 (by decide) (fun c_13 => ?_) (fun c_13 => absurd (by decide) c_13)
        refine lv_aload_n hf.1 hf.2.1 dX11_plainKind_52 rfl (lv_at hl 1 rfl) ?_
        refine gcall_v (As := []) (rest := []) hf hw (m_next l dC dI h0 ad cA σ τ α β  H.size (by show (σ 1).toInt ≤ 3000; omega) (by show 0 ≤ (σ 5).toInt; omega) (by show (σ 5).toInt ≤ (σ 1).toInt; omega)) ka_X11_next kv_X11_next rfl k1776 rfl rfl hl.1 rfl rfl ⟨Nat.le_of_ble_eq_true rfl, Nat.le_of_ble_eq_true rfl⟩ (Nat.le_of_ble_eq_true rfl) ⟨Nat.le_refl _, Nat.le_refl _⟩ dX11_plainKind_53 (fun w_14 hw_14 H locs hw => ?_)
        obtain ⟨σ_14, τ_14, α_14, β_14⟩ := w_14
        obtain ⟨hS_14, hA_14, hB_14, hp_14⟩ := hw_14
        obtain rfl : α = α_14 := (offA_nil hA_14).symm
        obtain rfl : β = β_14 := (offA_nil hB_14).symm
        have hp_14 : (σ 5).toInt ≤ (σ_14 6).toInt ∧ (σ_14 6).toInt ≤ (σ_14 5).toInt ∧ (σ_14 5).toInt ≤ (σ 1).toInt ∧ (((σ_14 7).toInt = 0 ∧ (σ_14 5).toInt = (σ 1).toInt) ∨ (1 ≤ (σ_14 7).toInt ∧ (σ_14 7).toInt ≤ 5 ∧ (σ_14 6).toInt < (σ_14 5).toInt)) := hp_14
        have f_14_0 : (σ_14 0).toInt = (σ 0).toInt := congrArg Int32.toInt (hS_14 0 (by decide))
        have f_14_1 : (σ_14 1).toInt = (σ 1).toInt := congrArg Int32.toInt (hS_14 1 (by decide))
        have f_14_9 : (σ_14 9).toInt = (σ 9).toInt := congrArg Int32.toInt (hS_14 9 (by decide))
        have f_14_13 : (σ_14 13).toInt = (σ 13).toInt := congrArg Int32.toInt (hS_14 13 (by decide))
        have f_14_15 : (σ_14 15).toInt = (σ 15).toInt := congrArg Int32.toInt (hS_14 15 (by decide))
        have f_14_17 : (σ_14 17).toInt = (σ 17).toInt := congrArg Int32.toInt (hS_14 17 (by decide))
        have f_14_18 : (σ_14 18).toInt = (σ 18).toInt := congrArg Int32.toInt (hS_14 18 (by decide))
        have f_14_19 : (σ_14 19).toInt = (σ 19).toInt := congrArg Int32.toInt (hS_14 19 (by decide))
        have f_14_20 : (σ_14 20).toInt = (σ 20).toInt := congrArg Int32.toInt (hS_14 20 (by decide))
        have f_14_21 : (σ_14 21).toInt = (σ 21).toInt := congrArg Int32.toInt (hS_14 21 (by decide))
        have f_14_22 : (σ_14 22).toInt = (σ 22).toInt := congrArg Int32.toInt (hS_14 22 (by decide))
        have hw : Wd dC dI A (MW h0 ad cA σ_14 τ_14 α β) (MT cA) s H locs := hw
        refine lv_iload_n hf.1 hf.2.1 dX11_plainKind_56 rfl (lv_at hl 0 rfl) ?_
        exact gret_i (v := 2) hf hr hlk hw ⟨(offS.rf.tr hS_14 (by decide)), offA.rf, offA.rf, (by show (0 ≤ (σ_14 6).toInt ∧ (σ_14 6).toInt ≤ (σ_14 5).toInt ∧ (σ_14 5).toInt ≤ (σ_14 1).toInt ∧ (σ_14 1).toInt ≤ 3000 ∧ 0 ≤ (σ_14 7).toInt ∧ (σ_14 7).toInt ≤ 5 ∧ (¬ (σ_14 7).toInt = 0 → (σ_14 6).toInt < (σ_14 5).toInt)) ∧ (σ 6).toInt ≤ (σ_14 6).toInt ∧ -1 ≤ (2 : Int) ∧ (2 : Int) ≤ 2 ∧ ((2 : Int) < 0 → ¬ (σ_14 9).toInt = 0) ∧ (0 ≤ (2 : Int) → (σ 6).toInt < (σ_14 6).toInt) ∧ ((σ_14 9).toInt = 0 → (σ 9).toInt = 0); omega)⟩ dX11_plainKind_57
    · have ic_6 : ¬ r_5.toInt = (0 : Int) := ti_ne c_6
      refine lv_iconst (v := 1) hf.1 hf.2.1 dX11_plainKind_22 (by decide) ?_
      refine lv_goto (tgt := 40) hf.1 hf.2.1 dX11_plainKind_23 (by decide) ?_
      refine lv_istore_n (lv' := [(1, .int 1), (0, .ref h0)]) hf.1 hf.2.1 dX11_plainKind_40 rfl hl (by decide) rfl (fun ls hl => ?_)
      refine lv_iload_n hf.1 hf.2.1 dX11_plainKind_41 rfl (lv_at hl 0 rfl) ?_
      refine lv_if_ge (tgt := 52) hf.1 hf.2.1 dX11_plainKind_42 (by decide) (fun c_16 => ?_) (fun c_16 => absurd (by decide) c_16)
      refine lv_aload_n hf.1 hf.2.1 dX11_plainKind_52 rfl (lv_at hl 1 rfl) ?_
      refine gcall_v (As := []) (rest := []) hf hw (m_next l dC dI h0 ad cA σ τ α β  H.size (by show (σ 1).toInt ≤ 3000; omega) (by show 0 ≤ (σ 5).toInt; omega) (by show (σ 5).toInt ≤ (σ 1).toInt; omega)) ka_X11_next kv_X11_next rfl k1776 rfl rfl hl.1 rfl rfl ⟨Nat.le_of_ble_eq_true rfl, Nat.le_of_ble_eq_true rfl⟩ (Nat.le_of_ble_eq_true rfl) ⟨Nat.le_refl _, Nat.le_refl _⟩ dX11_plainKind_53 (fun w_17 hw_17 H locs hw => ?_)
      obtain ⟨σ_17, τ_17, α_17, β_17⟩ := w_17
      obtain ⟨hS_17, hA_17, hB_17, hp_17⟩ := hw_17
      obtain rfl : α = α_17 := (offA_nil hA_17).symm
      obtain rfl : β = β_17 := (offA_nil hB_17).symm
      have hp_17 : (σ 5).toInt ≤ (σ_17 6).toInt ∧ (σ_17 6).toInt ≤ (σ_17 5).toInt ∧ (σ_17 5).toInt ≤ (σ 1).toInt ∧ (((σ_17 7).toInt = 0 ∧ (σ_17 5).toInt = (σ 1).toInt) ∨ (1 ≤ (σ_17 7).toInt ∧ (σ_17 7).toInt ≤ 5 ∧ (σ_17 6).toInt < (σ_17 5).toInt)) := hp_17
      have f_17_0 : (σ_17 0).toInt = (σ 0).toInt := congrArg Int32.toInt (hS_17 0 (by decide))
      have f_17_1 : (σ_17 1).toInt = (σ 1).toInt := congrArg Int32.toInt (hS_17 1 (by decide))
      have f_17_9 : (σ_17 9).toInt = (σ 9).toInt := congrArg Int32.toInt (hS_17 9 (by decide))
      have f_17_13 : (σ_17 13).toInt = (σ 13).toInt := congrArg Int32.toInt (hS_17 13 (by decide))
      have f_17_15 : (σ_17 15).toInt = (σ 15).toInt := congrArg Int32.toInt (hS_17 15 (by decide))
      have f_17_17 : (σ_17 17).toInt = (σ 17).toInt := congrArg Int32.toInt (hS_17 17 (by decide))
      have f_17_18 : (σ_17 18).toInt = (σ 18).toInt := congrArg Int32.toInt (hS_17 18 (by decide))
      have f_17_19 : (σ_17 19).toInt = (σ 19).toInt := congrArg Int32.toInt (hS_17 19 (by decide))
      have f_17_20 : (σ_17 20).toInt = (σ 20).toInt := congrArg Int32.toInt (hS_17 20 (by decide))
      have f_17_21 : (σ_17 21).toInt = (σ 21).toInt := congrArg Int32.toInt (hS_17 21 (by decide))
      have f_17_22 : (σ_17 22).toInt = (σ 22).toInt := congrArg Int32.toInt (hS_17 22 (by decide))
      have hw : Wd dC dI A (MW h0 ad cA σ_17 τ_17 α β) (MT cA) s H locs := hw
      refine lv_iload_n hf.1 hf.2.1 dX11_plainKind_56 rfl (lv_at hl 0 rfl) ?_
      exact gret_i (v := 1) hf hr hlk hw ⟨(offS.rf.tr hS_17 (by decide)), offA.rf, offA.rf, (by show (0 ≤ (σ_17 6).toInt ∧ (σ_17 6).toInt ≤ (σ_17 5).toInt ∧ (σ_17 5).toInt ≤ (σ_17 1).toInt ∧ (σ_17 1).toInt ≤ 3000 ∧ 0 ≤ (σ_17 7).toInt ∧ (σ_17 7).toInt ≤ 5 ∧ (¬ (σ_17 7).toInt = 0 → (σ_17 6).toInt < (σ_17 5).toInt)) ∧ (σ 6).toInt ≤ (σ_17 6).toInt ∧ -1 ≤ (1 : Int) ∧ (1 : Int) ≤ 2 ∧ ((1 : Int) < 0 → ¬ (σ_17 9).toInt = 0) ∧ (0 ≤ (1 : Int) → (σ 6).toInt < (σ_17 6).toInt) ∧ ((σ_17 9).toInt = 0 → (σ 9).toInt = 0); omega)⟩ dX11_plainKind_57
  · have ic_3 : ¬ r_2.toInt = (0 : Int) := ti_ne c_3
    refine lv_iconst (v := 0) hf.1 hf.2.1 dX11_plainKind_9 (by decide) ?_
    refine lv_goto (tgt := 40) hf.1 hf.2.1 dX11_plainKind_10 (by decide) ?_
    refine lv_istore_n (lv' := [(1, .int 0), (0, .ref h0)]) hf.1 hf.2.1 dX11_plainKind_40 rfl hl (by decide) rfl (fun ls hl => ?_)
    refine lv_iload_n hf.1 hf.2.1 dX11_plainKind_41 rfl (lv_at hl 0 rfl) ?_
    refine lv_if_ge (tgt := 52) hf.1 hf.2.1 dX11_plainKind_42 (by decide) (fun c_19 => ?_) (fun c_19 => absurd (by decide) c_19)
    refine lv_aload_n hf.1 hf.2.1 dX11_plainKind_52 rfl (lv_at hl 1 rfl) ?_
    refine gcall_v (As := []) (rest := []) hf hw (m_next l dC dI h0 ad cA σ τ α β  H.size (by show (σ 1).toInt ≤ 3000; omega) (by show 0 ≤ (σ 5).toInt; omega) (by show (σ 5).toInt ≤ (σ 1).toInt; omega)) ka_X11_next kv_X11_next rfl k1776 rfl rfl hl.1 rfl rfl ⟨Nat.le_of_ble_eq_true rfl, Nat.le_of_ble_eq_true rfl⟩ (Nat.le_of_ble_eq_true rfl) ⟨Nat.le_refl _, Nat.le_refl _⟩ dX11_plainKind_53 (fun w_20 hw_20 H locs hw => ?_)
    obtain ⟨σ_20, τ_20, α_20, β_20⟩ := w_20
    obtain ⟨hS_20, hA_20, hB_20, hp_20⟩ := hw_20
    obtain rfl : α = α_20 := (offA_nil hA_20).symm
    obtain rfl : β = β_20 := (offA_nil hB_20).symm
    have hp_20 : (σ 5).toInt ≤ (σ_20 6).toInt ∧ (σ_20 6).toInt ≤ (σ_20 5).toInt ∧ (σ_20 5).toInt ≤ (σ 1).toInt ∧ (((σ_20 7).toInt = 0 ∧ (σ_20 5).toInt = (σ 1).toInt) ∨ (1 ≤ (σ_20 7).toInt ∧ (σ_20 7).toInt ≤ 5 ∧ (σ_20 6).toInt < (σ_20 5).toInt)) := hp_20
    have f_20_0 : (σ_20 0).toInt = (σ 0).toInt := congrArg Int32.toInt (hS_20 0 (by decide))
    have f_20_1 : (σ_20 1).toInt = (σ 1).toInt := congrArg Int32.toInt (hS_20 1 (by decide))
    have f_20_9 : (σ_20 9).toInt = (σ 9).toInt := congrArg Int32.toInt (hS_20 9 (by decide))
    have f_20_13 : (σ_20 13).toInt = (σ 13).toInt := congrArg Int32.toInt (hS_20 13 (by decide))
    have f_20_15 : (σ_20 15).toInt = (σ 15).toInt := congrArg Int32.toInt (hS_20 15 (by decide))
    have f_20_17 : (σ_20 17).toInt = (σ 17).toInt := congrArg Int32.toInt (hS_20 17 (by decide))
    have f_20_18 : (σ_20 18).toInt = (σ 18).toInt := congrArg Int32.toInt (hS_20 18 (by decide))
    have f_20_19 : (σ_20 19).toInt = (σ 19).toInt := congrArg Int32.toInt (hS_20 19 (by decide))
    have f_20_20 : (σ_20 20).toInt = (σ 20).toInt := congrArg Int32.toInt (hS_20 20 (by decide))
    have f_20_21 : (σ_20 21).toInt = (σ 21).toInt := congrArg Int32.toInt (hS_20 21 (by decide))
    have f_20_22 : (σ_20 22).toInt = (σ 22).toInt := congrArg Int32.toInt (hS_20 22 (by decide))
    have hw : Wd dC dI A (MW h0 ad cA σ_20 τ_20 α β) (MT cA) s H locs := hw
    refine lv_iload_n hf.1 hf.2.1 dX11_plainKind_56 rfl (lv_at hl 0 rfl) ?_
    exact gret_i (v := 0) hf hr hlk hw ⟨(offS.rf.tr hS_20 (by decide)), offA.rf, offA.rf, (by show (0 ≤ (σ_20 6).toInt ∧ (σ_20 6).toInt ≤ (σ_20 5).toInt ∧ (σ_20 5).toInt ≤ (σ_20 1).toInt ∧ (σ_20 1).toInt ≤ 3000 ∧ 0 ≤ (σ_20 7).toInt ∧ (σ_20 7).toInt ≤ 5 ∧ (¬ (σ_20 7).toInt = 0 → (σ_20 6).toInt < (σ_20 5).toInt)) ∧ (σ 6).toInt ≤ (σ_20 6).toInt ∧ -1 ≤ (0 : Int) ∧ (0 : Int) ≤ 2 ∧ ((0 : Int) < 0 → ¬ (σ_20 9).toInt = 0) ∧ (0 ≤ (0 : Int) → (σ 6).toInt < (σ_20 6).toInt) ∧ ((σ_20 9).toInt = 0 → (σ 9).toInt = 0); omega)⟩ dX11_plainKind_57
