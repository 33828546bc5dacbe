section EX2
variable {X Y : St} {L : Nat} {S N : Int} {n o : Int32}
theorem ex_unpop (h : MH X L S N GA) (ho : o.toInt = (X.1 0 22).toInt - 1) (hn : n = X.1 36 (ix o)) (hf : ∀ i, i < ix o → Y.1 35 i = X.1 35 i ∧ Y.1 36 i = X.1 36 i ∧ Y.1 37 i = X.1 37 i) (hc : CN X Y (ix n)) (h19 : (Y.1 0 19).toInt = (X.1 0 19).toInt) (ht : (X.1 35 (ix o)).toInt = 15) (h22 : (Y.1 0 22).toInt = (X.1 0 22).toInt - 1) (h24 : (Y.1 0 24).toInt = n.toInt) (h20 : (Y.1 0 20).toInt = (X.1 0 20).toInt) (h21 : (Y.1 0 21).toInt = (X.1 0 21).toInt - 1) (e20 : Y.1 20 (ix n) = X.1 20 (ix n)) (e28 : Y.1 28 (ix n) = X.1 28 (ix n)) (w23 : Y.1 23 (ix n) = X.1 0 24) : MH Y L S N GA := by
  obtain ⟨j, cu, sc, nc, lv, tp, ⟨h1, h2, h3, h4, h5, h6, h7⟩, hW, hW28, hG⟩ := h
  have eo := ixc (z := o) (by omega)
  have e := ixc h7
  obtain ⟨i, rfl⟩ : ∃ i, j = i + 1 := ⟨j - 1, by omega⟩
  have ei : ix o = i := by omega
  have hnum := h1.num
  obtain ⟨lo, s0, n0, l0, t0, hB, hR, hT⟩ := h1
  have hlo := hR.bd
  have hnB := hB.num
  rw [ei] at hf hn ht
  subst hn
  obtain ⟨q1, q2, q3, q4, q5, q6, q7, q8, q9, q10, q11, q12⟩ := hR.at15 ht
  clear hR
  subst q9
  subst q12
  rw [← q11] at hW
  have e24 : Y.1 0 24 = X.1 36 i := Int32.toInt_inj.mp h24
  have eY := ixc (z := Y.1 0 19) (by omega)
  have e19 : ix (Y.1 0 19) = ix (X.1 0 19) := by omega
  refine ⟨i, lo, _, n0, l0, t0, ⟨hB.cn hf hc (by omega) (by omega), by omega, by omega, by omega, by omega, by omega, by omega⟩, ?_, by rw [e24, e28]; exact q6, trivial⟩
  rw [e24, e19]
  exact ⟨q2, by rw [← q11]; exact WX.one (by rw [e20]; omega) (WH.cn hW hc (Nat.le_refl _) (Or.inl (by omega)) w23)⟩
theorem ex_binpop (h : MH X L S N GA) (ho : o.toInt = (X.1 0 22).toInt - 1) (hn : n = X.1 36 (ix o)) (hf : ∀ i, i < ix o → Y.1 35 i = X.1 35 i ∧ Y.1 36 i = X.1 36 i ∧ Y.1 37 i = X.1 37 i) (hc : CN X Y (ix n)) (h19 : (Y.1 0 19).toInt = (X.1 0 19).toInt) (ht : (X.1 35 (ix o)).toInt = 16) (h22 : (Y.1 0 22).toInt = (X.1 0 22).toInt - 1) (h24 : (Y.1 0 24).toInt = n.toInt) (h20 : (Y.1 0 20).toInt = (X.1 0 20).toInt) (h21 : (Y.1 0 21).toInt = (X.1 0 21).toInt) (e20 : Y.1 20 (ix n) = X.1 20 (ix n)) (e23 : Y.1 23 (ix n) = X.1 23 (ix n)) (e28 : Y.1 28 (ix n) = X.1 28 (ix n)) (w24 : Y.1 24 (ix n) = X.1 0 24) : MH Y L S N GA := by
  obtain ⟨j, cu, sc, nc, lv, tp, ⟨h1, h2, h3, h4, h5, h6, h7⟩, hW, hW28, hG⟩ := h
  have eo := ixc (z := o) (by omega)
  have e := ixc h7
  obtain ⟨i, rfl⟩ : ∃ i, j = i + 1 := ⟨j - 1, by omega⟩
  have ei : ix o = i := by omega
  have hnum := h1.num
  obtain ⟨lo, s0, n0, l0, t0, hB, hR, hT⟩ := h1
  have hlo := hR.bd
  have hnB := hB.num
  rw [ei] at hf hn ht
  subst hn
  obtain ⟨q1, q2, q3, q4, q5, q6, q7, q8, q9, q10, q11, q12, q13, q14, q15⟩ := hR.at16 ht
  clear hR
  subst q8
  subst q12
  have e24 : Y.1 0 24 = X.1 36 i := Int32.toInt_inj.mp h24
  have eY := ixc (z := Y.1 0 19) (by omega)
  have e19 : ix (Y.1 0 19) = ix (X.1 0 19) := by omega
  refine ⟨i, lo, _, n0, l0, t0, ⟨hB.cn hf hc (by omega) (by omega), by omega, by omega, by omega, by omega, by omega, by omega⟩, ?_, by rw [e24, e28]; exact q6, trivial⟩
  rw [e24, e19]
  exact ⟨q2, WX.two (by rw [e20]; exact q10) q3 (q11.cn hc (by omega) (Or.inr (Nat.le_refl _)) e23) (WH.cn hW hc (Nat.le_refl _) (Or.inl (by omega)) w24)⟩
theorem ex_letdone (h : MH X L S N GA) (ho : o.toInt = (X.1 0 22).toInt - 1) (hn : n = X.1 36 (ix o)) (hf : ∀ i, i < ix o → Y.1 35 i = X.1 35 i ∧ Y.1 36 i = X.1 36 i ∧ Y.1 37 i = X.1 37 i) (hc : CN X Y (ix n)) (h19 : (Y.1 0 19).toInt = (X.1 0 19).toInt) (ht : (X.1 35 (ix o)).toInt = 2) (h22 : (Y.1 0 22).toInt = (X.1 0 22).toInt - 1) (h24 : (Y.1 0 24).toInt = n.toInt) (h20 : (Y.1 0 20).toInt = (X.1 0 20).toInt - 1) (h21 : (Y.1 0 21).toInt = (X.1 0 21).toInt - 1) (e20 : Y.1 20 (ix n) = X.1 20 (ix n)) (e23 : Y.1 23 (ix n) = X.1 23 (ix n)) (e26 : Y.1 26 (ix n) = X.1 26 (ix n)) (e28 : Y.1 28 (ix n) = X.1 28 (ix n)) (w24 : Y.1 24 (ix n) = X.1 0 24) : MH Y L S N GD := by
  obtain ⟨j, cu, sc, nc, lv, tp, ⟨h1, h2, h3, h4, h5, h6, h7⟩, hW, hW28, hG⟩ := h
  have eo := ixc (z := o) (by omega)
  have e := ixc h7
  obtain ⟨i, rfl⟩ : ∃ i, j = i + 1 := ⟨j - 1, by omega⟩
  have ei : ix o = i := by omega
  have hnum := h1.num
  obtain ⟨lo, s0, n0, l0, t0, hB, hR, hT⟩ := h1
  have hlo := hR.bd
  have hnB := hB.num
  rw [ei] at hf hn ht
  subst hn
  obtain ⟨q1, q2, q3, q4, q5, q6, q7, q8, q9, q10, q11, q12, q13, q14, q15, q16, q17⟩ := hR.at2 ht
  clear hR
  subst q17
  rw [← q11] at q16
  have hb := q16.2.bd
  have e24 : Y.1 0 24 = X.1 36 i := Int32.toInt_inj.mp h24
  have eY := ixc (z := Y.1 0 19) (by omega)
  have e19 : ix (Y.1 0 19) = ix (X.1 0 19) := by omega
  refine ⟨i, lo, _, n0, l0, t0, ⟨hB.cn hf hc (by omega) (by omega), by omega, by omega, by omega, by omega, by omega, by omega⟩, ?_, by rw [e24, e28]; exact q6, ⟨q9, q10⟩⟩
  rw [e24, e19]
  exact ⟨q2, by rw [← q11]; exact WX.let_ (by rw [e20]; exact q12) (by rw [e26]; exact q13) ⟨q14, q15⟩ (q16.cn hc (by omega) (Or.inl (Nat.lt_succ_self _)) e23) (WH.cn hW hc (Nat.le_refl _) (Or.inl (by omega)) w24)⟩
theorem ex_ifdone (h : MH X L S N GA) (ho : o.toInt = (X.1 0 22).toInt - 1) (hn : n = X.1 36 (ix o)) (hf : ∀ i, i < ix o → Y.1 35 i = X.1 35 i ∧ Y.1 36 i = X.1 36 i ∧ Y.1 37 i = X.1 37 i) (hc : CN X Y (ix n)) (h19 : (Y.1 0 19).toInt = (X.1 0 19).toInt) (ht : (X.1 35 (ix o)).toInt = 5) (h22 : (Y.1 0 22).toInt = (X.1 0 22).toInt - 1) (h24 : (Y.1 0 24).toInt = n.toInt) (h20 : (Y.1 0 20).toInt = (X.1 0 20).toInt) (h21 : (Y.1 0 21).toInt = (X.1 0 21).toInt - 1) (e20 : Y.1 20 (ix n) = X.1 20 (ix n)) (e23 : Y.1 23 (ix n) = X.1 23 (ix n)) (e24n : Y.1 24 (ix n) = X.1 24 (ix n)) (e28 : Y.1 28 (ix n) = X.1 28 (ix n)) (w25 : Y.1 25 (ix n) = X.1 0 24) : MH Y L S N GD := by
  obtain ⟨j, cu, sc, nc, lv, tp, ⟨h1, h2, h3, h4, h5, h6, h7⟩, hW, hW28, hG⟩ := h
  have eo := ixc (z := o) (by omega)
  have e := ixc h7
  obtain ⟨i, rfl⟩ : ∃ i, j = i + 1 := ⟨j - 1, by omega⟩
  have ei : ix o = i := by omega
  have hnum := h1.num
  obtain ⟨lo, s0, n0, l0, t0, hB, hR, hT⟩ := h1
  have hlo := hR.bd
  have hnB := hB.num
  rw [ei] at hf hn ht
  subst hn
  obtain ⟨q1, q2, q3, q4, q5, q6, q7, q8, q9, q10, q11, q12, ⟨m, q13, q14⟩, q15⟩ := hR.at5 ht
  clear hR
  subst q15
  rw [← q11] at q13
  have hb := q13.2.bd
  have hb2 := q14.2.bd
  have e24 : Y.1 0 24 = X.1 36 i := Int32.toInt_inj.mp h24
  have eY := ixc (z := Y.1 0 19) (by omega)
  have e19 : ix (Y.1 0 19) = ix (X.1 0 19) := by omega
  refine ⟨i, lo, _, n0, l0, t0, ⟨hB.cn hf hc (by omega) (by omega), by omega, by omega, by omega, by omega, by omega, by omega⟩, ?_, by rw [e24, e28]; exact q6, ⟨q9, q10⟩⟩
  rw [e24, e19]
  exact ⟨q2, by rw [← q11]; exact WX.if_ (by rw [e20]; exact q12) (q13.cn hc (by omega) (Or.inl (Nat.lt_succ_self _)) e23) (q14.cn hc (by omega) (Or.inl (by omega)) e24n) (WH.cn hW hc (Nat.le_refl _) (Or.inl (by omega)) w25)⟩
theorem ex_one (h : MH X L S N GA) (ho : o.toInt = (X.1 0 22).toInt - 1) (hn : n = X.1 36 (ix o)) (hf : ∀ i, i < ix o → Y.1 35 i = X.1 35 i ∧ Y.1 36 i = X.1 36 i ∧ Y.1 37 i = X.1 37 i) (hc : CN X Y (ix n)) (h19 : (Y.1 0 19).toInt = (X.1 0 19).toInt) (ht : (X.1 35 (ix o)).toInt = 6 ∨ (X.1 35 (ix o)).toInt = 11) (h22 : (Y.1 0 22).toInt = (X.1 0 22).toInt - 1) (h24 : (Y.1 0 24).toInt = n.toInt) (h20 : (Y.1 0 20).toInt = (X.1 0 20).toInt) (h21 : (Y.1 0 21).toInt = (X.1 0 21).toInt - 1) (e20 : Y.1 20 (ix n) = X.1 20 (ix n)) (e28 : Y.1 28 (ix n) = X.1 28 (ix n)) (w23 : Y.1 23 (ix n) = X.1 0 24) : MH Y L S N (GB Y) := by
  obtain ⟨j, cu, sc, nc, lv, tp, ⟨h1, h2, h3, h4, h5, h6, h7⟩, hW, hW28, hG⟩ := h
  have eo := ixc (z := o) (by omega)
  have e := ixc h7
  obtain ⟨i, rfl⟩ : ∃ i, j = i + 1 := ⟨j - 1, by omega⟩
  have ei : ix o = i := by omega
  have hnum := h1.num
  obtain ⟨lo, s0, n0, l0, t0, hB, hR, hT⟩ := h1
  have hlo := hR.bd
  have hnB := hB.num
  rw [ei] at hf hn ht
  subst hn
  have hq : 1 ≤ i ∧ 0 ≤ (X.1 36 i).toInt ∧ lo ≤ ix (X.1 36 i) ∧ ix (X.1 36 i) < cu ∧ (i : Int) ≤ 4 * nc + lv ∧ (X.1 28 (ix (X.1 36 i))).toInt < 0 ∧ nc = n0 + 1 ∧ lv = 0 ∧ sc = s0 ∧ ((X.1 20 (ix (X.1 36 i))).toInt = 8 ∨ ((X.1 20 (ix (X.1 36 i))).toInt = 6 ∨ (X.1 20 (ix (X.1 36 i))).toInt = 7)) ∧ ix (X.1 36 i) = lo ∧ cu = lo + 1 := by
    rcases ht with ht | ht
    · obtain ⟨q1, q2, q3, q4, q5, q6, q7, q8, q9, q10, q11, q12⟩ := hR.at6 ht
      exact ⟨q1, q2, q3, q4, q5, q6, q7, q8, q9, Or.inl q10, q11, q12⟩
    · obtain ⟨q1, q2, q3, q4, q5, q6, q7, q8, q9, q10, q11, q12⟩ := hR.at11 ht
      exact ⟨q1, q2, q3, q4, q5, q6, q7, q8, q9, Or.inr q10, q11, q12⟩
  obtain ⟨q1, q2, q3, q4, q5, q6, q7, q8, q9, q10, q11, q12⟩ := hq
  clear hR
  subst q9
  subst q12
  rw [← q11] at hW
  have e24 : Y.1 0 24 = X.1 36 i := Int32.toInt_inj.mp h24
  have eY := ixc (z := Y.1 0 19) (by omega)
  have e19 : ix (Y.1 0 19) = ix (X.1 0 19) := by omega
  refine ⟨i, lo, _, n0, l0, t0, ⟨hB.cn hf hc (by omega) (by omega), by omega, by omega, by omega, by omega, by omega, by omega⟩, ?_, by rw [e24, e28]; exact q6, (by unfold GB; rw [e24]; intro q; rw [e20] at q; omega)⟩
  rw [e24, e19]
  exact ⟨q2, by rw [← q11]; exact WX.one (by rw [e20]; omega) (WH.cn hW hc (Nat.le_refl _) (Or.inl (by omega)) w23)⟩
theorem ex_filldone (h : MH X L S N GA) (ho : o.toInt = (X.1 0 22).toInt - 1) (hn : n = X.1 36 (ix o)) (hf : ∀ i, i < ix o → Y.1 35 i = X.1 35 i ∧ Y.1 36 i = X.1 36 i ∧ Y.1 37 i = X.1 37 i) (hc : CN X Y (ix n)) (h19 : (Y.1 0 19).toInt = (X.1 0 19).toInt) (ht : (X.1 35 (ix o)).toInt = 10) (h22 : (Y.1 0 22).toInt = (X.1 0 22).toInt - 1) (h24 : (Y.1 0 24).toInt = n.toInt) (h20 : (Y.1 0 20).toInt = (X.1 0 20).toInt) (h21 : (Y.1 0 21).toInt = (X.1 0 21).toInt - 1) (e20 : Y.1 20 (ix n) = X.1 20 (ix n)) (e23 : Y.1 23 (ix n) = X.1 23 (ix n)) (e28 : Y.1 28 (ix n) = X.1 28 (ix n)) (w24 : Y.1 24 (ix n) = X.1 0 24) : MH Y L S N (GB Y) := by
  obtain ⟨j, cu, sc, nc, lv, tp, ⟨h1, h2, h3, h4, h5, h6, h7⟩, hW, hW28, hG⟩ := h
  have eo := ixc (z := o) (by omega)
  have e := ixc h7
  obtain ⟨i, rfl⟩ : ∃ i, j = i + 1 := ⟨j - 1, by omega⟩
  have ei : ix o = i := by omega
  have hnum := h1.num
  obtain ⟨lo, s0, n0, l0, t0, hB, hR, hT⟩ := h1
  have hlo := hR.bd
  have hnB := hB.num
  rw [ei] at hf hn ht
  subst hn
  obtain ⟨q1, q2, q3, q4, q5, q6, q7, q8, q9, q10, q11, q12⟩ := hR.at10 ht
  clear hR
  subst q9
  rw [← q11] at q12
  have hb := q12.2.bd
  have e24 : Y.1 0 24 = X.1 36 i := Int32.toInt_inj.mp h24
  have eY := ixc (z := Y.1 0 19) (by omega)
  have e19 : ix (Y.1 0 19) = ix (X.1 0 19) := by omega
  refine ⟨i, lo, _, n0, l0, t0, ⟨hB.cn hf hc (by omega) (by omega), by omega, by omega, by omega, by omega, by omega, by omega⟩, ?_, by rw [e24, e28]; exact q6, (by unfold GB; rw [e24]; intro q; rw [e20] at q; omega)⟩
  rw [e24, e19]
  exact ⟨q2, by rw [← q11]; exact WX.new_ (by rw [e20]; exact q10) (q12.cn hc (by omega) (Or.inl (Nat.lt_succ_self _)) e23) (WH.cn hW hc (Nat.le_refl _) (Or.inl (by omega)) w24)⟩
theorem ex_placed (h : MH X L S N GA) (ho : o.toInt = (X.1 0 22).toInt - 1) (hn : n = X.1 36 (ix o)) (hf : ∀ i, i < ix o → Y.1 35 i = X.1 35 i ∧ Y.1 36 i = X.1 36 i ∧ Y.1 37 i = X.1 37 i) (hc : CN X Y (ix n)) (h19 : (Y.1 0 19).toInt = (X.1 0 19).toInt) (ht : (X.1 35 (ix o)).toInt = 13) (h22 : (Y.1 0 22).toInt = (X.1 0 22).toInt - 1) (h24 : (Y.1 0 24).toInt = n.toInt) (h20 : (Y.1 0 20).toInt = (X.1 0 20).toInt) (h21 : (Y.1 0 21).toInt = (X.1 0 21).toInt - 1) (e20 : Y.1 20 (ix n) = X.1 20 (ix n)) (e23 : Y.1 23 (ix n) = X.1 23 (ix n)) (e25 : Y.1 25 (ix n) = X.1 25 (ix n)) (e28 : Y.1 28 (ix n) = X.1 28 (ix n)) (w24 : Y.1 24 (ix n) = X.1 0 24) : MH Y L S N (GB Y) := by
  obtain ⟨j, cu, sc, nc, lv, tp, ⟨h1, h2, h3, h4, h5, h6, h7⟩, hW, hW28, hG⟩ := h
  have eo := ixc (z := o) (by omega)
  have e := ixc h7
  obtain ⟨i, rfl⟩ : ∃ i, j = i + 1 := ⟨j - 1, by omega⟩
  have ei : ix o = i := by omega
  have hnum := h1.num
  obtain ⟨lo, s0, n0, l0, t0, hB, hR, hT⟩ := h1
  have hlo := hR.bd
  have hnB := hB.num
  rw [ei] at hf hn ht
  subst hn
  obtain ⟨q1, q2, q3, q4, q5, q6, q7, q8, q9, q10, q11, q12, q13⟩ := hR.at13 ht
  clear hR
  subst q9
  subst q13
  have e24 : Y.1 0 24 = X.1 36 i := Int32.toInt_inj.mp h24
  have eY := ixc (z := Y.1 0 19) (by omega)
  have e19 : ix (Y.1 0 19) = ix (X.1 0 19) := by omega
  refine ⟨i, lo, _, n0, l0, t0, ⟨hB.cn hf hc (by omega) (by omega), by omega, by omega, by omega, by omega, by omega, by omega⟩, ?_, by rw [e24, e28]; exact q6, (by unfold GB; rw [e24]; intro q; rw [e25]; exact q11)⟩
  rw [e24, e19]
  exact ⟨q2, WX.place (by rw [e20]; exact q10) q3 (q12.cn hc (by omega) (Or.inr (Nat.le_refl _)) e23) (WH.cn hW hc (Nat.le_refl _) (Or.inl (by omega)) w24) (by rw [e25]; exact q11)⟩
theorem ex_assigned (h : MH X L S N GA) (ho : o.toInt = (X.1 0 22).toInt - 1) (hn : n = X.1 36 (ix o)) (hf : ∀ i, i < ix o → Y.1 35 i = X.1 35 i ∧ Y.1 36 i = X.1 36 i ∧ Y.1 37 i = X.1 37 i) (hc : CN X Y (ix n)) (h19 : (Y.1 0 19).toInt = (X.1 0 19).toInt) (ht : (X.1 35 (ix o)).toInt = 14) (h22 : (Y.1 0 22).toInt = (X.1 0 22).toInt - 1) (h24 : (Y.1 0 24).toInt = n.toInt) (h20 : (Y.1 0 20).toInt = (X.1 0 20).toInt) (h21 : (Y.1 0 21).toInt = (X.1 0 21).toInt - 1) (e20 : Y.1 20 (ix n) = X.1 20 (ix n)) (e23 : Y.1 23 (ix n) = X.1 23 (ix n)) (e28 : Y.1 28 (ix n) = X.1 28 (ix n)) (e24n : Y.1 24 (ix n) = X.1 24 (ix n)) (w25 : Y.1 25 (ix n) = X.1 0 24) : MH Y L S N GA := by
  obtain ⟨j, cu, sc, nc, lv, tp, ⟨h1, h2, h3, h4, h5, h6, h7⟩, hW, hW28, hG⟩ := h
  have eo := ixc (z := o) (by omega)
  have e := ixc h7
  obtain ⟨i, rfl⟩ : ∃ i, j = i + 1 := ⟨j - 1, by omega⟩
  have ei : ix o = i := by omega
  have hnum := h1.num
  obtain ⟨lo, s0, n0, l0, t0, hB, hR, hT⟩ := h1
  have hlo := hR.bd
  have hnB := hB.num
  rw [ei] at hf hn ht
  subst hn
  obtain ⟨q1, q2, q3, q4, q5, q6, q7, q8, q9, q10, q11, q12⟩ := hR.at14 ht
  clear hR
  subst q9
  have hb := q12.2.bd
  have e24 : Y.1 0 24 = X.1 36 i := Int32.toInt_inj.mp h24
  have eY := ixc (z := Y.1 0 19) (by omega)
  have e19 : ix (Y.1 0 19) = ix (X.1 0 19) := by omega
  refine ⟨i, lo, _, n0, l0, t0, ⟨hB.cn hf hc (by omega) (by omega), by omega, by omega, by omega, by omega, by omega, by omega⟩, ?_, by rw [e24, e28]; exact q6, trivial⟩
  rw [e24, e19]
  exact ⟨q2, WX.assign (by rw [e20]; exact q10) q3 (q11.cn hc (by omega) (Or.inr (Nat.le_refl _)) e23) (q12.cn hc (by omega) (Or.inl (Nat.lt_succ_self _)) e24n) (WH.cn hW hc (Nat.le_refl _) (Or.inl (by omega)) w25)⟩
theorem ex_body (h : MH X L S N GA) (ho : o.toInt = (X.1 0 22).toInt - 1) (ht : (X.1 35 (ix o)).toInt = 0) (hS : FSX X Y) (h19 : (Y.1 0 19).toInt = (X.1 0 19).toInt) (h24 : (Y.1 0 24).toInt = (X.1 0 24).toInt) (h20 : (Y.1 0 20).toInt = (X.1 0 20).toInt) (h21 : (Y.1 0 21).toInt = (X.1 0 21).toInt) (h22 : (Y.1 0 22).toInt = (X.1 0 22).toInt - 1) : (Y.1 0 22).toInt = 0 ∧ WH Y (Y.1 0 24) L (ix (Y.1 0 19)) S ∧ (Y.1 0 20).toInt = S ∧ (Y.1 0 21).toInt = N := by
  obtain ⟨j, cu, sc, nc, lv, tp, ⟨h1, h2, h3, h4, h5, h6, h7⟩, hW, hW28, hG⟩ := h
  have eo := ixc (z := o) (by omega)
  have e := ixc h7
  obtain ⟨i, rfl⟩ : ∃ i, j = i + 1 := ⟨j - 1, by omega⟩
  have ei : ix o = i := by omega
  have hnum := h1.num
  obtain ⟨lo, s0, n0, l0, t0, hB, hR, hT⟩ := h1
  have hlo := hR.bd
  have hnB := hB.num
  rw [ei] at ht
  obtain ⟨q1, q2, q3, q4, q5⟩ := hR.at0 ht
  subst q1
  obtain ⟨r1, r2, r3, r4, r5⟩ := hB
  subst r1
  subst q2
  subst q3
  subst r2
  have eY := ixc (z := Y.1 0 19) (by omega)
  have e19 : ix (Y.1 0 19) = ix (X.1 0 19) := by omega
  have e24 : Y.1 0 24 = X.1 0 24 := Int32.toInt_inj.mp h24
  refine ⟨by omega, ?_, by omega, by omega⟩
  rw [e24, e19]
  exact ⟨hW.1, hW.2.fr (hS.ns (Nat.le_refl _))⟩
theorem ex_letin (h : MH X L S N GA) (ho : o.toInt = (X.1 0 22).toInt - 1) (hn : n = X.1 36 (ix o)) (hf : ∀ i, i < ix o → Y.1 35 i = X.1 35 i ∧ Y.1 36 i = X.1 36 i ∧ Y.1 37 i = X.1 37 i) (hc : CN X Y (ix n)) (h19 : (Y.1 0 19).toInt = (X.1 0 19).toInt) (ht : (X.1 35 (ix o)).toInt = 1) (h22 : (Y.1 0 22).toInt = (X.1 0 22).toInt) (hp : Y.1 36 (ix o) = n) (hfo : (Y.1 35 (ix o)).toInt = 2) (hS44 : S + (X.1 0 21).toInt - N ≤ 44) (hS0 : 0 ≤ S) (h20 : (Y.1 0 20).toInt = (X.1 0 20).toInt + 1) (h21 : (Y.1 0 21).toInt = (X.1 0 21).toInt) (e20 : Y.1 20 (ix n) = X.1 20 (ix n)) (e28 : Y.1 28 (ix n) = X.1 28 (ix n)) (w23 : Y.1 23 (ix n) = X.1 0 24) (w26 : Y.1 26 (ix n) = X.1 0 20) : ME Y L S N := by
  obtain ⟨j, cu, sc, nc, lv, tp, ⟨h1, h2, h3, h4, h5, h6, h7⟩, hW, hW28, hG⟩ := h
  have eo := ixc (z := o) (by omega)
  have e := ixc h7
  obtain ⟨i, rfl⟩ : ∃ i, j = i + 1 := ⟨j - 1, by omega⟩
  have ei : ix o = i := by omega
  have hnum := h1.num
  obtain ⟨lo, s0, n0, l0, t0, hB, hR, hT⟩ := h1
  have hlo := hR.bd
  have hnB := hB.num
  rw [ei] at hf hn ht
  subst hn
  obtain ⟨q1, q2, q3, q4, q5, q6, q7, q8, q9, q10, q11, q12, q13, q14⟩ := hR.at1 ht
  clear hR
  subst q14
  subst q13
  rw [← q11] at hW
  have eY := ixc (z := Y.1 0 19) (by omega)
  have e19 : ix (Y.1 0 19) = ix (X.1 0 19) := by omega
  rw [ei] at hp hfo
  refine ⟨i + 1, (sc + 1), nc, 0, (Y.1 35 i).toInt, ⟨?_, by omega, by omega, by omega, by omega, Nat.le_refl _, by omega⟩, by omega, by omega⟩
  rw [e19]
  refine ⟨lo, _, n0, l0, t0, hB.cn hf hc (by omega) (by omega), ?_, rfl⟩
  unfold FR
  rw [hp]
  exact Or.inr ⟨q1, q2, q3, by omega, ⟨by omega, by rw [e28]; exact q6⟩, Or.inl ⟨q7, rfl, q9, q10, q11, Or.inr (Or.inl ⟨hfo, by rw [e20]; exact q12, by rw [w26]; omega, by omega, by have := hnum.2.2.2.2.2.2.2; omega, by rw [← q11]; exact WH.cn hW hc (Nat.le_refl _) (Or.inl (by omega)) w23, rfl⟩)⟩⟩
theorem ex_ifthen (h : MH X L S N GA) (ho : o.toInt = (X.1 0 22).toInt - 1) (hn : n = X.1 36 (ix o)) (hf : ∀ i, i < ix o → Y.1 35 i = X.1 35 i ∧ Y.1 36 i = X.1 36 i ∧ Y.1 37 i = X.1 37 i) (hc : CN X Y (ix n)) (h19 : (Y.1 0 19).toInt = (X.1 0 19).toInt) (ht : (X.1 35 (ix o)).toInt = 3) (h22 : (Y.1 0 22).toInt = (X.1 0 22).toInt) (hp : Y.1 36 (ix o) = n) (hfo : (Y.1 35 (ix o)).toInt = 4) (h20 : (Y.1 0 20).toInt = (X.1 0 20).toInt) (h21 : (Y.1 0 21).toInt = (X.1 0 21).toInt) (e20 : Y.1 20 (ix n) = X.1 20 (ix n)) (e28 : Y.1 28 (ix n) = X.1 28 (ix n)) (w23 : Y.1 23 (ix n) = X.1 0 24) : ME Y L S N := by
  obtain ⟨j, cu, sc, nc, lv, tp, ⟨h1, h2, h3, h4, h5, h6, h7⟩, hW, hW28, hG⟩ := h
  have eo := ixc (z := o) (by omega)
  have e := ixc h7
  obtain ⟨i, rfl⟩ : ∃ i, j = i + 1 := ⟨j - 1, by omega⟩
  have ei : ix o = i := by omega
  have hnum := h1.num
  obtain ⟨lo, s0, n0, l0, t0, hB, hR, hT⟩ := h1
  have hlo := hR.bd
  have hnB := hB.num
  rw [ei] at hf hn ht
  subst hn
  obtain ⟨q1, q2, q3, q4, q5, q6, q7, q8, q9, q10, q11, q12, q13, q14⟩ := hR.at3 ht
  clear hR
  subst q14
  subst q13
  rw [← q11] at hW
  have eY := ixc (z := Y.1 0 19) (by omega)
  have e19 : ix (Y.1 0 19) = ix (X.1 0 19) := by omega
  rw [ei] at hp hfo
  refine ⟨i + 1, sc, nc, 0, (Y.1 35 i).toInt, ⟨?_, by omega, by omega, by omega, by omega, Nat.le_refl _, by omega⟩, by omega, by omega⟩
  rw [e19]
  refine ⟨lo, _, n0, l0, t0, hB.cn hf hc (by omega) (by omega), ?_, rfl⟩
  unfold FR
  rw [hp]
  exact Or.inr ⟨q1, q2, q3, by omega, ⟨by omega, by rw [e28]; exact q6⟩, Or.inl ⟨q7, rfl, q9, q10, q11, Or.inr (Or.inr (Or.inr (Or.inl ⟨hfo, by rw [e20]; exact q12, by rw [← q11]; exact WH.cn hW hc (Nat.le_refl _) (Or.inl (by omega)) w23, rfl⟩)))⟩⟩
theorem ex_thenelse (h : MH X L S N GA) (ho : o.toInt = (X.1 0 22).toInt - 1) (hn : n = X.1 36 (ix o)) (hf : ∀ i, i < ix o → Y.1 35 i = X.1 35 i ∧ Y.1 36 i = X.1 36 i ∧ Y.1 37 i = X.1 37 i) (hc : CN X Y (ix n)) (h19 : (Y.1 0 19).toInt = (X.1 0 19).toInt) (ht : (X.1 35 (ix o)).toInt = 4) (h22 : (Y.1 0 22).toInt = (X.1 0 22).toInt) (hp : Y.1 36 (ix o) = n) (hfo : (Y.1 35 (ix o)).toInt = 5) (h20 : (Y.1 0 20).toInt = (X.1 0 20).toInt) (h21 : (Y.1 0 21).toInt = (X.1 0 21).toInt) (e20 : Y.1 20 (ix n) = X.1 20 (ix n)) (e23 : Y.1 23 (ix n) = X.1 23 (ix n)) (e28 : Y.1 28 (ix n) = X.1 28 (ix n)) (w24 : Y.1 24 (ix n) = X.1 0 24) : ME Y L S N := by
  obtain ⟨j, cu, sc, nc, lv, tp, ⟨h1, h2, h3, h4, h5, h6, h7⟩, hW, hW28, hG⟩ := h
  have eo := ixc (z := o) (by omega)
  have e := ixc h7
  obtain ⟨i, rfl⟩ : ∃ i, j = i + 1 := ⟨j - 1, by omega⟩
  have ei : ix o = i := by omega
  have hnum := h1.num
  obtain ⟨lo, s0, n0, l0, t0, hB, hR, hT⟩ := h1
  have hlo := hR.bd
  have hnB := hB.num
  rw [ei] at hf hn ht
  subst hn
  obtain ⟨q1, q2, q3, q4, q5, q6, q7, q8, q9, q10, q11, q12, q13, q14⟩ := hR.at4 ht
  clear hR
  subst q14
  have hb := q13.2.bd
  have eY := ixc (z := Y.1 0 19) (by omega)
  have e19 : ix (Y.1 0 19) = ix (X.1 0 19) := by omega
  rw [ei] at hp hfo
  refine ⟨i + 1, sc, nc, 0, (Y.1 35 i).toInt, ⟨?_, by omega, by omega, by omega, by omega, Nat.le_refl _, by omega⟩, by omega, by omega⟩
  rw [e19]
  refine ⟨lo, _, n0, l0, t0, hB.cn hf hc (by omega) (by omega), ?_, rfl⟩
  unfold FR
  rw [hp]
  exact Or.inr ⟨q1, q2, q3, by omega, ⟨by omega, by rw [e28]; exact q6⟩, Or.inl ⟨q7, rfl, q9, q10, q11, Or.inr (Or.inr (Or.inr (Or.inr ⟨hfo, by rw [e20]; exact q12, ⟨cu, q13.cn hc (by omega) (Or.inl (by omega)) e23, WH.cn hW hc (Nat.le_refl _) (Or.inl (by omega)) w24⟩, rfl⟩)))⟩⟩
theorem ex_newfill (h : MH X L S N GA) (ho : o.toInt = (X.1 0 22).toInt - 1) (hn : n = X.1 36 (ix o)) (hf : ∀ i, i < ix o → Y.1 35 i = X.1 35 i ∧ Y.1 36 i = X.1 36 i ∧ Y.1 37 i = X.1 37 i) (hc : CN X Y (ix n)) (h19 : (Y.1 0 19).toInt = (X.1 0 19).toInt) (ht : (X.1 35 (ix o)).toInt = 9) (h22 : (Y.1 0 22).toInt = (X.1 0 22).toInt) (hp : Y.1 36 (ix o) = n) (hfo : (Y.1 35 (ix o)).toInt = 10) (h20 : (Y.1 0 20).toInt = (X.1 0 20).toInt) (h21 : (Y.1 0 21).toInt = (X.1 0 21).toInt) (e20 : Y.1 20 (ix n) = X.1 20 (ix n)) (e28 : Y.1 28 (ix n) = X.1 28 (ix n)) (w23 : Y.1 23 (ix n) = X.1 0 24) : ME Y L S N := by
  obtain ⟨j, cu, sc, nc, lv, tp, ⟨h1, h2, h3, h4, h5, h6, h7⟩, hW, hW28, hG⟩ := h
  have eo := ixc (z := o) (by omega)
  have e := ixc h7
  obtain ⟨i, rfl⟩ : ∃ i, j = i + 1 := ⟨j - 1, by omega⟩
  have ei : ix o = i := by omega
  have hnum := h1.num
  obtain ⟨lo, s0, n0, l0, t0, hB, hR, hT⟩ := h1
  have hlo := hR.bd
  have hnB := hB.num
  rw [ei] at hf hn ht
  subst hn
  obtain ⟨q1, q2, q3, q4, q5, q6, q7, q8, q9, q10, q11, q12⟩ := hR.at9 ht
  clear hR
  subst q9
  subst q12
  rw [← q11] at hW
  have eY := ixc (z := Y.1 0 19) (by omega)
  have e19 : ix (Y.1 0 19) = ix (X.1 0 19) := by omega
  rw [ei] at hp hfo
  refine ⟨i + 1, sc, nc, 0, (Y.1 35 i).toInt, ⟨?_, by omega, by omega, by omega, by omega, Nat.le_refl _, by omega⟩, by omega, by omega⟩
  rw [e19]
  refine ⟨lo, _, n0, l0, t0, hB.cn hf hc (by omega) (by omega), ?_, rfl⟩
  unfold FR
  rw [hp]
  exact Or.inr ⟨q1, q2, q3, by omega, ⟨by omega, by rw [e28]; exact q6⟩, Or.inr (Or.inl ⟨q7, rfl, rfl, Or.inr (Or.inr (Or.inr (Or.inr (Or.inl ⟨hfo, by rw [e20]; exact q10, q11, by rw [← q11]; exact WH.cn hW hc (Nat.le_refl _) (Or.inl (by omega)) w23⟩))))⟩)⟩
theorem LPR.lastb {n l m : Nat} {s : Int} {last : Int32} (h : LPR X n l m s last) (hl : ¬ last.toInt = -1) : 0 ≤ last.toInt ∧ l ≤ ix last ∧ ix last < m := by
  obtain ⟨it, cu, hL, h1, h2⟩ := h
  have hle := hL.le (fun n l r s q => q.bd)
  have c := hL.2.2.1
  have hc := ixc c
  have hm : 0 < (X.1 27 n).toInt := by
    rcases Int.lt_or_eq_of_le c with q | q
    · exact q
    · exact absurd (h1 q.symm) hl
  have h3 := h2 hm
  have h4 := hle (ix (X.1 27 n) - 1) (by omega)
  rw [← h3.2] at h4
  omega
theorem ex_listmore (h : MH X L S N GA) (ho : o.toInt = (X.1 0 22).toInt - 1) (hn : n = X.1 36 (ix o)) (hf : ∀ i, i < ix o → Y.1 35 i = X.1 35 i ∧ Y.1 36 i = X.1 36 i ∧ Y.1 37 i = X.1 37 i) (hr : ∀ i, i < ix (X.1 0 19) → i ≠ ix n → Y.1 20 i = X.1 20 i ∧ Y.1 23 i = X.1 23 i ∧ Y.1 24 i = X.1 24 i ∧ Y.1 25 i = X.1 25 i ∧ Y.1 26 i = X.1 26 i ∧ Y.1 27 i = X.1 27 i ∧ (¬ (i = ix (X.1 37 (ix o)) ∧ ¬ (X.1 37 (ix o)).toInt = -1) → Y.1 28 i = X.1 28 i)) (h19 : (Y.1 0 19).toInt = (X.1 0 19).toInt) (ht : (X.1 35 (ix o)).toInt = 7 ∨ (X.1 35 (ix o)).toInt = 8 ∨ (X.1 35 (ix o)).toInt = 12) (hm : (Y.1 27 (ix n)).toInt = (X.1 27 (ix n)).toInt + 1) (hb : ((X.1 37 (ix o)).toInt = -1 → Y.1 24 (ix n) = X.1 0 24) ∧ (¬ (X.1 37 (ix o)).toInt = -1 → Y.1 24 (ix n) = X.1 24 (ix n))) (ha : ¬ (X.1 37 (ix o)).toInt = -1 → Y.1 28 (ix (X.1 37 (ix o))) = X.1 0 24) (e20 : Y.1 20 (ix n) = X.1 20 (ix n)) (e23 : Y.1 23 (ix n) = X.1 23 (ix n)) (e28 : Y.1 28 (ix n) = X.1 28 (ix n)) (h20 : (Y.1 0 20).toInt = (X.1 0 20).toInt) (h21 : (Y.1 0 21).toInt = (X.1 0 21).toInt) (h22 : (Y.1 0 22).toInt = (X.1 0 22).toInt) (hp : Y.1 36 (ix o) = n) (hfo : Y.1 35 (ix o) = X.1 35 (ix o)) (hl37 : Y.1 37 (ix o) = X.1 0 24) : ME Y L S N := by
  obtain ⟨j, cu, sc, nc, lv, tp, ⟨h1, h2, h3, h4, h5, h6, h7⟩, hW, hW28, hG⟩ := h
  have eo := ixc (z := o) (by omega)
  have e := ixc h7
  obtain ⟨i, rfl⟩ : ∃ i, j = i + 1 := ⟨j - 1, by omega⟩
  have ei : ix o = i := by omega
  have hnum := h1.num
  obtain ⟨lo, s0, n0, l0, t0, hB, hR, hT⟩ := h1
  have hlo := hR.bd
  have hnB := hB.num
  rw [ei] at hf hn ht hr hb ha
  subst hn
  have eY := ixc (z := Y.1 0 19) (by omega)
  have e19 : ix (Y.1 0 19) = ix (X.1 0 19) := by omega
  have hq : 1 ≤ i ∧ 0 ≤ (X.1 36 i).toInt ∧ lo ≤ ix (X.1 36 i) ∧ ix (X.1 36 i) < cu ∧ (i : Int) ≤ 4 * nc + lv ∧ (X.1 28 (ix (X.1 36 i))).toInt < 0 ∧ nc = n0 + 1 ∧ lv = 0 ∧ sc = s0 ∧ LPR X (ix (X.1 36 i)) (ix (X.1 36 i) + 1) cu s0 (X.1 37 i) := by
    rcases ht with ht | ht | ht
    · obtain ⟨q1, q2, q3, q4, q5, q6, q7, q8, q9, q10, q11, q12⟩ := hR.at7 ht
      rw [← q11] at q12
      exact ⟨q1, q2, q3, q4, q5, q6, q7, q8, q9, q12⟩
    · obtain ⟨q1, q2, q3, q4, q5, q6, q7, q8, q9, q10, q11, q12, q13⟩ := hR.at8 ht
      rw [← q11] at q13
      exact ⟨q1, q2, q3, q4, q5, q6, q7, q8, q9, q13⟩
    · obtain ⟨q1, q2, q3, q4, q5, q6, q7, q8, q9, q10, q11, q12, q13⟩ := hR.at12 ht
      exact ⟨q1, q2, q3, q4, q5, q6, q7, q8, q9, q13⟩
  obtain ⟨q1, q2, q3, q4, q5, q6, q7, q8, q9, q10⟩ := hq
  subst q9
  have hlb : ¬ (X.1 37 i).toInt = -1 → ix (X.1 36 i) + 1 ≤ ix (X.1 37 i) := fun q => (q10.lastb q).2.1
  have hA := LPR.add (Y := Y) (r := ix (X.1 0 19)) q10 hW (Nat.lt_succ_self _) hm hb (fun k k1 k2 => hr k k2 (by omega)) ha hW28
  have hFI : FI Y L S i lo sc n0 l0 t0 0 := hB.fr ⟨hf, fun k hk => by
    obtain ⟨x1, x2, x3, x4, x5, x6, x7⟩ := hr k (by omega) (by omega)
    refine ⟨x1, x2, x3, x4, x5, x6, x7 ?_⟩
    rintro ⟨y1, y2⟩
    have := hlb y2
    omega⟩
  have hC : ∀ (l : Nat), l ≤ ix (X.1 36 i) → CHR (WX X) X 23 (ix (X.1 36 i)) l (ix (X.1 36 i)) sc → CHR (WX Y) Y 23 (ix (X.1 36 i)) l (ix (X.1 36 i)) sc := by
    intro l _ hh
    refine ⟨by rw [e23]; exact hh.1, ?_⟩
    rw [e23]
    refine hh.2.fr (fun k k1 k2 => ?_)
    obtain ⟨x1, x2, x3, x4, x5, x6, x7⟩ := hr k (by omega) (by omega)
    refine ⟨x1, x2, x3, x4, Or.inr x5, x6, fun _ => x7 ?_⟩
    rintro ⟨y1, y2⟩
    have := hlb y2
    omega
  rw [ei] at hp hfo hl37
  refine ⟨i + 1, sc, nc, 0, (Y.1 35 i).toInt, ⟨?_, by omega, by omega, by omega, by omega, Nat.le_refl _, by omega⟩, by rw [hfo]; omega, by rw [hfo]; omega⟩
  rw [e19]
  refine ⟨lo, sc, n0, l0, t0, hFI, ?_, rfl⟩
  unfold FR
  rw [hp, hfo, hl37]
  refine Or.inr ⟨q1, q2, q3, by omega, ⟨by omega, by rw [e28]; exact q6⟩, Or.inr (Or.inl ⟨q7, rfl, rfl, ?_⟩)⟩
  rcases ht with ht | ht | ht
  · obtain ⟨-, -, -, -, -, -, -, -, -, u1, u2, u3⟩ := hR.at7 ht
    exact Or.inr (Or.inl ⟨ht, by rw [e20]; exact u1, u2, by rw [← u2]; exact hA⟩)
  · obtain ⟨-, -, -, -, -, -, -, -, -, u1, u2, u3, u4⟩ := hR.at8 ht
    exact Or.inr (Or.inr (Or.inl ⟨ht, by rw [e20]; exact u1, u2, by omega, by rw [← u2]; exact hA⟩))
  · obtain ⟨-, -, -, -, -, -, -, -, -, u1, u2, u3, u4⟩ := hR.at12 ht
    exact Or.inr (Or.inr (Or.inr (Or.inr (Or.inr (Or.inr (Or.inl ⟨ht, by rw [e20]; exact u1, by omega, hC lo q3 u3, hA⟩))))))
theorem ex_listdone (h : MH X L S N GA) (ho : o.toInt = (X.1 0 22).toInt - 1) (hn : n = X.1 36 (ix o)) (hf : ∀ i, i < ix o → Y.1 35 i = X.1 35 i ∧ Y.1 36 i = X.1 36 i ∧ Y.1 37 i = X.1 37 i) (hr : ∀ i, i < ix (X.1 0 19) → i ≠ ix n → Y.1 20 i = X.1 20 i ∧ Y.1 23 i = X.1 23 i ∧ Y.1 24 i = X.1 24 i ∧ Y.1 25 i = X.1 25 i ∧ Y.1 26 i = X.1 26 i ∧ Y.1 27 i = X.1 27 i ∧ (¬ (i = ix (X.1 37 (ix o)) ∧ ¬ (X.1 37 (ix o)).toInt = -1) → Y.1 28 i = X.1 28 i)) (h19 : (Y.1 0 19).toInt = (X.1 0 19).toInt) (ht : (X.1 35 (ix o)).toInt = 7 ∨ (X.1 35 (ix o)).toInt = 8 ∨ (X.1 35 (ix o)).toInt = 12) (hm : (Y.1 27 (ix n)).toInt = (X.1 27 (ix n)).toInt + 1) (hb : ((X.1 37 (ix o)).toInt = -1 → Y.1 24 (ix n) = X.1 0 24) ∧ (¬ (X.1 37 (ix o)).toInt = -1 → Y.1 24 (ix n) = X.1 24 (ix n))) (ha : ¬ (X.1 37 (ix o)).toInt = -1 → Y.1 28 (ix (X.1 37 (ix o))) = X.1 0 24) (e20 : Y.1 20 (ix n) = X.1 20 (ix n)) (e23 : Y.1 23 (ix n) = X.1 23 (ix n)) (e28 : Y.1 28 (ix n) = X.1 28 (ix n)) (h20 : (Y.1 0 20).toInt = (X.1 0 20).toInt) (h21 : (Y.1 0 21).toInt = (X.1 0 21).toInt - 1) (h22 : (Y.1 0 22).toInt = (X.1 0 22).toInt - 1) (h24 : (Y.1 0 24).toInt = n.toInt) : MH Y L S N (GB Y) := by
  obtain ⟨j, cu, sc, nc, lv, tp, ⟨h1, h2, h3, h4, h5, h6, h7⟩, hW, hW28, hG⟩ := h
  have eo := ixc (z := o) (by omega)
  have e := ixc h7
  obtain ⟨i, rfl⟩ : ∃ i, j = i + 1 := ⟨j - 1, by omega⟩
  have ei : ix o = i := by omega
  have hnum := h1.num
  obtain ⟨lo, s0, n0, l0, t0, hB, hR, hT⟩ := h1
  have hlo := hR.bd
  have hnB := hB.num
  rw [ei] at hf hn ht hr hb ha
  subst hn
  have eY := ixc (z := Y.1 0 19) (by omega)
  have e19 : ix (Y.1 0 19) = ix (X.1 0 19) := by omega
  have hq : 1 ≤ i ∧ 0 ≤ (X.1 36 i).toInt ∧ lo ≤ ix (X.1 36 i) ∧ ix (X.1 36 i) < cu ∧ (i : Int) ≤ 4 * nc + lv ∧ (X.1 28 (ix (X.1 36 i))).toInt < 0 ∧ nc = n0 + 1 ∧ lv = 0 ∧ sc = s0 ∧ LPR X (ix (X.1 36 i)) (ix (X.1 36 i) + 1) cu s0 (X.1 37 i) := by
    rcases ht with ht | ht | ht
    · obtain ⟨q1, q2, q3, q4, q5, q6, q7, q8, q9, q10, q11, q12⟩ := hR.at7 ht
      rw [← q11] at q12
      exact ⟨q1, q2, q3, q4, q5, q6, q7, q8, q9, q12⟩
    · obtain ⟨q1, q2, q3, q4, q5, q6, q7, q8, q9, q10, q11, q12, q13⟩ := hR.at8 ht
      rw [← q11] at q13
      exact ⟨q1, q2, q3, q4, q5, q6, q7, q8, q9, q13⟩
    · obtain ⟨q1, q2, q3, q4, q5, q6, q7, q8, q9, q10, q11, q12, q13⟩ := hR.at12 ht
      exact ⟨q1, q2, q3, q4, q5, q6, q7, q8, q9, q13⟩
  obtain ⟨q1, q2, q3, q4, q5, q6, q7, q8, q9, q10⟩ := hq
  subst q9
  have hlb : ¬ (X.1 37 i).toInt = -1 → ix (X.1 36 i) + 1 ≤ ix (X.1 37 i) := fun q => (q10.lastb q).2.1
  have hA := LPR.add (Y := Y) (r := ix (X.1 0 19)) q10 hW (Nat.lt_succ_self _) hm hb (fun k k1 k2 => hr k k2 (by omega)) ha hW28
  have hFI : FI Y L S i lo sc n0 l0 t0 0 := hB.fr ⟨hf, fun k hk => by
    obtain ⟨x1, x2, x3, x4, x5, x6, x7⟩ := hr k (by omega) (by omega)
    refine ⟨x1, x2, x3, x4, x5, x6, x7 ?_⟩
    rintro ⟨y1, y2⟩
    have := hlb y2
    omega⟩
  have hC : ∀ (l : Nat), l ≤ ix (X.1 36 i) → CHR (WX X) X 23 (ix (X.1 36 i)) l (ix (X.1 36 i)) sc → CHR (WX Y) Y 23 (ix (X.1 36 i)) l (ix (X.1 36 i)) sc := by
    intro l _ hh
    refine ⟨by rw [e23]; exact hh.1, ?_⟩
    rw [e23]
    refine hh.2.fr (fun k k1 k2 => ?_)
    obtain ⟨x1, x2, x3, x4, x5, x6, x7⟩ := hr k (by omega) (by omega)
    refine ⟨x1, x2, x3, x4, Or.inr x5, x6, fun _ => x7 ?_⟩
    rintro ⟨y1, y2⟩
    have := hlb y2
    omega
  have e24 : Y.1 0 24 = X.1 36 i := Int32.toInt_inj.mp h24
  refine ⟨i, lo, sc, n0, l0, t0, ⟨hFI, by omega, by omega, by omega, by omega, by omega, by omega⟩, ?_, by rw [e24, e28]; exact q6, (by unfold GB; rw [e24]; intro q; rw [e20] at q; rcases ht with ht | ht | ht; have := hR.at7 ht; omega; have := hR.at8 ht; omega; have := hR.at12 ht; omega)⟩
  rw [e24, e19]
  refine ⟨q2, ?_⟩
  rcases ht with ht | ht | ht
  · obtain ⟨-, -, -, -, -, -, -, -, -, u1, u2, u3⟩ := hR.at7 ht
    rw [← u2]
    have hm0 := hA.ls
    obtain ⟨it, c2, v1, v2, v3, v4, v5, v6⟩ := hm0
    obtain ⟨it1, c1, w1, w2, w3, w4, w5, w6⟩ := q10.ls
    exact WX.intro ⟨Nat.le_refl _, by omega, Or.inr (Or.inr (Or.inr (Or.inr (Or.inr (Or.inr (Or.inr (Or.inr (Or.inl ⟨by rw [e20]; exact u1, rfl, by omega, hA.ls⟩))))))))⟩
  · obtain ⟨-, -, -, -, -, -, -, -, -, u1, u2, u3, u4⟩ := hR.at8 ht
    rw [← u2]
    exact WX.intro ⟨Nat.le_refl _, by omega, Or.inr (Or.inr (Or.inr (Or.inr (Or.inr (Or.inr (Or.inr (Or.inl ⟨by rw [e20]; exact u1, rfl, by omega, hA.ls⟩)))))))⟩
  · obtain ⟨-, -, -, -, -, -, -, -, -, u1, u2, u3, u4⟩ := hR.at12 ht
    exact WX.intro ⟨q3, by omega, Or.inr (Or.inr (Or.inr (Or.inr (Or.inr (Or.inr (Or.inr (Or.inr (Or.inr ⟨by rw [e20]; exact u1, by omega, hC lo q3 u3, hA.ls⟩))))))))⟩
end EX2
