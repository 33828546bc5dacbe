/-! exits of the reader's steps -/
def FSX (X Y : St) : Prop := FS X Y (ix (X.1 0 22)) (ix (X.1 0 19))
/-- all nodes but n stay -/
def CN (X Y : St) (n : Nat) : Prop := ∀ i, i < ix (X.1 0 19) → i ≠ n → Y.1 20 i = X.1 20 i ∧ Y.1 23 i = X.1 23 i ∧ Y.1 24 i = X.1 24 i ∧ Y.1 25 i = X.1 25 i ∧ Y.1 26 i = X.1 26 i ∧ Y.1 27 i = X.1 27 i ∧ Y.1 28 i = X.1 28 i
section EX
variable {X Y : St} {L : Nat} {S N : Int} {n o : Int32}
theorem MF.ix22 {j cu : Nat} {sc nc lv tp mm : Int} (h : MF X L S N j cu sc nc lv tp mm) : ix (X.1 0 22) = j := by
  have := ixc (z := X.1 0 22) (by have := h.2.1; omega)
  have := h.2.1
  omega
theorem ex_fresh (h : MP X L S N) (hS : FSX X Y) (hn : n.toInt = (X.1 0 19).toInt) (h19 : (Y.1 0 19).toInt = (X.1 0 19).toInt + 1) (h22 : (Y.1 0 22).toInt = (X.1 0 22).toInt + 1) (h20 : (Y.1 0 20).toInt = (X.1 0 20).toInt) (h21 : (Y.1 0 21).toInt = (X.1 0 21).toInt + 1) (hp : Y.1 36 (ix (X.1 0 22)) = n) (h28 : (Y.1 28 (ix n)).toInt < 0) (hk : ((Y.1 35 (ix (X.1 0 22))).toInt = 6 ∧ (Y.1 20 (ix n)).toInt = 8) ∨ ((Y.1 35 (ix (X.1 0 22))).toInt = 9 ∧ (Y.1 20 (ix n)).toInt = 5) ∨ ((Y.1 35 (ix (X.1 0 22))).toInt = 11 ∧ ((Y.1 20 (ix n)).toInt = 6 ∨ (Y.1 20 (ix n)).toInt = 7))) : ME Y L S N := by
  obtain ⟨j, sc, nc, lv, tp, hM⟩ := h
  have ej := hM.ix22
  have hnum := hM.1.num
  obtain ⟨h1, h2, h3, h4, h5, h6, h7⟩ := hM
  have e := ixc h7
  have en := ixc (z := n) (by omega)
  have eY := ixc (z := Y.1 0 19) (by omega)
  have e1 : ix (Y.1 0 19) = ix (X.1 0 19) + 1 := by omega
  unfold FSX at hS
  rw [ej] at hS hp hk
  refine ⟨j + 1, sc, nc + 1, 0, (Y.1 35 j).toInt, ⟨?_, by omega, by omega, by omega, by omega, Nat.le_refl _, by omega⟩, by omega, by omega⟩
  rw [e1]
  exact h1.push hS (FR.fresh h3 hp h28 (by omega) (by omega) (by omega) (by omega)) rfl
theorem ex_unary (h : MP X L S N) (hS : FSX X Y) (hn : n.toInt = (X.1 0 19).toInt) (h19 : (Y.1 0 19).toInt = (X.1 0 19).toInt + 1) (h22 : (Y.1 0 22).toInt = (X.1 0 22).toInt + 1) (h20 : (Y.1 0 20).toInt = (X.1 0 20).toInt) (h21 : (Y.1 0 21).toInt = (X.1 0 21).toInt + 1) (hp : Y.1 36 (ix (X.1 0 22)) = n) (h28 : (Y.1 28 (ix n)).toInt < 0) (hk : (Y.1 35 (ix (X.1 0 22))).toInt = 15 ∧ ((Y.1 20 (ix n)).toInt = 12 ∨ (Y.1 20 (ix n)).toInt = 13)) : MP Y L S N := by
  obtain ⟨j, sc, nc, lv, tp, hM⟩ := h
  have ej := hM.ix22
  have hnum := hM.1.num
  obtain ⟨h1, h2, h3, h4, h5, h6, h7⟩ := hM
  have e := ixc h7
  have en := ixc (z := n) (by omega)
  have eY := ixc (z := Y.1 0 19) (by omega)
  have e1 : ix (Y.1 0 19) = ix (X.1 0 19) + 1 := by omega
  unfold FSX at hS
  rw [ej] at hS hp hk
  refine ⟨j + 1, sc, nc + 1, 0, (Y.1 35 j).toInt, ⟨?_, by omega, by omega, by omega, by omega, Nat.le_refl _, by omega⟩⟩
  rw [e1]
  exact h1.push hS (FR.fresh h3 hp h28 (by omega) (by omega) (by omega) (by omega)) rfl
theorem ex_list (h : MP X L S N) (hS : FSX X Y) (hn : n.toInt = (X.1 0 19).toInt) (h19 : (Y.1 0 19).toInt = (X.1 0 19).toInt + 1) (h22 : (Y.1 0 22).toInt = (X.1 0 22).toInt + 1) (h20 : (Y.1 0 20).toInt = (X.1 0 20).toInt) (h21 : (Y.1 0 21).toInt = (X.1 0 21).toInt + 1) (hp : Y.1 36 (ix (X.1 0 22)) = n) (h28 : (Y.1 28 (ix n)).toInt < 0) (hla : (Y.1 37 (ix (X.1 0 22))).toInt = -1) (hm : (Y.1 27 (ix n)).toInt = 0) (hb : (Y.1 24 (ix n)).toInt < 0) (hk : ((Y.1 35 (ix (X.1 0 22))).toInt = 7 ∧ (Y.1 20 (ix n)).toInt = 9) ∨ ((Y.1 35 (ix (X.1 0 22))).toInt = 8 ∧ (Y.1 20 (ix n)).toInt = 4)) : ME Y L S N := by
  obtain ⟨j, sc, nc, lv, tp, hM⟩ := h
  have ej := hM.ix22
  have hnum := hM.1.num
  obtain ⟨h1, h2, h3, h4, h5, h6, h7⟩ := hM
  have e := ixc h7
  have en := ixc (z := n) (by omega)
  have eY := ixc (z := Y.1 0 19) (by omega)
  have e1 : ix (Y.1 0 19) = ix (X.1 0 19) + 1 := by omega
  unfold FSX at hS
  rw [ej] at hS hp hk hla
  refine ⟨j + 1, sc, nc + 1, 0, (Y.1 35 j).toInt, ⟨?_, by omega, by omega, by omega, by omega, Nat.le_refl _, by omega⟩, by omega, by omega⟩
  rw [e1]
  exact h1.push hS (FR.list h3 hp h28 (by omega) (by omega) (by omega) (by decide) hm hb hla hk) rfl
theorem ex_let (h : ME X L S N) (h0 : ∀ j cu sc nc lv tp, MF X L S N j cu sc nc lv tp 1 → FI X L S j cu sc nc lv tp 0) (hS : FSX X Y) (hn : n.toInt = (X.1 0 19).toInt) (h19 : (Y.1 0 19).toInt = (X.1 0 19).toInt + 1) (h22 : (Y.1 0 22).toInt = (X.1 0 22).toInt + 1) (h20 : (Y.1 0 20).toInt = (X.1 0 20).toInt) (h21 : (Y.1 0 21).toInt = (X.1 0 21).toInt + 1) (hp : Y.1 36 (ix (X.1 0 22)) = n) (h28 : (Y.1 28 (ix n)).toInt < 0) (hk : ((Y.1 35 (ix (X.1 0 22))).toInt = 1 ∧ (Y.1 20 (ix n)).toInt = 17) ∨ ((Y.1 35 (ix (X.1 0 22))).toInt = 3 ∧ (Y.1 20 (ix n)).toInt = 16)) : ME Y L S N := by
  obtain ⟨j, sc, nc, lv, tp, hM, t15, t16⟩ := h
  have ej := hM.ix22
  have hI := h0 _ _ _ _ _ _ hM
  have hnum := hM.1.num
  obtain ⟨h1, h2, h3, h4, h5, h6, h7⟩ := hM
  have e := ixc h7
  have en := ixc (z := n) (by omega)
  have eY := ixc (z := Y.1 0 19) (by omega)
  have e1 : ix (Y.1 0 19) = ix (X.1 0 19) + 1 := by omega
  unfold FSX at hS
  rw [ej] at hS hp hk
  refine ⟨j + 1, sc, nc + 1, 0, (Y.1 35 j).toInt, ⟨?_, by omega, by omega, by omega, by omega, Nat.le_refl _, by omega⟩, by omega, by omega⟩
  rw [e1]
  exact hI.push hS (FR.let_ h3 hp h28 (by omega) (by omega) (by omega) ⟨t15, t16⟩ hk) rfl
theorem ex_call (h : MH X L S N GA) (hS : FSX X Y) (hn : n.toInt = (X.1 0 19).toInt) (h19 : (Y.1 0 19).toInt = (X.1 0 19).toInt + 1) (h22 : (Y.1 0 22).toInt = (X.1 0 22).toInt + 1) (h20 : (Y.1 0 20).toInt = (X.1 0 20).toInt) (h21 : (Y.1 0 21).toInt = (X.1 0 21).toInt + 1) (hp : Y.1 36 (ix (X.1 0 22)) = n) (h28 : (Y.1 28 (ix n)).toInt < 0) (hla : (Y.1 37 (ix (X.1 0 22))).toInt = -1) (hm : (Y.1 27 (ix n)).toInt = 0) (hb : (Y.1 24 (ix n)).toInt < 0) (hc : (Y.1 25 (ix n)).toInt < 0) (ha : Y.1 23 (ix n) = X.1 0 24) (hk : ((Y.1 35 (ix (X.1 0 22))).toInt = 12 ∧ (Y.1 20 (ix n)).toInt = 11) ∨ ((Y.1 35 (ix (X.1 0 22))).toInt = 13 ∧ (Y.1 20 (ix n)).toInt = 10)) : ME Y L S N := by
  obtain ⟨j, cu, sc, nc, lv, tp, hM, hW, -, -⟩ := h
  have ej := hM.ix22
  have hnum := hM.1.num
  obtain ⟨h1, h2, h3, h4, h5, h6, h7⟩ := hM
  have e := ixc h7
  have en := ixc (z := n) (by omega)
  have eY := ixc (z := Y.1 0 19) (by omega)
  have e1 : ix (Y.1 0 19) = ix n + 1 := by omega
  unfold FSX at hS
  rw [ej] at hS hp hk hla
  have e2 : ix n = ix (X.1 0 19) := by omega
  have hA : CHR (WX Y) Y 23 (ix n) cu (ix n) sc := ⟨by rw [ha]; exact hW.1, by rw [ha, e2]; exact hW.2.fr (hS.ns (Nat.le_refl _))⟩
  refine ⟨j + 1, sc, nc + 1, 0, (Y.1 35 j).toInt, ⟨?_, by omega, by omega, by omega, by omega, Nat.le_refl _, by omega⟩, by omega, by omega⟩
  rcases hk with hk | hk
  · exact h1.push (hS.le (Nat.le_refl _) h6) (FR.call h3 hp h28 (by omega) (by omega) e1 (by omega) (by decide) hm hb hla hA hk) rfl
  · exact h1.push (hS.le (Nat.le_refl _) h6) (FR.place h3 hp h28 (by omega) (by omega) e1 (by omega) hc hA hk) rfl
theorem ex_assign (h : MH X L S N (GB X)) (hS : FSX X Y) (hn : n = X.1 0 24) (hk10 : (X.1 20 (ix n)).toInt = 10) (h19 : (Y.1 0 19).toInt = (X.1 0 19).toInt) (h22 : (Y.1 0 22).toInt = (X.1 0 22).toInt + 1) (h20 : (Y.1 0 20).toInt = (X.1 0 20).toInt) (h21 : (Y.1 0 21).toInt = (X.1 0 21).toInt + 1) (hp : Y.1 36 (ix (X.1 0 22)) = n) (hk : (Y.1 35 (ix (X.1 0 22))).toInt = 14) : ME Y L S N := by
  obtain ⟨j, cu, sc, nc, lv, tp, hM, hW, hW28, hG⟩ := h
  have ej := hM.ix22
  have hnum := hM.1.num
  obtain ⟨h1, h2, h3, h4, h5, h6, h7⟩ := hM
  subst hn
  have e := ixc h7
  have eY := ixc (z := Y.1 0 19) (by omega)
  have e1 : ix (Y.1 0 19) = ix (X.1 0 19) := by omega
  unfold FSX at hS
  rw [ej] at hS hp hk
  have hb := hW.2.bd
  obtain ⟨e20, -, -, e25, -, -, e28⟩ := hS.2 (ix (X.1 0 24)) hb.2
  refine ⟨j + 1, sc, nc + 1, 0, (Y.1 35 j).toInt, ⟨?_, by omega, by omega, by omega, by omega, Nat.le_refl _, by omega⟩, by omega, by omega⟩
  rw [e1]
  exact h1.push (hS.le (Nat.le_refl _) h6) (FR.assign h3 hp (by rw [e28]; exact hW28) hW.1 (by omega) (hW.2.fr (hS.ns (Nat.le_refl _))) (by rw [e25]; exact hG hk10) ⟨hk, by rw [e20]; exact hk10⟩) rfl
theorem ex_sign (h : MH X L S N GA) (l1 : Int) (ht : ∀ j cu sc nc lv tp, MF X L S N j cu sc nc lv tp 0 → ¬ tp = 15 ∧ lv < l1) (hl1 : 1 ≤ l1 ∧ l1 ≤ 3) (hS : FSX X Y) (hn : n.toInt = (X.1 0 19).toInt) (h19 : (Y.1 0 19).toInt = (X.1 0 19).toInt + 1) (h22 : (Y.1 0 22).toInt = (X.1 0 22).toInt + 1) (h20 : (Y.1 0 20).toInt = (X.1 0 20).toInt) (h21 : (Y.1 0 21).toInt = (X.1 0 21).toInt) (hp : Y.1 36 (ix (X.1 0 22)) = n) (h28 : (Y.1 28 (ix n)).toInt < 0) (ha : Y.1 23 (ix n) = X.1 0 24) (hv : (levF (Y.1 26 (ix n)).toInt64).toInt = l1) (hk : (Y.1 35 (ix (X.1 0 22))).toInt = 16 ∧ ((Y.1 20 (ix n)).toInt = 14 ∨ (Y.1 20 (ix n)).toInt = 15)) : MP Y L S N := by
  obtain ⟨j, cu, sc, nc, lv, tp, hM, hW, -, -⟩ := h
  have ej := hM.ix22
  have ht := ht _ _ _ _ _ _ hM
  have hnum := hM.1.num
  obtain ⟨h1, h2, h3, h4, h5, h6, h7⟩ := hM
  have e := ixc h7
  have en := ixc (z := n) (by omega)
  have eY := ixc (z := Y.1 0 19) (by omega)
  have e1 : ix (Y.1 0 19) = ix n + 1 := by omega
  unfold FSX at hS
  rw [ej] at hS hp hk
  have e2 : ix n = ix (X.1 0 19) := by omega
  have hA : CHR (WX Y) Y 23 (ix n) cu (ix n) sc := ⟨by rw [ha]; exact hW.1, by rw [ha, e2]; exact hW.2.fr (hS.ns (Nat.le_refl _))⟩
  refine ⟨j + 1, sc, nc, l1, (Y.1 35 j).toInt, ⟨?_, by omega, by omega, by omega, by omega, Nat.le_refl _, by omega⟩⟩
  exact h1.push (hS.le (Nat.le_refl _) h6) (FR.sign h3 hp h28 (by omega) (by omega) e1 (by omega) ht.1 hv ⟨ht.2, hl1.2⟩ hA hk) rfl
theorem ex_leaf (h : MP X L S N) (hS : FSX X Y) (hn : n.toInt = (X.1 0 19).toInt) (h19 : (Y.1 0 19).toInt = (X.1 0 19).toInt + 1) (h22 : (Y.1 0 22).toInt = (X.1 0 22).toInt) (h20 : (Y.1 0 20).toInt = (X.1 0 20).toInt) (h21 : (Y.1 0 21).toInt = (X.1 0 21).toInt) (h24 : (Y.1 0 24).toInt = n.toInt) (h28 : (Y.1 28 (ix n)).toInt < 0) (hk : (Y.1 20 (ix n)).toInt = 0 ∨ (Y.1 20 (ix n)).toInt = 1 ∨ ((Y.1 20 (ix n)).toInt = 2 ∧ 0 ≤ (Y.1 26 (ix n)).toInt ∧ (Y.1 26 (ix n)).toInt < (X.1 0 20).toInt) ∨ (Y.1 20 (ix n)).toInt = 3 ∨ ((Y.1 20 (ix n)).toInt = 4 ∧ (Y.1 27 (ix n)).toInt = 0 ∧ (Y.1 24 (ix n)).toInt < 0)) : MH Y L S N (GB Y) := by
  obtain ⟨j, sc, nc, lv, tp, hM⟩ := h
  have ej := hM.ix22
  obtain ⟨h1, h2, h3, h4, h5, h6, h7⟩ := hM
  have e := ixc h7
  have en := ixc (z := n) (by omega)
  have eY := ixc (z := Y.1 0 19) (by omega)
  have e24 : Y.1 0 24 = n := Int32.toInt_inj.mp h24
  have e1 : ix (Y.1 0 19) = ix n + 1 := by omega
  have e2 : ix (X.1 0 19) = ix n := by omega
  unfold FSX at hS
  rw [ej] at hS
  have hW : WX Y (ix n) (ix n) (ix n + 1) sc := by
    rcases hk with hk | hk | hk | hk | hk
    · exact WX.leaf (Or.inl hk)
    · exact WX.leaf (Or.inr (Or.inl hk))
    · exact WX.leaf (Or.inr (Or.inr (Or.inl ⟨hk.1, hk.2.1, by omega⟩)))
    · exact WX.leaf (Or.inr (Or.inr (Or.inr hk)))
    · exact WX.row0 hk.1 hk.2.1 hk.2.2
  refine ⟨j, ix n, sc, nc, lv, tp, ⟨?_, by omega, h3, by omega, by omega, by omega, by omega⟩, ?_, by rw [e24]; exact h28, ?_⟩
  · rw [← e2]
    exact h1.fr hS
  · rw [e24, e1]
    exact ⟨by omega, hW⟩
  · unfold GB
    rw [e24]
    intro q
    omega
theorem ex_call0 (h : MH X L S N GA) (hS : FSX X Y) (hn : n.toInt = (X.1 0 19).toInt) (h19 : (Y.1 0 19).toInt = (X.1 0 19).toInt + 1) (h22 : (Y.1 0 22).toInt = (X.1 0 22).toInt) (h20 : (Y.1 0 20).toInt = (X.1 0 20).toInt) (h21 : (Y.1 0 21).toInt = (X.1 0 21).toInt) (h24 : (Y.1 0 24).toInt = n.toInt) (h28 : (Y.1 28 (ix n)).toInt < 0) (ha : Y.1 23 (ix n) = X.1 0 24) (hk : (Y.1 20 (ix n)).toInt = 11 ∧ (Y.1 27 (ix n)).toInt = 0 ∧ (Y.1 24 (ix n)).toInt < 0) : MH Y L S N (GB Y) := by
  obtain ⟨j, cu, sc, nc, lv, tp, hM, hW, -, -⟩ := h
  have ej := hM.ix22
  obtain ⟨h1, h2, h3, h4, h5, h6, h7⟩ := hM
  have e := ixc h7
  have en := ixc (z := n) (by omega)
  have eY := ixc (z := Y.1 0 19) (by omega)
  have e24 : Y.1 0 24 = n := Int32.toInt_inj.mp h24
  have e1 : ix (Y.1 0 19) = ix n + 1 := by omega
  have e2 : ix n = ix (X.1 0 19) := by omega
  unfold FSX at hS
  rw [ej] at hS
  have hA : CHR (WX Y) Y 23 (ix n) cu (ix n) sc := ⟨by rw [ha]; exact hW.1, by rw [ha, e2]; exact hW.2.fr (hS.ns (Nat.le_refl _))⟩
  refine ⟨j, cu, sc, nc, lv, tp, ⟨h1.fr (hS.le (Nat.le_refl _) h6), by omega, h3, by omega, by omega, by omega, by omega⟩, ?_, by rw [e24]; exact h28, ?_⟩
  · rw [e24, e1]
    exact ⟨by omega, WX.call0 hk.1 hk.2.1 hk.2.2 (by omega) hA⟩
  · unfold GB
    rw [e24]
    intro q
    omega
theorem CN.ns {l r : Nat} {n1 : Nat} {m : Nat} (h : CN X Y m) (hr : r ≤ ix (X.1 0 19)) (hn : m < l ∨ r ≤ m) : NSx X Y n1 l r := fun i p q => by
  obtain ⟨a, b, c, d, e, f, g⟩ := h i (by omega) (by omega)
  exact ⟨a, b, c, d, Or.inr e, f, fun _ => g⟩
theorem CHR.cn {e m l r : Nat} {s : Int} (h : CHR (WX X) X e m l r s) (hc : CN X Y m) (hr : r ≤ ix (X.1 0 19)) (hn : m < l ∨ r ≤ m) (he : Y.1 e m = X.1 e m) : CHR (WX Y) Y e m l r s := ⟨by rw [he]; exact h.1, by rw [he]; exact h.2.fr (hc.ns hr hn)⟩
theorem WH.cn {e m l r : Nat} {s : Int} {v : Int32} (h : WH X v l r s) (hc : CN X Y m) (hr : r ≤ ix (X.1 0 19)) (hn : m < l ∨ r ≤ m) (he : Y.1 e m = v) : CHR (WX Y) Y e m l r s := ⟨by rw [he]; exact h.1, by rw [he]; exact h.2.fr (hc.ns hr hn)⟩
/-- what stands below the top frame stays -/
theorem FI.cn {j lo m : Nat} {s0 n0 l0 t0 : Int} (h : FI X L S j lo s0 n0 l0 t0 0) (hf : ∀ i, i < j → Y.1 35 i = X.1 35 i ∧ Y.1 36 i = X.1 36 i ∧ Y.1 37 i = X.1 37 i) (hc : CN X Y m) (hl : lo ≤ m) (hm : lo ≤ ix (X.1 0 19)) : FI Y L S j lo s0 n0 l0 t0 0 := h.fr ⟨hf, fun i q => hc i (by omega) (by omega)⟩
end EX
