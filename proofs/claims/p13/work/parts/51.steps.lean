/-! the reader's steps on frames and trees -/
theorem FI.num {X : St} {L : Nat} {S : Int} : ∀ {j cu : Nat} {sc nc lv tp mm : Int}, FI X L S j cu sc nc lv tp mm → 0 ≤ nc ∧ S ≤ sc ∧ sc ≤ S + nc ∧ L ≤ cu ∧ 0 ≤ lv ∧ lv ≤ 3 ∧ (j : Int) ≤ 4 * nc + lv + 1 ∧ (tp = 1 → sc ≤ S + nc - 1)
  | 0, _, _, _, _, _, _, h => by
    obtain ⟨a, b, c, d, e⟩ := h
    subst a
    omega
  | j + 1, cu, sc, nc, lv, tp, mm, h => by
    obtain ⟨lo, s0, n0, l0, t0, h1, h2, h3⟩ := h
    have h4 := FI.num h1
    have h5 := h2.bd
    rcases h2 with h2 | ⟨a, b, c, d, e, h2⟩
    · omega
    · rcases h2 with ⟨p1, p2, p3, p4, p5, h⟩ | ⟨p1, p2, p3, h⟩ | ⟨p1, p2, p3, p4, p5, p6, p7, p8, p9, p10⟩
      · rcases h with h | ⟨p, q, r, s, t, u, v⟩ | h | ⟨p, q, r, s⟩ | ⟨p, q, ⟨m, r, s⟩, t⟩ <;> omega
      · omega
      · omega
/-- m more Es may come to the top frame: none is in it yet -/
theorem FI.m0 {X : St} {L j cu : Nat} {S sc nc lv tp : Int} (h : FI X L S (j + 1) cu sc nc lv tp 1) (h12 : (X.1 35 j).toInt = 12 → ¬ (X.1 27 (ix (X.1 36 j))).toInt = 4) (h8 : (X.1 35 j).toInt = 8 → ¬ (X.1 27 (ix (X.1 36 j))).toInt = 20) : FI X L S (j + 1) cu sc nc lv tp 0 := by
  obtain ⟨lo, s0, n0, l0, t0, h1, h2, h3⟩ := h
  refine ⟨lo, s0, n0, l0, t0, h1, ?_, h3⟩
  rcases h2 with h2 | ⟨a, b, c, d, e, h2⟩
  · exact Or.inl h2
  · refine Or.inr ⟨a, b, c, d, e, ?_⟩
    rcases h2 with h2 | ⟨h1, h2, h3, h⟩ | h2
    · exact Or.inl h2
    · refine Or.inr (Or.inl ⟨h1, h2, h3, ?_⟩)
      rcases h with h | h | ⟨p, q, r, s, t⟩ | h | h | h | ⟨p, q, r, s, t⟩ | h | h | h
      · exact Or.inl h
      · exact Or.inr (Or.inl h)
      · have := h8 p
        exact Or.inr (Or.inr (Or.inl ⟨p, q, r, by omega, t⟩))
      · exact Or.inr (Or.inr (Or.inr (Or.inl h)))
      · exact Or.inr (Or.inr (Or.inr (Or.inr (Or.inl h))))
      · exact Or.inr (Or.inr (Or.inr (Or.inr (Or.inr (Or.inl h)))))
      · have := h12 p
        exact Or.inr (Or.inr (Or.inr (Or.inr (Or.inr (Or.inr (Or.inl ⟨p, q, by omega, s, t⟩))))))
      · exact Or.inr (Or.inr (Or.inr (Or.inr (Or.inr (Or.inr (Or.inr (Or.inl h)))))))
      · exact Or.inr (Or.inr (Or.inr (Or.inr (Or.inr (Or.inr (Or.inr (Or.inr (Or.inl h))))))))
      · exact Or.inr (Or.inr (Or.inr (Or.inr (Or.inr (Or.inr (Or.inr (Or.inr (Or.inr h))))))))
    · exact Or.inr (Or.inr h2)
theorem FI.m1 {X : St} {L j cu : Nat} {S sc nc lv tp : Int} (h : FI X L S j cu sc nc lv tp 0) : FI X L S j cu sc nc lv tp 1 := by
  cases j with
  | zero => exact h
  | succ j =>
  obtain ⟨lo, s0, n0, l0, t0, h1, h2, h3⟩ := h
  refine ⟨lo, s0, n0, l0, t0, h1, ?_, h3⟩
  rcases h2 with h2 | ⟨a, b, c, d, e, h2⟩
  · exact Or.inl h2
  · refine Or.inr ⟨a, b, c, d, e, ?_⟩
    rcases h2 with h2 | ⟨h1, h2, h3, h⟩ | h2
    · exact Or.inl h2
    · refine Or.inr (Or.inl ⟨h1, h2, h3, ?_⟩)
      rcases h with h | h | ⟨p, q, r, s, t⟩ | h | h | h | ⟨p, q, r, s, t⟩ | h | h | h
      · exact Or.inl h
      · exact Or.inr (Or.inl h)
      · exact Or.inr (Or.inr (Or.inl ⟨p, q, r, by omega, t⟩))
      · exact Or.inr (Or.inr (Or.inr (Or.inl h)))
      · exact Or.inr (Or.inr (Or.inr (Or.inr (Or.inl h))))
      · exact Or.inr (Or.inr (Or.inr (Or.inr (Or.inr (Or.inl h)))))
      · exact Or.inr (Or.inr (Or.inr (Or.inr (Or.inr (Or.inr (Or.inl ⟨p, q, by omega, s, t⟩))))))
      · exact Or.inr (Or.inr (Or.inr (Or.inr (Or.inr (Or.inr (Or.inr (Or.inl h)))))))
      · exact Or.inr (Or.inr (Or.inr (Or.inr (Or.inr (Or.inr (Or.inr (Or.inr (Or.inl h))))))))
      · exact Or.inr (Or.inr (Or.inr (Or.inr (Or.inr (Or.inr (Or.inr (Or.inr (Or.inr h))))))))
    · exact Or.inr (Or.inr h2)
/-- one more frame -/
theorem FI.push {X Y : St} {L j cu cu1 : Nat} {S sc nc lv tp sc1 nc1 lv1 mm f : Int} (h : FI X L S j cu sc nc lv tp 0) (hs : FS X Y j cu) (hr : FR Y j cu sc nc lv tp cu1 sc1 nc1 lv1 mm) (hf : (Y.1 35 j).toInt = f) : FI Y L S (j + 1) cu1 sc1 nc1 lv1 f mm := ⟨cu, sc, nc, lv, tp, h.fr hs, hr, hf.symm⟩
/-- the frame a node of its own begins: 6, 9, 11, 15 -/
theorem FR.fresh {Y : St} {j cu : Nat} {sc nc lv tp mm : Int} {n : Int32} (hj : 1 ≤ j) (hn : (Y.1 36 j) = n) (h28 : (Y.1 28 (ix n)).toInt < 0) (h0 : 0 ≤ n.toInt) (hi : ix n = cu) (hl : (j : Int) ≤ 4 * nc + 4) (hk : ((Y.1 35 j).toInt = 6 ∧ (Y.1 20 (ix n)).toInt = 8) ∨ ((Y.1 35 j).toInt = 9 ∧ (Y.1 20 (ix n)).toInt = 5) ∨ ((Y.1 35 j).toInt = 11 ∧ ((Y.1 20 (ix n)).toInt = 6 ∨ (Y.1 20 (ix n)).toInt = 7)) ∨ ((Y.1 35 j).toInt = 15 ∧ ((Y.1 20 (ix n)).toInt = 12 ∨ (Y.1 20 (ix n)).toInt = 13))) : FR Y j cu sc nc lv tp (cu + 1) sc (nc + 1) 0 mm := by
  unfold FR
  rw [hn]
  refine Or.inr ⟨hj, h0, by omega, by omega, ⟨by omega, h28⟩, Or.inr (Or.inl ⟨rfl, rfl, rfl, ?_⟩)⟩
  rcases hk with hk | hk | hk | hk
  · exact Or.inl ⟨hk.1, hk.2, hi, rfl⟩
  · exact Or.inr (Or.inr (Or.inr (Or.inl ⟨hk.1, hk.2, hi, rfl⟩)))
  · exact Or.inr (Or.inr (Or.inr (Or.inr (Or.inr (Or.inl ⟨hk.1, hk.2, hi, rfl⟩)))))
  · exact Or.inr (Or.inr (Or.inr (Or.inr (Or.inr (Or.inr (Or.inr (Or.inr (Or.inr ⟨hk.1, hk.2, hi, rfl⟩))))))))
theorem FR.let_ {Y : St} {j cu : Nat} {sc nc lv tp mm : Int} {n : Int32} (hj : 1 ≤ j) (hn : (Y.1 36 j) = n) (h28 : (Y.1 28 (ix n)).toInt < 0) (h0 : 0 ≤ n.toInt) (hi : ix n = cu) (hl : (j : Int) ≤ 4 * nc + 4) (ht : ¬ tp = 15 ∧ ¬ tp = 16) (hk : ((Y.1 35 j).toInt = 1 ∧ (Y.1 20 (ix n)).toInt = 17) ∨ ((Y.1 35 j).toInt = 3 ∧ (Y.1 20 (ix n)).toInt = 16)) : FR Y j cu sc nc lv tp (cu + 1) sc (nc + 1) 0 mm := by
  unfold FR
  rw [hn]
  refine Or.inr ⟨hj, h0, by omega, by omega, ⟨by omega, h28⟩, Or.inl ⟨rfl, rfl, ht.1, ht.2, hi, ?_⟩⟩
  rcases hk with hk | hk
  · exact Or.inl ⟨hk.1, hk.2, rfl, rfl⟩
  · exact Or.inr (Or.inr (Or.inl ⟨hk.1, hk.2, rfl, rfl⟩))
theorem LSB.nil {R : Nat → Nat → Nat → Int → Prop} {Y : St} {n l : Nat} {s : Int} (hm : (Y.1 27 n).toInt = 0) (hb : (Y.1 24 n).toInt < 0) : LSB R Y n l l s (fun _ => 0) (fun _ => l) := by
  have e : ix (Y.1 27 n) = 0 := by
    have := ixc (z := Y.1 27 n) (by omega)
    omega
  refine ⟨rfl, rfl, by omega, fun _ => hb, fun q => by omega, fun i hi => ?_⟩
  rw [e] at hi
  exact absurd hi (Nat.not_lt_zero i)
theorem LPR.nil {Y : St} {n l : Nat} {s : Int} {last : Int32} (hm : (Y.1 27 n).toInt = 0) (hb : (Y.1 24 n).toInt < 0) (hl : last.toInt = -1) : LPR Y n l l s last := ⟨_, _, LSB.nil hm hb, fun _ => hl, fun q => by omega⟩
theorem FR.list {Y : St} {j cu : Nat} {sc nc lv tp mm : Int} {n : Int32} (hj : 1 ≤ j) (hn : (Y.1 36 j) = n) (h28 : (Y.1 28 (ix n)).toInt < 0) (h0 : 0 ≤ n.toInt) (hi : ix n = cu) (hl : (j : Int) ≤ 4 * nc + 4) (hmm : 0 ≤ mm) (hm : (Y.1 27 (ix n)).toInt = 0) (hb : (Y.1 24 (ix n)).toInt < 0) (hla : (Y.1 37 j).toInt = -1) (hk : ((Y.1 35 j).toInt = 7 ∧ (Y.1 20 (ix n)).toInt = 9) ∨ ((Y.1 35 j).toInt = 8 ∧ (Y.1 20 (ix n)).toInt = 4)) : FR Y j cu sc nc lv tp (cu + 1) sc (nc + 1) 0 mm := by
  unfold FR
  rw [hn]
  refine Or.inr ⟨hj, h0, by omega, by omega, ⟨by omega, h28⟩, Or.inr (Or.inl ⟨rfl, rfl, rfl, ?_⟩)⟩
  rcases hk with hk | hk
  · exact Or.inr (Or.inl ⟨hk.1, hk.2, hi, LPR.nil hm hb hla⟩)
  · exact Or.inr (Or.inr (Or.inl ⟨hk.1, hk.2, hi, by omega, LPR.nil hm hb hla⟩))
theorem FR.call {Y : St} {j cu c1 : Nat} {sc nc lv tp mm : Int} {n : Int32} (hj : 1 ≤ j) (hn : (Y.1 36 j) = n) (h28 : (Y.1 28 (ix n)).toInt < 0) (h0 : 0 ≤ n.toInt) (hi : cu ≤ ix n) (hc1 : c1 = ix n + 1) (hl : (j : Int) ≤ 4 * nc + 4) (hmm : 0 ≤ mm) (hm : (Y.1 27 (ix n)).toInt = 0) (hb : (Y.1 24 (ix n)).toInt < 0) (hla : (Y.1 37 j).toInt = -1) (ha : CHR (WX Y) Y 23 (ix n) cu (ix n) sc) (hk : (Y.1 35 j).toInt = 12 ∧ (Y.1 20 (ix n)).toInt = 11) : FR Y j cu sc nc lv tp c1 sc (nc + 1) 0 mm := by
  unfold FR
  rw [hn]
  subst hc1
  exact Or.inr ⟨hj, h0, by omega, by omega, ⟨by omega, h28⟩, Or.inr (Or.inl ⟨rfl, rfl, rfl, Or.inr (Or.inr (Or.inr (Or.inr (Or.inr (Or.inr (Or.inl ⟨hk.1, hk.2, by omega, ha, LPR.nil hm hb hla⟩))))))⟩)⟩
theorem FR.place {Y : St} {j cu c1 : Nat} {sc nc lv tp mm : Int} {n : Int32} (hj : 1 ≤ j) (hn : (Y.1 36 j) = n) (h28 : (Y.1 28 (ix n)).toInt < 0) (h0 : 0 ≤ n.toInt) (hi : cu ≤ ix n) (hc1 : c1 = ix n + 1) (hl : (j : Int) ≤ 4 * nc + 4) (hc : (Y.1 25 (ix n)).toInt < 0) (ha : CHR (WX Y) Y 23 (ix n) cu (ix n) sc) (hk : (Y.1 35 j).toInt = 13 ∧ (Y.1 20 (ix n)).toInt = 10) : FR Y j cu sc nc lv tp c1 sc (nc + 1) 0 mm := by
  unfold FR
  rw [hn]
  subst hc1
  exact Or.inr ⟨hj, h0, by omega, by omega, ⟨by omega, h28⟩, Or.inr (Or.inl ⟨rfl, rfl, rfl, Or.inr (Or.inr (Or.inr (Or.inr (Or.inr (Or.inr (Or.inr (Or.inl ⟨hk.1, hk.2, hc, ha, rfl⟩)))))))⟩)⟩
theorem FR.assign {Y : St} {j cu c1 : Nat} {sc nc lv tp mm : Int} {n : Int32} (hj : 1 ≤ j) (hn : (Y.1 36 j) = n) (h28 : (Y.1 28 (ix n)).toInt < 0) (h0 : 0 ≤ n.toInt) (hl : (j : Int) ≤ 4 * nc + 4) (hw : WX Y (ix n) cu c1 sc) (hc : (Y.1 25 (ix n)).toInt < 0) (hk : (Y.1 35 j).toInt = 14 ∧ (Y.1 20 (ix n)).toInt = 10) : FR Y j cu sc nc lv tp c1 sc (nc + 1) 0 mm := by
  unfold FR
  rw [hn]
  have hb := hw.bd
  refine Or.inr ⟨hj, h0, by omega, by omega, ⟨by omega, h28⟩, Or.inr (Or.inl ⟨rfl, rfl, rfl, Or.inr (Or.inr (Or.inr (Or.inr (Or.inr (Or.inr (Or.inr (Or.inr (Or.inl ⟨hk.1, hk.2, ?_⟩))))))))⟩)⟩
  obtain ⟨-, -, h⟩ := hw.inv
  rcases h with h | ⟨a, b, c⟩ | ⟨a, b, c⟩ | ⟨a, b, m, c, d⟩ | ⟨a, b, m, c, d⟩ | ⟨a, b, m1, m2, c, d, e⟩ | ⟨a, b, c1, c2, c3, m, c, d⟩ | ⟨a, b, c, d⟩ | ⟨a, b, c, d⟩ | ⟨a, b, c, d⟩
  · omega
  · omega
  · omega
  · omega
  · rcases d with d | d
    · obtain ⟨-, rfl⟩ := d
      exact ⟨b, c⟩
    · have := d.1
      omega
  · omega
  · omega
  · omega
  · omega
  · omega
theorem FR.sign {Y : St} {j cu c1 : Nat} {sc nc lv tp mm l1 : Int} {n : Int32} (hj : 1 ≤ j) (hn : (Y.1 36 j) = n) (h28 : (Y.1 28 (ix n)).toInt < 0) (h0 : 0 ≤ n.toInt) (hi : cu ≤ ix n) (hc1 : c1 = ix n + 1) (hl : (j : Int) ≤ 4 * nc + l1) (ht : ¬ tp = 15) (hv : (levF (Y.1 26 (ix n)).toInt64).toInt = l1) (hl1 : lv < l1 ∧ l1 ≤ 3) (ha : CHR (WX Y) Y 23 (ix n) cu (ix n) sc) (hk : (Y.1 35 j).toInt = 16 ∧ ((Y.1 20 (ix n)).toInt = 14 ∨ (Y.1 20 (ix n)).toInt = 15)) : FR Y j cu sc nc lv tp c1 sc nc l1 mm := by
  unfold FR
  rw [hn]
  subst hc1
  exact Or.inr ⟨hj, h0, by omega, by omega, ⟨by omega, h28⟩, Or.inr (Or.inr ⟨rfl, rfl, ht, hk.1, hk.2, ha, rfl, hv.symm, hl1.1, hl1.2⟩)⟩
/-- leaves -/
theorem WX.leaf {Y : St} {n : Nat} {sc : Int} (hk : (Y.1 20 n).toInt = 0 ∨ (Y.1 20 n).toInt = 1 ∨ ((Y.1 20 n).toInt = 2 ∧ 0 ≤ (Y.1 26 n).toInt ∧ (Y.1 26 n).toInt < sc) ∨ (Y.1 20 n).toInt = 3) : WX Y n n (n + 1) sc := WX.intro ⟨Nat.le_refl _, Nat.lt_succ_self _, Or.inl ⟨rfl, rfl, hk⟩⟩
theorem WX.row0 {Y : St} {n : Nat} {sc : Int} (hk : (Y.1 20 n).toInt = 4) (hm : (Y.1 27 n).toInt = 0) (hb : (Y.1 24 n).toInt < 0) : WX Y n n (n + 1) sc := WX.intro ⟨Nat.le_refl _, Nat.lt_succ_self _, Or.inr (Or.inr (Or.inr (Or.inr (Or.inr (Or.inr (Or.inr (Or.inl ⟨hk, rfl, by omega, _, _, LSB.nil hm hb⟩)))))))⟩
theorem WX.call0 {Y : St} {n lo : Nat} {sc : Int} (hk : (Y.1 20 n).toInt = 11) (hm : (Y.1 27 n).toInt = 0) (hb : (Y.1 24 n).toInt < 0) (hl : lo ≤ n) (ha : CHR (WX Y) Y 23 n lo n sc) : WX Y n lo (n + 1) sc := WX.intro ⟨hl, Nat.lt_succ_self _, Or.inr (Or.inr (Or.inr (Or.inr (Or.inr (Or.inr (Or.inr (Or.inr (Or.inr ⟨hk, by omega, ha, _, _, LSB.nil hm hb⟩))))))))⟩
/-- what the top frame's node comes to when its last part h is there: Y has it written -/
theorem CHR.fr2 {X Y : St} {j lo e n l r : Nat} {s : Int} (h : CHR (WX X) X e n l r s) (hw : NSx X Y (ix (X.1 e n)) l r) (he : Y.1 e n = X.1 e n) : CHR (WX Y) Y e n l r s := ⟨by rw [he]; exact h.1, by rw [he]; exact h.2.fr hw⟩
/-- all nodes from lo to hi stay, but n -/
def NB2 (X Y : St) (n lo hi : Nat) : Prop := ∀ i, lo ≤ i → i < hi → i ≠ n → Y.1 20 i = X.1 20 i ∧ Y.1 23 i = X.1 23 i ∧ Y.1 24 i = X.1 24 i ∧ Y.1 25 i = X.1 25 i ∧ Y.1 26 i = X.1 26 i ∧ Y.1 27 i = X.1 27 i ∧ Y.1 28 i = X.1 28 i
theorem NB2.ns {X Y : St} {n n1 lo hi l r : Nat} (h : NB2 X Y n lo hi) (hl : lo ≤ l) (hr : r ≤ hi) (hn : n < l ∨ r ≤ n) : NSx X Y n1 l r := fun i p q => by
  obtain ⟨a, b, c, d, e, f, g⟩ := h i (by omega) (by omega) (by omega)
  exact ⟨a, b, c, d, Or.inr e, f, fun _ => g⟩
theorem CHR.nb {X Y : St} {lo hi e n l r : Nat} {s : Int} (h : CHR (WX X) X e n l r s) (hb : NB2 X Y n lo hi) (hl : lo ≤ l) (hr : r ≤ hi) (hn : n < l ∨ r ≤ n) (he : Y.1 e n = X.1 e n) : CHR (WX Y) Y e n l r s := ⟨by rw [he]; exact h.1, by rw [he]; exact h.2.fr (hb.ns hl hr hn)⟩
theorem WH.nb {X Y : St} {lo hi e n l r : Nat} {s : Int} {h : Int32} (hh : WH X h l r s) (hb : NB2 X Y n lo hi) (hl : lo ≤ l) (hr : r ≤ hi) (hn : n < l ∨ r ≤ n) (he : Y.1 e n = h) : CHR (WX Y) Y e n l r s := ⟨by rw [he]; exact hh.1, by rw [he]; exact hh.2.fr (hb.ns hl hr hn)⟩
/-- a node of one part: 6, 7, 8, 12, 13 -/
theorem WX.one {Y : St} {n hi : Nat} {sc : Int} (hk : (Y.1 20 n).toInt = 6 ∨ (Y.1 20 n).toInt = 7 ∨ (Y.1 20 n).toInt = 8 ∨ (Y.1 20 n).toInt = 12 ∨ (Y.1 20 n).toInt = 13) (ha : CHR (WX Y) Y 23 n (n + 1) hi sc) : WX Y n n hi sc := by
  have := ha.2.bd
  exact WX.intro ⟨Nat.le_refl _, by omega, Or.inr (Or.inl ⟨rfl, hk, ha⟩)⟩
theorem WX.two {Y : St} {n lo hi : Nat} {sc : Int} (hk : (Y.1 20 n).toInt = 14 ∨ (Y.1 20 n).toInt = 15) (hl : lo ≤ n) (ha : CHR (WX Y) Y 23 n lo n sc) (hb : CHR (WX Y) Y 24 n (n + 1) hi sc) : WX Y n lo hi sc := by
  have := hb.2.bd
  exact WX.intro ⟨hl, by omega, Or.inr (Or.inr (Or.inl ⟨hk, ha, hb⟩))⟩
theorem WX.new_ {Y : St} {n m hi : Nat} {sc : Int} (hk : (Y.1 20 n).toInt = 5) (ha : CHR (WX Y) Y 23 n (n + 1) m sc) (hb : CHR (WX Y) Y 24 n m hi sc) : WX Y n n hi sc := by
  have := ha.2.bd
  have := hb.2.bd
  exact WX.intro ⟨Nat.le_refl _, by omega, Or.inr (Or.inr (Or.inr (Or.inl ⟨hk, rfl, m, ha, hb⟩)))⟩
theorem WX.place {Y : St} {n lo hi : Nat} {sc : Int} (hk : (Y.1 20 n).toInt = 10) (hl : lo ≤ n) (ha : CHR (WX Y) Y 23 n lo n sc) (hb : CHR (WX Y) Y 24 n (n + 1) hi sc) (hc : (Y.1 25 n).toInt < 0) : WX Y n lo hi sc := by
  have := hb.2.bd
  exact WX.intro ⟨hl, by omega, Or.inr (Or.inr (Or.inr (Or.inr (Or.inl ⟨hk, ha, hi, hb, Or.inl ⟨hc, rfl⟩⟩))))⟩
theorem WX.assign {Y : St} {n lo m hi : Nat} {sc : Int} (hk : (Y.1 20 n).toInt = 10) (hl : lo ≤ n) (ha : CHR (WX Y) Y 23 n lo n sc) (hb : CHR (WX Y) Y 24 n (n + 1) m sc) (hc : CHR (WX Y) Y 25 n m hi sc) : WX Y n lo hi sc := by
  have := hb.2.bd
  have := hc.2.bd
  exact WX.intro ⟨hl, by omega, Or.inr (Or.inr (Or.inr (Or.inr (Or.inl ⟨hk, ha, m, hb, Or.inr hc⟩))))⟩
theorem WX.if_ {Y : St} {n m1 m2 hi : Nat} {sc : Int} (hk : (Y.1 20 n).toInt = 16) (ha : CHR (WX Y) Y 23 n (n + 1) m1 sc) (hb : CHR (WX Y) Y 24 n m1 m2 sc) (hc : CHR (WX Y) Y 25 n m2 hi sc) : WX Y n n hi sc := by
  have := ha.2.bd
  have := hb.2.bd
  have := hc.2.bd
  exact WX.intro ⟨Nat.le_refl _, by omega, Or.inr (Or.inr (Or.inr (Or.inr (Or.inr (Or.inl ⟨hk, rfl, m1, m2, ha, hb, hc⟩)))))⟩
theorem WX.let_ {Y : St} {n m hi : Nat} {sc : Int} (hk : (Y.1 20 n).toInt = 17) (hv : (Y.1 26 n).toInt = sc) (h0 : 0 ≤ sc ∧ sc ≤ 43) (ha : CHR (WX Y) Y 23 n (n + 1) m sc) (hb : CHR (WX Y) Y 24 n m hi (sc + 1)) : WX Y n n hi sc := by
  have := ha.2.bd
  have := hb.2.bd
  exact WX.intro ⟨Nat.le_refl _, by omega, Or.inr (Or.inr (Or.inr (Or.inr (Or.inr (Or.inr (Or.inl ⟨hk, rfl, hv, h0.1, h0.2, m, ha, hb⟩))))))⟩
/-- one more E in a list: X the state before it is added, Y behind (b or the last one's successor, last, many) -/
theorem LPR.add {X Y : St} {n l m r : Nat} {s : Int} {last h : Int32} (hl : LPR X n l m s last) (hh : WH X h m r s) (hn : n < l) (hm : (Y.1 27 n).toInt = (X.1 27 n).toInt + 1) (hb : (last.toInt = -1 → Y.1 24 n = h) ∧ (¬ last.toInt = -1 → Y.1 24 n = X.1 24 n)) (hr : ∀ i, l ≤ i → i < r → Y.1 20 i = X.1 20 i ∧ Y.1 23 i = X.1 23 i ∧ Y.1 24 i = X.1 24 i ∧ Y.1 25 i = X.1 25 i ∧ Y.1 26 i = X.1 26 i ∧ Y.1 27 i = X.1 27 i ∧ (¬ (i = ix last ∧ ¬ last.toInt = -1) → Y.1 28 i = X.1 28 i)) (ha : ¬ last.toInt = -1 → Y.1 28 (ix last) = h) (hh28 : (X.1 28 (ix h)).toInt < 0) : LPR Y n l r s h := by
  obtain ⟨it, cu, hL, h1, h2⟩ := hl
  have hle := hL.le (fun n l r s q => q.bd)
  obtain ⟨a, b, c, d, e, f⟩ := hL
  have hc := ixc c
  have hc2 := ixc (z := Y.1 27 n) (by omega)
  have em : ix (Y.1 27 n) = ix (X.1 27 n) + 1 := by omega
  have hhb := hh.2.bd
  have hlm : l ≤ m := by
    have := cu_mono (R := WX X) (it := it) (cu := cu) (s := s) (m := ix (X.1 27 n)) (fun i hi => (f i hi).1) (fun n l r s q => q.bd) (ix (X.1 27 n)) 0 (by omega)
    rw [Nat.zero_add] at this
    omega
  have hlast : 0 < (X.1 27 n).toInt → l ≤ ix last ∧ ix last < m ∧ ¬ last.toInt = -1 := by
    intro q
    have h3 := h2 q
    have h4 := hle (ix (X.1 27 n) - 1) (by omega)
    rw [← h3.2] at h4
    omega
  have hns : ∀ (n1 p q : Nat), l ≤ p → q ≤ r → (¬ last.toInt = -1 → ix last < p ∨ q ≤ ix last ∨ ix last = n1) → NSx X Y n1 p q := by
    intro n1 p q hp hq hx i hi1 hi2
    obtain ⟨x1, x2, x3, x4, x5, x6, x7⟩ := hr i (by omega) (by omega)
    refine ⟨x1, x2, x3, x4, Or.inr x5, x6, fun hne => x7 ?_⟩
    rintro ⟨rfl, q2⟩
    have := hx q2
    omega
  refine ⟨fun i => if i = ix (X.1 27 n) then ix h else it i, fun i => if i = ix (X.1 27 n) + 1 then r else cu i, ⟨?_, ?_, by omega, fun q => by omega, fun _ => ?_, ?_⟩, fun q => by omega, fun _ => ⟨hh.1, ?_⟩⟩
  · show (if 0 = ix (X.1 27 n) + 1 then r else cu 0) = l
    rw [if_neg (by omega)]
    exact a
  · show (if ix (Y.1 27 n) = ix (X.1 27 n) + 1 then r else cu (ix (Y.1 27 n))) = r
    rw [if_pos em]
  · show 0 ≤ _ ∧ _ = (if 0 = ix (X.1 27 n) then ix h else it 0)
    by_cases q : (X.1 27 n).toInt = 0
    · rw [hb.1 (h1 q), if_pos (by omega)]
      exact ⟨hh.1, rfl⟩
    · rw [hb.2 (hlast (by omega)).2.2, if_neg (by omega)]
      exact e (by omega)
  · rw [em]
    intro i hi
    show WX Y (if i = ix (X.1 27 n) then ix h else it i) (if i = ix (X.1 27 n) + 1 then r else cu i) (if i + 1 = ix (X.1 27 n) + 1 then r else cu (i + 1)) s ∧ (_ → _ ∧ _ = (if i + 1 = ix (X.1 27 n) then ix h else it (i + 1))) ∧ _
    rw [if_neg (show ¬ i = ix (X.1 27 n) + 1 by omega)]
    by_cases q : i = ix (X.1 27 n)
    · subst q
      simp only [if_true]
      rw [b]
      refine ⟨hh.2.fr (hns _ _ _ hlm (Nat.le_refl _) (fun q => ?_)), fun q => by omega, fun _ => ?_⟩
      · by_cases q1 : (X.1 27 n).toInt = 0
        · exact absurd (h1 q1) q
        · have := hlast (by omega)
          omega
      · have e28 : Y.1 28 (ix h) = X.1 28 (ix h) := by
          refine (hr (ix h) (by omega) (by omega)).2.2.2.2.2.2 ?_
          rintro ⟨q1, q2⟩
          by_cases q3 : (X.1 27 n).toInt = 0
          · exact q2 (h1 q3)
          · have := hlast (by omega)
            omega
        rw [e28]
        exact hh28
    · have hi2 : i < ix (X.1 27 n) := by omega
      obtain ⟨x1, x2, x3⟩ := f i hi2
      have hb2 := hle i hi2
      have hcm := cu_mono (R := WX X) (it := it) (cu := cu) (s := s) (m := ix (X.1 27 n)) (fun i hi => (f i hi).1) (fun n l r s q => q.bd) (ix (X.1 27 n) - (i + 1)) (i + 1) (by omega)
      rw [show i + 1 + (ix (X.1 27 n) - (i + 1)) = ix (X.1 27 n) by omega] at hcm
      simp only [if_neg q, if_neg (show ¬ i + 1 = ix (X.1 27 n) + 1 by omega)]
      have hl2 := hlast (by omega)
      have h3 := h2 (by omega)
      refine ⟨x1.fr (hns _ _ _ (by omega) (by omega) (fun _ => ?_)), fun _ => ?_, fun q => by omega⟩
      · by_cases q1 : i + 1 = ix (X.1 27 n)
        · right; right
          rw [h3.2]
          congr 1
          omega
        · right; left
          have h5 := hle (i + 1) (by omega)
          have h6 := cu_mono (R := WX X) (it := it) (cu := cu) (s := s) (m := ix (X.1 27 n)) (fun i hi => (f i hi).1) (fun n l r s q => q.bd) (ix (X.1 27 n) - 1 - (i + 1)) (i + 1) (by omega)
          rw [show i + 1 + (ix (X.1 27 n) - 1 - (i + 1)) = ix (X.1 27 n) - 1 by omega] at h6
          have h7 := hle (ix (X.1 27 n) - 1) (by omega)
          rw [← h3.2] at h7
          omega
      · by_cases q1 : i + 1 = ix (X.1 27 n)
        · rw [if_pos q1]
          have e1 : it i = ix last := by
            rw [h3.2]
            congr 1
            omega
          rw [e1, ha hl2.2.2]
          exact ⟨hh.1, rfl⟩
        · rw [if_neg q1]
          have e28 : Y.1 28 (it i) = X.1 28 (it i) := by
            refine (hr (it i) (by omega) (by omega)).2.2.2.2.2.2 ?_
            rintro ⟨q2, -⟩
            have h5 := hle (i + 1) (by omega)
            have h6 := cu_mono (R := WX X) (it := it) (cu := cu) (s := s) (m := ix (X.1 27 n)) (fun i hi => (f i hi).1) (fun n l r s q => q.bd) (ix (X.1 27 n) - 1 - (i + 1)) (i + 1) (by omega)
            rw [show i + 1 + (ix (X.1 27 n) - 1 - (i + 1)) = ix (X.1 27 n) - 1 by omega] at h6
            have h7 := hle (ix (X.1 27 n) - 1) (by omega)
            rw [← h3.2] at h7
            omega
          rw [e28]
          exact x2 (by omega)
  · show ix h = (if ix (Y.1 27 n) - 1 = ix (X.1 27 n) then ix h else it (ix (Y.1 27 n) - 1))
    rw [if_pos (by omega)]
theorem LPR.ls {X : St} {n l r : Nat} {s : Int} {last : Int32} (h : LPR X n l r s last) : LSR (WX X) X n l r s := by
  obtain ⟨it, cu, hl, -, -⟩ := h
  exact ⟨it, cu, hl⟩
