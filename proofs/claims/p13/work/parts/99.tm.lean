/-! values and things of a run. u: is it runUntold? -/
def wrp (X : St) (t : Nat) : Prop := ¬ (X.1 64 t).toInt = 0
/-- sort of kind k -/
def so (X : St) (k : Int32) : Int := (X.1 4 (ix k)).toInt
def km (X : St) (k : Int32) : Int := (X.1 5 (ix k)).toInt
/-- the reference w is a thing, and a row -/
def RV (X : St) (w : Int32) : Prop := 0 ≤ w.toInt ∧ w.toInt < (X.1 0 33).toInt ∧ (wrp X (ix w) → VK X (X.1 69 (ix w)) ∧ so X (X.1 69 (ix w)) = 4)
/-- the reference w is a function -/
def FV (X : St) (w : Int32) : Prop := (0 ≤ w.toInt ∧ w.toInt < 100 ∧ w.toInt < (X.1 0 18).toInt) ∨ (100 ≤ w.toInt ∧ w.toInt - 100 < (X.1 0 33).toInt ∧ wrp X (ix w - 100) ∧ VK X (X.1 69 (ix w - 100)) ∧ so X (X.1 69 (ix w - 100)) = 5)
/-- the kind of the row w's elements -/
def EK (X : St) (G : Nat → Int32) (w : Int32) : Int32 := if (X.1 64 (ix w)).toInt = 0 then G (ix w) else cmpK X (X.1 69 (ix w)) 0
/-- the function w: how many it takes, and its kinds -/
def FA (X : St) (w : Int32) : Int := if w.toInt < 100 then (X.1 15 (ix w)).toInt else km X (X.1 69 (ix w - 100)) - 1
def FC (u : Bool) (X : St) (w : Int32) (i : Nat) : Int32 := if u = true then 2 else if w.toInt < 100 then (if (i : Int) < (X.1 15 (ix w)).toInt then pkv X (ix w) i else okv X (ix w)) else cmpK X (X.1 69 (ix w - 100)) i
/-- the value (s, w) is of kind k -/
def VVg (X : St) (G : Nat → Int32) (k s w : Int32) : Prop := VK X k ∧ (s.toInt = 3 → RV X w) ∧ (s.toInt = 4 → FV X w) ∧ ((so X k = s.toInt + 1 ∧ 0 ≤ s.toInt ∧ s.toInt ≤ 1) ∨ (so X k = 3 ∧ (s.toInt = 3 → EK X G w = 2) ∧ (s.toInt = 4 → ∀ i : Nat, (i : Int) ≤ FA X w → FC false X w i = 2)) ∨ (so X k = 4 ∧ s.toInt = 3 ∧ EK X G w = cmpK X k 0) ∨ (so X k = 5 ∧ s.toInt = 4 ∧ FA X w + 1 = km X k ∧ ∀ i : Nat, (i : Int) ≤ FA X w → FC false X w i = cmpK X k i))
def VVu (X : St) (k s w : Int32) : Prop := (s.toInt = 3 → RV X w) ∧ (s.toInt = 4 → FV X w) ∧ (k = 2 ∨ (k = 3 ∧ s.toInt = 3) ∨ (k.toInt = 10 + FA X w ∧ 0 ≤ FA X w ∧ s.toInt = 4) ∨ (k.toInt = s.toInt ∧ 0 ≤ s.toInt ∧ s.toInt ≤ 1))
def VV (u : Bool) (X : St) (G : Nat → Int32) (k s w : Int32) : Prop := (u = false ∧ VVg X G k s w) ∨ (u = true ∧ VVu X k s w)
/-- the things below n -/
def RAW (u : Bool) (X : St) (G : Nat → Int32) (t : Nat) : Prop := 0 ≤ (X.1 65 t).toInt ∧ 0 ≤ (X.1 66 t).toInt ∧ (X.1 65 t).toInt + (X.1 66 t).toInt ≤ (X.1 0 34).toInt ∧ (u = true → G t = 2) ∧ (∀ j : Nat, j < t → ¬ wrp X j → (X.1 65 j).toInt + (X.1 66 j).toInt ≤ (X.1 65 t).toInt) ∧ ∀ c : Nat, (X.1 65 t).toInt ≤ (c : Int) → (c : Int) < (X.1 65 t).toInt + (X.1 66 t).toInt → VV u X G (G t) (X.1 74 c) (X.1 75 c)
def WR1 (X : St) (G : Nat → Int32) (t : Nat) : Prop := so X (X.1 68 t) = 4 ∧ so X (X.1 69 t) = 4 ∧ RV X (X.1 67 t) ∧ (X.1 67 t).toInt < (t : Int) ∧ EK X G (X.1 67 t) = cmpK X (X.1 68 t) 0 ∧ ((wrp X (ix (X.1 67 t)) ∧ (X.1 73 t).toInt = (X.1 73 (ix (X.1 67 t))).toInt + 1) ∨ (¬ wrp X (ix (X.1 67 t)) ∧ (X.1 73 t).toInt = 1))
def WR2 (X : St) (t : Nat) : Prop := so X (X.1 68 t) = 5 ∧ so X (X.1 69 t) = 5 ∧ km X (X.1 68 t) = km X (X.1 69 t) ∧ FV X (X.1 67 t) ∧ (X.1 67 t).toInt - 100 < (t : Int) ∧ FA X (X.1 67 t) + 1 = km X (X.1 68 t) ∧ (∀ i : Nat, (i : Int) ≤ FA X (X.1 67 t) → FC false X (X.1 67 t) i = cmpK X (X.1 68 t) i) ∧ ((100 ≤ (X.1 67 t).toInt ∧ (X.1 73 t).toInt = (X.1 73 (ix (X.1 67 t) - 100)).toInt + 1) ∨ ((X.1 67 t).toInt < 100 ∧ (X.1 73 t).toInt = 1))
def WRP (X : St) (G : Nat → Int32) (t : Nat) : Prop := VK X (X.1 68 t) ∧ VK X (X.1 69 t) ∧ FIT X (X.1 68 t) (X.1 69 t) ∧ ((0 ≤ (X.1 70 t).toInt ∧ (X.1 70 t).toInt ≤ 40) ∧ 0 ≤ (X.1 71 t).toInt ∧ (X.1 71 t).toInt ≤ 40) ∧ (1 ≤ (X.1 73 t).toInt ∧ (X.1 73 t).toInt ≤ 20) ∧ ¬ X.1 68 t = X.1 69 t ∧ (WR1 X G t ∨ WR2 X t)
def HP (u : Bool) (X : St) (G : Nat → Int32) : Prop := (0 ≤ (X.1 0 33).toInt ∧ (X.1 0 33).toInt ≤ 1000 ∧ 0 ≤ (X.1 0 34).toInt ∧ (X.1 0 34).toInt ≤ 4000) ∧ ∀ t : Nat, (t : Int) < (X.1 0 33).toInt → (¬ wrp X t → RAW u X G t) ∧ (wrp X t → u = false ∧ WRP X G t)
/-- the heap goes on from X to Y -/
def HX (X Y : St) (G G1 : Nat → Int32) : Prop := KX X Y ∧ (X.1 0 33).toInt ≤ (Y.1 0 33).toInt ∧ (∀ t : Nat, (t : Int) < (X.1 0 33).toInt → (Y.1 64 t = X.1 64 t ∧ Y.1 65 t = X.1 65 t ∧ Y.1 66 t = X.1 66 t) ∧ (Y.1 67 t = X.1 67 t ∧ Y.1 68 t = X.1 68 t ∧ Y.1 69 t = X.1 69 t ∧ Y.1 70 t = X.1 70 t ∧ Y.1 71 t = X.1 71 t ∧ Y.1 73 t = X.1 73 t) ∧ G1 t = G t) ∧ (∀ i, Y.1 15 i = X.1 15 i ∧ Y.1 16 i = X.1 16 i ∧ Y.1 17 i = X.1 17 i ∧ Y.1 19 i = X.1 19 i) ∧ Y.1 0 18 = X.1 0 18
theorem HX.rf {X : St} {G : Nat → Int32} : HX X X G G := ⟨KX.rf, Int.le_refl _, fun _ _ => ⟨⟨rfl, rfl, rfl⟩, ⟨rfl, rfl, rfl, rfl, rfl, rfl⟩, rfl⟩, fun _ => ⟨rfl, rfl, rfl, rfl⟩, rfl⟩
theorem HX.tr {X Y Z : St} {G G1 G2 : Nat → Int32} (h : HX X Y G G1) (g : HX Y Z G1 G2) : HX X Z G G2 := by
  obtain ⟨a1, a2, a3, a4, a5⟩ := h
  obtain ⟨b1, b2, b3, b4, b5⟩ := g
  refine ⟨a1.tr b1, Int.le_trans a2 b2, fun t ht => ?_, fun i => ?_, b5.trans a5⟩
  · obtain ⟨⟨c1, c2, c3⟩, ⟨c4, c5, c6, c7, c8, c9⟩, c0⟩ := a3 t ht
    obtain ⟨⟨d1, d2, d3⟩, ⟨d4, d5, d6, d7, d8, d9⟩, d0⟩ := b3 t (by omega)
    exact ⟨⟨d1.trans c1, d2.trans c2, d3.trans c3⟩, ⟨d4.trans c4, d5.trans c5, d6.trans c6, d7.trans c7, d8.trans c8, d9.trans c9⟩, d0.trans c0⟩
  · obtain ⟨c1, c2, c3, c4⟩ := a4 i
    obtain ⟨d1, d2, d3, d4⟩ := b4 i
    exact ⟨d1.trans c1, d2.trans c2, d3.trans c3, d4.trans c4⟩
theorem HX.fr {X Y : St} {L : List Nat} {G : Nat → Int32} (h : Fr YR L X Y) (hK : KX X Y) (hl : 33 ∉ L ∧ 12800 ∉ L ∧ 13000 ∉ L ∧ 13200 ∉ L ∧ 13400 ∉ L ∧ 13600 ∉ L ∧ 13800 ∉ L ∧ 14000 ∉ L ∧ 14200 ∉ L ∧ 14600 ∉ L ∧ 3000 ∉ L ∧ 3200 ∉ L ∧ 3400 ∉ L ∧ 3800 ∉ L ∧ 18 ∉ L) : HX X Y G G := by
  obtain ⟨h33, h64, h65, h66, h67, h68, h69, h70, h71, h73, h15, h16, h17, h19, h18⟩ := hl
  exact ⟨hK, by rw [h.1 0 33 h33]; exact Int.le_refl _, fun t _ => ⟨⟨h.1 64 t h64, h.1 65 t h65, h.1 66 t h66⟩, ⟨h.1 67 t h67, h.1 68 t h68, h.1 69 t h69, h.1 70 t h70, h.1 71 t h71, h.1 73 t h73⟩, rfl⟩, fun i => ⟨h.1 15 i h15, h.1 16 i h16, h.1 17 i h17, h.1 19 i h19⟩, h.1 0 18 h18⟩
theorem VK.so_kx {X Y : St} {k : Int32} (h : VK X k) (hK : KX X Y) : so Y k = so X k ∧ km Y k = km X k := by
  have e := ixc h.1
  obtain ⟨a, b, -⟩ := hK.2.2.1 (ix k) (by have := h.2; omega)
  unfold so km
  rw [a, b]
  exact ⟨rfl, rfl⟩
/-- a row has one kind within, a function as many as it takes and one -/
theorem VK.cases {X : St} {k : Int32} (hT : KT X) (h : VK X k) : (1 ≤ so X k ∧ so X k ≤ 3 ∧ km X k = 0) ∨ (so X k = 4 ∧ km X k = 1) ∨ (so X k = 5 ∧ 1 ≤ km X k ∧ km X k ≤ 5) := by
  have e := ixc h.1
  exact (hT.2.2 (ix k) (by have := h.2; omega)).2.2.2.1
theorem VK.cmp {X : St} {k : Int32} (hT : KT X) (h : VK X k) {i : Nat} (hi : (i : Int) < km X k) : VK X (cmpK X k i) := by
  have h1 := cmpK_lt hT h.1 h.2 hi
  have h2 := h.2
  exact ⟨h1.1, by omega⟩
theorem VK.row {X : St} {k : Int32} (hT : KT X) (h : VK X k) (hs : so X k = 4) : ROWK X k (cmpK X k 0) := by
  have := h.cases hT
  exact ⟨h.1, h.2, hs, by unfold so km at *; omega, rfl⟩
theorem ROWK.vk {X : St} {k e : Int32} (h : ROWK X k e) : VK X k ∧ so X k = 4 ∧ km X k = 1 ∧ cmpK X k 0 = e := ⟨⟨h.1, h.2.1⟩, h.2.2.1, h.2.2.2.1, h.2.2.2.2⟩
theorem FNK.vk {X : St} {k : Int32} {m : Int} (h : FNK X k m) : VK X k ∧ so X k = 5 ∧ km X k = m + 1 := ⟨⟨h.1, h.2.1⟩, h.2.2.1, h.2.2.2⟩
section HEAP
variable {X Y : St} {G G1 : Nat → Int32} {k s w : Int32}
theorem RV.hx (h : RV X w) (hX : HX X Y G G1) : RV Y w := by
  obtain ⟨a, b, c⟩ := h
  have e := ixc a
  obtain ⟨⟨d1, -⟩, ⟨-, -, d6, -⟩, -⟩ := hX.2.2.1 (ix w) (by omega)
  have h33 := hX.2.1
  refine ⟨a, by omega, ?_⟩
  unfold wrp
  rw [d1, d6]
  intro hw
  obtain ⟨p, r⟩ := c hw
  exact ⟨p.kx hX.1, by rw [(p.so_kx hX.1).1]; exact r⟩
theorem FV.hx (h : FV X w) (hX : HX X Y G G1) : FV Y w := by
  have h33 := hX.2.1
  rcases h with h | ⟨a, b, c, d, f⟩
  · exact Or.inl (by rw [hX.2.2.2.2]; exact h)
  · have e := ixc (z := w) (by omega)
    obtain ⟨⟨d1, -⟩, ⟨-, -, d6, -⟩, -⟩ := hX.2.2.1 (ix w - 100) (by omega)
    refine Or.inr ⟨a, by omega, ?_, ?_, ?_⟩
    · unfold wrp
      rw [d1]
      exact c
    · rw [d6]
      exact d.kx hX.1
    · rw [d6, (d.so_kx hX.1).1]
      exact f
theorem EK.hx (h : RV X w) (hT : KT X) (hX : HX X Y G G1) : EK Y G1 w = EK X G w := by
  obtain ⟨a, b, c⟩ := h
  have e := ixc a
  obtain ⟨⟨d1, -⟩, ⟨-, -, d6, -⟩, dg⟩ := hX.2.2.1 (ix w) (by omega)
  unfold EK
  rw [d1, d6, dg]
  by_cases g : (X.1 64 (ix w)).toInt = 0
  · rw [if_pos g, if_pos g]
  · rw [if_neg g, if_neg g]
    obtain ⟨p, r⟩ := c g
    have pc := p.cases hT
    exact cmpK_kx hT hX.1 p.1 p.2 (by unfold km at pc; omega)
theorem FA.hx (h : FV X w) (hX : HX X Y G G1) : FA Y w = FA X w := by
  unfold FA
  rcases h with h | ⟨a, b, c, d, f⟩
  · rw [if_pos h.2.1, if_pos h.2.1, (hX.2.2.2.1 (ix w)).1]
  · have e := ixc (z := w) (by omega)
    obtain ⟨⟨d1, -⟩, ⟨-, -, d6, -⟩, -⟩ := hX.2.2.1 (ix w - 100) (by omega)
    have hw : ¬ w.toInt < 100 := by omega
    rw [if_neg hw, if_neg hw, d6, (d.so_kx hX.1).2]
theorem FC.hx {u : Bool} (h : FV X w) (hT : KT X) (hX : HX X Y G G1) {i : Nat} (hi : (i : Int) ≤ FA X w) : FC u Y w i = FC u X w i := by
  unfold FC
  cases u with
  | true => rfl
  | false =>
    have hf : ¬ (false = true) := by decide
    rw [if_neg hf, if_neg hf]
    unfold FA at hi
    rcases h with h | ⟨a, b, c, d, f⟩
    · obtain ⟨h15, h16, h17, h19⟩ := hX.2.2.2.1 (ix w)
      have hw := h.2.1
      rw [if_pos hw, if_pos hw]
      unfold pkv okv
      rw [h15, h17, h19, (hX.2.2.2.1 (4 * ix w + i)).2.1]
    · have e := ixc (z := w) (by omega)
      obtain ⟨⟨d1, -⟩, ⟨-, -, d6, -⟩, -⟩ := hX.2.2.1 (ix w - 100) (by omega)
      have hw : ¬ w.toInt < 100 := by omega
      rw [if_neg hw] at hi
      rw [if_neg hw, if_neg hw, d6]
      exact cmpK_kx hT hX.1 d.1 d.2 (by unfold km at hi; omega)
theorem VV.base {u : Bool} (h : VV u X G k s w) : (s.toInt = 3 → RV X w) ∧ (s.toInt = 4 → FV X w) := by
  rcases h with ⟨-, -, a, b, -⟩ | ⟨-, a, b, -⟩
  · exact ⟨a, b⟩
  · exact ⟨a, b⟩
theorem VV.hx {u : Bool} (h : VV u X G k s w) (hT : KT X) (hX : HX X Y G G1) : VV u Y G1 k s w := by
  rcases h with ⟨hu, hk, a, b, c⟩ | ⟨hu, a, b, c⟩
  · obtain ⟨k1, k2⟩ := hk.so_kx hX.1
    refine Or.inl ⟨hu, hk.kx hX.1, fun q => (a q).hx hX, fun q => (b q).hx hX, ?_⟩
    rw [k1, k2]
    have kc := hk.cases hT
    rcases c with c | ⟨c1, c2, c3⟩ | ⟨c1, c2, c3⟩ | ⟨c1, c2, c3, c4⟩
    · exact Or.inl c
    · refine Or.inr (Or.inl ⟨c1, fun q => by rw [EK.hx (a q) hT hX]; exact c2 q, fun q i hi => ?_⟩)
      rw [FA.hx (b q) hX] at hi
      rw [FC.hx (b q) hT hX hi]
      exact c3 q i hi
    · refine Or.inr (Or.inr (Or.inl ⟨c1, c2, ?_⟩))
      rw [EK.hx (a c2) hT hX, cmpK_kx hT hX.1 hk.1 hk.2 (show ((0 : Nat) : Int) < km X k by omega)]
      exact c3
    · refine Or.inr (Or.inr (Or.inr ⟨c1, c2, ?_, fun i hi => ?_⟩))
      · rw [FA.hx (b c2) hX]
        exact c3
      · rw [FA.hx (b c2) hX] at hi
        rw [FC.hx (b c2) hT hX hi, cmpK_kx hT hX.1 hk.1 hk.2 (by unfold km at c3; omega)]
        exact c4 i hi
  · refine Or.inr ⟨hu, fun q => (a q).hx hX, fun q => (b q).hx hX, ?_⟩
    rcases c with c | c | ⟨c1, c0, c2⟩ | c
    · exact Or.inl c
    · exact Or.inr (Or.inl c)
    · exact Or.inr (Or.inr (Or.inl ⟨by rw [FA.hx (b c2) hX]; exact c1, by rw [FA.hx (b c2) hX]; exact c0, c2⟩))
    · exact Or.inr (Or.inr (Or.inr c))
theorem WR1.hx {t : Nat} (h : WR1 X G t) (hT : KT X) (hX : HX X Y G G1) (ht : (t : Int) < (X.1 0 33).toInt) (v1 : VK X (X.1 68 t)) (v2 : VK X (X.1 69 t)) : WR1 Y G1 t := by
  obtain ⟨a, b, c, d, f, g⟩ := h
  have v1c := v1.cases hT
  obtain ⟨-, ⟨d7, d8, d9, -, -, d73⟩, -⟩ := hX.2.2.1 t ht
  have ew := ixc c.1
  obtain ⟨⟨e1, -⟩, ⟨-, -, -, -, -, e73⟩, -⟩ := hX.2.2.1 (ix (X.1 67 t)) (by omega)
  unfold WR1 wrp
  rw [d7, d8, d9, d73, e1, e73, (v1.so_kx hX.1).1, (v2.so_kx hX.1).1, EK.hx c hT hX, cmpK_kx hT hX.1 v1.1 v1.2 (show ((0 : Nat) : Int) < km X (X.1 68 t) by omega)]
  exact ⟨a, b, c.hx hX, d, f, g⟩
theorem WR2.hx {t : Nat} (h : WR2 X t) (hT : KT X) (hX : HX X Y G G1) (ht : (t : Int) < (X.1 0 33).toInt) (v1 : VK X (X.1 68 t)) (v2 : VK X (X.1 69 t)) : WR2 Y t := by
  obtain ⟨a, b, c, d, f, g1, g2, g3⟩ := h
  obtain ⟨-, ⟨d7, d8, d9, -, -, d73⟩, -⟩ := hX.2.2.1 t ht
  unfold WR2
  rw [d7, d8, d9, d73, (v1.so_kx hX.1).1, (v2.so_kx hX.1).1, (v1.so_kx hX.1).2, (v2.so_kx hX.1).2, FA.hx d hX]
  refine ⟨a, b, c, d.hx hX, f, g1, fun i hi => ?_, ?_⟩
  · rw [FC.hx d hT hX hi, cmpK_kx hT hX.1 v1.1 v1.2 (by unfold km at g1; omega)]
    exact g2 i hi
  · rcases g3 with ⟨g3, g4⟩ | g3
    · have ew := ixc (z := X.1 67 t) (by omega)
      obtain ⟨-, ⟨-, -, -, -, -, e73⟩, -⟩ := hX.2.2.1 (ix (X.1 67 t) - 100) (by omega)
      rw [e73]
      exact Or.inl ⟨g3, g4⟩
    · exact Or.inr g3
theorem WRP.hx {t : Nat} (h : WRP X G t) (hT : KT X) (hX : HX X Y G G1) (ht : (t : Int) < (X.1 0 33).toInt) : WRP Y G1 t := by
  obtain ⟨a, b, c, d, f, g, i⟩ := h
  obtain ⟨-, ⟨d7, d8, d9, d70, d71, d73⟩, -⟩ := hX.2.2.1 t ht
  have key : WR1 Y G1 t ∨ WR2 Y t := by
    rcases i with i | i
    · exact Or.inl (i.hx hT hX ht a b)
    · exact Or.inr (i.hx hT hX ht a b)
  unfold WRP
  rw [d8, d9, d70, d71, d73]
  exact ⟨a.kx hX.1, b.kx hX.1, c.kx hT hX.1 a b, d, f, g, key⟩
/-- the heap of X as it stands in Y, old things and new -/
theorem HP.hx {u : Bool} (h : HP u X G) (hT : KT X) (hX : HX X Y G G1) (h33 : (Y.1 0 33).toInt ≤ 1000) (h34 : (X.1 0 34).toInt ≤ (Y.1 0 34).toInt ∧ (Y.1 0 34).toInt ≤ 4000) (hc : ∀ c : Nat, (c : Int) < (X.1 0 34).toInt → Y.1 74 c = X.1 74 c ∧ Y.1 75 c = X.1 75 c) (hn : ∀ t : Nat, (X.1 0 33).toInt ≤ (t : Int) → (t : Int) < (Y.1 0 33).toInt → (¬ wrp Y t → RAW u Y G1 t) ∧ (wrp Y t → u = false ∧ WRP Y G1 t)) : HP u Y G1 := by
  obtain ⟨⟨a, b, c, d⟩, f⟩ := h
  have h1 := hX.2.1
  refine ⟨⟨by omega, h33, by omega, h34.2⟩, fun t ht => ?_⟩
  by_cases g : (t : Int) < (X.1 0 33).toInt
  · obtain ⟨f1, f2⟩ := f t g
    obtain ⟨⟨d4, d5, d6⟩, -, dg⟩ := hX.2.2.1 t g
    unfold wrp
    rw [d4]
    refine ⟨fun q => ?_, fun q => ⟨(f2 q).1, (f2 q).2.hx hT hX g⟩⟩
    obtain ⟨p1, p2, p3, p4, pd, p5⟩ := f1 q
    unfold RAW
    rw [d5, d6, dg]
    refine ⟨p1, p2, by omega, p4, fun j hj => ?_, fun c c1 c2 => ?_⟩
    · obtain ⟨⟨j4, j5, j6⟩, -⟩ := hX.2.2.1 j (by omega)
      unfold wrp
      rw [j4, j5, j6]
      exact pd j hj
    obtain ⟨e1, e2⟩ := hc c (by omega)
    rw [e1, e2]
    exact (p5 c c1 c2).hx hT hX
  · exact hn t (by omega) ht
theorem HP.same {u : Bool} (h : HP u X G) (hT : KT X) {L : List Nat} (hF : Fr YR L X Y) (hK : KX X Y) (hl : 33 ∉ L ∧ 12800 ∉ L ∧ 13000 ∉ L ∧ 13200 ∉ L ∧ 13400 ∉ L ∧ 13600 ∉ L ∧ 13800 ∉ L ∧ 14000 ∉ L ∧ 14200 ∉ L ∧ 14600 ∉ L ∧ 3000 ∉ L ∧ 3200 ∉ L ∧ 3400 ∉ L ∧ 3800 ∉ L ∧ 18 ∉ L) (hl2 : 34 ∉ L ∧ 14800 ∉ L ∧ 15000 ∉ L) : HP u Y G := by
  have e33 : Y.1 0 33 = X.1 0 33 := hF.1 0 33 hl.1
  have e34 : Y.1 0 34 = X.1 0 34 := hF.1 0 34 hl2.1
  exact h.hx hT (HX.fr hF hK hl) (by rw [e33]; exact h.1.2.1) (by rw [e34]; exact ⟨Int.le_refl _, h.1.2.2.2⟩) (fun c _ => ⟨hF.1 74 c hl2.2.1, hF.1 75 c hl2.2.2⟩) (fun t t1 t2 => by rw [e33] at t2; omega)
end HEAP
