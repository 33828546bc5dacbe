/-! the heap of a run on both sides -/
/-- the class's long for the thing t; r: the class's number of each thing -/
def tvl (X : St) (r : Nat → Int32) (t : Nat) : Int64 := if (X.1 64 t).toInt = 0 then VLs 3 (r t) else VLs 2 (r t)
/-- the reference's (s, w) is the class's y -/
def VR (X : St) (r : Nat → Int32) (s w : Int32) (y : Int64) : Prop := ((0 ≤ s.toInt ∧ s.toInt ≤ 1 ∧ (s.toInt = 1 → w.toInt = 0 ∨ w.toInt = 1)) ∧ y = VLs s w) ∨ (s.toInt = 3 ∧ (0 ≤ w.toInt ∧ w.toInt < (X.1 0 33).toInt) ∧ y = tvl X r (ix w)) ∨ (s.toInt = 4 ∧ ((0 ≤ w.toInt ∧ w.toInt < 100 ∧ y = VLs 4 w) ∨ (100 ≤ w.toInt ∧ w.toInt - 100 < (X.1 0 33).toInt ∧ wrp X (ix w - 100) ∧ y = VLs 2 (r (ix w - 100)))))
/-- a kind on both sides -/
def KR (X : St) (ks : List (List Int)) (k a : Int32) (d : List Int) : Prop := KTo X k d ∧ KC ks a d
/-- the wrapping t is the class's m -/
def WRr (X Y : St) (r : Nat → Int32) (ks : List (List Int)) (t m : Nat) : Prop := (Y.1 78 m = X.1 70 t ∧ Y.1 79 m = X.1 71 t ∧ Y.1 80 m = X.1 72 t ∧ Y.1 81 m = X.1 73 t) ∧ ((0 ≤ (X.1 70 t).toInt ∧ (X.1 70 t).toInt ≤ 39) ∧ (0 ≤ (X.1 71 t).toInt ∧ (X.1 71 t).toInt ≤ 39) ∧ 1 ≤ (X.1 73 t).toInt ∧ (X.1 73 t).toInt ≤ 20) ∧ ∃ d d1, KR X ks (X.1 68 t) (Y.1 76 m) d ∧ KR X ks (X.1 69 t) (Y.1 77 m) d1 ∧ sot d = sot d1 ∧ ((sot d = 3 ∧ VR X r 3 (X.1 67 t) (Y.2.1 75 m) ∧ (X.1 67 t).toInt < (t : Int)) ∨ (sot d = 4 ∧ tkn d = tkn d1 ∧ VR X r 4 (X.1 67 t) (Y.2.1 75 m) ∧ (X.1 67 t).toInt - 100 < (t : Int)))
def THr (X Y : St) (r : Nat → Int32) (ks : List (List Int)) (t : Nat) : Prop := (¬ wrp X t → (0 ≤ (r t).toInt ∧ (r t).toInt < (X.1 0 35).toInt) ∧ (Y.1 72 (ix (r t)) = X.1 65 t ∧ Y.1 73 (ix (r t)) = X.1 66 t) ∧ 0 ≤ (X.1 65 t).toInt ∧ 0 ≤ (X.1 66 t).toInt ∧ (X.1 65 t).toInt + (X.1 66 t).toInt ≤ (X.1 0 34).toInt) ∧ (wrp X t → (0 ≤ (r t).toInt ∧ (r t).toInt < (X.1 0 36).toInt) ∧ WRr X Y r ks t (ix (r t)))
def HCq (X Y : St) : Prop := (0 ≤ (X.1 0 35).toInt ∧ 0 ≤ (X.1 0 36).toInt ∧ (X.1 0 33).toInt = (X.1 0 35).toInt + (X.1 0 36).toInt ∧ (X.1 0 33).toInt ≤ 1000 ∧ 0 ≤ (X.1 0 34).toInt ∧ (X.1 0 34).toInt ≤ 4000) ∧ Y.1 71 0 = X.1 0 35 ∧ Y.1 71 1 = X.1 0 34 ∧ Y.1 71 2 = X.1 0 36
def HR (X Y : St) (r : Nat → Int32) (ks : List (List Int)) : Prop := HCq X Y ∧ (∀ t : Nat, (t : Int) < (X.1 0 33).toInt → THr X Y r ks t) ∧ ∀ c : Nat, (c : Int) < (X.1 0 34).toInt → VR X r (X.1 74 c) (X.1 75 c) (Y.2.1 74 c)
/-- things go on -/
def HG (X X1 : St) (r r1 : Nat → Int32) : Prop := (X.1 0 33).toInt ≤ (X1.1 0 33).toInt ∧ ∀ t : Nat, (t : Int) < (X.1 0 33).toInt → X1.1 64 t = X.1 64 t ∧ r1 t = r t
/-- the heap's cells stay -/
def HXc (X X1 : St) : Prop := (∀ k, 33 ≤ k ∧ k ≤ 36 → X1.1 0 k = X.1 0 k) ∧ ∀ e k, 64 ≤ e ∧ e ≤ 75 → X1.1 e k = X.1 e k
def HYc (Y Y1 : St) : Prop := (∀ e k, 71 ≤ e ∧ e ≤ 81 → Y1.1 e k = Y.1 e k) ∧ ∀ e k, e = 74 ∨ e = 75 → Y1.2.1 e k = Y.2.1 e k
section HRS
variable {X Y Z X1 Y1 X2 Y2 : St} {r r1 r2 : Nat → Int32} {s w k a : Int32} {y : Int64} {ks : List (List Int)} {d d1 : List Int} {t m n : Nat}
theorem HG.rf : HG X X r r := ⟨Int.le_refl _, fun _ _ => ⟨rfl, rfl⟩⟩
theorem HG.tr (h : HG X X1 r r1) (g : HG X1 X2 r1 r2) : HG X X2 r r2 := ⟨Int.le_trans h.1 g.1, fun t ht => by
  obtain ⟨a1, a2⟩ := h.2 t ht
  obtain ⟨b1, b2⟩ := g.2 t (by have := h.1; omega)
  exact ⟨b1.trans a1, b2.trans a2⟩⟩
theorem HG.of (h : HXc X X1) : HG X X1 r r := ⟨by rw [h.1 33 (by omega)]; exact Int.le_refl _, fun t _ => ⟨h.2 64 t (by omega), rfl⟩⟩
theorem tvl_up {t : Nat} (ht : (t : Int) < (X.1 0 33).toInt) (g : HG X X1 r r1) : tvl X1 r1 t = tvl X r t := by
  obtain ⟨a1, a2⟩ := g.2 t ht
  unfold tvl
  rw [a1, a2]
theorem VR.up (h : VR X r s w y) (g : HG X X1 r r1) : VR X1 r1 s w y := by
  have g1 := g.1
  rcases h with h | ⟨h1, ⟨h2, h3⟩, h4⟩ | ⟨h1, h2 | ⟨h2, h3, h4, h5⟩⟩
  · exact Or.inl h
  · refine Or.inr (Or.inl ⟨h1, ⟨h2, by omega⟩, ?_⟩)
    rw [tvl_up (by have := ixc h2; omega) g]
    exact h4
  · exact Or.inr (Or.inr ⟨h1, Or.inl h2⟩)
  · have q := ixc (z := w) (by omega)
    obtain ⟨a1, a2⟩ := g.2 (ix w - 100) (by omega)
    refine Or.inr (Or.inr ⟨h1, Or.inr ⟨h2, by omega, ?_, by rw [a2]; exact h5⟩⟩)
    unfold wrp
    rw [a1]
    exact h4
theorem KR.kx (h : KR X ks k a d) (hJ : KJq X) (g : KXq X X1) : KR X1 ks k a d := ⟨h.1.kx hJ g, h.2⟩
theorem WRr.up (h : WRr X Y r ks t m) (hJ : KJq X) (g : KXq X X1) (hg : HG X X1 r r1) (hx : ∀ e, 67 ≤ e ∧ e ≤ 73 → X1.1 e t = X.1 e t) (hy : ∀ e, 76 ≤ e ∧ e ≤ 81 → Y1.1 e m = Y.1 e m) (h75 : Y1.2.1 75 m = Y.2.1 75 m) : WRr X1 Y1 r1 ks t m := by
  obtain ⟨⟨a1, a2, a3, a4⟩, b, d, d1, c1, c2, c3, c4⟩ := h
  unfold WRr
  rw [hx 67 (by omega), hx 68 (by omega), hx 69 (by omega), hx 70 (by omega), hx 71 (by omega), hx 72 (by omega), hx 73 (by omega), hy 76 (by omega), hy 77 (by omega), hy 78 (by omega), hy 79 (by omega), hy 80 (by omega), hy 81 (by omega), h75]
  refine ⟨⟨a1, a2, a3, a4⟩, b, d, d1, c1.kx hJ g, c2.kx hJ g, c3, ?_⟩
  rcases c4 with ⟨q1, q2, q3⟩ | ⟨q1, q0, q2, q3⟩
  · exact Or.inl ⟨q1, q2.up hg, q3⟩
  · exact Or.inr ⟨q1, q0, q2.up hg, q3⟩
/-- other cells than the heap's have changed -/
theorem HR.cg (h : HR X Y r ks) (hJ : KJq X) (g : KXq X X1) (hx : HXc X X1) (hy : HYc Y Y1) : HR X1 Y1 r ks := by
  obtain ⟨⟨a1, a2, a3, a4⟩, b, c⟩ := h
  obtain ⟨x1, x2⟩ := hx
  obtain ⟨y1, y2⟩ := hy
  have hg : HG X X1 r r := HG.of ⟨x1, x2⟩
  refine ⟨?_, fun t ht => ?_, fun i hi => ?_⟩
  · unfold HCq
    rw [x1 33 (by omega), x1 34 (by omega), x1 35 (by omega), x1 36 (by omega), y1 71 0 (by omega), y1 71 1 (by omega), y1 71 2 (by omega)]
    exact ⟨a1, a2, a3, a4⟩
  · rw [x1 33 (by omega)] at ht
    obtain ⟨p, q⟩ := b t ht
    unfold THr wrp
    rw [x1 34 (by omega), x1 35 (by omega), x1 36 (by omega), x2 64 t (by omega), x2 65 t (by omega), x2 66 t (by omega), y1 72 _ (by omega), y1 73 _ (by omega)]
    exact ⟨p, fun z => ⟨(q z).1, (q z).2.up hJ g hg (fun e he => x2 e t (by omega)) (fun e he => y1 e _ (by omega)) (y2 75 _ (by omega))⟩⟩
  · rw [x1 34 (by omega)] at hi
    rw [x2 74 i (by omega), x2 75 i (by omega), y2 74 i (by omega)]
    exact (c i hi).up hg
/-- one wrapping more -/
theorem HR.wrap (h : HR X Y r ks) (hJ : KJq X) (g : KXq X X1) (hn : (n : Int) = (X.1 0 33).toInt) (hn1 : n < 1000) (hx0 : (X1.1 0 33).toInt = (X.1 0 33).toInt + 1 ∧ X1.1 0 34 = X.1 0 34 ∧ X1.1 0 35 = X.1 0 35 ∧ (X1.1 0 36).toInt = (X.1 0 36).toInt + 1) (hx1 : ∀ e k, 64 ≤ e ∧ e ≤ 73 → ¬ k = n → X1.1 e k = X.1 e k) (hx2 : ∀ k, X1.1 74 k = X.1 74 k ∧ X1.1 75 k = X.1 75 k) (hw : wrp X1 n) (hy0 : Y1.1 71 0 = Y.1 71 0 ∧ Y1.1 71 1 = Y.1 71 1 ∧ Y1.1 71 2 = X1.1 0 36) (hy1 : ∀ e k, 72 ≤ e ∧ e ≤ 81 → ¬ k = ix (X.1 0 36) → Y1.1 e k = Y.1 e k) (hy2 : ∀ k, Y1.1 72 k = Y.1 72 k ∧ Y1.1 73 k = Y.1 73 k) (hy3 : ∀ k, Y1.2.1 74 k = Y.2.1 74 k) (hy4 : ∀ k, ¬ k = ix (X.1 0 36) → Y1.2.1 75 k = Y.2.1 75 k) (hN : WRr X1 Y1 (fun t => if t = n then X.1 0 36 else r t) ks n (ix (X.1 0 36))) : HR X1 Y1 (fun t => if t = n then X.1 0 36 else r t) ks ∧ HG X X1 r (fun t => if t = n then X.1 0 36 else r t) := by
  obtain ⟨⟨⟨a1, a2, a3, a4, a5, a6⟩, a7, a8, a9⟩, b, c⟩ := h
  have hg : HG X X1 r (fun t => if t = n then X.1 0 36 else r t) := ⟨by omega, fun t ht => ⟨hx1 64 t (by omega) (by omega), if_neg (by omega)⟩⟩
  refine ⟨⟨⟨⟨by rw [hx0.2.2.1]; exact a1, by omega, by rw [hx0.2.2.1]; omega, by omega, by rw [hx0.2.1]; exact a5, by rw [hx0.2.1]; exact a6⟩, by rw [hy0.1, hx0.2.2.1]; exact a7, by rw [hy0.2.1, hx0.2.1]; exact a8, hy0.2.2⟩, fun t ht => ?_, fun i hi => ?_⟩, hg⟩
  · by_cases e : t = n
    · rw [e]
      refine ⟨fun z => absurd hw z, fun _ => ?_⟩
      show (0 ≤ (if n = n then X.1 0 36 else r n).toInt ∧ (if n = n then X.1 0 36 else r n).toInt < _) ∧ WRr X1 Y1 _ ks n (ix (if n = n then X.1 0 36 else r n))
      rw [if_pos rfl]
      exact ⟨by omega, hN⟩
    · obtain ⟨p, q⟩ := b t (by omega)
      unfold THr wrp
      show (_ → (0 ≤ (if t = n then X.1 0 36 else r t).toInt ∧ (if t = n then X.1 0 36 else r t).toInt < _) ∧ (Y1.1 72 (ix (if t = n then X.1 0 36 else r t)) = _ ∧ Y1.1 73 (ix (if t = n then X.1 0 36 else r t)) = _) ∧ _) ∧ (_ → (0 ≤ (if t = n then X.1 0 36 else r t).toInt ∧ (if t = n then X.1 0 36 else r t).toInt < _) ∧ WRr X1 Y1 _ ks t (ix (if t = n then X.1 0 36 else r t)))
      rw [if_neg e, hx1 64 t (by omega) e, hx1 65 t (by omega) e, hx1 66 t (by omega) e, hx0.2.1, hx0.2.2.1, (hy2 _).1, (hy2 _).2]
      refine ⟨p, fun z => ?_⟩
      obtain ⟨q1, q2⟩ := q z
      have hm : ¬ ix (r t) = ix (X.1 0 36) := by
        have e1 := ixc q1.1
        have e2 := ixc a2
        omega
      exact ⟨⟨q1.1, by omega⟩, q2.up hJ g hg (fun e he => hx1 e t (by omega) (by omega)) (fun e he => hy1 e _ (by omega) hm) (hy4 _ hm)⟩
  · rw [hx0.2.1] at hi
    rw [(hx2 i).1, (hx2 i).2, hy3]
    exact (c i hi).up hg
end HRS
