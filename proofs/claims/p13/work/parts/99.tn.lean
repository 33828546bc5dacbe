/-! the small steps of a run -/
theorem r_ends {p at1 : Int32} {X : St} : ok (f_ends p at1 X) (fun _ Y => Fr YR [43, 44] X Y ∧ (0 ≤ p.toInt → 0 ≤ (Y.1 0 43).toInt) ∧ (0 ≤ (X.1 0 43).toInt → 0 ≤ (Y.1 0 43).toInt)) := by
  unfold f_ends
  refine ok.letE (v1 := X.1 0 43) rfl ?_
  refine ok.ite (fun c => ok.ret ⟨Fr.rf, fun _ => c, fun h => h⟩) (fun c => ?_)
  refine ok.letV (ok.letV (ok.ret ⟨?_, fun h => ?_, fun h => absurd h c⟩))
  · exact (Fr.rf.wI 0 43 _ (show (43 : Nat) ∈ [43, 44] from by decide)).wI 0 44 _ (show (44 : Nat) ∈ [43, 44] from by decide)
  · rw [wI_ne _ 0 _ _ 0 _ (by decide), wI_at]
    exact h
theorem r_isOn {X : St} : ok (f_isOn X) (fun r Y => X = Y ∧ ((r.toInt = 1 ∧ (X.1 0 43).toInt < 0) ∨ (r.toInt = 0 ∧ 0 ≤ (X.1 0 43).toInt))) := by
  unfold f_isOn
  refine ok.letE (v1 := X.1 0 43) rfl ?_
  exact ok.ite (fun c => ok.ret ⟨rfl, Or.inr ⟨rfl, c⟩⟩) (fun c => ok.ret ⟨rfl, Or.inl ⟨rfl, by omega⟩⟩)
theorem r_deep {u : Bool} {X : St} {G : Nat → Int32} {s w : Int32} (hH : HP u X G) (h3 : s.toInt = 3 → RV X w) (h4 : s.toInt = 4 → FV X w) : ok (f_deep s w X) (fun r Y => X = Y ∧ (0 ≤ r.toInt ∧ r.toInt ≤ 20) ∧ (s.toInt = 3 → (wrp X (ix w) ∧ r = X.1 73 (ix w)) ∨ (¬ wrp X (ix w) ∧ r = 0)) ∧ (s.toInt = 4 → (100 ≤ w.toInt ∧ r = X.1 73 (ix w - 100)) ∨ (w.toInt < 100 ∧ r = 0))) := by
  have z0 : (0 : Int32).toInt = 0 := rfl
  unfold f_deep
  refine ok.ite (fun c => ?_) (fun c => ?_)
  · obtain ⟨a, b, d⟩ := h3 c
    have h33 := hH.1.2.1
    have e := ixc a
    refine ok.ck (show 0 ≤ w.toInt ∧ w.toInt < ((1000 : Nat) : Int) by omega) (ok.letV ?_)
    refine ok.ite (fun c1 => ok.ret ⟨rfl, by rw [z0]; omega, fun _ => Or.inr ⟨fun q => q c1, rfl⟩, fun q => by omega⟩) (fun c1 => ?_)
    refine ok.ck (show 0 ≤ w.toInt ∧ w.toInt < ((1000 : Nat) : Int) by omega) (ok.letV (ok.ret ⟨rfl, ?_, fun _ => Or.inl ⟨c1, rfl⟩, fun q => by omega⟩))
    obtain ⟨-, -, -, -, -, p, -⟩ := ((hH.2 (ix w) (by omega)).2 c1)
    omega
  · refine ok.ite (fun c1 => ?_) (fun c1 => ok.ret ⟨rfl, by rw [z0]; omega, fun q => by omega, fun q => by omega⟩)
    refine ok.ite (fun c2 => ok.ret ⟨rfl, by rw [z0]; omega, fun q => by omega, fun _ => Or.inr ⟨c2, rfl⟩⟩) (fun c2 => ?_)
    rcases h4 c1 with p | ⟨p1, p2, p3, p4, p5⟩
    · omega
    · have z1 : (100 : Int32).toInt = 100 := rfl
      have h33 := hH.1.2.1
      refine ok.sub (by rw [z1]; omega) (fun x hx => ?_)
      rw [z1] at hx
      have e := ixc (z := w) (by omega)
      have ex := ixc (z := x) (by omega)
      refine ok.ck (show 0 ≤ x.toInt ∧ x.toInt < ((1000 : Nat) : Int) by omega) (ok.letV (ok.ret ⟨rfl, ?_, fun q => by omega, fun _ => Or.inl ⟨by omega, by rw [show ix x = ix w - 100 by omega]⟩⟩))
      obtain ⟨-, -, -, -, -, p, -⟩ := ((hH.2 (ix w - 100) (by omega)).2 p3)
      rw [show ix x = ix w - 100 by omega]
      omega
/-- the way from the row w inwards: f 0 .. f d -/
def CHN (X : St) (f : Nat → Int32) (d : Nat) : Prop := (∀ i, i ≤ d → RV X (f i)) ∧ (∀ i, i < d → wrp X (ix (f i)) ∧ f (i + 1) = X.1 67 (ix (f i))) ∧ ¬ wrp X (ix (f d))
theorem r_chain {u : Bool} {X : St} {G : Nat → Int32} (hH : HP u X G) : ∀ (n : Nat) (w : Int32), w.toInt < (n : Int) → RV X w → ∃ f d, f 0 = w ∧ CHN X f d ∧ ((wrp X (ix w) → (d : Int) = (X.1 73 (ix w)).toInt) ∧ d ≤ 20) := by
  intro n
  induction n with
  | zero =>
    intro w hw h
    have := h.1
    omega
  | succ n ih =>
    intro w hw h
    have e := ixc h.1
    have h2 := h.2.1
    by_cases g : wrp X (ix w)
    · obtain ⟨-, p1, p2, p3, p4, p5, p6, p7⟩ := (hH.2 (ix w) (by omega)).2 g
      rcases p7 with ⟨r1, r2, r3, r4, r5, r6⟩ | ⟨r1, r2, -⟩
      · obtain ⟨f, d, f0, ⟨f1, f2, f3⟩, f4, f5⟩ := ih (X.1 67 (ix w)) (by omega) r3
        obtain ⟨f', g1, g2⟩ : ∃ f' : Nat → Int32, f' 0 = w ∧ ∀ i, f' (i + 1) = f i := ⟨fun i => if i = 0 then w else f (i - 1), if_pos rfl, fun i => if_neg (by omega)⟩
        refine ⟨f', d + 1, g1, ⟨fun i hi => ?_, fun i hi => ?_, by rw [g2]; exact f3⟩, fun _ => ?_, ?_⟩
        · rcases i with _ | i
          · rw [g1]; exact h
          · rw [g2]; exact f1 i (by omega)
        · rcases i with _ | i
          · rw [g1, g2, f0]
            exact ⟨g, rfl⟩
          · rw [g2, g2]
            exact f2 i (by omega)
        · rcases r6 with ⟨r6, r7⟩ | ⟨r6, r7⟩
          · have := f4 r6
            omega
          · have : d = 0 := by
              rcases d with _ | d
              · rfl
              · have := (f2 0 (by omega)).1
                rw [f0] at this
                exact absurd this r6
            omega
        · rcases r6 with ⟨r6, r7⟩ | ⟨r6, r7⟩
          · have := f4 r6
            omega
          · have : d = 0 := by
              rcases d with _ | d
              · rfl
              · have := (f2 0 (by omega)).1
                rw [f0] at this
                exact absurd this r6
            omega
      · have := (h.2.2 g).2
        omega
    · exact ⟨fun _ => w, 0, rfl, ⟨fun _ _ => h, fun i hi => absurd hi (Nat.not_lt_zero _), g⟩, fun q => absurd q g, by omega⟩
theorem r_within3 {X : St} (h33 : (X.1 0 33).toInt ≤ 1000) {s : Int32} (hs : s.toInt = 3) : ∀ (d N : Nat) (f : Nat → Int32), CHN X f d → d < N → ok (f_within_2 N s (f 0) X) (fun r Y => X = Y ∧ r = f d) := by
  intro d
  induction d with
  | zero =>
    intro N f hc hN
    obtain ⟨N, rfl⟩ : ∃ k, N = k + 1 := ⟨N - 1, by omega⟩
    obtain ⟨c1, c2, c3⟩ := hc
    obtain ⟨a, b, -⟩ := c1 0 (Nat.le_refl _)
    unfold f_within_2
    rw [lp_succ]
    unfold f_within_2_s
    refine ok.ite (fun _ => ?_) (fun c => absurd hs c)
    refine ok.ck (show 0 ≤ (f 0).toInt ∧ (f 0).toInt < ((1000 : Nat) : Int) by omega) (ok.letV ?_)
    refine ok.ite (fun c => ?_) (fun c => absurd c c3)
    unfold f_within_16
    exact ok.ite (fun c => by omega) (fun _ => ok.ret ⟨rfl, rfl⟩)
  | succ d ih =>
    intro N f hc hN
    obtain ⟨N, rfl⟩ : ∃ k, N = k + 1 := ⟨N - 1, by omega⟩
    obtain ⟨c1, c2, c3⟩ := hc
    obtain ⟨a, b, -⟩ := c1 0 (by omega)
    obtain ⟨e1, e2⟩ := c2 0 (by omega)
    have key := ih N (fun i => f (i + 1)) ⟨fun i hi => c1 (i + 1) (by omega), fun i hi => c2 (i + 1) (by omega), c3⟩ (by omega)
    unfold f_within_2 at key ⊢
    rw [lp_succ]
    unfold f_within_2_s
    refine ok.ite (fun _ => ?_) (fun c => absurd hs c)
    refine ok.ck (show 0 ≤ (f 0).toInt ∧ (f 0).toInt < ((1000 : Nat) : Int) by omega) (ok.letV ?_)
    refine ok.ite (fun c => absurd c e1) (fun _ => ?_)
    unfold f_within_27
    refine ok.ite (fun _ => ?_) (fun c => absurd hs c)
    unfold f_within_44
    refine ok.ck (show 0 ≤ (f 0).toInt ∧ (f 0).toInt < ((1000 : Nat) : Int) by omega) (ok.letE (v1 := f 1) e2.symm ?_)
    exact key
theorem r_within4 {u : Bool} {X : St} {G : Nat → Int32} (hH : HP u X G) {s : Int32} (hs : s.toInt = 4) : ∀ (n N : Nat) (w : Int32), w.toInt < (n : Int) + 100 → n < N → FV X w → ok (f_within_2 N s w X) (fun r Y => X = Y ∧ 0 ≤ r.toInt ∧ r.toInt < 100 ∧ r.toInt < (X.1 0 18).toInt ∧ (X.1 15 (ix r)).toInt = FA X w) := by
  have z1 : (100 : Int32).toInt = 100 := rfl
  have h33 := hH.1.2.1
  intro n
  induction n with
  | zero =>
    intro N w hw hN h
    obtain ⟨N, rfl⟩ : ∃ k, N = k + 1 := ⟨N - 1, by omega⟩
    rcases h with h | h
    · unfold f_within_2
      rw [lp_succ]
      unfold f_within_2_s
      refine ok.ite (fun c => by omega) (fun _ => ?_)
      unfold f_within_16
      refine ok.ite (fun _ => ?_) (fun c => absurd hs c)
      refine ok.ite (fun c => ok.ret ⟨rfl, h.1, h.2.1, h.2.2, ?_⟩) (fun c => by omega)
      unfold FA
      rw [if_pos c]
    · have := h.1
      omega
  | succ n ih =>
    intro N w hw hN h
    obtain ⟨N, rfl⟩ : ∃ k, N = k + 1 := ⟨N - 1, by omega⟩
    have h' := h
    rcases h with h | ⟨p1, p2, p3, p4, p5⟩
    · unfold f_within_2
      rw [lp_succ]
      unfold f_within_2_s
      refine ok.ite (fun c => by omega) (fun _ => ?_)
      unfold f_within_16
      refine ok.ite (fun _ => ?_) (fun c => absurd hs c)
      refine ok.ite (fun c => ok.ret ⟨rfl, h.1, h.2.1, h.2.2, ?_⟩) (fun c => by omega)
      unfold FA
      rw [if_pos c]
    · have e := ixc (z := w) (by omega)
      obtain ⟨-, -, -, -, -, -, -, r⟩ := (hH.2 (ix w - 100) (by omega)).2 p3
      rcases r with ⟨-, r, -⟩ | ⟨r1, r2, r3, r4, r5, r6, r7, r8⟩
      · unfold so at r p5
        omega
      · have key := ih N (X.1 67 (ix w - 100)) (by omega) (by omega) r4
        unfold f_within_2 at key ⊢
        rw [lp_succ]
        unfold f_within_2_s
        refine ok.ite (fun c => by omega) (fun _ => ?_)
        unfold f_within_16
        refine ok.ite (fun _ => ?_) (fun c => absurd hs c)
        refine ok.ite (fun c => by omega) (fun c => ?_)
        unfold f_within_27
        refine ok.ite (fun c => by omega) (fun _ => ?_)
        refine ok.sub (by rw [z1]; omega) (fun x hx => ?_)
        rw [z1] at hx
        have ex := ixc (z := x) (by omega)
        unfold f_within_44
        refine ok.ck (show 0 ≤ x.toInt ∧ x.toInt < ((1000 : Nat) : Int) by omega) (ok.letE (v1 := X.1 67 (ix w - 100)) (by rw [show ix x = ix w - 100 by omega]) ?_)
        refine key.mono ?_
        rintro r Y ⟨k1, k2, k3, k4, k5⟩
        refine ⟨k1, k2, k3, k4, ?_⟩
        rw [k5]
        have : FA X w = km X (X.1 69 (ix w - 100)) - 1 := by
          unfold FA
          rw [if_neg (by omega)]
        rw [this]
        omega
theorem r_isOfSort {X : St} {G : Nat → Int32} {cell y : Int32} (hH : HP false X G) (hT : KT X) (h13 : (X.1 0 13).toInt ≤ 6000) (hP : (X.1 0 18).toInt ≤ 40) (hc : 0 ≤ cell.toInt ∧ cell.toInt < 20400) (hy : VK X y) (hv : (X.1 60 (ix cell)).toInt = 4 → FV X (X.1 61 (ix cell))) : ok (f_isOfSort cell y X) (fun r Y => X = Y ∧ (r.toInt = 0 ∨ (so X y = 1 ∧ (X.1 60 (ix cell)).toInt = 0) ∨ (so X y = 2 ∧ (X.1 60 (ix cell)).toInt = 1) ∨ (so X y = 4 ∧ (X.1 60 (ix cell)).toInt = 3) ∨ ((so X y = 3 ∨ so X y = 5) ∧ (X.1 60 (ix cell)).toInt = 4 ∧ FA X (X.1 61 (ix cell)) + 1 = km X y))) := by
  have z0 : (0 : Int32).toInt = 0 := rfl
  have z1 : (1 : Int32).toInt = 1 := rfl
  have ey := ixc hy.1
  have hy2 := hy.2
  have hcs := hy.cases hT
  have hcl : 0 ≤ cell.toInt ∧ cell.toInt < ((20400 : Nat) : Int) := by omega
  have hyl : 0 ≤ y.toInt ∧ y.toInt < ((6000 : Nat) : Int) := by omega
  unfold f_isOfSort
  refine ok.ck hcl (ok.letV ?_)
  refine ok.ck hyl (ok.letV ?_)
  refine ok.ite (fun c => ?_) (fun c => ?_)
  · exact ok.ite (fun d => ok.ret ⟨rfl, Or.inr (Or.inl ⟨c, d⟩)⟩) (fun d => ok.ret ⟨rfl, Or.inl rfl⟩)
  · refine ok.ite (fun c2 => ?_) (fun c2 => ?_)
    · exact ok.ite (fun d => ok.ret ⟨rfl, Or.inr (Or.inr (Or.inl ⟨c2, d⟩))⟩) (fun d => ok.ret ⟨rfl, Or.inl rfl⟩)
    · refine ok.ite (fun c3 => ?_) (fun c3 => ?_)
      · exact ok.ite (fun d => ok.ret ⟨rfl, Or.inr (Or.inr (Or.inr (Or.inl ⟨c3, d⟩)))⟩) (fun d => ok.ret ⟨rfl, Or.inl rfl⟩)
      · refine ok.ite (fun d => ?_) (fun d => ok.ret ⟨rfl, Or.inl rfl⟩)
        refine ok.ck hcl (ok.letV ?_)
        have hf := hv d
        have hw2 : (X.1 61 (ix cell)).toInt < ((1000 : Nat) : Int) + 100 := by
          have h33 := hH.1.2.1
          rcases hf with q | q <;> omega
        unfold f_within
        refine ok.bd (r_within4 hH rfl 1000 BIG _ hw2 (by decide) hf) ?_
        rintro r Y ⟨rfl, k1, k2, k3, k4⟩
        have hs : so X y = 3 ∨ so X y = 5 := by
          unfold so at *
          omega
        refine ok.ck (show 0 ≤ r.toInt ∧ r.toInt < ((41 : Nat) : Int) by omega) (ok.letV (ok.ck hyl (ok.letV ?_)))
        have hkm : 0 ≤ km X y ∧ km X y ≤ 5 := by omega
        have hkm2 : km X y = (X.1 5 (ix y)).toInt := rfl
        refine ok.sub (by rw [z1]; omega) (fun x hx => ?_)
        rw [z1] at hx
        refine ok.ite (fun f => ok.ret ⟨rfl, Or.inr (Or.inr (Or.inr (Or.inr ⟨hs, d, by omega⟩)))⟩) (fun f => ok.ret ⟨rfl, Or.inl rfl⟩)
/-- a thing that is wrapped about the value in a cell -/
def NEWW (X Y : St) (cell k k1 g t d : Int32) : Prop := Fr YR [33, 36, 12200, 12800, 13400, 13600, 13800, 14000, 14200, 14400, 14600] X Y ∧ (Y.1 0 33).toInt = (X.1 0 33).toInt + 1 ∧ (∀ j, j ≠ ix (X.1 0 33) → (Y.1 64 j = X.1 64 j ∧ Y.1 67 j = X.1 67 j ∧ Y.1 68 j = X.1 68 j) ∧ Y.1 69 j = X.1 69 j ∧ Y.1 70 j = X.1 70 j ∧ Y.1 71 j = X.1 71 j ∧ Y.1 73 j = X.1 73 j) ∧ (wrp Y (ix (X.1 0 33)) ∧ Y.1 67 (ix (X.1 0 33)) = X.1 61 (ix cell) ∧ Y.1 68 (ix (X.1 0 33)) = k ∧ Y.1 69 (ix (X.1 0 33)) = k1 ∧ Y.1 70 (ix (X.1 0 33)) = g ∧ Y.1 71 (ix (X.1 0 33)) = t ∧ (Y.1 73 (ix (X.1 0 33))).toInt = d.toInt + 1) ∧ (((X.1 60 (ix cell)).toInt = 3 ∧ (Y.1 61 (ix cell)).toInt = (X.1 0 33).toInt) ∨ (¬ (X.1 60 (ix cell)).toInt = 3 ∧ (Y.1 61 (ix cell)).toInt = 100 + (X.1 0 33).toInt)) ∧ ∀ j, j ≠ ix cell → Y.1 61 j = X.1 61 j
set_option maxHeartbeats 4000000 in
theorem r_wraps {X : St} {G : Nat → Int32} {p1 p2 p3 p4 p5 p6 : Int32} (hH : HP false X G) (hc : 0 ≤ p1.toInt ∧ p1.toInt < 20400) (h3 : (X.1 60 (ix p1)).toInt = 3 → RV X (X.1 61 (ix p1))) (h4 : (X.1 60 (ix p1)).toInt = 4 → FV X (X.1 61 (ix p1))) : ok (f_wraps p1 p2 p3 p4 p5 p6 X) (fun _ Y => Fr YR [33, 36, 43, 44, 12200, 12800, 13400, 13600, 13800, 14000, 14200, 14400, 14600] X Y ∧ (0 ≤ (Y.1 0 43).toInt ∨ ((X.1 0 33).toInt < 1000 ∧ ∃ d : Int32, (0 ≤ d.toInt ∧ d.toInt < 20) ∧ ((X.1 60 (ix p1)).toInt = 3 → (wrp X (ix (X.1 61 (ix p1))) ∧ d = X.1 73 (ix (X.1 61 (ix p1)))) ∨ (¬ wrp X (ix (X.1 61 (ix p1))) ∧ d = 0)) ∧ ((X.1 60 (ix p1)).toInt = 4 → (100 ≤ (X.1 61 (ix p1)).toInt ∧ d = X.1 73 (ix (X.1 61 (ix p1)) - 100)) ∨ ((X.1 61 (ix p1)).toInt < 100 ∧ d = 0)) ∧ NEWW X Y p1 p2 p3 p4 p5 d))) := by
  have h33 := hH.1
  have z100 : (100 : Int32).toInt = 100 := rfl
  unfold f_wraps
  refine ok.ck (show 0 ≤ p1.toInt ∧ p1.toInt < ((20400 : Nat) : Int) from by omega) ?_
  refine ok.letE (v1 := (X.1 60 (ix p1))) rfl ?_
  refine ok.ck (show 0 ≤ p1.toInt ∧ p1.toInt < ((20400 : Nat) : Int) from by omega) ?_
  refine ok.letE (v1 := (X.1 61 (ix p1))) rfl ?_
  refine ok.bd (r_deep (s := (X.1 60 (ix p1))) (w := (X.1 61 (ix p1))) hH h3 h4) ?_
  rintro x3 X_ ⟨rfl, hd1, hd2, hd3⟩
  refine ok.letE (v1 := (X.1 0 33)) rfl ?_
  refine ok.ite (fun c1 => ?_) (fun c1 => ?_)
  · skip
    unfold f_wraps_39
    refine ok.bd r_ends ?_
    rintro r_2 E3 ⟨hFh4, hh4, -⟩
    exact ok.ret ⟨(Fr.rf.tr hFh4 (by decide)), Or.inl (hh4 (by decide))⟩
  · skip
    refine ok.ite (fun c5 => ?_) (fun c5 => ?_)
    · skip
      unfold f_wraps_39
      refine ok.bd r_ends ?_
      rintro r_6 E7 ⟨hFh8, hh8, -⟩
      exact ok.ret ⟨(Fr.rf.tr hFh8 (by decide)), Or.inl (hh8 (by decide))⟩
    · skip
      refine ok.letE (v1 := (X.1 0 33)) rfl ?_
      refine ok.ck (show 0 ≤ (X.1 0 33).toInt ∧ (X.1 0 33).toInt < ((1000 : Nat) : Int) from by omega) ?_
      refine ok.letV ?_
      refine ok.letE (v1 := (X.1 0 33)) rfl ?_
      refine ok.ck (show 0 ≤ p1.toInt ∧ p1.toInt < ((20400 : Nat) : Int) from by omega) ?_
      refine ok.letE (v1 := (X.1 61 (ix p1))) rfl ?_
      refine ok.ck (show 0 ≤ (X.1 0 33).toInt ∧ (X.1 0 33).toInt < ((1000 : Nat) : Int) from by omega) ?_
      refine ok.letV ?_
      refine ok.letE (v1 := (X.1 0 33)) rfl ?_
      refine ok.ck (show 0 ≤ (X.1 0 33).toInt ∧ (X.1 0 33).toInt < ((1000 : Nat) : Int) from by omega) ?_
      refine ok.letV ?_
      refine ok.letE (v1 := (X.1 0 33)) rfl ?_
      refine ok.ck (show 0 ≤ (X.1 0 33).toInt ∧ (X.1 0 33).toInt < ((1000 : Nat) : Int) from by omega) ?_
      refine ok.letV ?_
      refine ok.letE (v1 := (X.1 0 33)) rfl ?_
      refine ok.ck (show 0 ≤ (X.1 0 33).toInt ∧ (X.1 0 33).toInt < ((1000 : Nat) : Int) from by omega) ?_
      refine ok.letV ?_
      refine ok.letE (v1 := (X.1 0 33)) rfl ?_
      refine ok.ck (show 0 ≤ (X.1 0 33).toInt ∧ (X.1 0 33).toInt < ((1000 : Nat) : Int) from by omega) ?_
      refine ok.letV ?_
      refine ok.letE (v1 := (X.1 0 33)) rfl ?_
      refine ok.ck (show 0 ≤ (X.1 0 33).toInt ∧ (X.1 0 33).toInt < ((1000 : Nat) : Int) from by omega) ?_
      refine ok.letV ?_
      refine ok.letE (v1 := (X.1 0 33)) rfl ?_
      refine ok.add (show _ ≤ x3.toInt + (1 : Int) ∧ x3.toInt + (1 : Int) ≤ _ from by omega) (fun x23 hx23 => ?_)
      have hx23 : x23.toInt = x3.toInt + (1 : Int) := hx23
      refine ok.ck (show 0 ≤ (X.1 0 33).toInt ∧ (X.1 0 33).toInt < ((1000 : Nat) : Int) from by omega) ?_
      refine ok.letV ?_
      refine ok.ite (fun c9 => ?_) (fun c9 => ?_)
      · skip
        refine ok.letE (v1 := (X.1 0 33)) rfl ?_
        unfold f_wraps_164
        refine ok.ck (show 0 ≤ p1.toInt ∧ p1.toInt < ((20400 : Nat) : Int) from by omega) ?_
        refine ok.letV ?_
        refine ok.letE (v1 := (X.1 0 33)) rfl ?_
        refine ok.add (show _ ≤ (X.1 0 33).toInt + (1 : Int) ∧ (X.1 0 33).toInt + (1 : Int) ≤ _ from by omega) (fun x29 hx29 => ?_)
        have hx29 : x29.toInt = (X.1 0 33).toInt + (1 : Int) := hx29
        refine ok.letV ?_
        refine ok.letE (v1 := (X.1 0 36)) rfl ?_
        refine ok.any (fun x32 => ?_)
        refine ok.letV ?_
        refine ok.ret ⟨(((((((((((Fr.rf.wI 64 (ix (X.1 0 33)) _ (show (12800 : Nat) ∈ [33, 36, 43, 44, 12200, 12800, 13400, 13600, 13800, 14000, 14200, 14400, 14600] from by decide)).wI 67 (ix (X.1 0 33)) _ (show (13400 : Nat) ∈ [33, 36, 43, 44, 12200, 12800, 13400, 13600, 13800, 14000, 14200, 14400, 14600] from by decide)).wI 68 (ix (X.1 0 33)) _ (show (13600 : Nat) ∈ [33, 36, 43, 44, 12200, 12800, 13400, 13600, 13800, 14000, 14200, 14400, 14600] from by decide)).wI 69 (ix (X.1 0 33)) _ (show (13800 : Nat) ∈ [33, 36, 43, 44, 12200, 12800, 13400, 13600, 13800, 14000, 14200, 14400, 14600] from by decide)).wI 70 (ix (X.1 0 33)) _ (show (14000 : Nat) ∈ [33, 36, 43, 44, 12200, 12800, 13400, 13600, 13800, 14000, 14200, 14400, 14600] from by decide)).wI 71 (ix (X.1 0 33)) _ (show (14200 : Nat) ∈ [33, 36, 43, 44, 12200, 12800, 13400, 13600, 13800, 14000, 14200, 14400, 14600] from by decide)).wI 72 (ix (X.1 0 33)) _ (show (14400 : Nat) ∈ [33, 36, 43, 44, 12200, 12800, 13400, 13600, 13800, 14000, 14200, 14400, 14600] from by decide)).wI 73 (ix (X.1 0 33)) _ (show (14600 : Nat) ∈ [33, 36, 43, 44, 12200, 12800, 13400, 13600, 13800, 14000, 14200, 14400, 14600] from by decide)).wI 61 (ix p1) _ (show (12200 : Nat) ∈ [33, 36, 43, 44, 12200, 12800, 13400, 13600, 13800, 14000, 14200, 14400, 14600] from by decide)).wI 0 33 _ (show (33 : Nat) ∈ [33, 36, 43, 44, 12200, 12800, 13400, 13600, 13800, 14000, 14200, 14400, 14600] from by decide)).wI 0 36 _ (show (36 : Nat) ∈ [33, 36, 43, 44, 12200, 12800, 13400, 13600, 13800, 14000, 14200, 14400, 14600] from by decide)), Or.inr ⟨by omega, x3, by omega, hd2, hd3, ?_⟩⟩
        refine ⟨(((((((((((Fr.rf.wI 64 (ix (X.1 0 33)) _ (show (12800 : Nat) ∈ [33, 36, 12200, 12800, 13400, 13600, 13800, 14000, 14200, 14400, 14600] from by decide)).wI 67 (ix (X.1 0 33)) _ (show (13400 : Nat) ∈ [33, 36, 12200, 12800, 13400, 13600, 13800, 14000, 14200, 14400, 14600] from by decide)).wI 68 (ix (X.1 0 33)) _ (show (13600 : Nat) ∈ [33, 36, 12200, 12800, 13400, 13600, 13800, 14000, 14200, 14400, 14600] from by decide)).wI 69 (ix (X.1 0 33)) _ (show (13800 : Nat) ∈ [33, 36, 12200, 12800, 13400, 13600, 13800, 14000, 14200, 14400, 14600] from by decide)).wI 70 (ix (X.1 0 33)) _ (show (14000 : Nat) ∈ [33, 36, 12200, 12800, 13400, 13600, 13800, 14000, 14200, 14400, 14600] from by decide)).wI 71 (ix (X.1 0 33)) _ (show (14200 : Nat) ∈ [33, 36, 12200, 12800, 13400, 13600, 13800, 14000, 14200, 14400, 14600] from by decide)).wI 72 (ix (X.1 0 33)) _ (show (14400 : Nat) ∈ [33, 36, 12200, 12800, 13400, 13600, 13800, 14000, 14200, 14400, 14600] from by decide)).wI 73 (ix (X.1 0 33)) _ (show (14600 : Nat) ∈ [33, 36, 12200, 12800, 13400, 13600, 13800, 14000, 14200, 14400, 14600] from by decide)).wI 61 (ix p1) _ (show (12200 : Nat) ∈ [33, 36, 12200, 12800, 13400, 13600, 13800, 14000, 14200, 14400, 14600] from by decide)).wI 0 33 _ (show (33 : Nat) ∈ [33, 36, 12200, 12800, 13400, 13600, 13800, 14000, 14200, 14400, 14600] from by decide)).wI 0 36 _ (show (36 : Nat) ∈ [33, 36, 12200, 12800, 13400, 13600, 13800, 14000, 14200, 14400, 14600] from by decide)), ?_, fun j hj => ⟨⟨?_, ?_, ?_⟩, ?_, ?_, ?_, ?_⟩, ⟨?_, ?_, ?_, ?_, ?_, ?_, ?_⟩, ?_, fun j hj => ?_⟩
        · rw [wI_ne _ 0 _ _ 0 _ (by rintro ⟨-, a_⟩; exact absurd a_ (by decide)), wI_at]
          exact hx29
        · rw [wI_ne _ 0 _ _ 64 _ (by rintro ⟨a_, -⟩; exact absurd a_ (by decide)), wI_ne _ 0 _ _ 64 _ (by rintro ⟨a_, -⟩; exact absurd a_ (by decide)), wI_ne _ 61 _ _ 64 _ (by rintro ⟨a_, -⟩; exact absurd a_ (by decide)), wI_ne _ 73 _ _ 64 _ (by rintro ⟨a_, -⟩; exact absurd a_ (by decide)), wI_ne _ 72 _ _ 64 _ (by rintro ⟨a_, -⟩; exact absurd a_ (by decide)), wI_ne _ 71 _ _ 64 _ (by rintro ⟨a_, -⟩; exact absurd a_ (by decide)), wI_ne _ 70 _ _ 64 _ (by rintro ⟨a_, -⟩; exact absurd a_ (by decide)), wI_ne _ 69 _ _ 64 _ (by rintro ⟨a_, -⟩; exact absurd a_ (by decide)), wI_ne _ 68 _ _ 64 _ (by rintro ⟨a_, -⟩; exact absurd a_ (by decide)), wI_ne _ 67 _ _ 64 _ (by rintro ⟨a_, -⟩; exact absurd a_ (by decide)), wI_ne _ 64 _ _ 64 _ (by rintro ⟨-, a_⟩; exact hj a_)]
        · rw [wI_ne _ 0 _ _ 67 _ (by rintro ⟨a_, -⟩; exact absurd a_ (by decide)), wI_ne _ 0 _ _ 67 _ (by rintro ⟨a_, -⟩; exact absurd a_ (by decide)), wI_ne _ 61 _ _ 67 _ (by rintro ⟨a_, -⟩; exact absurd a_ (by decide)), wI_ne _ 73 _ _ 67 _ (by rintro ⟨a_, -⟩; exact absurd a_ (by decide)), wI_ne _ 72 _ _ 67 _ (by rintro ⟨a_, -⟩; exact absurd a_ (by decide)), wI_ne _ 71 _ _ 67 _ (by rintro ⟨a_, -⟩; exact absurd a_ (by decide)), wI_ne _ 70 _ _ 67 _ (by rintro ⟨a_, -⟩; exact absurd a_ (by decide)), wI_ne _ 69 _ _ 67 _ (by rintro ⟨a_, -⟩; exact absurd a_ (by decide)), wI_ne _ 68 _ _ 67 _ (by rintro ⟨a_, -⟩; exact absurd a_ (by decide)), wI_ne _ 67 _ _ 67 _ (by rintro ⟨-, a_⟩; exact hj a_), wI_ne _ 64 _ _ 67 _ (by rintro ⟨a_, -⟩; exact absurd a_ (by decide))]
        · rw [wI_ne _ 0 _ _ 68 _ (by rintro ⟨a_, -⟩; exact absurd a_ (by decide)), wI_ne _ 0 _ _ 68 _ (by rintro ⟨a_, -⟩; exact absurd a_ (by decide)), wI_ne _ 61 _ _ 68 _ (by rintro ⟨a_, -⟩; exact absurd a_ (by decide)), wI_ne _ 73 _ _ 68 _ (by rintro ⟨a_, -⟩; exact absurd a_ (by decide)), wI_ne _ 72 _ _ 68 _ (by rintro ⟨a_, -⟩; exact absurd a_ (by decide)), wI_ne _ 71 _ _ 68 _ (by rintro ⟨a_, -⟩; exact absurd a_ (by decide)), wI_ne _ 70 _ _ 68 _ (by rintro ⟨a_, -⟩; exact absurd a_ (by decide)), wI_ne _ 69 _ _ 68 _ (by rintro ⟨a_, -⟩; exact absurd a_ (by decide)), wI_ne _ 68 _ _ 68 _ (by rintro ⟨-, a_⟩; exact hj a_), wI_ne _ 67 _ _ 68 _ (by rintro ⟨a_, -⟩; exact absurd a_ (by decide)), wI_ne _ 64 _ _ 68 _ (by rintro ⟨a_, -⟩; exact absurd a_ (by decide))]
        · rw [wI_ne _ 0 _ _ 69 _ (by rintro ⟨a_, -⟩; exact absurd a_ (by decide)), wI_ne _ 0 _ _ 69 _ (by rintro ⟨a_, -⟩; exact absurd a_ (by decide)), wI_ne _ 61 _ _ 69 _ (by rintro ⟨a_, -⟩; exact absurd a_ (by decide)), wI_ne _ 73 _ _ 69 _ (by rintro ⟨a_, -⟩; exact absurd a_ (by decide)), wI_ne _ 72 _ _ 69 _ (by rintro ⟨a_, -⟩; exact absurd a_ (by decide)), wI_ne _ 71 _ _ 69 _ (by rintro ⟨a_, -⟩; exact absurd a_ (by decide)), wI_ne _ 70 _ _ 69 _ (by rintro ⟨a_, -⟩; exact absurd a_ (by decide)), wI_ne _ 69 _ _ 69 _ (by rintro ⟨-, a_⟩; exact hj a_), wI_ne _ 68 _ _ 69 _ (by rintro ⟨a_, -⟩; exact absurd a_ (by decide)), wI_ne _ 67 _ _ 69 _ (by rintro ⟨a_, -⟩; exact absurd a_ (by decide)), wI_ne _ 64 _ _ 69 _ (by rintro ⟨a_, -⟩; exact absurd a_ (by decide))]
        · rw [wI_ne _ 0 _ _ 70 _ (by rintro ⟨a_, -⟩; exact absurd a_ (by decide)), wI_ne _ 0 _ _ 70 _ (by rintro ⟨a_, -⟩; exact absurd a_ (by decide)), wI_ne _ 61 _ _ 70 _ (by rintro ⟨a_, -⟩; exact absurd a_ (by decide)), wI_ne _ 73 _ _ 70 _ (by rintro ⟨a_, -⟩; exact absurd a_ (by decide)), wI_ne _ 72 _ _ 70 _ (by rintro ⟨a_, -⟩; exact absurd a_ (by decide)), wI_ne _ 71 _ _ 70 _ (by rintro ⟨a_, -⟩; exact absurd a_ (by decide)), wI_ne _ 70 _ _ 70 _ (by rintro ⟨-, a_⟩; exact hj a_), wI_ne _ 69 _ _ 70 _ (by rintro ⟨a_, -⟩; exact absurd a_ (by decide)), wI_ne _ 68 _ _ 70 _ (by rintro ⟨a_, -⟩; exact absurd a_ (by decide)), wI_ne _ 67 _ _ 70 _ (by rintro ⟨a_, -⟩; exact absurd a_ (by decide)), wI_ne _ 64 _ _ 70 _ (by rintro ⟨a_, -⟩; exact absurd a_ (by decide))]
        · rw [wI_ne _ 0 _ _ 71 _ (by rintro ⟨a_, -⟩; exact absurd a_ (by decide)), wI_ne _ 0 _ _ 71 _ (by rintro ⟨a_, -⟩; exact absurd a_ (by decide)), wI_ne _ 61 _ _ 71 _ (by rintro ⟨a_, -⟩; exact absurd a_ (by decide)), wI_ne _ 73 _ _ 71 _ (by rintro ⟨a_, -⟩; exact absurd a_ (by decide)), wI_ne _ 72 _ _ 71 _ (by rintro ⟨a_, -⟩; exact absurd a_ (by decide)), wI_ne _ 71 _ _ 71 _ (by rintro ⟨-, a_⟩; exact hj a_), wI_ne _ 70 _ _ 71 _ (by rintro ⟨a_, -⟩; exact absurd a_ (by decide)), wI_ne _ 69 _ _ 71 _ (by rintro ⟨a_, -⟩; exact absurd a_ (by decide)), wI_ne _ 68 _ _ 71 _ (by rintro ⟨a_, -⟩; exact absurd a_ (by decide)), wI_ne _ 67 _ _ 71 _ (by rintro ⟨a_, -⟩; exact absurd a_ (by decide)), wI_ne _ 64 _ _ 71 _ (by rintro ⟨a_, -⟩; exact absurd a_ (by decide))]
        · rw [wI_ne _ 0 _ _ 73 _ (by rintro ⟨a_, -⟩; exact absurd a_ (by decide)), wI_ne _ 0 _ _ 73 _ (by rintro ⟨a_, -⟩; exact absurd a_ (by decide)), wI_ne _ 61 _ _ 73 _ (by rintro ⟨a_, -⟩; exact absurd a_ (by decide)), wI_ne _ 73 _ _ 73 _ (by rintro ⟨-, a_⟩; exact hj a_), wI_ne _ 72 _ _ 73 _ (by rintro ⟨a_, -⟩; exact absurd a_ (by decide)), wI_ne _ 71 _ _ 73 _ (by rintro ⟨a_, -⟩; exact absurd a_ (by decide)), wI_ne _ 70 _ _ 73 _ (by rintro ⟨a_, -⟩; exact absurd a_ (by decide)), wI_ne _ 69 _ _ 73 _ (by rintro ⟨a_, -⟩; exact absurd a_ (by decide)), wI_ne _ 68 _ _ 73 _ (by rintro ⟨a_, -⟩; exact absurd a_ (by decide)), wI_ne _ 67 _ _ 73 _ (by rintro ⟨a_, -⟩; exact absurd a_ (by decide)), wI_ne _ 64 _ _ 73 _ (by rintro ⟨a_, -⟩; exact absurd a_ (by decide))]
        · unfold wrp
          rw [wI_ne _ 0 _ _ 64 _ (by rintro ⟨a_, -⟩; exact absurd a_ (by decide)), wI_ne _ 0 _ _ 64 _ (by rintro ⟨a_, -⟩; exact absurd a_ (by decide)), wI_ne _ 61 _ _ 64 _ (by rintro ⟨a_, -⟩; exact absurd a_ (by decide)), wI_ne _ 73 _ _ 64 _ (by rintro ⟨a_, -⟩; exact absurd a_ (by decide)), wI_ne _ 72 _ _ 64 _ (by rintro ⟨a_, -⟩; exact absurd a_ (by decide)), wI_ne _ 71 _ _ 64 _ (by rintro ⟨a_, -⟩; exact absurd a_ (by decide)), wI_ne _ 70 _ _ 64 _ (by rintro ⟨a_, -⟩; exact absurd a_ (by decide)), wI_ne _ 69 _ _ 64 _ (by rintro ⟨a_, -⟩; exact absurd a_ (by decide)), wI_ne _ 68 _ _ 64 _ (by rintro ⟨a_, -⟩; exact absurd a_ (by decide)), wI_ne _ 67 _ _ 64 _ (by rintro ⟨a_, -⟩; exact absurd a_ (by decide)), wI_at]
          decide
        · rw [wI_ne _ 0 _ _ 67 _ (by rintro ⟨a_, -⟩; exact absurd a_ (by decide)), wI_ne _ 0 _ _ 67 _ (by rintro ⟨a_, -⟩; exact absurd a_ (by decide)), wI_ne _ 61 _ _ 67 _ (by rintro ⟨a_, -⟩; exact absurd a_ (by decide)), wI_ne _ 73 _ _ 67 _ (by rintro ⟨a_, -⟩; exact absurd a_ (by decide)), wI_ne _ 72 _ _ 67 _ (by rintro ⟨a_, -⟩; exact absurd a_ (by decide)), wI_ne _ 71 _ _ 67 _ (by rintro ⟨a_, -⟩; exact absurd a_ (by decide)), wI_ne _ 70 _ _ 67 _ (by rintro ⟨a_, -⟩; exact absurd a_ (by decide)), wI_ne _ 69 _ _ 67 _ (by rintro ⟨a_, -⟩; exact absurd a_ (by decide)), wI_ne _ 68 _ _ 67 _ (by rintro ⟨a_, -⟩; exact absurd a_ (by decide)), wI_at]
        · rw [wI_ne _ 0 _ _ 68 _ (by rintro ⟨a_, -⟩; exact absurd a_ (by decide)), wI_ne _ 0 _ _ 68 _ (by rintro ⟨a_, -⟩; exact absurd a_ (by decide)), wI_ne _ 61 _ _ 68 _ (by rintro ⟨a_, -⟩; exact absurd a_ (by decide)), wI_ne _ 73 _ _ 68 _ (by rintro ⟨a_, -⟩; exact absurd a_ (by decide)), wI_ne _ 72 _ _ 68 _ (by rintro ⟨a_, -⟩; exact absurd a_ (by decide)), wI_ne _ 71 _ _ 68 _ (by rintro ⟨a_, -⟩; exact absurd a_ (by decide)), wI_ne _ 70 _ _ 68 _ (by rintro ⟨a_, -⟩; exact absurd a_ (by decide)), wI_ne _ 69 _ _ 68 _ (by rintro ⟨a_, -⟩; exact absurd a_ (by decide)), wI_at]
        · rw [wI_ne _ 0 _ _ 69 _ (by rintro ⟨a_, -⟩; exact absurd a_ (by decide)), wI_ne _ 0 _ _ 69 _ (by rintro ⟨a_, -⟩; exact absurd a_ (by decide)), wI_ne _ 61 _ _ 69 _ (by rintro ⟨a_, -⟩; exact absurd a_ (by decide)), wI_ne _ 73 _ _ 69 _ (by rintro ⟨a_, -⟩; exact absurd a_ (by decide)), wI_ne _ 72 _ _ 69 _ (by rintro ⟨a_, -⟩; exact absurd a_ (by decide)), wI_ne _ 71 _ _ 69 _ (by rintro ⟨a_, -⟩; exact absurd a_ (by decide)), wI_ne _ 70 _ _ 69 _ (by rintro ⟨a_, -⟩; exact absurd a_ (by decide)), wI_at]
        · rw [wI_ne _ 0 _ _ 70 _ (by rintro ⟨a_, -⟩; exact absurd a_ (by decide)), wI_ne _ 0 _ _ 70 _ (by rintro ⟨a_, -⟩; exact absurd a_ (by decide)), wI_ne _ 61 _ _ 70 _ (by rintro ⟨a_, -⟩; exact absurd a_ (by decide)), wI_ne _ 73 _ _ 70 _ (by rintro ⟨a_, -⟩; exact absurd a_ (by decide)), wI_ne _ 72 _ _ 70 _ (by rintro ⟨a_, -⟩; exact absurd a_ (by decide)), wI_ne _ 71 _ _ 70 _ (by rintro ⟨a_, -⟩; exact absurd a_ (by decide)), wI_at]
        · rw [wI_ne _ 0 _ _ 71 _ (by rintro ⟨a_, -⟩; exact absurd a_ (by decide)), wI_ne _ 0 _ _ 71 _ (by rintro ⟨a_, -⟩; exact absurd a_ (by decide)), wI_ne _ 61 _ _ 71 _ (by rintro ⟨a_, -⟩; exact absurd a_ (by decide)), wI_ne _ 73 _ _ 71 _ (by rintro ⟨a_, -⟩; exact absurd a_ (by decide)), wI_ne _ 72 _ _ 71 _ (by rintro ⟨a_, -⟩; exact absurd a_ (by decide)), wI_at]
        · rw [wI_ne _ 0 _ _ 73 _ (by rintro ⟨a_, -⟩; exact absurd a_ (by decide)), wI_ne _ 0 _ _ 73 _ (by rintro ⟨a_, -⟩; exact absurd a_ (by decide)), wI_ne _ 61 _ _ 73 _ (by rintro ⟨a_, -⟩; exact absurd a_ (by decide)), wI_at]
          exact hx23
        · rw [wI_ne _ 0 _ _ 61 _ (by rintro ⟨a_, -⟩; exact absurd a_ (by decide)), wI_ne _ 0 _ _ 61 _ (by rintro ⟨a_, -⟩; exact absurd a_ (by decide)), wI_at]
          exact Or.inl ⟨c9, rfl⟩
        · rw [wI_ne _ 0 _ _ 61 _ (by rintro ⟨a_, -⟩; exact absurd a_ (by decide)), wI_ne _ 0 _ _ 61 _ (by rintro ⟨a_, -⟩; exact absurd a_ (by decide)), wI_ne _ 61 _ _ 61 _ (by rintro ⟨-, a_⟩; exact hj a_), wI_ne _ 73 _ _ 61 _ (by rintro ⟨a_, -⟩; exact absurd a_ (by decide)), wI_ne _ 72 _ _ 61 _ (by rintro ⟨a_, -⟩; exact absurd a_ (by decide)), wI_ne _ 71 _ _ 61 _ (by rintro ⟨a_, -⟩; exact absurd a_ (by decide)), wI_ne _ 70 _ _ 61 _ (by rintro ⟨a_, -⟩; exact absurd a_ (by decide)), wI_ne _ 69 _ _ 61 _ (by rintro ⟨a_, -⟩; exact absurd a_ (by decide)), wI_ne _ 68 _ _ 61 _ (by rintro ⟨a_, -⟩; exact absurd a_ (by decide)), wI_ne _ 67 _ _ 61 _ (by rintro ⟨a_, -⟩; exact absurd a_ (by decide)), wI_ne _ 64 _ _ 61 _ (by rintro ⟨a_, -⟩; exact absurd a_ (by decide))]
      · skip
        refine ok.letE (v1 := (X.1 0 33)) rfl ?_
        refine ok.add (show _ ≤ (100 : Int) + (X.1 0 33).toInt ∧ (100 : Int) + (X.1 0 33).toInt ≤ _ from by omega) (fun x26 hx26 => ?_)
        have hx26 : x26.toInt = (100 : Int) + (X.1 0 33).toInt := hx26
        unfold f_wraps_164
        refine ok.ck (show 0 ≤ p1.toInt ∧ p1.toInt < ((20400 : Nat) : Int) from by omega) ?_
        refine ok.letV ?_
        refine ok.letE (v1 := (X.1 0 33)) rfl ?_
        refine ok.add (show _ ≤ (X.1 0 33).toInt + (1 : Int) ∧ (X.1 0 33).toInt + (1 : Int) ≤ _ from by omega) (fun x29 hx29 => ?_)
        have hx29 : x29.toInt = (X.1 0 33).toInt + (1 : Int) := hx29
        refine ok.letV ?_
        refine ok.letE (v1 := (X.1 0 36)) rfl ?_
        refine ok.any (fun x32 => ?_)
        refine ok.letV ?_
        refine ok.ret ⟨(((((((((((Fr.rf.wI 64 (ix (X.1 0 33)) _ (show (12800 : Nat) ∈ [33, 36, 43, 44, 12200, 12800, 13400, 13600, 13800, 14000, 14200, 14400, 14600] from by decide)).wI 67 (ix (X.1 0 33)) _ (show (13400 : Nat) ∈ [33, 36, 43, 44, 12200, 12800, 13400, 13600, 13800, 14000, 14200, 14400, 14600] from by decide)).wI 68 (ix (X.1 0 33)) _ (show (13600 : Nat) ∈ [33, 36, 43, 44, 12200, 12800, 13400, 13600, 13800, 14000, 14200, 14400, 14600] from by decide)).wI 69 (ix (X.1 0 33)) _ (show (13800 : Nat) ∈ [33, 36, 43, 44, 12200, 12800, 13400, 13600, 13800, 14000, 14200, 14400, 14600] from by decide)).wI 70 (ix (X.1 0 33)) _ (show (14000 : Nat) ∈ [33, 36, 43, 44, 12200, 12800, 13400, 13600, 13800, 14000, 14200, 14400, 14600] from by decide)).wI 71 (ix (X.1 0 33)) _ (show (14200 : Nat) ∈ [33, 36, 43, 44, 12200, 12800, 13400, 13600, 13800, 14000, 14200, 14400, 14600] from by decide)).wI 72 (ix (X.1 0 33)) _ (show (14400 : Nat) ∈ [33, 36, 43, 44, 12200, 12800, 13400, 13600, 13800, 14000, 14200, 14400, 14600] from by decide)).wI 73 (ix (X.1 0 33)) _ (show (14600 : Nat) ∈ [33, 36, 43, 44, 12200, 12800, 13400, 13600, 13800, 14000, 14200, 14400, 14600] from by decide)).wI 61 (ix p1) _ (show (12200 : Nat) ∈ [33, 36, 43, 44, 12200, 12800, 13400, 13600, 13800, 14000, 14200, 14400, 14600] from by decide)).wI 0 33 _ (show (33 : Nat) ∈ [33, 36, 43, 44, 12200, 12800, 13400, 13600, 13800, 14000, 14200, 14400, 14600] from by decide)).wI 0 36 _ (show (36 : Nat) ∈ [33, 36, 43, 44, 12200, 12800, 13400, 13600, 13800, 14000, 14200, 14400, 14600] from by decide)), Or.inr ⟨by omega, x3, by omega, hd2, hd3, ?_⟩⟩
        refine ⟨(((((((((((Fr.rf.wI 64 (ix (X.1 0 33)) _ (show (12800 : Nat) ∈ [33, 36, 12200, 12800, 13400, 13600, 13800, 14000, 14200, 14400, 14600] from by decide)).wI 67 (ix (X.1 0 33)) _ (show (13400 : Nat) ∈ [33, 36, 12200, 12800, 13400, 13600, 13800, 14000, 14200, 14400, 14600] from by decide)).wI 68 (ix (X.1 0 33)) _ (show (13600 : Nat) ∈ [33, 36, 12200, 12800, 13400, 13600, 13800, 14000, 14200, 14400, 14600] from by decide)).wI 69 (ix (X.1 0 33)) _ (show (13800 : Nat) ∈ [33, 36, 12200, 12800, 13400, 13600, 13800, 14000, 14200, 14400, 14600] from by decide)).wI 70 (ix (X.1 0 33)) _ (show (14000 : Nat) ∈ [33, 36, 12200, 12800, 13400, 13600, 13800, 14000, 14200, 14400, 14600] from by decide)).wI 71 (ix (X.1 0 33)) _ (show (14200 : Nat) ∈ [33, 36, 12200, 12800, 13400, 13600, 13800, 14000, 14200, 14400, 14600] from by decide)).wI 72 (ix (X.1 0 33)) _ (show (14400 : Nat) ∈ [33, 36, 12200, 12800, 13400, 13600, 13800, 14000, 14200, 14400, 14600] from by decide)).wI 73 (ix (X.1 0 33)) _ (show (14600 : Nat) ∈ [33, 36, 12200, 12800, 13400, 13600, 13800, 14000, 14200, 14400, 14600] from by decide)).wI 61 (ix p1) _ (show (12200 : Nat) ∈ [33, 36, 12200, 12800, 13400, 13600, 13800, 14000, 14200, 14400, 14600] from by decide)).wI 0 33 _ (show (33 : Nat) ∈ [33, 36, 12200, 12800, 13400, 13600, 13800, 14000, 14200, 14400, 14600] from by decide)).wI 0 36 _ (show (36 : Nat) ∈ [33, 36, 12200, 12800, 13400, 13600, 13800, 14000, 14200, 14400, 14600] from by decide)), ?_, fun j hj => ⟨⟨?_, ?_, ?_⟩, ?_, ?_, ?_, ?_⟩, ⟨?_, ?_, ?_, ?_, ?_, ?_, ?_⟩, ?_, fun j hj => ?_⟩
        · rw [wI_ne _ 0 _ _ 0 _ (by rintro ⟨-, a_⟩; exact absurd a_ (by decide)), wI_at]
          exact hx29
        · rw [wI_ne _ 0 _ _ 64 _ (by rintro ⟨a_, -⟩; exact absurd a_ (by decide)), wI_ne _ 0 _ _ 64 _ (by rintro ⟨a_, -⟩; exact absurd a_ (by decide)), wI_ne _ 61 _ _ 64 _ (by rintro ⟨a_, -⟩; exact absurd a_ (by decide)), wI_ne _ 73 _ _ 64 _ (by rintro ⟨a_, -⟩; exact absurd a_ (by decide)), wI_ne _ 72 _ _ 64 _ (by rintro ⟨a_, -⟩; exact absurd a_ (by decide)), wI_ne _ 71 _ _ 64 _ (by rintro ⟨a_, -⟩; exact absurd a_ (by decide)), wI_ne _ 70 _ _ 64 _ (by rintro ⟨a_, -⟩; exact absurd a_ (by decide)), wI_ne _ 69 _ _ 64 _ (by rintro ⟨a_, -⟩; exact absurd a_ (by decide)), wI_ne _ 68 _ _ 64 _ (by rintro ⟨a_, -⟩; exact absurd a_ (by decide)), wI_ne _ 67 _ _ 64 _ (by rintro ⟨a_, -⟩; exact absurd a_ (by decide)), wI_ne _ 64 _ _ 64 _ (by rintro ⟨-, a_⟩; exact hj a_)]
        · rw [wI_ne _ 0 _ _ 67 _ (by rintro ⟨a_, -⟩; exact absurd a_ (by decide)), wI_ne _ 0 _ _ 67 _ (by rintro ⟨a_, -⟩; exact absurd a_ (by decide)), wI_ne _ 61 _ _ 67 _ (by rintro ⟨a_, -⟩; exact absurd a_ (by decide)), wI_ne _ 73 _ _ 67 _ (by rintro ⟨a_, -⟩; exact absurd a_ (by decide)), wI_ne _ 72 _ _ 67 _ (by rintro ⟨a_, -⟩; exact absurd a_ (by decide)), wI_ne _ 71 _ _ 67 _ (by rintro ⟨a_, -⟩; exact absurd a_ (by decide)), wI_ne _ 70 _ _ 67 _ (by rintro ⟨a_, -⟩; exact absurd a_ (by decide)), wI_ne _ 69 _ _ 67 _ (by rintro ⟨a_, -⟩; exact absurd a_ (by decide)), wI_ne _ 68 _ _ 67 _ (by rintro ⟨a_, -⟩; exact absurd a_ (by decide)), wI_ne _ 67 _ _ 67 _ (by rintro ⟨-, a_⟩; exact hj a_), wI_ne _ 64 _ _ 67 _ (by rintro ⟨a_, -⟩; exact absurd a_ (by decide))]
        · rw [wI_ne _ 0 _ _ 68 _ (by rintro ⟨a_, -⟩; exact absurd a_ (by decide)), wI_ne _ 0 _ _ 68 _ (by rintro ⟨a_, -⟩; exact absurd a_ (by decide)), wI_ne _ 61 _ _ 68 _ (by rintro ⟨a_, -⟩; exact absurd a_ (by decide)), wI_ne _ 73 _ _ 68 _ (by rintro ⟨a_, -⟩; exact absurd a_ (by decide)), wI_ne _ 72 _ _ 68 _ (by rintro ⟨a_, -⟩; exact absurd a_ (by decide)), wI_ne _ 71 _ _ 68 _ (by rintro ⟨a_, -⟩; exact absurd a_ (by decide)), wI_ne _ 70 _ _ 68 _ (by rintro ⟨a_, -⟩; exact absurd a_ (by decide)), wI_ne _ 69 _ _ 68 _ (by rintro ⟨a_, -⟩; exact absurd a_ (by decide)), wI_ne _ 68 _ _ 68 _ (by rintro ⟨-, a_⟩; exact hj a_), wI_ne _ 67 _ _ 68 _ (by rintro ⟨a_, -⟩; exact absurd a_ (by decide)), wI_ne _ 64 _ _ 68 _ (by rintro ⟨a_, -⟩; exact absurd a_ (by decide))]
        · rw [wI_ne _ 0 _ _ 69 _ (by rintro ⟨a_, -⟩; exact absurd a_ (by decide)), wI_ne _ 0 _ _ 69 _ (by rintro ⟨a_, -⟩; exact absurd a_ (by decide)), wI_ne _ 61 _ _ 69 _ (by rintro ⟨a_, -⟩; exact absurd a_ (by decide)), wI_ne _ 73 _ _ 69 _ (by rintro ⟨a_, -⟩; exact absurd a_ (by decide)), wI_ne _ 72 _ _ 69 _ (by rintro ⟨a_, -⟩; exact absurd a_ (by decide)), wI_ne _ 71 _ _ 69 _ (by rintro ⟨a_, -⟩; exact absurd a_ (by decide)), wI_ne _ 70 _ _ 69 _ (by rintro ⟨a_, -⟩; exact absurd a_ (by decide)), wI_ne _ 69 _ _ 69 _ (by rintro ⟨-, a_⟩; exact hj a_), wI_ne _ 68 _ _ 69 _ (by rintro ⟨a_, -⟩; exact absurd a_ (by decide)), wI_ne _ 67 _ _ 69 _ (by rintro ⟨a_, -⟩; exact absurd a_ (by decide)), wI_ne _ 64 _ _ 69 _ (by rintro ⟨a_, -⟩; exact absurd a_ (by decide))]
        · rw [wI_ne _ 0 _ _ 70 _ (by rintro ⟨a_, -⟩; exact absurd a_ (by decide)), wI_ne _ 0 _ _ 70 _ (by rintro ⟨a_, -⟩; exact absurd a_ (by decide)), wI_ne _ 61 _ _ 70 _ (by rintro ⟨a_, -⟩; exact absurd a_ (by decide)), wI_ne _ 73 _ _ 70 _ (by rintro ⟨a_, -⟩; exact absurd a_ (by decide)), wI_ne _ 72 _ _ 70 _ (by rintro ⟨a_, -⟩; exact absurd a_ (by decide)), wI_ne _ 71 _ _ 70 _ (by rintro ⟨a_, -⟩; exact absurd a_ (by decide)), wI_ne _ 70 _ _ 70 _ (by rintro ⟨-, a_⟩; exact hj a_), wI_ne _ 69 _ _ 70 _ (by rintro ⟨a_, -⟩; exact absurd a_ (by decide)), wI_ne _ 68 _ _ 70 _ (by rintro ⟨a_, -⟩; exact absurd a_ (by decide)), wI_ne _ 67 _ _ 70 _ (by rintro ⟨a_, -⟩; exact absurd a_ (by decide)), wI_ne _ 64 _ _ 70 _ (by rintro ⟨a_, -⟩; exact absurd a_ (by decide))]
        · rw [wI_ne _ 0 _ _ 71 _ (by rintro ⟨a_, -⟩; exact absurd a_ (by decide)), wI_ne _ 0 _ _ 71 _ (by rintro ⟨a_, -⟩; exact absurd a_ (by decide)), wI_ne _ 61 _ _ 71 _ (by rintro ⟨a_, -⟩; exact absurd a_ (by decide)), wI_ne _ 73 _ _ 71 _ (by rintro ⟨a_, -⟩; exact absurd a_ (by decide)), wI_ne _ 72 _ _ 71 _ (by rintro ⟨a_, -⟩; exact absurd a_ (by decide)), wI_ne _ 71 _ _ 71 _ (by rintro ⟨-, a_⟩; exact hj a_), wI_ne _ 70 _ _ 71 _ (by rintro ⟨a_, -⟩; exact absurd a_ (by decide)), wI_ne _ 69 _ _ 71 _ (by rintro ⟨a_, -⟩; exact absurd a_ (by decide)), wI_ne _ 68 _ _ 71 _ (by rintro ⟨a_, -⟩; exact absurd a_ (by decide)), wI_ne _ 67 _ _ 71 _ (by rintro ⟨a_, -⟩; exact absurd a_ (by decide)), wI_ne _ 64 _ _ 71 _ (by rintro ⟨a_, -⟩; exact absurd a_ (by decide))]
        · rw [wI_ne _ 0 _ _ 73 _ (by rintro ⟨a_, -⟩; exact absurd a_ (by decide)), wI_ne _ 0 _ _ 73 _ (by rintro ⟨a_, -⟩; exact absurd a_ (by decide)), wI_ne _ 61 _ _ 73 _ (by rintro ⟨a_, -⟩; exact absurd a_ (by decide)), wI_ne _ 73 _ _ 73 _ (by rintro ⟨-, a_⟩; exact hj a_), wI_ne _ 72 _ _ 73 _ (by rintro ⟨a_, -⟩; exact absurd a_ (by decide)), wI_ne _ 71 _ _ 73 _ (by rintro ⟨a_, -⟩; exact absurd a_ (by decide)), wI_ne _ 70 _ _ 73 _ (by rintro ⟨a_, -⟩; exact absurd a_ (by decide)), wI_ne _ 69 _ _ 73 _ (by rintro ⟨a_, -⟩; exact absurd a_ (by decide)), wI_ne _ 68 _ _ 73 _ (by rintro ⟨a_, -⟩; exact absurd a_ (by decide)), wI_ne _ 67 _ _ 73 _ (by rintro ⟨a_, -⟩; exact absurd a_ (by decide)), wI_ne _ 64 _ _ 73 _ (by rintro ⟨a_, -⟩; exact absurd a_ (by decide))]
        · unfold wrp
          rw [wI_ne _ 0 _ _ 64 _ (by rintro ⟨a_, -⟩; exact absurd a_ (by decide)), wI_ne _ 0 _ _ 64 _ (by rintro ⟨a_, -⟩; exact absurd a_ (by decide)), wI_ne _ 61 _ _ 64 _ (by rintro ⟨a_, -⟩; exact absurd a_ (by decide)), wI_ne _ 73 _ _ 64 _ (by rintro ⟨a_, -⟩; exact absurd a_ (by decide)), wI_ne _ 72 _ _ 64 _ (by rintro ⟨a_, -⟩; exact absurd a_ (by decide)), wI_ne _ 71 _ _ 64 _ (by rintro ⟨a_, -⟩; exact absurd a_ (by decide)), wI_ne _ 70 _ _ 64 _ (by rintro ⟨a_, -⟩; exact absurd a_ (by decide)), wI_ne _ 69 _ _ 64 _ (by rintro ⟨a_, -⟩; exact absurd a_ (by decide)), wI_ne _ 68 _ _ 64 _ (by rintro ⟨a_, -⟩; exact absurd a_ (by decide)), wI_ne _ 67 _ _ 64 _ (by rintro ⟨a_, -⟩; exact absurd a_ (by decide)), wI_at]
          decide
        · rw [wI_ne _ 0 _ _ 67 _ (by rintro ⟨a_, -⟩; exact absurd a_ (by decide)), wI_ne _ 0 _ _ 67 _ (by rintro ⟨a_, -⟩; exact absurd a_ (by decide)), wI_ne _ 61 _ _ 67 _ (by rintro ⟨a_, -⟩; exact absurd a_ (by decide)), wI_ne _ 73 _ _ 67 _ (by rintro ⟨a_, -⟩; exact absurd a_ (by decide)), wI_ne _ 72 _ _ 67 _ (by rintro ⟨a_, -⟩; exact absurd a_ (by decide)), wI_ne _ 71 _ _ 67 _ (by rintro ⟨a_, -⟩; exact absurd a_ (by decide)), wI_ne _ 70 _ _ 67 _ (by rintro ⟨a_, -⟩; exact absurd a_ (by decide)), wI_ne _ 69 _ _ 67 _ (by rintro ⟨a_, -⟩; exact absurd a_ (by decide)), wI_ne _ 68 _ _ 67 _ (by rintro ⟨a_, -⟩; exact absurd a_ (by decide)), wI_at]
        · rw [wI_ne _ 0 _ _ 68 _ (by rintro ⟨a_, -⟩; exact absurd a_ (by decide)), wI_ne _ 0 _ _ 68 _ (by rintro ⟨a_, -⟩; exact absurd a_ (by decide)), wI_ne _ 61 _ _ 68 _ (by rintro ⟨a_, -⟩; exact absurd a_ (by decide)), wI_ne _ 73 _ _ 68 _ (by rintro ⟨a_, -⟩; exact absurd a_ (by decide)), wI_ne _ 72 _ _ 68 _ (by rintro ⟨a_, -⟩; exact absurd a_ (by decide)), wI_ne _ 71 _ _ 68 _ (by rintro ⟨a_, -⟩; exact absurd a_ (by decide)), wI_ne _ 70 _ _ 68 _ (by rintro ⟨a_, -⟩; exact absurd a_ (by decide)), wI_ne _ 69 _ _ 68 _ (by rintro ⟨a_, -⟩; exact absurd a_ (by decide)), wI_at]
        · rw [wI_ne _ 0 _ _ 69 _ (by rintro ⟨a_, -⟩; exact absurd a_ (by decide)), wI_ne _ 0 _ _ 69 _ (by rintro ⟨a_, -⟩; exact absurd a_ (by decide)), wI_ne _ 61 _ _ 69 _ (by rintro ⟨a_, -⟩; exact absurd a_ (by decide)), wI_ne _ 73 _ _ 69 _ (by rintro ⟨a_, -⟩; exact absurd a_ (by decide)), wI_ne _ 72 _ _ 69 _ (by rintro ⟨a_, -⟩; exact absurd a_ (by decide)), wI_ne _ 71 _ _ 69 _ (by rintro ⟨a_, -⟩; exact absurd a_ (by decide)), wI_ne _ 70 _ _ 69 _ (by rintro ⟨a_, -⟩; exact absurd a_ (by decide)), wI_at]
        · rw [wI_ne _ 0 _ _ 70 _ (by rintro ⟨a_, -⟩; exact absurd a_ (by decide)), wI_ne _ 0 _ _ 70 _ (by rintro ⟨a_, -⟩; exact absurd a_ (by decide)), wI_ne _ 61 _ _ 70 _ (by rintro ⟨a_, -⟩; exact absurd a_ (by decide)), wI_ne _ 73 _ _ 70 _ (by rintro ⟨a_, -⟩; exact absurd a_ (by decide)), wI_ne _ 72 _ _ 70 _ (by rintro ⟨a_, -⟩; exact absurd a_ (by decide)), wI_ne _ 71 _ _ 70 _ (by rintro ⟨a_, -⟩; exact absurd a_ (by decide)), wI_at]
        · rw [wI_ne _ 0 _ _ 71 _ (by rintro ⟨a_, -⟩; exact absurd a_ (by decide)), wI_ne _ 0 _ _ 71 _ (by rintro ⟨a_, -⟩; exact absurd a_ (by decide)), wI_ne _ 61 _ _ 71 _ (by rintro ⟨a_, -⟩; exact absurd a_ (by decide)), wI_ne _ 73 _ _ 71 _ (by rintro ⟨a_, -⟩; exact absurd a_ (by decide)), wI_ne _ 72 _ _ 71 _ (by rintro ⟨a_, -⟩; exact absurd a_ (by decide)), wI_at]
        · rw [wI_ne _ 0 _ _ 73 _ (by rintro ⟨a_, -⟩; exact absurd a_ (by decide)), wI_ne _ 0 _ _ 73 _ (by rintro ⟨a_, -⟩; exact absurd a_ (by decide)), wI_ne _ 61 _ _ 73 _ (by rintro ⟨a_, -⟩; exact absurd a_ (by decide)), wI_at]
          exact hx23
        · rw [wI_ne _ 0 _ _ 61 _ (by rintro ⟨a_, -⟩; exact absurd a_ (by decide)), wI_ne _ 0 _ _ 61 _ (by rintro ⟨a_, -⟩; exact absurd a_ (by decide)), wI_at]
          exact Or.inr ⟨c9, hx26⟩
        · rw [wI_ne _ 0 _ _ 61 _ (by rintro ⟨a_, -⟩; exact absurd a_ (by decide)), wI_ne _ 0 _ _ 61 _ (by rintro ⟨a_, -⟩; exact absurd a_ (by decide)), wI_ne _ 61 _ _ 61 _ (by rintro ⟨-, a_⟩; exact hj a_), wI_ne _ 73 _ _ 61 _ (by rintro ⟨a_, -⟩; exact absurd a_ (by decide)), wI_ne _ 72 _ _ 61 _ (by rintro ⟨a_, -⟩; exact absurd a_ (by decide)), wI_ne _ 71 _ _ 61 _ (by rintro ⟨a_, -⟩; exact absurd a_ (by decide)), wI_ne _ 70 _ _ 61 _ (by rintro ⟨a_, -⟩; exact absurd a_ (by decide)), wI_ne _ 69 _ _ 61 _ (by rintro ⟨a_, -⟩; exact absurd a_ (by decide)), wI_ne _ 68 _ _ 61 _ (by rintro ⟨a_, -⟩; exact absurd a_ (by decide)), wI_ne _ 67 _ _ 61 _ (by rintro ⟨a_, -⟩; exact absurd a_ (by decide)), wI_ne _ 64 _ _ 61 _ (by rintro ⟨a_, -⟩; exact absurd a_ (by decide))]
