/-! NEW and ROW on both sides -/
section NEWS
variable {X Y Z X1 Y1 X0 Y0 V V1 : St} {r r1 r2 : Nat → Int32} {s w k a b p p1 p2 v pl o1 n1 x cc a2 a3 a4 : Int32} {y y1 y2 : Int64} {ks : List (List Int)} {e c m n i j sb tp t0 nn nn1 o q D L P F q0 : Nat} {u : Bool} {G : Nat → Int32} {f : Nat → Int32}
theorem inc_i4 {k : Nat} (h : a4.toInt = (k : Int)) (hk : k < 100000) : (a4 + Int32.ofInt 1).toInt = ((k + 1 : Nat) : Int) := by
  have lm1 : (Int32.ofInt 1).toInt = 1 := by decide
  rw [ti_add (by rw [h, lm1]; omega) (by rw [h, lm1]; omega), h, lm1]
  omega
/-- the reference fills the places of a row with what is on top, and puts the row on -/
theorem n_fill (hL : a2.toInt = (L : Int)) (hF : (X.1 65 (ix a3)).toInt = (F : Int)) (hFL : F + L ≤ 4000) (h31 : (X.1 0 31).toInt = ((t0 + 2 : Nat) : Int)) (ht : t0 ≤ 20000) : ∀ (N i : Nat) (a4 : Int32) (Z : St), a4.toInt = (i : Int) → i ≤ L → (∀ e k, ¬ ((e = 74 ∨ e = 75) ∧ F ≤ k ∧ k < F + L) → Z.1 e k = X.1 e k) → (∀ k, k < i → Z.1 74 (F + k) = X.1 60 (t0 + 1) ∧ Z.1 75 (F + k) = X.1 61 (t0 + 1)) → pw (f_makes_58 N a2 a3 a4 Z) (fun _ X1 => (X1.1 0 31).toInt = (t0 : Int) + 1 ∧ X1.1 60 t0 = 3 ∧ X1.1 61 t0 = a3 ∧ (∀ e k, ¬ (e = 0 ∧ k = 31) → ¬ ((e = 60 ∨ e = 61) ∧ k = t0) → ¬ ((e = 74 ∨ e = 75) ∧ F ≤ k ∧ k < F + L) → X1.1 e k = X.1 e k) ∧ ∀ k, k < L → X1.1 74 (F + k) = X.1 60 (t0 + 1) ∧ X1.1 75 (F + k) = X.1 61 (t0 + 1)) := by
  have l1 : (1 : Int32).toInt = 1 := by decide
  have l2 : (2 : Int32).toInt = 2 := by decide
  intro N
  induction N with
  | zero => exact fun _ _ _ _ _ _ _ => pw_none
  | succ N ih =>
    intro i a4 Z h4 hi hr hv
    have e1 : f_makes_58 (N + 1) = f_makes_58_s (f_makes_58 N) := by
      unfold f_makes_58
      exact lp_succ _ _ _
    rw [e1]
    unfold f_makes_58_s
    have z31 : Z.1 0 31 = X.1 0 31 := hr 0 31 (by omega)
    refine pw_ite (fun g => pw_let (pw_let (pw_eq (fun X13 e13 => ?_)))) (fun g => pw_ck (fun _ => pw_let (pw_eq (fun x16 e16 => pw_let (pw_eq (fun x18 e18 => pw_ck (fun _ => pw_let (pw_ck (fun _ => pw_eq (fun X20 e20 => pw_ck (fun _ => pw_let (pw_eq (fun x22 e22 => pw_let (pw_eq (fun x24 e24 => pw_ck (fun _ => pw_let (pw_ck (fun _ => pw_eq (fun X26 e26 => pw_eq (fun x27 e27 => ?_))))))))))))))))))))
    · have f31 : (X13.1 0 31).toInt = (t0 : Int) := by rw [e13, wI_at, z31]; exact n_dec (q := 2) (by rw [h31]; omega) (by rw [l2]; rfl)
      refine pw_bd (n_value2 f31 (by omega)) ?_
      rintro _ X14 ⟨b1, b2, b3, b4⟩
      refine pw_ret ⟨b1, b2, b3, fun e k q1 q2 q3 => ?_, fun k hk => ?_⟩
      · rw [b4 e k q1 q2, e13, wI_ne _ _ _ _ _ _ q1, hr e k q3]
      · rw [b4 74 _ (by omega) (by omega), b4 75 _ (by omega) (by omega), e13, wI_ne _ _ _ _ _ _ (by omega), wI_ne _ _ _ _ _ _ (by omega)]
        exact hv k (by omega)
    · have hiL : i < L := by omega
      have z65 : (Z.1 65 (ix a3)).toInt = (F : Int) := by rw [hr 65 _ (by omega)]; exact hF
      have i16 : ix x16 = F + i := ixn (by rw [e16, ti_add (by rw [z65, h4]; omega) (by rw [z65, h4]; omega), z65, h4]; omega)
      have v18 : x18.toInt = ((t0 + 1 : Nat) : Int) := by rw [e18, z31]; exact n_dec (q := 1) (by rw [h31]; omega) (by rw [l1]; rfl)
      rw [i16, ixn v18] at e20
      have r20 : ∀ e k, ¬ (e = 74 ∧ k = F + i) → X20.1 e k = Z.1 e k := fun e k q => by rw [e20, wI_ne _ _ _ _ _ _ q]
      have i22 : ix x22 = F + i := by rw [e22, r20 65 _ (by omega), ← e16]; exact i16
      have i24 : ix x24 = t0 + 1 := by rw [e24, r20 0 31 (by omega), ← e18]; exact ixn v18
      rw [i22, i24, r20 61 _ (by omega)] at e26
      have rr : ∀ e k, ¬ ((e = 74 ∨ e = 75) ∧ k = F + i) → X26.1 e k = Z.1 e k := fun e k q => by rw [e26, wI_ne _ _ _ _ _ _ (by omega), r20 e k (by omega)]
      refine ih (i + 1) x27 X26 (by rw [e27]; exact inc_i4 h4 (by omega)) (by omega) (fun e k q => (rr e k (by omega)).trans (hr e k q)) (fun k hk => ?_)
      by_cases z : k = i
      · rw [z]
        refine ⟨?_, ?_⟩
        · rw [e26, wI_ne _ _ _ _ _ _ (by omega), e20, wI_at, hr 60 _ (by omega)]
        · rw [e26, wI_at, hr 61 _ (by omega)]
      · rw [rr 74 _ (by omega), rr 75 _ (by omega)]
        exact hv k (by omega)
set_option maxHeartbeats 4000000 in
/-- NEW -/
theorem op11 (ho : o1.toInt = (o : Int)) (h1 : (X.1 40 o).toInt = 19) (h : INS e X Y r ks sb c (t0 + 2) nn) (hm : sb ≤ t0) (hn : t0 + c + 1 < 20002) (ht : t0 ≤ 20000) (hs : (X.1 60 t0).toInt = 0) (hpl : X.1 21 (ix n1) = pl) : pw (f_does o1 n1 X) (fun z X1 => z = o1 + 1 ∧ pw (g_Running_workRowOrCall 11 x pl Y) (fun _ Y1 => OPQ X Y r ks sb c (t0 + 1) nn X1 Y1 ∧ Y1.1 70 10 = Y.1 70 10)) := by
  have hK := h.2.2.2.2.1
  have hH := h.2.2.2.1
  have l2 : (2 : Int32).toInt = 2 := by decide
  have l1000 : (1000 : Int32).toInt = 1000 := by decide
  have hy := (hK.2.2.2 t0 hm (by omega)).int hs
  have hyv := hK.2.2.2 (t0 + 1) (by omega) (by omega)
  obtain ⟨⟨c1, c2, c3, c4, c5, c6⟩, c7, c8, c9⟩ := id hH.1
  obtain ⟨sz, hsz⟩ : ∃ sz : Int32, X.1 61 t0 = sz := ⟨_, rfl⟩
  -- the class up to the looks
  have cls : ∀ (Q : St → Prop), (∀ Y4, TOPq Y Y4 (t0 + c + 1) → (¬ (0 ≤ sz.toInt ∧ sz.toInt ≤ 1000) → pw (g_Running_failWith 1 pl Y4) (fun _ V => Q V)) ∧ (0 ≤ sz.toInt ∧ sz.toInt ≤ 1000 → ¬ ((X.1 0 34).toInt + sz.toInt ≤ 4000 ∧ (X.1 0 33).toInt < 1000) → pw (g_Running_failWith 6 pl Y4) (fun _ V => Q V)) ∧ (0 ≤ sz.toInt ∧ sz.toInt ≤ 1000 → (X.1 0 34).toInt + sz.toInt ≤ 4000 ∧ (X.1 0 33).toInt < 1000 → pw (bnd (g_Heap_newRow sz (Y.2.1 84 (t0 + 1 + c + 1)) Y4) fun y8 X9 => bnd (g_Running_push y8 X9) fun _ X10 => some ((0 : Int32), X10)) (fun _ V => Q V))) → pw (g_Running_workRowOrCall 11 x pl Y) (fun _ V => Q V) := by
    intro Q hk
    unfold g_Running_workRowOrCall
    refine pw_neg (by decide) (pw_pos (by decide) (pw_bd (R := fun _ V => Q V) ?_ (fun _ V q => pw_ret q)))
    unfold g_Running_makeNew
    refine pw_bd (l_pop2 (TOPq.rf (n := t0 + 1 + c + 1 + 1) (by have := hK.2.1; omega))) ?_
    rintro y1 Y2 ⟨hT, e1⟩
    refine pw_bd (l_popC2 (n := t0 + c + 1) (by rw [show t0 + c + 1 + 1 = t0 + 1 + c + 1 by omega]; exact hT)) ?_
    rintro x3 Y4 ⟨hT4, e3⟩
    rw [hy, vl_con, hsz] at e3
    rw [e3, e1]
    obtain ⟨k1, k2, k3⟩ := hk Y4 hT4
    have q24 : ¬ (0 ≤ sz.toInt ∧ sz.toInt ≤ 1000) → pw (g_Running_makeNew_24 pl Y4) (fun _ V => Q V) := fun g => by
      unfold g_Running_makeNew_24
      exact pw_bd (k1 g) (fun _ V q => pw_ret q)
    refine pw_ite (fun g => q24 (by omega)) (fun g => pw_ite (fun g2 => ?_) (fun g2 => q24 (by omega)))
    have hC4 : HCq X Y4 := ⟨⟨c1, c2, c3, c4, c5, c6⟩, by rw [hT4.2.1 71 0 (by omega)]; exact c7, by rw [hT4.2.1 71 1 (by omega)]; exact c8, by rw [hT4.2.1 71 2 (by omega)]; exact c9⟩
    refine pw_bd (l_room hC4 (p1 := sz) ⟨by omega, by omega⟩) ?_
    rintro x6 Y7 ⟨e7, h6⟩
    rw [e7]
    exact pw_ite (fun z => pw_bd (k2 ⟨by omega, g2⟩ (h6.mp z)) (fun _ V q => pw_ret q)) (fun z => k3 ⟨by omega, g2⟩ (Classical.byContradiction (fun q => z (h6.mpr q))))
  refine n_dw ho (by omega) (fun x' hx => ?_)
  rw [h1] at hx
  unfold f_works
  refine pw_neg (by omega) (pw_pos hx (pw_bd (R := fun _ X1 => pw (g_Running_workRowOrCall 11 x pl Y) (fun _ Y1 => OPQ X Y r ks sb c (t0 + 1) nn X1 Y1 ∧ Y1.1 70 10 = Y.1 70 10)) ?_ (fun _ X9 q => pw_ret q)))
  unfold f_makes
  refine pw_let (pw_eq (fun x2 e2 => pw_ck (fun _ => ?_)))
  have i2 : ix x2 = t0 := ixn (by rw [e2]; exact n_dec (q := 2) (by have := hK.1; omega) (by rw [l2]; rfl))
  rw [i2]
  refine pw_to hsz ?_
  have hin : pw (f_in sz (0 : Int32) (1000 : Int32) X) (fun z X1 => X1 = X ∧ (z.toInt = 0 ↔ ¬ (0 ≤ sz.toInt ∧ sz.toInt ≤ 1000))) := by
    refine pw_mono (r_in sz 0 1000 X) (fun z X1 g => ?_)
    obtain ⟨g1, g2⟩ := g
    refine ⟨g1, ?_⟩
    rw [l1000, show (0 : Int32).toInt = 0 from by decide] at g2
    rcases g2 with ⟨g2, g3⟩ | ⟨g2, g3⟩
    · constructor
      · intro z; omega
      · intro z; omega
    · constructor
      · intro z; omega
      · intro z; omega
  refine pw_bd hin ?_
  rintro x4 X5 ⟨e5, h4⟩
  rw [e5]
  have failed : ∀ (hw : Int32), 0 < hw.toInt → (hw = 1 ∧ ¬ (0 ≤ sz.toInt ∧ sz.toInt ≤ 1000)) ∨ (hw = 6 ∧ (0 ≤ sz.toInt ∧ sz.toInt ≤ 1000) ∧ ¬ ((X.1 0 34).toInt + sz.toInt ≤ 4000 ∧ (X.1 0 33).toInt < 1000)) → pw (f_ends hw pl X) (fun _ X1 => ¬ (X1.1 0 43).toInt < 0 ∧ pw (g_Running_workRowOrCall 11 x pl Y) (fun _ Y1 => OPQ X Y r ks sb c (t0 + 1) nn X1 Y1 ∧ Y1.1 70 10 = Y.1 70 10)) := by
    intro hw hpos hcase
    have key : ∀ Y4 : St, TOPq Y Y4 (t0 + c + 1) → pw (f_ends hw pl X) (fun _ X1 => pw (g_Running_failWith hw pl Y4) (fun _ Y1 => OPQ X Y r ks sb c (t0 + 1) nn X1 Y1 ∧ Y1.1 70 10 = Y.1 70 10)) := fun Y4 hT => OPQ.fail h (fun _ _ _ => rfl) hT hpos
    refine pw_mono (pw_and (n_ends h.2.2.1) (pw_all (Q := fun (Y4 : St) _ X1 => TOPq Y Y4 (t0 + c + 1) → pw (g_Running_failWith hw pl Y4) (fun _ Y1 => OPQ X Y r ks sb c (t0 + 1) nn X1 Y1 ∧ Y1.1 70 10 = Y.1 70 10)) (fun Y4 => pw_im (fun hT => key Y4 hT)))) (fun _ X1 hall => ⟨?_, cls _ (fun Y4 hT => ?_)⟩)
    · rw [hall.1, wI_ne _ _ _ _ _ _ (by omega), wI_at]
      omega
    · have hq := hall.2 Y4 hT
      rcases hcase with ⟨q1, q2⟩ | ⟨q1, q2, q3⟩
      · rw [q1] at hq
        exact ⟨fun _ => hq, fun z => absurd z q2, fun z => absurd z q2⟩
      · rw [q1] at hq
        exact ⟨fun z => absurd q2 z, fun _ _ => hq, fun _ z => absurd z q3⟩
  refine pw_ite (fun z => pw_ck (fun _ => pw_to hpl (pw_bd (failed 1 (by decide) (Or.inl ⟨rfl, h4.mp z⟩)) (fun _ X1 q => pw_ret q.2)))) (fun z => pw_ck (fun _ => pw_to hpl ?_))
  have hsz1 : 0 ≤ sz.toInt ∧ sz.toInt ≤ 1000 := Classical.byContradiction (fun q => z (h4.mpr q))
  by_cases hroom : (X.1 0 34).toInt + sz.toInt ≤ 4000 ∧ (X.1 0 33).toInt < 1000
  · obtain ⟨n, hnn⟩ : ∃ n : Nat, (X.1 0 33).toInt = (n : Int) := ⟨(X.1 0 33).toInt.toNat, by omega⟩
    obtain ⟨L, hL⟩ : ∃ L : Nat, sz.toInt = (L : Int) := ⟨sz.toInt.toNat, by omega⟩
    obtain ⟨P, hP⟩ : ∃ P : Nat, (X.1 0 34).toInt = (P : Int) := ⟨(X.1 0 34).toInt.toNat, by omega⟩
    obtain ⟨q0, hq0⟩ : ∃ q0 : Nat, (X.1 0 35).toInt = (q0 : Int) := ⟨(X.1 0 35).toInt.toNat, by omega⟩
    refine pw_bd (n_row1 hnn (by omega) ⟨by omega, by omega⟩ ⟨by omega, by omega⟩ ⟨by omega, by omega⟩ hroom.1) ?_
    rintro x7 X8 ⟨v7, hRO⟩
    have hRO0 := hRO
    obtain ⟨⟨a1, a2, a3⟩, ⟨a4, a5, a6⟩, a7⟩ := hRO
    refine pw_bd (pw_ok r_isOn) ?_
    rintro x9 X10 ⟨e10, h9⟩
    rw [← e10]
    refine pw_ite (fun q => ?_) (fun _ => ?_)
    · have := h.2.2.1.1.1
      rw [a7 0 43 (by omega) (by omega)] at h9
      omega
    · have i7 : ix x7 = n := ixn v7
      refine pw_mono (n_fill (X := X8) (t0 := t0) (L := L) (F := P) (a2 := sz) (a3 := x7) hL (by rw [i7, a5]; exact hP) (by omega) (by rw [a7 0 31 (by omega) (by omega)]; exact hK.1) ht BIG 0 0 X8 (by decide) (Nat.zero_le _) (fun _ _ _ => rfl) (fun k hk => absurd hk (Nat.not_lt_zero _))) (fun _ X1 g => cls _ (fun Y4 hT => ⟨fun z => absurd hsz1 z, fun _ z => absurd hroom z, fun _ _ => ?_⟩))
      obtain ⟨g1, g2, g3, g4, g5⟩ := g
      refine pw_bd (l_newRow (q0 := q0) (P := P) (L := L) (by rw [hT.2.1 71 0 (by omega), c7]; exact hq0) (by omega) (by rw [hT.2.1 71 1 (by omega), c8]; exact hP) hL (by omega)) ?_
      rintro y8 Y9 ⟨ey, ⟨b1, b2⟩, b3, b4, b5, b6, b7⟩
      have hT9 : TOPq Y9 Y9 (t0 + c + 1) := TOPq.rf (by rw [b4 70 15 (by omega) (by omega)]; exact hT.1)
      refine pw_bd (l_push2 hT9 hn) ?_
      rintro _ Y10 ⟨d1, d2, d3, d4, d5⟩
      refine pw_ret (OPQ.row (n := n) (q0 := q0) (P := P) (L := L) (p := sz) h hm hnn (by omega) hq0 hP hL (by omega) hRO0 g4 g1 ⟨by rw [g2]; decide, by rw [g3]; exact v7⟩ ⟨⟨by rw [d2 71 0 (by omega)]; exact b1, by rw [d2 71 1 (by omega)]; exact b2⟩, by rw [d2 72 _ (by omega), b3.1, hT.2.1 71 1 (by omega)], by rw [d2 73 _ (by omega), b3.2]⟩ (fun j k q1 q2 q3 => (d2 j k q3).trans ((b4 j k q1 q2).trans (hT.2.1 j k q3))) (by rw [d3, b5, hT.2.2]) (fun j k q1 q2 => by rw [d4 j k q2, b7 j k q1, hT.2.2]) (by rw [d5, ey, hT.2.1 71 0 (by omega), c7]) (by rw [d1]; omega) (fun k hk => ?_))
      obtain ⟨k1, k2⟩ := g5 k hk
      rw [k1, k2, d4 74 _ (by omega), b6 k hk, a7 60 _ (by omega) (by omega), a7 61 _ (by omega) (by omega)]
      exact hyv
  · refine pw_bd (n_row0 (p1 := sz) (p2 := pl) (Q := fun _ X1 => ¬ (X1.1 0 43).toInt < 0 ∧ pw (g_Running_workRowOrCall 11 x pl Y) (fun _ Y1 => OPQ X Y r ks sb c (t0 + 1) nn X1 Y1 ∧ Y1.1 70 10 = Y.1 70 10)) ⟨by omega, by omega⟩ ⟨by omega, by omega⟩ hroom (by omega) (failed 6 (by decide) (Or.inr ⟨rfl, hsz1, hroom⟩))) ?_
    rintro x7 X8 ⟨h8, hc8⟩
    refine pw_bd (pw_ok r_isOn) ?_
    rintro x9 X10 ⟨e10, h9⟩
    rw [← e10]
    exact pw_ite (fun _ => pw_ret hc8) (fun q => by omega)
end NEWS
