/-! a row of values, on both sides -/
section MRWS
variable {X Y Z X1 Y1 X0 Y0 V V1 : St} {r r1 r2 : Nat → Int32} {s w k a b p p1 p2 v pl o1 n1 x cc a2 a3 a4 a5 : Int32} {y y1 y2 : Int64} {ks : List (List Int)} {e c m n i j sb tp t0 nn nn1 o q D L P F q0 A : Nat} {u : Bool} {G : Nat → Int32} {f : Nat → Int32}
theorem l_store (h : 0 ≤ cc.toInt ∧ cc.toInt < (Y.1 71 0).toInt) (hp : p.toInt = (i : Int)) (hi : (i : Int) < (Y.1 73 (ix cc)).toInt) (h72 : (Y.1 72 (ix cc)).toInt = (P : Int)) (hP : P + i < 4000) : pw (g_Heap_store (VLs 3 cc) p y Y) (fun _ Y1 => Y1 = wL Y 74 (P + i) y) := by
  unfold g_Heap_store
  refine pw_bd (l_hasPlace h) ?_
  rintro x1 X2 ⟨e2, h1⟩
  rw [e2]
  refine pw_neg (fun z => absurd (⟨by omega, by omega⟩ : _ ∧ _) (h1.mp z)) (pw_bd l_contentOf ?_)
  rintro x3 X4 ⟨e4, e3⟩
  rw [e4, e3]
  refine pw_ck (fun _ => pw_let (pw_eq (fun x6 e6 => pw_ck (fun _ => pw_eq (fun X7 e7 => pw_ret ?_)))))
  rw [e7, show ix x6 = P + i from ixn (by rw [e6, ti_add (by rw [h72, hp]; omega) (by rw [h72, hp]; omega), h72, hp]; omega)]
/-- the class takes the values off, the last first -/
theorem l_rowloop (hcc : 0 ≤ cc.toInt ∧ cc.toInt < (Y.1 71 0).toInt) (h72 : (Y.1 72 (ix cc)).toInt = (P : Int)) (h73 : (Y.1 73 (ix cc)).toInt = (L : Int)) (hPL : P + L ≤ 4000) (hA : A + L ≤ 20002) (hA2 : A < 20002) : ∀ (N i : Nat) (a5 : Int32) (V : St), a5.toInt = (i : Int) - 1 → i ≤ L → (V.1 70 15).toInt = ((A + i : Nat) : Int) → (∀ j k, ¬ (j = 70 ∧ k = 15) → V.1 j k = Y.1 j k) → V.2.2 = Y.2.2 → (∀ j k, ¬ (j = 74 ∧ P ≤ k ∧ k < P + L) → V.2.1 j k = Y.2.1 j k) → (∀ k, i ≤ k → k < L → V.2.1 74 (P + k) = Y.2.1 84 (A + k)) → pw (g_Running_makeRow_34 N (VLs 3 cc) a5 V) (fun _ Y1 => (Y1.1 70 15).toInt = (A : Int) + 1 ∧ (∀ j k, ¬ (j = 70 ∧ k = 15) → Y1.1 j k = Y.1 j k) ∧ Y1.2.2 = Y.2.2 ∧ (∀ j k, ¬ (j = 74 ∧ P ≤ k ∧ k < P + L) → ¬ (j = 84 ∧ k = A) → Y1.2.1 j k = Y.2.1 j k) ∧ Y1.2.1 84 A = VLs 3 cc ∧ ∀ k, k < L → Y1.2.1 74 (P + k) = Y.2.1 84 (A + k)) := by
  intro N
  induction N with
  | zero => exact fun _ _ _ _ _ _ _ _ _ _ => pw_none
  | succ N ih =>
    intro i a5 V h5 hi h15 hr h3 hl hv
    have e1 : g_Running_makeRow_34 (N + 1) = g_Running_makeRow_34_s (g_Running_makeRow_34 N) := by
      unfold g_Running_makeRow_34
      exact lp_succ _ _ _
    rw [e1]
    unfold g_Running_makeRow_34_s
    rcases Nat.eq_zero_or_pos i with hz | hz
    · rw [hz] at h15
      refine pw_pos (by omega) (pw_bd (l_push2 (y := VLs 3 cc) (TOPq.rf (n := A) (by rw [h15]; omega)) hA2) ?_)
      rintro _ V1 ⟨d1, d2, d3, d4, d5⟩
      exact pw_ret ⟨d1, fun j k q => (d2 j k q).trans (hr j k q), by rw [d3, h3], fun j k q1 q2 => (d4 j k q2).trans (hl j k q1), d5, fun k hk => by rw [d4 74 _ (by omega)]; exact hv k (by omega) hk⟩
    · obtain ⟨k, hk⟩ : ∃ k, i = k + 1 := ⟨i - 1, by omega⟩
      refine pw_neg (by omega) (pw_bd (l_pop2 (TOPq.rf (n := A + k + 1) (by rw [h15]; omega))) ?_)
      rintro y7 X8 ⟨⟨g1, g2, g3⟩, e7⟩
      have v5 : a5.toInt = (k : Int) := by omega
      refine pw_bd (l_store (P := P) (i := k) (by rw [g2 71 0 (by omega), hr 71 0 (by omega)]; exact hcc) v5 (by rw [g2 73 _ (by omega), hr 73 _ (by omega), h73]; omega) (by rw [g2 72 _ (by omega), hr 72 _ (by omega)]; exact h72) (by omega)) ?_
      rintro _ X9 e9
      refine pw_let (ih k (a5 + Int32.ofInt (-1)) X9 (dec_i (by omega)) (by omega) (by rw [e9]; exact g1) (fun j k' q => ?_) (by rw [e9, ← h3, ← g3]; rfl) (fun j k' q => ?_) (fun k' k1 k2 => ?_))
      · rw [e9]
        exact (g2 j k' q).trans (hr j k' q)
      · rw [e9, wL_ne _ _ _ _ _ _ (by omega), g3]
        exact hl j k' q
      · rw [e9]
        by_cases z : k' = k
        · rw [z, wL_at, e7, hl 84 _ (by omega)]
        · rw [wL_ne _ _ _ _ _ _ (by omega), g3]
          exact hv k' (by omega) k2
/-- the reference copies them, the first first -/
theorem n_copy (hL : (X.1 27 (ix a2)).toInt = (L : Int)) (hF : (X.1 65 (ix a3)).toInt = (F : Int)) (hFL : F + L ≤ 4000) (h31 : (X.1 0 31).toInt = (t0 : Int)) (ht : t0 + L ≤ 20200) : ∀ (N i : Nat) (a4 : Int32) (Z : St), a4.toInt = (i : Int) → i ≤ L → (∀ e k, ¬ ((e = 74 ∨ e = 75) ∧ F ≤ k ∧ k < F + L) → Z.1 e k = X.1 e k) → (∀ k, k < i → Z.1 74 (F + k) = X.1 60 (t0 + k) ∧ Z.1 75 (F + k) = X.1 61 (t0 + k)) → pw (f_works_98 N a2 a3 a4 Z) (fun _ X1 => (X1.1 0 31).toInt = (t0 : Int) + 1 ∧ X1.1 60 t0 = 3 ∧ X1.1 61 t0 = a3 ∧ (∀ e k, ¬ (e = 0 ∧ k = 31) → ¬ ((e = 60 ∨ e = 61) ∧ k = t0) → ¬ ((e = 74 ∨ e = 75) ∧ F ≤ k ∧ k < F + L) → X1.1 e k = X.1 e k) ∧ ∀ k, k < L → X1.1 74 (F + k) = X.1 60 (t0 + k) ∧ X1.1 75 (F + k) = X.1 61 (t0 + k)) := by
  intro N
  induction N with
  | zero => exact fun _ _ _ _ _ _ _ => pw_none
  | succ N ih =>
    intro i a4 Z h4 hi hr hv
    have e1 : f_works_98 (N + 1) = f_works_98_s (f_works_98 N) := by
      unfold f_works_98
      exact lp_succ _ _ _
    rw [e1]
    unfold f_works_98_s
    have z31 : (Z.1 0 31).toInt = (t0 : Int) := by rw [hr 0 31 (by omega)]; exact h31
    refine pw_ck (fun _ => pw_to (hr 27 _ (by omega)) (pw_ite (fun g => ?_) (fun g => pw_ck (fun _ => pw_let (pw_eq (fun x16 e16 => pw_let (pw_eq (fun x18 e18 => pw_ck (fun _ => pw_let (pw_ck (fun _ => pw_eq (fun X20 e20 => pw_ck (fun _ => pw_let (pw_eq (fun x22 e22 => pw_let (pw_eq (fun x24 e24 => pw_ck (fun _ => pw_let (pw_ck (fun _ => pw_eq (fun X26 e26 => pw_eq (fun x27 e27 => ?_))))))))))))))))))))))
    · refine pw_bd (n_value2 z31 (by omega)) ?_
      rintro _ X14 ⟨b1, b2, b3, b4⟩
      refine pw_ret ⟨b1, b2, b3, fun e k q1 q2 q3 => (b4 e k q1 q2).trans (hr e k q3), fun k hk => ?_⟩
      rw [b4 74 _ (by omega) (by omega), b4 75 _ (by omega) (by omega)]
      exact hv k (by omega)
    · have hiL : i < L := by omega
      have z65 : (Z.1 65 (ix a3)).toInt = (F : Int) := by rw [hr 65 _ (by omega)]; exact hF
      have i16 : ix x16 = F + i := ixn (by rw [e16, ti_add (by rw [z65, h4]; omega) (by rw [z65, h4]; omega), z65, h4]; omega)
      have v18 : x18.toInt = ((t0 + i : Nat) : Int) := by rw [e18, ti_add (by rw [z31, h4]; omega) (by rw [z31, h4]; omega), z31, h4]; omega
      rw [i16, ixn v18] at e20
      have r20 : ∀ e k, ¬ (e = 74 ∧ k = F + i) → X20.1 e k = Z.1 e k := fun e k q => by rw [e20, wI_ne _ _ _ _ _ _ q]
      have i22 : ix x22 = F + i := by rw [e22, r20 65 _ (by omega), ← e16]; exact i16
      have i24 : ix x24 = t0 + i := by rw [e24, r20 0 31 (by omega), ← e18]; exact ixn v18
      rw [i22, i24, r20 61 _ (by omega)] at e26
      have rr : ∀ e k, ¬ ((e = 74 ∨ e = 75) ∧ k = F + i) → X26.1 e k = Z.1 e k := fun e k q => by rw [e26, wI_ne _ _ _ _ _ _ (by omega), r20 e k (by omega)]
      refine ih (i + 1) x27 X26 (by rw [e27]; exact inc_i4 h4 (by omega)) (by omega) (fun e k q => (rr e k (by omega)).trans (hr e k q)) (fun k hk => ?_)
      by_cases z : k = i
      · rw [z]
        refine ⟨?_, ?_⟩
        · rw [e26, wI_ne _ _ _ _ _ _ (by omega), e20, wI_at, hr 60 _ (by omega)]
        · rw [e26, wI_at, hr 61 _ (by omega)]
      · rw [rr 74 _ (by omega), rr 75 _ (by omega)]
        exact hv k (by omega)
set_option maxHeartbeats 4000000 in
/-- ROW -/
theorem op10 (ho : o1.toInt = (o : Int)) (h1 : (X.1 40 o).toInt = 18) (h : INS e X Y r ks sb c (t0 + L) nn) (hm : sb ≤ t0) (hn : t0 + c + 1 < 20002) (hA : t0 + c + 1 + L ≤ 20002) (ht : t0 + L ≤ 20000) (hx : x.toInt = (L : Int)) (hL20 : L ≤ 20) (h27 : X.1 27 (ix n1) = x) (hpl : X.1 21 (ix n1) = pl) : pw (f_does o1 n1 X) (fun z X1 => z = o1 + 1 ∧ pw (g_Running_workRowOrCall 10 x pl Y) (fun _ Y1 => OPQ X Y r ks sb c (t0 + 1) nn X1 Y1 ∧ Y1.1 70 10 = Y.1 70 10)) := by
  have hK := h.2.2.2.2.1
  have hH := h.2.2.2.1
  have l1 : (1 : Int32).toInt = 1 := by decide
  obtain ⟨⟨c1, c2, c3, c4, c5, c6⟩, c7, c8, c9⟩ := id hH.1
  have cls : ∀ (Q : St → Prop), (¬ ((X.1 0 34).toInt + x.toInt ≤ 4000 ∧ (X.1 0 33).toInt < 1000) → pw (g_Running_failWith 6 pl Y) (fun _ V => Q V)) → ((X.1 0 34).toInt + x.toInt ≤ 4000 ∧ (X.1 0 33).toInt < 1000 → pw (bnd (g_Heap_newRow x (0 : Int64) Y) fun y3 X4 => letV (x - (1 : Int32)) fun x5 => g_Running_makeRow_34 BIG y3 x5 X4) (fun _ V => Q V)) → pw (g_Running_workRowOrCall 10 x pl Y) (fun _ V => Q V) := by
    intro Q k1 k2
    unfold g_Running_workRowOrCall
    refine pw_pos (by decide) (pw_bd (R := fun _ V => Q V) ?_ (fun _ V q => pw_ret q))
    unfold g_Running_makeRow
    refine pw_bd (l_room hH.1 (p1 := x) ⟨by omega, by omega⟩) ?_
    rintro x6 Y7 ⟨e7, h6⟩
    rw [e7]
    exact pw_ite (fun z => pw_bd (k1 (h6.mp z)) (fun _ V q => pw_ret q)) (fun z => k2 (Classical.byContradiction (fun q => z (h6.mpr q))))
  refine n_dw ho (by omega) (fun x' hx' => ?_)
  rw [h1] at hx'
  unfold f_works
  refine pw_pos hx' (pw_ck (fun _ => pw_to h27 (pw_ck (fun _ => pw_to hpl ?_))))
  by_cases hroom : (X.1 0 34).toInt + x.toInt ≤ 4000 ∧ (X.1 0 33).toInt < 1000
  · obtain ⟨n, hnn⟩ : ∃ n : Nat, (X.1 0 33).toInt = (n : Int) := ⟨(X.1 0 33).toInt.toNat, by omega⟩
    obtain ⟨P, hP⟩ : ∃ P : Nat, (X.1 0 34).toInt = (P : Int) := ⟨(X.1 0 34).toInt.toNat, by omega⟩
    obtain ⟨q0, hq0⟩ : ∃ q0 : Nat, (X.1 0 35).toInt = (q0 : Int) := ⟨(X.1 0 35).toInt.toNat, by omega⟩
    refine pw_bd (n_row1 hnn (by omega) ⟨by omega, by omega⟩ ⟨by omega, by omega⟩ ⟨by omega, by omega⟩ hroom.1) ?_
    rintro x7 X8 ⟨v7, hRO⟩
    have hRO0 := hRO
    obtain ⟨⟨a1, a2, a3⟩, ⟨a4, a5, a6⟩, a7⟩ := hRO
    refine pw_bd (pw_ok r_isOn) ?_
    rintro x9 X10 ⟨e10, h9⟩
    rw [← e10]
    refine pw_ite (fun q => ?_) (fun _ => ?_)
    · have := h.2.2.1.1.1
      rw [a7 0 43 (by omega) (by omega)] at h9
      omega
    · have i7 : ix x7 = n := ixn v7
      refine pw_let (pw_ck (fun _ => pw_to ((a7 27 _ (by omega) (by omega)).trans h27) (pw_eq (fun x10 e11 => pw_eq (fun X11 e12 => ?_)))))
      have v10 : x10.toInt = (t0 : Int) := by
        have q1 := hK.1
        rw [e11, a7 0 31 (by omega) (by omega), ti_sub (by omega) (by omega)]
        omega
      have r11 : ∀ e k, ¬ (e = 0 ∧ k = 31) → X11.1 e k = X8.1 e k := fun e k q => by rw [e12, wI_ne _ _ _ _ _ _ q]
      refine pw_mono (n_copy (X := X11) (t0 := t0) (L := L) (F := P) (a2 := n1) (a3 := x7) (by rw [r11 27 _ (by omega), a7 27 _ (by omega) (by omega), h27]; exact hx) (by rw [i7, r11 65 _ (by omega), a5]; exact hP) (by omega) (by rw [e12, wI_at]; exact v10) (by omega) BIG 0 0 X11 (by decide) (Nat.zero_le _) (fun _ _ _ => rfl) (fun k hk => absurd hk (Nat.not_lt_zero _))) (fun _ X1 g => cls _ (fun z => absurd hroom z) (fun _ => ?_))
      obtain ⟨g1, g2, g3, g4, g5⟩ := g
      refine pw_bd (l_newRow (q0 := q0) (P := P) (L := L) (by rw [c7]; exact hq0) (by omega) (by rw [c8]; exact hP) hx (by omega)) ?_
      rintro y8 Y9 ⟨ey, ⟨b1, b2⟩, b3, b4, b5, b6, b7⟩
      have i35 : ix (Y.1 71 0) = q0 := by rw [c7]; exact ixn hq0
      rw [ey]
      have w5 : (x - 1).toInt = (L : Int) - 1 := by rw [ti_sub (by rw [hx, l1]; omega) (by rw [hx, l1]; omega), hx, l1]
      refine pw_let (pw_mono (l_rowloop (Y := Y9) (cc := Y.1 71 0) (P := P) (L := L) (A := t0 + c + 1) (by rw [b1, c7]; omega) (by rw [i35, b3.1, c8]; exact hP) (by rw [i35, b3.2]; exact hx) (by omega) hA hn BIG L (x - 1) Y9 w5 (Nat.le_refl _) (by rw [b4 70 15 (by omega) (by omega)]; have := hK.2.1; omega) (fun _ _ _ => rfl) rfl (fun _ _ _ => rfl) (fun k k1 k2 => absurd k2 (by omega))) (fun _ Y10 d => ?_))
      obtain ⟨d1, d2, d3, d4, d5, d6⟩ := d
      refine OPQ.row (n := n) (q0 := q0) (P := P) (L := L) (p := x) (X0 := X8) h hm hnn (by omega) hq0 hP hx (by omega) hRO0 (fun e k q1 q2 q3 => (g4 e k q1 q2 q3).trans (r11 e k q1)) g1 ⟨by rw [g2]; decide, by rw [g3]; exact v7⟩ ⟨⟨by rw [d2 71 0 (by omega)]; exact b1, by rw [d2 71 1 (by omega)]; exact b2⟩, by rw [d2 72 _ (by omega), b3.1], by rw [d2 73 _ (by omega), b3.2]⟩ (fun j k q1 q2 q3 => (d2 j k q3).trans (b4 j k q1 q2)) (by rw [d3, b5]) (fun j k q1 q2 => by rw [d4 j k q1 q2, b7 j k q1]) (by rw [d5, c7]) (by rw [d1]; omega) (fun k hk => ?_)
      obtain ⟨k1, k2⟩ := g5 k hk
      rw [k1, k2, d6 k hk, r11 60 _ (by omega), r11 61 _ (by omega), a7 60 _ (by omega) (by omega), a7 61 _ (by omega) (by omega), b7 84 _ (by omega), show t0 + c + 1 + k = t0 + k + c + 1 by omega]
      exact hK.2.2.2 (t0 + k) (by omega) (by omega)
  · have key : pw (f_ends 6 pl X) (fun _ X1 => ¬ (X1.1 0 43).toInt < 0 ∧ pw (g_Running_workRowOrCall 10 x pl Y) (fun _ Y1 => OPQ X Y r ks sb c (t0 + 1) nn X1 Y1 ∧ Y1.1 70 10 = Y.1 70 10)) := by
      refine pw_mono (pw_and (n_ends h.2.2.1) (OPQ.fail (tp1 := t0 + 1) (nn1 := nn) h (fun _ _ _ => rfl) (TOPq.rf hK.2.1) (by decide))) (fun _ X1 q => ⟨?_, cls _ (fun _ => q.2) (fun z => absurd z hroom)⟩)
      rw [q.1, wI_ne _ _ _ _ _ _ (by omega), wI_at]
      decide
    refine pw_bd (n_row0 (p1 := x) (p2 := pl) (Q := fun _ X1 => ¬ (X1.1 0 43).toInt < 0 ∧ pw (g_Running_workRowOrCall 10 x pl Y) (fun _ Y1 => OPQ X Y r ks sb c (t0 + 1) nn X1 Y1 ∧ Y1.1 70 10 = Y.1 70 10)) ⟨by omega, by omega⟩ ⟨by omega, by omega⟩ hroom (by omega) key) ?_
    rintro x7 X8 ⟨h8, hc8⟩
    refine pw_bd (pw_ok r_isOn) ?_
    rintro x9 X10 ⟨e10, h9⟩
    rw [← e10]
    exact pw_ite (fun _ => pw_ret hc8) (fun q => by omega)
end MRWS
