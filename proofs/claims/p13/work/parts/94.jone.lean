/-! one order judged -/
theorem ROWK.kx {X Y : St} {k e : Int32} (h : ROWK X k e) (hT : KT X) (hK : KX X Y) : ROWK Y k e := by
  obtain ⟨a, b, c, d, f⟩ := h
  have ek := ixc a
  have hk := hK.1
  obtain ⟨e4, e5, e6⟩ := hK.2.2.1 (ix k) (by omega)
  exact ⟨a, by omega, by rw [e4]; exact c, by rw [e5]; exact d, by rw [cmpK_kx hT hK a b (by omega)]; exact f⟩
theorem FNK.kx {X Y : St} {k : Int32} {m : Int} (h : FNK X k m) (hK : KX X Y) : FNK Y k m := by
  obtain ⟨a, b, c, d⟩ := h
  have ek := ixc a
  have hk := hK.1
  obtain ⟨e4, e5, e6⟩ := hK.2.2.1 (ix k) (by omega)
  exact ⟨a, by omega, by rw [e4]; exact c, by rw [e5]; exact d⟩
/-- what one order does; what holds then, where no fault was found -/
def JO (X Y : St) (S : Nat → Prop) (m q : Int) (P : Prop) : Prop := JR X Y S ∧ ((Y.1 0 13).toInt ≤ (X.1 0 13).toInt + q ∧ (Y.1 0 15).toInt ≤ (X.1 0 15).toInt + 5 * q ∧ (Y.1 0 28).toInt ≤ (X.1 0 28).toInt + m) ∧ ((Y.1 0 9).toInt = 0 → P)
theorem j_fails {X : St} {f p : Int32} (hf : ¬ f.toInt = 0) (hw : (X.1 0 9).toInt = 0) : ok (f_fails f p X) (fun _ Y => Fr YR [9, 10] X Y ∧ ¬ (Y.1 0 9).toInt = 0) := by
  obtain ⟨r, Y, Yt, e, -, a, -, -, h⟩ := t_f_fails f p X X 0 0 ⟨fun _ _ _ => rfl, fun _ _ _ => rfl⟩
  exact ⟨r, Y, e, a, by omega⟩
theorem bad {X Y : St} {S : Nat → Prop} {m q : Int} {P : Prop} (hT : KT X) (hF : Fr YR [9, 10] X Y) (hw : ¬ (Y.1 0 9).toInt = 0) (hm : 0 ≤ m) (hq : 0 ≤ q) : JO X Y S m q P := by
  refine ⟨JR.fr hT hF (by decide) S, ?_, fun q => absurd q hw⟩
  rw [hF.1 0 13 (by decide), hF.1 0 15 (by decide), hF.1 0 28 (by decide)]
  omega
theorem j_must {X : St} (hT : KT X) (hc : (X.1 0 13).toInt ≤ 5999) (hl : (X.1 0 15).toInt ≤ 19990) (hg : 0 ≤ (X.1 0 28).toInt ∧ (X.1 0 28).toInt < 12000) (hj : 0 ≤ (X.1 0 29).toInt ∧ (X.1 0 29).toInt ≤ 40) (hw : (X.1 0 9).toInt = 0) {o k1 pl tk : Int32} {d : Nat} (ho : 0 ≤ o.toInt ∧ o.toInt < 24000) (hd : (X.1 0 30).toInt = (d : Int) + 1) (hd2 : d < 3200) (hk : 0 ≤ (X.1 58 d).toInt ∧ (X.1 58 d).toInt < (X.1 0 13).toInt) (hk1 : 0 ≤ k1.toInt ∧ k1.toInt < (X.1 0 13).toInt) (hs : ksz X (ix k1) ≤ 6000) (h43 : (X.1 43 (ix o)).toInt = -1) (htk : 0 ≤ tk.toInt ∧ tk.toInt ≤ 40) : ok (f_must o k1 pl tk X) (fun _ Y => JO X Y (fun i => i = ix o) 1 0 ((Y.1 0 30).toInt = (d : Int) + 1 ∧ Y.1 58 d = k1 ∧ (∀ i, i ≠ d → Y.1 58 i = X.1 58 i) ∧ (∀ i, Y.1 59 i = X.1 59 i) ∧ GRD Y (ix o) (X.1 58 d) k1)) := by
  have z1 : (1 : Int32).toInt = 1 := rfl
  unfold f_must
  refine ok.letV (ok.sub (by rw [z1]; omega) (fun x2 hx2 => ?_))
  rw [z1] at hx2
  have e2 := ixc (z := x2) (by omega)
  have i2 : ix x2 = d := by omega
  refine ok.ck ⟨by omega, show x2.toInt < ((3200 : Nat) : Int) by omega⟩ (ok.letE (v1 := X.1 58 d) (by rw [i2]) ?_)
  refine ok.bd (t_f_fits hT (by omega) (by omega) hk hk1 hs) ?_
  rintro x4 X5 ⟨hF5, hr, hfit⟩
  have h5T := hT.fr hF5 (by decide)
  have e9 : X5.1 0 9 = X.1 0 9 := hF5.1 0 9 (by decide)
  have e13 : X5.1 0 13 = X.1 0 13 := hF5.1 0 13 (by decide)
  have e15 : X5.1 0 15 = X.1 0 15 := hF5.1 0 15 (by decide)
  have e28 : X5.1 0 28 = X.1 0 28 := hF5.1 0 28 (by decide)
  have e29 : X5.1 0 29 = X.1 0 29 := hF5.1 0 29 (by decide)
  have e30 : X5.1 0 30 = X.1 0 30 := hF5.1 0 30 (by decide)
  have c58 : ∀ i, X5.1 58 i = X.1 58 i := fun i => hF5.1 58 i (show (11600 : Nat) ∉ [6200, 6400] from by decide)
  have c59 : ∀ i, X5.1 59 i = X.1 59 i := fun i => hF5.1 59 i (show (11800 : Nat) ∉ [6200, 6400] from by decide)
  have j5 : JR X X5 (fun i => i = ix o) := JR.fr hT hF5 (by decide) _
  refine ok.ite (fun c => ?_) (fun c => ?_)
  · refine ok.bd (j_fails (X := X5) (by decide) (by rw [e9]; exact hw)) ?_
    rintro - Y ⟨hF, hw2⟩
    obtain ⟨b1, b2, b3⟩ : JO X5 Y (fun i => i = ix o) 1 0 False := bad h5T hF hw2 (by decide) (by decide)
    exact ok.ret ⟨j5.tr b1, by rw [e13, e15, e28] at b2; exact b2, fun q => absurd q hw2⟩
  · have hf5 : FIT X5 (X.1 58 d) k1 := (hfit (by omega)).kx hT (KX.fr hF5 (by decide)) hk hk1
    refine ok.bd (j_guards (X := X5) ho (by rw [e28]; exact hg)) ?_
    rintro - X6 hG
    obtain ⟨g1, g2, g3, g4, g5, g6, g7, g8, g9⟩ := hG.jr h5T (by rw [e28]; exact hg.1) hf5 (by rw [hF5.1 43 _ (show (8600 : Nat) ∉ [6200, 6400] from by decide)]; exact h43) (by rw [e29]; exact hj) htk (by rw [e13]; exact hk) (by rw [e13]; exact hk1)
    refine ok.letE (v1 := X.1 0 30) (g6.trans e30) (ok.sub (by rw [z1]; omega) (fun x8 hx8 => ?_))
    rw [z1] at hx8
    have e8 := ixc (z := x8) (by omega)
    have i8 : ix x8 = d := by omega
    refine ok.ck ⟨by omega, show x8.toInt < ((3200 : Nat) : Int) by omega⟩ (ok.letV (ok.ret ?_))
    have hF9 : Fr YR [11600] X6 (wI X6 58 (ix x8) k1) := Fr.rf.wI 58 _ _ (show (11600 : Nat) ∈ [11600] from by decide)
    have r58 : (wI X6 58 (ix x8) k1).1 58 d = k1 := by rw [i8, wI_at]
    have o58 : ∀ i, i ≠ d → (wI X6 58 (ix x8) k1).1 58 i = X6.1 58 i := fun i hi => wI_ne _ 58 _ _ 58 _ (fun q => hi (q.2.trans i8))
    obtain ⟨Y, hY⟩ : ∃ Y : St, wI X6 58 (ix x8) k1 = Y := ⟨_, rfl⟩
    rw [hY] at hF9 r58 o58 ⊢
    have j9 : JR X6 Y (fun _ => False) := JR.fr g1.2.1 hF9 (by decide) _
    have n13 : Y.1 0 13 = X.1 0 13 := (hF9.1 0 13 (by decide)).trans (g8.trans e13)
    have n15 : Y.1 0 15 = X.1 0 15 := (hF9.1 0 15 (by decide)).trans (g9.trans e15)
    have n28 : Y.1 0 28 = X6.1 0 28 := hF9.1 0 28 (by decide)
    rw [e28] at g3
    refine ⟨(j5.tr g1).tr (j9.mono (fun _ q => q.elim)), ⟨by rw [n13]; omega, by rw [n15]; omega, by rw [n28]; exact g3⟩, fun _ => ⟨by rw [hF9.1 0 30 (by decide), g6, e30]; exact hd, r58, fun i hi => by rw [o58 i hi, g4, c58], fun i => by rw [hF9.1 59 i (show (11800 : Nat) ∉ [11600] from by decide), g5, c59], g2.jr g1.2.1 j9 (fun q => q) (by rw [g8, e13]; exact hk) (by rw [g8, e13]; exact hk1)⟩⟩
/-- a row is wanted on top -/
theorem j_row {X : St} (hT : KT X) (hc : (X.1 0 13).toInt ≤ 5999) (hl : (X.1 0 15).toInt ≤ 19990) (hg : 0 ≤ (X.1 0 28).toInt ∧ (X.1 0 28).toInt < 12000) (hj : 0 ≤ (X.1 0 29).toInt ∧ (X.1 0 29).toInt ≤ 40) (hw : (X.1 0 9).toInt = 0) (h3 : K3 X) {o pl : Int32} {d : Nat} (ho : 0 ≤ o.toInt ∧ o.toInt < 24000) (hd : (X.1 0 30).toInt = (d : Int) + 1) (hd2 : d < 3200) (hk : 0 ≤ (X.1 58 d).toInt ∧ (X.1 58 d).toInt < (X.1 0 13).toInt) (h43 : (X.1 43 (ix o)).toInt = -1) : ok (f_judgeRow o pl X) (fun _ Y => JO X Y (fun i => i = ix o) 1 1 ((Y.1 0 30).toInt = (d : Int) + 1 ∧ (∃ k1 e, Y.1 58 d = k1 ∧ ROWK Y k1 e ∧ GRD Y (ix o) (X.1 58 d) k1 ∧ (0 ≤ e.toInt ∧ e.toInt < (Y.1 0 13).toInt) ∧ (k1 = X.1 58 d ∨ ksz Y (ix k1) = 2)) ∧ (∀ i, i ≠ d → Y.1 58 i = X.1 58 i) ∧ (∀ i, Y.1 59 i = X.1 59 i))) := by
  have z1 : (1 : Int32).toInt = 1 := rfl
  have z2 : (2 : Int32).toInt = 2 := rfl
  have ek := ixc hk.1
  unfold f_judgeRow
  refine ok.letV (ok.sub (by rw [z1]; omega) (fun x2 hx2 => ?_))
  rw [z1] at hx2
  have e2 := ixc (z := x2) (by omega)
  have i2 : ix x2 = d := by omega
  refine ok.ck ⟨by omega, show x2.toInt < ((3200 : Nat) : Int) by omega⟩ (ok.letE (v1 := X.1 58 d) (by rw [i2]) ?_)
  refine ok.ite (fun c => ?_) (fun c => ?_)
  · have hk2 : X.1 58 d = 2 := Int32.toInt_inj.mp c
    refine ok.bd (j_rowOf hT hc hl (k := 2) ⟨by decide, by rw [z2]; have := h3.1; omega⟩) ?_
    rintro x6 X7 ⟨hF7, h7T, h7K, ⟨m13, m15⟩, hR, hsz⟩
    have hks := h3.sz hT (k := 2) (by decide)
    rw [hks] at hsz
    have e28 : X7.1 0 28 = X.1 0 28 := hF7.1 0 28 (by decide)
    have e29 : X7.1 0 29 = X.1 0 29 := hF7.1 0 29 (by decide)
    have e30 : X7.1 0 30 = X.1 0 30 := hF7.1 0 30 (by decide)
    have e9 : X7.1 0 9 = X.1 0 9 := hF7.1 0 9 (by decide)
    have hkk := h7K.1
    have c58 : ∀ i, X7.1 58 i = X.1 58 i := fun i => hF7.1 58 i (show (11600 : Nat) ∉ [13, 15, 800, 1000, 1200, 1400, 1600, 1800, 2000] from by decide)
    have c59 : ∀ i, X7.1 59 i = X.1 59 i := fun i => hF7.1 59 i (show (11800 : Nat) ∉ [13, 15, 800, 1000, 1200, 1400, 1600, 1800, 2000] from by decide)
    have j7 : JR X X7 (fun i => i = ix o) := JR.kx hF7 h7T h7K (by decide) _
    refine ok.letE (v1 := X.1 0 29) e29 ?_
    refine ok.bd (j_guards (X := X7) ho (by rw [e28]; exact hg)) ?_
    rintro - X9 hG
    obtain ⟨g1, g2, g3, g4, g5, g6, g7, g8, g9⟩ := hG.jr h7T (by rw [e28]; exact hg.1) (FIT.intro (Or.inr (Or.inl c))) (by rw [hF7.1 43 _ (show (8600 : Nat) ∉ [13, 15, 800, 1000, 1200, 1400, 1600, 1800, 2000] from by decide)]; exact h43) (by rw [e29]; exact hj) (by omega) (by omega) ⟨hR.1, hR.2.1⟩
    refine ok.letE (v1 := X.1 0 30) (g6.trans e30) (ok.sub (by rw [z1]; omega) (fun x8 hx8 => ?_))
    rw [z1] at hx8
    have e8 := ixc (z := x8) (by omega)
    have i8 : ix x8 = d := by omega
    refine ok.ck ⟨by omega, show x8.toInt < ((3200 : Nat) : Int) by omega⟩ (ok.letV (ok.ret ?_))
    have hF9 : Fr YR [11600] X9 (wI X9 58 (ix x8) x6) := Fr.rf.wI 58 _ _ (show (11600 : Nat) ∈ [11600] from by decide)
    have r58 : (wI X9 58 (ix x8) x6).1 58 d = x6 := by rw [i8, wI_at]
    have o58 : ∀ i, i ≠ d → (wI X9 58 (ix x8) x6).1 58 i = X9.1 58 i := fun i hi => wI_ne _ 58 _ _ 58 _ (fun q => hi (q.2.trans i8))
    obtain ⟨Y, hY⟩ : ∃ Y : St, wI X9 58 (ix x8) x6 = Y := ⟨_, rfl⟩
    rw [hY] at hF9 r58 o58 ⊢
    have j9 : JR X9 Y (fun _ => False) := JR.fr g1.2.1 hF9 (by decide) _
    have n13 : Y.1 0 13 = X7.1 0 13 := (hF9.1 0 13 (by decide)).trans g8
    have n15 : Y.1 0 15 = X7.1 0 15 := (hF9.1 0 15 (by decide)).trans g9
    have n28 : Y.1 0 28 = X9.1 0 28 := hF9.1 0 28 (by decide)
    rw [e28] at g3
    have k79 : KX X7 Y := g1.2.2.1.tr j9.2.2.1
    have hx6 := ixc hR.1
    refine ⟨(j7.tr g1).tr (j9.mono (fun _ q => q.elim)), ⟨by rw [n13]; exact m13, by rw [n15]; omega, by rw [n28]; exact g3⟩, fun _ => ⟨by rw [hF9.1 0 30 (by decide), g6, e30]; exact hd, ⟨x6, 2, r58, hR.kx h7T k79, ?_, ⟨by decide, by rw [z2, n13]; have := h3.1; omega⟩, Or.inr ?_⟩, fun i hi => by rw [o58 i hi, g4, c58], fun i => by rw [hF9.1 59 i (show (11800 : Nat) ∉ [11600] from by decide), g5, c59]⟩⟩
    · rw [hk2] at *
      exact g2.jr g1.2.1 j9 (fun q => q) (by rw [g8, z2]; have := h3.1; omega) (by rw [g8]; exact ⟨hR.1, hR.2.1⟩)
    · rw [ksz_kx h7T j9.2.1 k79 _ (by have := hR.2.1; omega)]
      exact hsz
  · have ink : inR (X.1 58 d) 6000 := ⟨hk.1, show (X.1 58 d).toInt < ((6000 : Nat) : Int) by omega⟩
    refine ok.ck ink (ok.letV ?_)
    refine ok.ite (fun c4 => ok.ret ?_) (fun c4 => ?_)
    · obtain ⟨q1, q2, q3, q4, q5⟩ := hT.2.2 (ix (X.1 58 d)) (by omega)
      have q6 : (X.1 5 (ix (X.1 58 d))).toInt = 1 := by rcases q4 with q | q | q <;> omega
      have q7 := cmpK_lt hT hk.1 hk.2 (i := 0) (by omega)
      exact ⟨JR.fr hT (Fr.rf (L := [])) (by decide) _, by omega, fun _ => ⟨hd, ⟨_, _, rfl, ⟨hk.1, hk.2, c4, q6, rfl⟩, Or.inl ⟨rfl, h43⟩, by omega, Or.inl rfl⟩, fun _ _ => rfl, fun _ => rfl⟩⟩
    · refine ok.bd (j_fails (X := X) (by decide) hw) ?_
      rintro - Y ⟨hF, hw2⟩
      exact ok.ret (bad hT hF hw2 (by decide) (by decide))
