/-! judges(), the loops -/
/-- the params' kinds, and what else of the part is told -/
theorem j_params {r37 : Int32 → St → Option (Int32 × St)} {X : St} {a1 : Int32} {p P E : Nat} {Q : Int32 → St → Prop} (hP : (X.1 0 18).toInt = (P : Int)) (hp : p < P) (ha1 : a1.toInt = (p : Int)) (h3 : K3 X) (hPF : PF X) (hc : (X.1 0 13).toInt ≤ 5999) (hE1 : P ≤ p + 1 → (X.1 0 26).toInt = (E : Int)) (hE2 : p + 1 < P → (X.1 44 (p + 1)).toInt = (E : Int)) (hK : ∀ (W : St) (b : Int32), Fr YR [11400, 11800] X W → (∀ j, j < ix (X.1 15 p) → W.1 59 j = pkv X p j) → b.toInt = (E : Int) → ok (f_judges_167 r37 a1 b W) Q) : ∀ (d i : Nat) (Z : St) (a2 : Int32) (N : Nat), i + d = ix (X.1 15 p) → d < N → a2.toInt = (i : Int) → Fr YR [11400, 11800] X Z → (∀ j, j < i → Z.1 59 j = pkv X p j) → ok (f_judges_80 r37 N a1 a2 Z) Q := by
  have hP40 := hPF.1.2
  obtain ⟨⟨p1, p2⟩, -⟩ := hPF.2 p (by omega)
  have ep := ixc p1
  have ea1 := ixc (z := a1) (by omega)
  have ia1 : ix a1 = p := by omega
  have in1 : inR a1 41 := ⟨by omega, show a1.toInt < ((41 : Nat) : Int) by omega⟩
  have z1 : (1 : Int32).toInt = 1 := rfl
  intro d
  induction d with
  | zero =>
    intro i Z a2 N hi hN ha2 hF h59
    obtain ⟨N, rfl⟩ : ∃ k, N = k + 1 := ⟨N - 1, by omega⟩
    unfold f_judges_80
    rw [lp_succ]
    unfold f_judges_80_s
    refine ok.ck in1 (ok.letE (v1 := X.1 15 p) (by rw [ia1]; exact hF.1 15 p (show (3000 : Nat) ∉ [11400, 11800] from by decide)) ?_)
    refine ok.ite (fun _ => ?_) (fun c => absurd (show (X.1 15 p).toInt ≤ a2.toInt by omega) c)
    refine ok.add (by rw [z1]; omega) (fun x23 hx23 => ?_)
    rw [z1] at hx23
    have e23 := ixc (z := x23) (by omega)
    have i23 : ix x23 = p + 1 := by omega
    refine ok.letE (v1 := X.1 0 18) (hF.1 0 18 (by decide)) ?_
    refine ok.ite (fun c => ?_) (fun c => ?_)
    · refine ok.letE (v1 := X.1 0 26) (hF.1 0 26 (by decide)) ?_
      exact hK Z _ hF (fun j hj => h59 j (by omega)) (hE1 (by omega))
    · refine ok.add (by rw [z1]; omega) (fun x33 hx33 => ?_)
      rw [z1] at hx33
      have e33 := ixc (z := x33) (by omega)
      have i33 : ix x33 = p + 1 := by omega
      refine ok.ck ⟨by omega, show x33.toInt < ((41 : Nat) : Int) by omega⟩ (ok.letE (v1 := X.1 44 (p + 1)) (by rw [i33]; exact hF.1 44 _ (show (8800 : Nat) ∉ [11400, 11800] from by decide)) ?_)
      exact hK Z _ hF (fun j hj => h59 j (by omega)) (hE2 (by omega))
  | succ d ih =>
    intro i Z a2 N hi hN ha2 hF h59
    obtain ⟨N, rfl⟩ : ∃ k, N = k + 1 := ⟨N - 1, by omega⟩
    have ea2 := ixc (z := a2) (by omega)
    have ia2 : ix a2 = i := by omega
    have in2 : inR a2 60 := ⟨by omega, show a2.toInt < ((60 : Nat) : Int) by omega⟩
    have hpk := hPF.pkv h3.1 (p := p) (i := i) (by omega) (by omega)
    unfold f_judges_80
    rw [lp_succ]
    unfold f_judges_80_s
    refine ok.ck in1 (ok.letE (v1 := X.1 15 p) (by rw [ia1]; exact hF.1 15 p (show (3000 : Nat) ∉ [11400, 11800] from by decide)) ?_)
    refine ok.ite (fun c => absurd c (by omega)) (fun _ => ?_)
    refine ok.bd (j_paramKindOf (X := Z) (p := a1) (i := a2) (by omega) (by omega)) ?_
    rintro r Y ⟨rfl, hr⟩
    have hpz : pkv Z p i = pkv X p i := by
      unfold _root_.Jvm.Pilot.CBlameCourtLaw_law_r8381_f30dd1.pkv
      rw [hF.1 19 p (show (3800 : Nat) ∉ [11400, 11800] from by decide), hF.1 16 _ (show (3200 : Nat) ∉ [11400, 11800] from by decide)]
    rw [ia1, ia2, hpz] at hr
    refine ok.ck in2 (ok.letV ?_)
    have hF2 : Fr YR [11400, 11800] X (wI Z 59 (ix a2) r) := hF.wI 59 _ _ (show (11800 : Nat) ∈ [11400, 11800] from by decide)
    have g59 : ∀ j, j < i + 1 → (wI Z 59 (ix a2) r).1 59 j = pkv X p j := by
      intro j hj
      by_cases g : j = i
      · rw [g, ia2, wI_at]
        exact hr
      · rw [wI_ne _ 59 _ _ 59 _ (by rintro ⟨-, q⟩; omega)]
        exact h59 j (by omega)
    obtain ⟨W, hW⟩ : ∃ W : St, wI Z 59 (ix a2) r = W := ⟨_, rfl⟩
    rw [hW] at hF2 g59 ⊢
    have go : ∀ b0 : Int32, ok (f_judges_135 r37 (f_judges_80 r37 N) a1 a2 b0 a1 W) Q := by
      intro b0
      unfold f_judges_135
      refine ok.ck in1 (ok.letV ?_)
      have hF3 : Fr YR [11400, 11800] X (wI W 57 (ix a1) (vp_nar .boolean b0)) := hF2.wI 57 _ _ (show (11400 : Nat) ∈ [11400, 11800] from by decide)
      have k59 : ∀ j, j < i + 1 → (wI W 57 (ix a1) (vp_nar .boolean b0)).1 59 j = pkv X p j := by
        intro j hj
        rw [wI_ne _ 57 _ _ 59 _ (by rintro ⟨q, -⟩; omega)]
        exact g59 j hj
      obtain ⟨V, hV⟩ : ∃ V : St, wI W 57 (ix a1) (vp_nar .boolean b0) = V := ⟨_, rfl⟩
      rw [hV] at hF3 k59 ⊢
      refine ok.inc (by decide) (by omega) (fun x40 hx40 => ?_)
      have hx40 : x40.toInt = a2.toInt + 1 := hx40
      exact ih (i + 1) V x40 N (by omega) (by omega) (by omega) hF3 k59
    refine ok.ck in1 (ok.letV ?_)
    refine ok.ite (fun _ => ?_) (fun _ => ?_)
    · refine ok.ck in2 (ok.letE (v1 := pkv X p i) (by rw [ia2]; exact g59 i (by omega)) ?_)
      refine ok.ck ⟨hpk.1, show (pkv X p i).toInt < ((6000 : Nat) : Int) by omega⟩ (ok.letV ?_)
      refine ok.ite (fun _ => ?_) (fun _ => ?_)
      · exact go 0
      · exact go 1
    · exact go 1
/-- what stands when the first p parts are judged -/
def JINV (X : St) (lo po : Nat → Nat) (P p : Nat) (Z : St) : Prop := Fr YR [29, 9, 10, 13, 15, 28, 30, 800, 1000, 1200, 1400, 1600, 1800, 2000, 6200, 6400, 8600, 10400, 10600, 10800, 11000, 11200, 11400, 11600, 11800] X Z ∧ KT Z ∧ JW X Z (fun j => j < po p) ∧ ((Z.1 0 13).toInt ≤ (X.1 0 13).toInt + lo p ∧ (Z.1 0 15).toInt ≤ (X.1 0 15).toInt + 5 * (lo p : Int) ∧ 0 ≤ (Z.1 0 28).toInt ∧ (Z.1 0 28).toInt ≤ (lo p : Int)) ∧ ((Z.1 0 9).toInt = 0 → ∀ q, q < p → PJ Z q (po q) (po (q + 1) - 2))
set_option maxHeartbeats 4000000 in
theorem j_parts {X : St} {lo po : Nat → Nat} {P : Nat} (hP : (X.1 0 18).toInt = (P : Int)) (hT : KT X) (h3 : K3 X) (hPF : PF X) (hFL : FLa X) (hnm : ∀ i : Nat, (i : Int) < (X.1 0 19).toInt → (X.1 20 i).toInt = 3 → 0 ≤ (X.1 26 i).toInt ∧ (X.1 26 i).toInt < (X.1 0 18).toInt) (hC : CODE X lo po P) (hmon : ∀ p q, p ≤ q → q ≤ P → lo p ≤ lo q) (hpo : ∀ q, q ≤ P → po q ≤ 5 * lo q) (hE : (X.1 0 26).toInt = (po P : Int)) (hN : lo P ≤ 3000 ∧ (lo P : Int) = (X.1 0 19).toInt) (hcn : (X.1 0 13).toInt + lo P ≤ 3003 ∧ (X.1 0 15).toInt ≤ 3000) (h43 : ∀ j, j < po P → (X.1 43 j).toInt = -1) {Q : Int32 → St → Prop} (hK : ∀ (Z : St), JINV X lo po P P Z ∨ (¬ (Z.1 0 9).toInt = 0 ∧ ∃ p, p ≤ P ∧ JINV X lo po P p Z) → ok (f_judges_210 Z) Q) : ∀ (d p : Nat) (Z : St) (a : Int32) (N : Nat), p + d = P → d < N → a.toInt = (p : Int) → JINV X lo po P p Z → ok (f_judges_37 N a Z) Q := by
  have hP40 := hPF.1.2
  have hpm : ∀ q, q < P → po q < po (q + 1) := by
    intro q hq
    obtain ⟨-, -, e, s3, -, -, s6⟩ := hC q hq
    have := s3.bd
    omega
  have hpmm : ∀ a b, a ≤ b → b ≤ P → po a ≤ po b := by
    intro a b hab
    induction b with
    | zero => intro _; rw [show a = 0 by omega]; exact Nat.le_refl _
    | succ b ih =>
      intro hb
      by_cases g : a = b + 1
      · rw [g]; exact Nat.le_refl _
      · have := ih (by omega) (by omega)
        have := hpm b (by omega)
        omega
  intro d
  induction d with
  | zero =>
    intro p Z a N hpd hN1 ha hI
    obtain ⟨N, rfl⟩ : ∃ k, N = k + 1 := ⟨N - 1, by omega⟩
    have ep : p = P := by omega
    subst ep
    unfold f_judges_37
    rw [lp_succ]
    unfold f_judges_37_s
    refine ok.letE (v1 := X.1 0 18) (hI.1.1 0 18 (by decide)) ?_
    exact ok.ite (fun _ => hK Z (Or.inl hI)) (fun c => absurd (show (X.1 0 18).toInt ≤ a.toInt by omega) c)
  | succ d ih =>
    intro p Z a N hpd hN1 ha hI
    obtain ⟨N, rfl⟩ : ∃ k, N = k + 1 := ⟨N - 1, by omega⟩
    obtain ⟨iF, iT, iW, ⟨i13, i15, i28, i28b⟩, iP⟩ := id hI
    have ea := ixc (z := a) (by omega)
    have eia : ix a = p := by omega
    have in1 : inR a 41 := ⟨by omega, show a.toInt < ((41 : Nat) : Int) by omega⟩
    have hm1 := hmon p (p + 1) (by omega) (by omega)
    have hm2 := hmon (p + 1) P (by omega) (Nat.le_refl _)
    have hmp := hpm p (by omega)
    have hmP := hpmm (p + 1) P (by omega) (Nat.le_refl _)
    have hp5 := hpo (p + 1) (by omega)
    have hkx := iW.2.1
    have hk13 := hkx.1
    have h30 := h3.1
    unfold f_judges_37
    rw [lp_succ]
    show ok (f_judges_37_s (f_judges_37 N) a Z) Q
    unfold f_judges_37_s
    refine ok.letE (v1 := X.1 0 18) (iF.1 0 18 (by decide)) ?_
    refine ok.ite (fun c => absurd c (by omega)) (fun _ => ?_)
    refine ok.bd (j_isWell (X := Z)) ?_
    rintro b Zx ⟨rfl, hb⟩
    refine ok.ite (fun c => hK Z (Or.inr ⟨fun q => by omega, p, by omega, hI⟩)) (fun c => ?_)
    have hwz : (Z.1 0 9).toInt = 0 := by omega
    refine ok.letV (ok.letV ?_)
    have hF1 : Fr YR [29, 30] Z (wI (wI Z 0 29 a) 0 30 0) := (Fr.rf.wI 0 29 _ (show (29 : Nat) ∈ [29, 30] from by decide)).wI 0 30 _ (show (30 : Nat) ∈ [29, 30] from by decide)
    have g29 : (wI (wI Z 0 29 a) 0 30 0).1 0 29 = a := by
      rw [wI_ne _ 0 _ _ 0 _ (by rintro ⟨-, q⟩; omega), wI_at]
    have g30 : (wI (wI Z 0 29 a) 0 30 0).1 0 30 = 0 := wI_at _ 0 _ _
    obtain ⟨Z1, hZ1⟩ : ∃ Z1 : St, wI (wI Z 0 29 a) 0 30 0 = Z1 := ⟨_, rfl⟩
    rw [hZ1] at hF1 g29 g30 ⊢
    have hXZ1 : Fr YR [29, 9, 10, 13, 15, 28, 30, 800, 1000, 1200, 1400, 1600, 1800, 2000, 6200, 6400, 8600, 10400, 10600, 10800, 11000, 11200, 11400, 11600, 11800] X Z1 := iF.tr hF1 (by decide)
    have kXZ1 : KX X Z1 := hkx.tr (KX.fr hF1 (by decide))
    have tZ1 : KT Z1 := iT.fr hF1 (by decide)
    have pZ1 : PF Z1 := hPF.kx hT tZ1 kXZ1 (hXZ1.1 0 18 (by decide)) (fun i => ⟨hXZ1.1 15 i (show (3000 : Nat) ∉ [29, 9, 10, 13, 15, 28, 30, 800, 1000, 1200, 1400, 1600, 1800, 2000, 6200, 6400, 8600, 10400, 10600, 10800, 11000, 11200, 11400, 11600, 11800] from by decide), hXZ1.1 16 i (show (3200 : Nat) ∉ [29, 9, 10, 13, 15, 28, 30, 800, 1000, 1200, 1400, 1600, 1800, 2000, 6200, 6400, 8600, 10400, 10600, 10800, 11000, 11200, 11400, 11600, 11800] from by decide), hXZ1.1 17 i (show (3400 : Nat) ∉ [29, 9, 10, 13, 15, 28, 30, 800, 1000, 1200, 1400, 1600, 1800, 2000, 6200, 6400, 8600, 10400, 10600, 10800, 11000, 11200, 11400, 11600, 11800] from by decide)⟩)
    have s18 : Z1.1 0 18 = X.1 0 18 := hXZ1.1 0 18 (by decide)
    have f13 : Z1.1 0 13 = Z.1 0 13 := hF1.1 0 13 (by decide)
    have v3 := h3.kx kXZ1
    refine ok.bd (j_ownKindOf (X := Z1) (p := a) (by omega)) ?_
    rintro x18 Z1x ⟨rfl, hx18⟩
    rw [eia] at hx18
    have vo := pZ1.okv v3.1 (p := p) (by rw [s18]; omega)
    rw [← hx18] at vo
    refine ok.ck ⟨vo.1, show x18.toInt < ((6000 : Nat) : Int) by rw [f13] at vo; omega⟩ (ok.letV (ok.ck in1 (ok.letV ?_)))
    have hF2 : Fr YR [29, 30, 11400] Z (wI Z1 57 (ix a) (vp_nar .boolean (Z1.1 8 (ix x18)))) := (hF1.mono (by decide)).wI 57 _ _ (show (11400 : Nat) ∈ [29, 30, 11400] from by decide)
    have g29b : (wI Z1 57 (ix a) (vp_nar .boolean (Z1.1 8 (ix x18)))).1 0 29 = a := by
      rw [wI_ne _ 57 _ _ 0 _ (by rintro ⟨q, -⟩; omega)]
      exact g29
    have g30b : (wI Z1 57 (ix a) (vp_nar .boolean (Z1.1 8 (ix x18)))).1 0 30 = 0 := by
      rw [wI_ne _ 57 _ _ 0 _ (by rintro ⟨q, -⟩; omega)]
      exact g30
    obtain ⟨Z2, hZ2⟩ : ∃ Z2 : St, wI Z1 57 (ix a) (vp_nar .boolean (Z1.1 8 (ix x18))) = Z2 := ⟨_, rfl⟩
    rw [hZ2] at hF2 g29b g30b ⊢
    have hXZ2 : Fr YR [29, 9, 10, 13, 15, 28, 30, 800, 1000, 1200, 1400, 1600, 1800, 2000, 6200, 6400, 8600, 10400, 10600, 10800, 11000, 11200, 11400, 11600, 11800] X Z2 := iF.tr hF2 (by decide)
    have kXZ2 : KX X Z2 := hkx.tr (KX.fr hF2 (by decide))
    have tZ2 : KT Z2 := iT.fr hF2 (by decide)
    have rowP : ∀ W : St, Fr YR [29, 9, 10, 13, 15, 28, 30, 800, 1000, 1200, 1400, 1600, 1800, 2000, 6200, 6400, 8600, 10400, 10600, 10800, 11000, 11200, 11400, 11600, 11800] X W → ∀ i, W.1 15 i = X.1 15 i ∧ W.1 16 i = X.1 16 i ∧ W.1 17 i = X.1 17 i := fun W hW i => ⟨hW.1 15 i (show (3000 : Nat) ∉ [29, 9, 10, 13, 15, 28, 30, 800, 1000, 1200, 1400, 1600, 1800, 2000, 6200, 6400, 8600, 10400, 10600, 10800, 11000, 11200, 11400, 11600, 11800] from by decide), hW.1 16 i (show (3200 : Nat) ∉ [29, 9, 10, 13, 15, 28, 30, 800, 1000, 1200, 1400, 1600, 1800, 2000, 6200, 6400, 8600, 10400, 10600, 10800, 11000, 11200, 11400, 11600, 11800] from by decide), hW.1 17 i (show (3400 : Nat) ∉ [29, 9, 10, 13, 15, 28, 30, 800, 1000, 1200, 1400, 1600, 1800, 2000, 6200, 6400, 8600, 10400, 10600, 10800, 11000, 11200, 11400, 11600, 11800] from by decide)⟩
    have pZ2 : PF Z2 := hPF.kx hT tZ2 kXZ2 (hXZ2.1 0 18 (by decide)) (rowP Z2 hXZ2)
    have c15 : Z2.1 15 p = X.1 15 p := (rowP Z2 hXZ2 p).1
    have c18 : Z2.1 0 18 = X.1 0 18 := hXZ2.1 0 18 (by decide)
    have c26 : Z2.1 0 26 = X.1 0 26 := hXZ2.1 0 26 (by decide)
    have c13 : Z2.1 0 13 = Z.1 0 13 := hF2.1 0 13 (by decide)
    have c44 : Z2.1 44 (p + 1) = X.1 44 (p + 1) := hXZ2.1 44 _ (show (8800 : Nat) ∉ [29, 9, 10, 13, 15, 28, 30, 800, 1000, 1200, 1400, 1600, 1800, 2000, 6200, 6400, 8600, 10400, 10600, 10800, 11000, 11200, 11400, 11600, 11800] from by decide)
    refine j_params (X := Z2) (a1 := a) (p := p) (P := P) (E := po (p + 1)) (by rw [c18]; exact hP) (by omega) ha (h3.kx kXZ2) pZ2 (by rw [c13]; omega) (fun q => by rw [c26, show p + 1 = P by omega]; exact hE) (fun q => by rw [c44]; exact (hC (p + 1) q).1) ?_ (ix (Z2.1 15 p)) 0 Z2 0 BIG (by omega) (ltBIG (by have := (pZ2.2 p (by rw [c18]; omega)).1; have := ixc this.1; omega)) (by decide) Fr.rf (fun j hj => absurd hj (Nat.not_lt_zero _))
    intro W b hFW h59 hb2
    have hFZ : Fr YR [29, 30, 11400, 11800] Z W := (hF2.mono (by decide)).tr hFW (by decide)
    have hXW : Fr YR [29, 9, 10, 13, 15, 28, 30, 800, 1000, 1200, 1400, 1600, 1800, 2000, 6200, 6400, 8600, 10400, 10600, 10800, 11000, 11200, 11400, 11600, 11800] X W := iF.tr hFZ (by decide)
    have kXW : KX X W := hkx.tr (KX.fr hFZ (by decide))
    have tW : KT W := iT.fr hFZ (by decide)
    have pW : PF W := hPF.kx hT tW kXW (hXW.1 0 18 (by decide)) (rowP W hXW)
    have fW : FLa W := hFL.kx hT tW kXW hXW (by decide)
    have jW0 : JW Z W (fun _ => False) := JW.fr hFZ (KX.fr hFZ (by decide)) (by decide) _
    have w13 : W.1 0 13 = Z.1 0 13 := hFZ.1 0 13 (by decide)
    have w15 : W.1 0 15 = Z.1 0 15 := hFZ.1 0 15 (by decide)
    have w28 : W.1 0 28 = Z.1 0 28 := hFZ.1 0 28 (by decide)
    have w18 : W.1 0 18 = X.1 0 18 := hXW.1 0 18 (by decide)
    have w19 : W.1 0 19 = X.1 0 19 := hXW.1 0 19 (by decide)
    have w29 : (W.1 0 29).toInt = (p : Int) := by rw [hFW.1 0 29 (by decide), g29b]; exact ha
    have w30 : (W.1 0 30).toInt = 0 := by rw [hFW.1 0 30 (by decide), g30b]; rfl
    have w9 : (W.1 0 9).toInt = 0 := by rw [hFZ.1 0 9 (by decide)]; exact hwz
    have wC : CODE W lo po P := fun q hq => by
      obtain ⟨s1, s2, e, s3, s4, s5, s6⟩ := hC q hq
      refine ⟨by rw [hXW.1 44 q (show (8800 : Nat) ∉ [29, 9, 10, 13, 15, 28, 30, 800, 1000, 1200, 1400, 1600, 1800, 2000, 6200, 6400, 8600, 10400, 10600, 10800, 11000, 11200, 11400, 11600, 11800] from by decide)]; exact s1, by rw [hXW.1 18 q (show (3600 : Nat) ∉ [29, 9, 10, 13, 15, 28, 30, 800, 1000, 1200, 1400, 1600, 1800, 2000, 6200, 6400, 8600, 10400, 10600, 10800, 11000, 11200, 11400, 11600, 11800] from by decide)]; exact s2, e, ?_, ⟨by rw [hXW.1 40 e (show (8000 : Nat) ∉ [29, 9, 10, 13, 15, 28, 30, 800, 1000, 1200, 1400, 1600, 1800, 2000, 6200, 6400, 8600, 10400, 10600, 10800, 11000, 11200, 11400, 11600, 11800] from by decide)]; exact s4.1, by rw [hXW.1 41 e (show (8200 : Nat) ∉ [29, 9, 10, 13, 15, 28, 30, 800, 1000, 1200, 1400, 1600, 1800, 2000, 6200, 6400, 8600, 10400, 10600, 10800, 11000, 11200, 11400, 11600, 11800] from by decide)]; exact s4.2⟩, ⟨by rw [hXW.1 40 (e + 1) (show (8000 : Nat) ∉ [29, 9, 10, 13, 15, 28, 30, 800, 1000, 1200, 1400, 1600, 1800, 2000, 6200, 6400, 8600, 10400, 10600, 10800, 11000, 11200, 11400, 11600, 11800] from by decide)]; exact s5.1, by rw [hXW.1 41 (e + 1) (show (8200 : Nat) ∉ [29, 9, 10, 13, 15, 28, 30, 800, 1000, 1200, 1400, 1600, 1800, 2000, 6200, 6400, 8600, 10400, 10600, 10800, 11000, 11200, 11400, 11600, 11800] from by decide)]; exact s5.2⟩, s6⟩
      rw [hXW.1 18 q (show (3600 : Nat) ∉ [29, 9, 10, 13, 15, 28, 30, 800, 1000, 1200, 1400, 1600, 1800, 2000, 6200, 6400, 8600, 10400, 10600, 10800, 11000, 11200, 11400, 11600, 11800] from by decide), hXW.1 15 q (show (3000 : Nat) ∉ [29, 9, 10, 13, 15, 28, 30, 800, 1000, 1200, 1400, 1600, 1800, 2000, 6200, 6400, 8600, 10400, 10600, 10800, 11000, 11200, 11400, 11600, 11800] from by decide)]
      exact s3.fr0 hXW (by decide)
    unfold f_judges_167
    refine ok.ck in1 (ok.letV ?_)
    have e44 : (W.1 44 (ix a)).toInt = (po p : Int) := by rw [eia]; exact (wC p (by omega)).1
    obtain ⟨c1, o1, Y, g1, b1, j1, n1, q1⟩ := j_part (r37 := f_judges_37 N) (a1 := a) (a2 := b) (o := W.1 44 (ix a)) (X := W) (lo := lo) (po := po) (P := P) (p := p) (by rw [w18]; exact hP) (by omega) tW (h3.kx kXW) pW fW (fun i hi h20 => by
      rw [w19] at hi
      rw [hXW.1 20 i (show (4000 : Nat) ∉ [29, 9, 10, 13, 15, 28, 30, 800, 1000, 1200, 1400, 1600, 1800, 2000, 6200, 6400, 8600, 10400, 10600, 10800, 11000, 11200, 11400, 11600, 11800] from by decide)] at h20
      rw [hXW.1 26 i (show (5200 : Nat) ∉ [29, 9, 10, 13, 15, 28, 30, 800, 1000, 1200, 1400, 1600, 1800, 2000, 6200, 6400, 8600, 10400, 10600, 10800, 11000, 11200, 11400, 11600, 11800] from by decide), w18]
      exact hnm i hi h20) (by omega) w30 w9 (fun j hj => by
      rw [h59 j (by rw [← hFW.1 15 p (show (3000 : Nat) ∉ [11400, 11800] from by decide)]; exact hj)]
      unfold _root_.Jvm.Pilot.CBlameCourtLaw_law_r8381_f30dd1.pkv
      rw [hFW.1 19 p (show (3800 : Nat) ∉ [11400, 11800] from by decide), hFW.1 16 _ (show (3200 : Nat) ∉ [11400, 11800] from by decide)]) wC hmon hpo ⟨hN.1, by rw [w19]; exact hN.2⟩ (by rw [w13, w15, w28]; omega) (fun j k1 k2 => by
      rw [hFZ.1 43 j (show (8600 : Nat) ∉ [29, 30, 11400, 11800] from by decide), iW.2.2.2 j (fun (q : j < po p) => by omega)]
      exact h43 j (by omega)) e44 hb2
    have hY : JINV X lo po P (p + 1) Y := by
      have jw := j1.jw
      refine ⟨hXW.tr j1.1 (by decide), j1.2.1, ?_, ⟨by rw [w13] at n1; omega, by rw [w15] at n1; omega, by have := j1.2.2.2.1.1; rw [w28] at this; omega, by rw [w28] at n1; omega⟩, fun hwy q hq => ?_⟩
      · have fW2 : JW X Y (fun j => j < po (p + 1)) := by
          refine ⟨⟨fun i => ?_, jw.1.2.trans w18⟩, hkx.tr ((KX.fr hFZ (by decide)).tr jw.2.1), ⟨by have := iW.2.2.1.1; have := jw.2.2.1.1; rw [w28] at this; omega, fun i hi => ?_, fun i g1 g2 => ?_⟩, fun i hi => ?_⟩
          · obtain ⟨x1, x2, x3, x4, x5, x6, x7, x8, x9, x10⟩ := jw.1.1 i
            obtain ⟨y1, y2, y3, y4, y5, y6, y7, y8, y9, y10⟩ := jW0.1.1 i
            obtain ⟨v1, v2, v3, v4, v5, v6, v7, v8, v9, v10⟩ := iW.1.1 i
            exact ⟨x1.trans (y1.trans v1), x2.trans (y2.trans v2), x3.trans (y3.trans v3), x4.trans (y4.trans v4), x5.trans (y5.trans v5), x6.trans (y6.trans v6), x7.trans (y7.trans v7), x8.trans (y8.trans v8), x9.trans (y9.trans v9), x10.trans (y10.trans v10)⟩
          · have k0 := iW.2.2.1.1
            obtain ⟨x1, x2, x3, x4⟩ := jw.2.2.1.2.1 i (by rw [w28]; omega)
            obtain ⟨y1, y2, y3, y4⟩ := jW0.2.2.1.2.1 i (by omega)
            obtain ⟨v1, v2, v3, v4⟩ := iW.2.2.1.2.1 i hi
            exact ⟨x1.trans (y1.trans v1), x2.trans (y2.trans v2), x3.trans (y3.trans v3), x4.trans (y4.trans v4)⟩
          · by_cases g : (i : Int) < (Z.1 0 28).toInt
            · obtain ⟨x1, x2, -⟩ := jw.2.2.1.2.1 i (by rw [w28]; exact g)
              obtain ⟨y1, y2, -⟩ := jW0.2.2.1.2.1 i g
              obtain ⟨⟨v1, v2⟩, v3, v4⟩ := iW.2.2.1.2.2 i g1 g
              have k13 := jw.2.1.1
              rw [w13] at k13
              rw [x1, y1, x2, y2]
              exact ⟨⟨v1, by omega⟩, v3, by omega⟩
            · exact jw.2.2.1.2.2 i (by rw [w28]; omega) g2
          · exact (jw.2.2.2 i (fun (q : po p ≤ i ∧ i < po (p + 1)) => hi q.2)).trans ((jW0.2.2.2 i (fun q => q)).trans (iW.2.2.2 i (fun (q : i < po p) => hi (show i < po (p + 1) by omega))))
        exact fW2
      · by_cases g : q = p
        · rw [g]
          exact (q1 hwy).2
        · have hq1 := hpmm (q + 1) p (by omega) (by omega)
          have hq2 := hpm q (by omega)
          exact ((iP hwz q (by omega)).jw iT jW0 (fun i _ _ w => w)).jw tW jw (fun i k1 k2 (w : po p ≤ i ∧ i < po (p + 1)) => by omega)
    obtain ⟨k, hk⟩ : ∃ k, BIG = (k + 1) + c1 := ⟨BIG - c1 - 1, by have := ltBIG (show c1 < 100000 by omega); omega⟩
    rw [hk, g1.1 (k + 1)]
    have fin : ok (f_judges_204 (f_judges_37 N) a Y) Q := by
      unfold f_judges_204
      refine ok.inc (by decide) (by omega) (fun x27 hx27 => ?_)
      have hx27 : x27.toInt = a.toInt + 1 := hx27
      exact ih (p + 1) Y x27 N (by omega) (by omega) (by omega) hY
    unfold f_judges_175
    rw [lp_succ]
    unfold f_judges_175_s
    refine ok.ite (fun _ => fin) (fun cc => ?_)
    refine ok.bd (j_isWell (X := Y)) ?_
    rintro bb Yx ⟨rfl, hbb⟩
    refine ok.ite (fun _ => fin) (fun cd => ?_)
    have := (q1 (by omega)).1
    omega
