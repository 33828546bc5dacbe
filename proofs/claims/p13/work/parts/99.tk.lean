/-! judges() itself -/
/-- the state with the kinds of the text alone -/
def TX (X : St) : St := wI (wI X 0 13 (X.1 0 14)) 0 15 (X.1 0 16)
theorem TX.fr {X : St} : Fr YR [13, 15] X (TX X) := (Fr.rf.wI 0 13 _ (show (13 : Nat) ∈ [13, 15] from by decide)).wI 0 15 _ (show (15 : Nat) ∈ [13, 15] from by decide)
theorem TX.c13 {X : St} : (TX X).1 0 13 = X.1 0 14 := by
  unfold _root_.Jvm.Pilot.CBlameCourtLaw_law_r8381_f30dd1.TX
  rw [wI_ne _ 0 _ _ 0 _ (by rintro ⟨-, q⟩; omega), wI_at]
theorem TX.c15 {X : St} : (TX X).1 0 15 = X.1 0 16 := wI_at _ 0 _ _
/-- the whole code, judged -/
def JUD (Y : St) : Prop := ∃ lo po : Nat → Nat, lo 0 = 0 ∧ lo (ix (Y.1 0 18)) = ix (Y.1 0 19) ∧ (∀ p q, p ≤ q → q ≤ ix (Y.1 0 18) → lo p ≤ lo q) ∧ po 0 = 0 ∧ (Y.1 0 26).toInt = (po (ix (Y.1 0 18)) : Int) ∧ (∀ q, q ≤ ix (Y.1 0 18) → po q ≤ 5 * lo q) ∧ CODE Y lo po (ix (Y.1 0 18)) ∧ ∀ q, q < ix (Y.1 0 18) → PJ Y q (po q) (po (q + 1) - 2)
theorem CODE.fr {X Y : St} {lo po : Nat → Nat} {P : Nat} {L : List Nat} (h : CODE X lo po P) (hF : Fr YR L X Y) (hl : (4000 ∉ L ∧ 4600 ∉ L ∧ 4800 ∉ L ∧ 5000 ∉ L ∧ 5200 ∉ L ∧ 5400 ∉ L ∧ 5600 ∉ L ∧ 8000 ∉ L ∧ 8200 ∉ L ∧ 8400 ∉ L ∧ 9000 ∉ L ∧ 9200 ∉ L ∧ 9400 ∉ L ∧ 10200 ∉ L) ∧ 8800 ∉ L ∧ 3600 ∉ L ∧ 3000 ∉ L) : CODE Y lo po P := by
  obtain ⟨hl, h88, h36, h30⟩ := hl
  intro q hq
  obtain ⟨s1, s2, e, s3, s4, s5, s6⟩ := h q hq
  refine ⟨by rw [hF.1 44 q h88]; exact s1, by rw [hF.1 18 q h36]; exact s2, e, ?_, ⟨by rw [hF.1 40 e hl.2.2.2.2.2.2.2.1]; exact s4.1, by rw [hF.1 41 e hl.2.2.2.2.2.2.2.2.1]; exact s4.2⟩, ⟨by rw [hF.1 40 (e + 1) hl.2.2.2.2.2.2.2.1]; exact s5.1, by rw [hF.1 41 (e + 1) hl.2.2.2.2.2.2.2.2.1]; exact s5.2⟩, s6⟩
  rw [hF.1 18 q h36, hF.1 15 q h30]
  exact s3.fr0 hF hl
/-- the kinds of all guards -/
def GNA (Y : St) : Prop := ∀ i : Nat, (i : Int) < (Y.1 0 28).toInt → (0 ≤ (Y.1 53 i).toInt ∧ (Y.1 53 i).toInt < (Y.1 0 13).toInt) ∧ 0 ≤ (Y.1 54 i).toInt ∧ (Y.1 54 i).toInt < (Y.1 0 13).toInt
set_option maxHeartbeats 4000000 in
theorem t_f_judges {X : St} (hT : KT (TX X)) (h3 : K3 (TX X)) (hG : PROG (TX X)) (hb : 0 ≤ (X.1 0 18).toInt ∧ (X.1 0 18).toInt ≤ 40 ∧ 0 ≤ (X.1 0 19).toInt ∧ (X.1 0 16).toInt ≤ 3000) : ok (f_judges X) (fun _ Y => Fr YR [4, 9, 10, 13, 15, 26, 27, 28, 29, 30, 800, 1000, 1200, 1400, 1600, 1800, 2000, 6200, 6400, 8000, 8200, 8400, 8600, 8800, 9000, 9200, 9400, 9600, 9800, 10000, 10200, 10400, 10600, 10800, 11000, 11200, 11400, 11600, 11800] X Y ∧ KT Y ∧ KX (TX X) Y ∧ ((Y.1 0 13).toInt ≤ 3003 ∧ (Y.1 0 15).toInt ≤ 18000 ∧ 0 ≤ (Y.1 0 28).toInt ∧ (Y.1 0 28).toInt ≤ 3000) ∧ GNA Y ∧ (((Y.1 0 4).toInt = 1 ∧ (Y.1 0 9).toInt = 0 ∧ JUD Y) ∨ ((Y.1 0 4).toInt = 0 ∧ ¬ (Y.1 0 9).toInt = 0))) := by
  have t18 : (TX X).1 0 18 = X.1 0 18 := TX.fr.1 0 18 (by decide)
  have t19 : (TX X).1 0 19 = X.1 0 19 := TX.fr.1 0 19 (by decide)
  obtain ⟨gF, gA, ⟨gN, gK⟩, gM, gm⟩ := hG
  unfold f_judges
  refine ok.letV (ok.letV ?_)
  have e16 : (wI X 0 13 (X.1 0 14)).1 0 16 = X.1 0 16 := wI_ne _ 0 _ _ 0 _ (by rintro ⟨-, q⟩; omega)
  refine ok.letE (v1 := X.1 0 16) e16 ?_
  refine ok.letV ?_
  show ok (letV (wI (TX X) 0 9 0) fun X5 => letV (wI X5 0 10 (-1)) fun X6 => letV (wI X6 0 28 0) fun X7 => bnd (f_compiles X7) fun _ X8 => f_judges_37 BIG 0 X8) _
  refine ok.letV (ok.letV (ok.letV ?_))
  have hF7 : Fr YR [9, 10, 28] (TX X) (wI (wI (wI (TX X) 0 9 0) 0 10 (-1)) 0 28 0) := ((Fr.rf.wI 0 9 _ (show (9 : Nat) ∈ [9, 10, 28] from by decide)).wI 0 10 _ (show (10 : Nat) ∈ [9, 10, 28] from by decide)).wI 0 28 _ (show (28 : Nat) ∈ [9, 10, 28] from by decide)
  have c28 : ((wI (wI (wI (TX X) 0 9 0) 0 10 (-1)) 0 28 0).1 0 28).toInt = 0 := by rw [wI_at]; rfl
  obtain ⟨X7, hX7⟩ : ∃ W : St, wI (wI (wI (TX X) 0 9 0) 0 10 (-1)) 0 28 0 = W := ⟨_, rfl⟩
  rw [hX7] at hF7 c28 ⊢
  have a7 : ALLP X7 := gA.fr hT hF7 (by decide) (fun i _ => hF7.1 26 i (show (5200 : Nat) ∉ [9, 10, 28] from by decide))
  have s18 : X7.1 0 18 = X.1 0 18 := (hF7.1 0 18 (by decide)).trans t18
  have s19 : X7.1 0 19 = X.1 0 19 := (hF7.1 0 19 (by decide)).trans t19
  refine ok.bd (t_f_compiles (X := X7) a7 (by rw [s18]; exact ⟨hb.1, hb.2.1⟩) (by rw [s19]; rw [t19] at gN; exact ⟨hb.2.2.1, gN⟩)) ?_
  rintro - X8 ⟨hF8, lo, po, l0, lP, lm, p0, pP, p5, hC, h43⟩
  have hFt : Fr YR [9, 10, 28, 26, 27, 8000, 8200, 8400, 8600, 8800, 9000, 9200, 9400, 9600, 9800, 10000, 10200] (TX X) X8 := (hF7.mono (by decide)).tr hF8 (by decide)
  have hT8 : KT X8 := hT.fr hFt (by decide)
  have hK8 : KX (TX X) X8 := KX.fr hFt (by decide)
  have u18 : X8.1 0 18 = X.1 0 18 := (hFt.1 0 18 (by decide)).trans t18
  have u19 : X8.1 0 19 = X.1 0 19 := (hFt.1 0 19 (by decide)).trans t19
  have u13 : X8.1 0 13 = X.1 0 14 := (hFt.1 0 13 (by decide)).trans TX.c13
  have u15 : X8.1 0 15 = X.1 0 16 := (hFt.1 0 15 (by decide)).trans TX.c15
  have u28 : (X8.1 0 28).toInt = 0 := by rw [hF8.1 0 28 (by decide)]; exact c28
  rw [TX.c13] at gK
  rw [t19] at gN gK
  have e18 := ixc (z := X8.1 0 18) (by rw [u18]; exact hb.1)
  have e19 := ixc (z := X8.1 0 19) (by rw [u19]; exact hb.2.2.1)
  have hP8 : ix (X8.1 0 18) ≤ 40 := by
    have := hb.2.1
    rw [← u18] at this
    omega
  have hPF8 : PF X8 := (gA.pf (by rw [t18]; exact ⟨hb.1, hb.2.1⟩)).kx hT hT8 hK8 (hFt.1 0 18 (by decide)) (fun i => ⟨hFt.1 15 i (show (3000 : Nat) ∉ [9, 10, 28, 26, 27, 8000, 8200, 8400, 8600, 8800, 9000, 9200, 9400, 9600, 9800, 10000, 10200] from by decide), hFt.1 16 i (show (3200 : Nat) ∉ [9, 10, 28, 26, 27, 8000, 8200, 8400, 8600, 8800, 9000, 9200, 9400, 9600, 9800, 10000, 10200] from by decide), hFt.1 17 i (show (3400 : Nat) ∉ [9, 10, 28, 26, 27, 8000, 8200, 8400, 8600, 8800, 9000, 9200, 9400, 9600, 9800, 10000, 10200] from by decide)⟩)
  have hFL8 : FLa X8 := gF.fr hFt (by decide)
  have hLX : ∀ W : St, Fr YR [29, 9, 10, 13, 15, 28, 30, 800, 1000, 1200, 1400, 1600, 1800, 2000, 6200, 6400, 8600, 10400, 10600, 10800, 11000, 11200, 11400, 11600, 11800] X8 W → Fr YR [4, 9, 10, 13, 15, 26, 27, 28, 29, 30, 800, 1000, 1200, 1400, 1600, 1800, 2000, 6200, 6400, 8000, 8200, 8400, 8600, 8800, 9000, 9200, 9400, 9600, 9800, 10000, 10200, 10400, 10600, 10800, 11000, 11200, 11400, 11600, 11800] X W := fun W hW => ((TX.fr.mono (by decide)).tr hFt (by decide)).tr hW (by decide)
  refine j_parts (X := X8) (lo := lo) (po := po) (P := ix (X8.1 0 18)) e18.symm hT8 (h3.kx hK8) hPF8 hFL8 (fun i hi h20 => ?_) hC lm p5 pP (by rw [lP, e19, u19]; exact ⟨by rw [u19] at e19; omega, rfl⟩) (by rw [lP, e19, u19, u13, u15]; omega) (fun j hj => by rw [h43 j hj]; rfl) ?_ (ix (X8.1 0 18)) 0 X8 0 BIG (by omega) (ltBIG (by omega)) (by decide) ⟨Fr.rf, hT8, JW.fr (Fr.rf (L := [])) KX.rf (by decide) _, ⟨by omega, by omega, by omega, by omega⟩, fun _ q hq => absurd hq (Nat.not_lt_zero _)⟩
  · rw [u19] at hi
    rw [hFt.1 20 i (show (4000 : Nat) ∉ [9, 10, 28, 26, 27, 8000, 8200, 8400, 8600, 8800, 9000, 9200, 9400, 9600, 9800, 10000, 10200] from by decide)] at h20
    rw [hFt.1 26 i (show (5200 : Nat) ∉ [9, 10, 28, 26, 27, 8000, 8200, 8400, 8600, 8800, 9000, 9200, 9400, 9600, 9800, 10000, 10200] from by decide), u18]
    have := gM i (by rw [t19]; exact hi) h20
    rw [t18] at this
    exact this
  · intro Z hZ
    unfold f_judges_210
    refine ok.bd (j_isWell (X := Z)) ?_
    rintro b Zx ⟨rfl, hbw⟩
    refine ok.ck (by
      rcases hbw with ⟨q, -⟩ | ⟨q, -⟩
      · exact Or.inr q
      · exact Or.inl q) (ok.letV (ok.ret ?_))
    have fin : ∀ p, p ≤ ix (X8.1 0 18) → JINV X8 lo po (ix (X8.1 0 18)) p Z → Fr YR [4, 9, 10, 13, 15, 26, 27, 28, 29, 30, 800, 1000, 1200, 1400, 1600, 1800, 2000, 6200, 6400, 8000, 8200, 8400, 8600, 8800, 9000, 9200, 9400, 9600, 9800, 10000, 10200, 10400, 10600, 10800, 11000, 11200, 11400, 11600, 11800] X (wI Z 0 4 b) ∧ KT (wI Z 0 4 b) ∧ KX (TX X) (wI Z 0 4 b) ∧ (((wI Z 0 4 b).1 0 13).toInt ≤ 3003 ∧ ((wI Z 0 4 b).1 0 15).toInt ≤ 18000 ∧ 0 ≤ ((wI Z 0 4 b).1 0 28).toInt ∧ ((wI Z 0 4 b).1 0 28).toInt ≤ 3000) ∧ GNA (wI Z 0 4 b) := by
      rintro p hp ⟨i1, i2, i3, ⟨i4, i5, i6, i7⟩, i8⟩
      have hm := lm p _ hp (Nat.le_refl _)
      have hF4 : Fr YR [4] Z (wI Z 0 4 b) := Fr.rf.wI 0 4 _ (show (4 : Nat) ∈ [4] from by decide)
      have gna : GNA (wI Z 0 4 b) := by
        intro i hi
        rw [hF4.1 0 28 (by decide)] at hi
        rw [hF4.1 0 13 (by decide), hF4.1 53 i (show (10600 : Nat) ∉ [4] from by decide), hF4.1 54 i (show (10800 : Nat) ∉ [4] from by decide)]
        exact i3.2.2.1.2.2 i (by omega) hi
      rw [hF4.1 0 13 (by decide), hF4.1 0 15 (by decide), hF4.1 0 28 (by decide)]
      rw [u13] at i4
      rw [u15] at i5
      rw [u19] at e19 lP
      exact ⟨(hLX Z i1).tr hF4 (by decide), i2.fr hF4 (by decide), hK8.tr (i3.2.1.tr (KX.fr hF4 (by decide))), ⟨by omega, by omega, i6, by omega⟩, gna⟩
    have f4 : (wI Z 0 4 b).1 0 4 = b := wI_at _ 0 _ _
    have f9 : (wI Z 0 4 b).1 0 9 = Z.1 0 9 := wI_ne _ 0 _ _ 0 _ (by rintro ⟨-, q⟩; omega)
    rcases hZ with hI | ⟨hw, p, hp, hI⟩
    · obtain ⟨r1, r2, r3, r4, r5⟩ := fin _ (Nat.le_refl _) hI
      refine ⟨r1, r2, r3, r4, r5, ?_⟩
      rw [f4, f9]
      rcases hbw with ⟨q1, q2⟩ | ⟨q1, q2⟩
      · refine Or.inl ⟨q1, q2, lo, po, ?_⟩
        obtain ⟨i1, i2, i3, -, i8⟩ := hI
        have hF4 : Fr YR [4] Z (wI Z 0 4 b) := Fr.rf.wI 0 4 _ (show (4 : Nat) ∈ [4] from by decide)
        have j18 : (wI Z 0 4 b).1 0 18 = X8.1 0 18 := (hF4.1 0 18 (by decide)).trans (i1.1 0 18 (by decide))
        have j19 : (wI Z 0 4 b).1 0 19 = X8.1 0 19 := (hF4.1 0 19 (by decide)).trans (i1.1 0 19 (by decide))
        have j26 : (wI Z 0 4 b).1 0 26 = X8.1 0 26 := (hF4.1 0 26 (by decide)).trans (i1.1 0 26 (by decide))
        rw [j18, j19, j26]
        refine ⟨l0, lP, lm, p0, pP, p5, (hC.fr i1 (by decide)).fr hF4 (by decide), fun q hq => ?_⟩
        exact (i8 q2 q hq).jw i2 (JW.fr hF4 (KX.fr hF4 (by decide)) (by decide) (fun _ => False)) (fun i _ _ w => w)
      · exact Or.inr ⟨q1, q2⟩
    · obtain ⟨r1, r2, r3, r4, r5⟩ := fin p hp hI
      refine ⟨r1, r2, r3, r4, r5, ?_⟩
      rw [f4, f9]
      rcases hbw with ⟨q1, q2⟩ | ⟨q1, q2⟩
      · exact absurd q2 hw
      · exact Or.inr ⟨q1, q2⟩
