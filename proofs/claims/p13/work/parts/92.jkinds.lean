/-! kinds made while judging -/
def L8K : List Nat := [13, 15, 800, 1000, 1200, 1400, 1600, 1800]
theorem j_kindOf {X : St} {s f n : Int32} (hT : KT X) (hc : (X.1 0 13).toInt ≤ 5999) (hl : (X.1 0 15).toInt + n.toInt ≤ 20000) (hf : 0 ≤ f.toInt ∧ f.toInt + n.toInt ≤ 3100) (hS : KS s.toInt n.toInt) (hg : ∀ j : Nat, (j : Int) < n.toInt → 0 ≤ (X.1 10 (ix f + j)).toInt ∧ (X.1 10 (ix f + j)).toInt < (X.1 0 13).toInt) : ok (f_kindOf s f n X) (fun r Y => Fr YR [13, 15, 800, 1000, 1200, 1400, 1600, 1800] X Y ∧ KT Y ∧ KX X Y ∧ ((Y.1 0 13).toInt ≤ (X.1 0 13).toInt + 1 ∧ (Y.1 0 15).toInt ≤ (X.1 0 15).toInt + n.toInt) ∧ isK X Y s f n r ∧ ksz Y (ix r) = 1 + sumN (fun i => ksz X (ix (X.1 10 (ix f + i)))) (ix n)) := by
  refine (s_kindOf hT hc hl hf hS hg).mono ?_
  rintro r Y h
  have h1 := h.kt hT hS hg
  have h2 := h.kx hT hS
  exact ⟨h.fr, h1, h2, h.num hS, h.is hT, (h.is hT).sz hT h1 h2 hg⟩
/-- k is a row of e's -/
def ROWK (X : St) (k e : Int32) : Prop := 0 ≤ k.toInt ∧ k.toInt < (X.1 0 13).toInt ∧ (X.1 4 (ix k)).toInt = 4 ∧ (X.1 5 (ix k)).toInt = 1 ∧ cmpK X k 0 = e
theorem j_rowOf {X : St} {k : Int32} (hT : KT X) (hc : (X.1 0 13).toInt ≤ 5999) (hl : (X.1 0 15).toInt ≤ 19990) (hk : 0 ≤ k.toInt ∧ k.toInt < (X.1 0 13).toInt) : ok (f_rowOf k X) (fun r Y => Fr YR [13, 15, 800, 1000, 1200, 1400, 1600, 1800, 2000] X Y ∧ KT Y ∧ KX X Y ∧ ((Y.1 0 13).toInt ≤ (X.1 0 13).toInt + 1 ∧ (Y.1 0 15).toInt ≤ (X.1 0 15).toInt + 5) ∧ ROWK Y r k ∧ ksz Y (ix r) = 1 + ksz X (ix k)) := by
  have i3 : ix (3000 : Int32) = 3000 := by decide
  have z1 : (1 : Int32).toInt = 1 := rfl
  unfold f_rowOf
  refine ok.ck ⟨by decide, by decide⟩ (ok.letV ?_)
  have hF : Fr YR [2000] X (wI X 10 (ix 3000) k) := Fr.rf.wI 10 _ _ (show (2000 : Nat) ∈ [2000] from by decide)
  have r10 : (wI X 10 (ix 3000) k).1 10 3000 = k := by rw [i3, wI_at]
  obtain ⟨W, hW⟩ : ∃ W : St, wI X 10 (ix 3000) k = W := ⟨_, rfl⟩
  rw [hW] at hF r10 ⊢
  have w13 : W.1 0 13 = X.1 0 13 := hF.1 0 13 (by decide)
  have w15 : W.1 0 15 = X.1 0 15 := hF.1 0 15 (by decide)
  have hWT := hT.fr hF (by decide)
  have hWK := KX.fr hF (by decide)
  refine ok.bd (j_kindOf (X := W) (s := 4) (f := 3000) (n := 1) hWT (by rw [w13]; exact hc) (by rw [w15]; omega) (by decide) (Or.inr (Or.inl ⟨rfl, rfl⟩)) (fun j hj => ?_)) ?_
  · have : j = 0 := by omega
    subst this
    rw [i3, r10, w13]
    exact hk
  · rintro r Y ⟨y1, y2, y3, ⟨y4, y5⟩, ⟨g1, g2, g3, g4, g5⟩, y7⟩
    have g6 := g5 0 (by decide)
    rw [i3] at g6
    refine ok.ret ⟨(hF.mono (by decide)).tr y1 (by decide), y2, hWK.tr y3, ⟨by rw [w13] at y4; exact y4, by rw [w15] at y5; omega⟩, ⟨g1, g2, by rw [g3]; rfl, by rw [g4]; rfl, by unfold cmpK; rw [g6]; exact r10⟩, ?_⟩
    rw [y7]
    show 1 + (0 + ksz W (ix (W.1 10 (ix 3000 + 0)))) = 1 + ksz X (ix k)
    rw [i3, show 3000 + 0 = 3000 from rfl, r10, ksz_fr hF (by decide)]
    omega
/-- k is a function of m given kinds -/
def FNK (X : St) (k : Int32) (m : Int) : Prop := 0 ≤ k.toInt ∧ k.toInt < (X.1 0 13).toInt ∧ (X.1 4 (ix k)).toInt = 5 ∧ (X.1 5 (ix k)).toInt = m + 1
theorem any_loop {X : St} (hT : KT X) (h3 : 3 ≤ (X.1 0 13).toInt) (hc : (X.1 0 13).toInt ≤ 5999) (hl : (X.1 0 15).toInt ≤ 19990) (hks : ksz X 2 = 1) {m : Int32} (hm : 0 ≤ m.toInt ∧ m.toInt ≤ 4) : ∀ (d i : Nat) (Z : St) (a2 : Int32) (N : Nat), (i : Int) + d = m.toInt + 1 → d < N → a2.toInt = (i : Int) → Fr YR [2000] X Z → (∀ j, j < i → Z.1 10 (3000 + j) = 2) → ok (f_anyFunction_2 N m a2 Z) (fun r Y => Fr YR [13, 15, 800, 1000, 1200, 1400, 1600, 1800, 2000] X Y ∧ KT Y ∧ KX X Y ∧ ((Y.1 0 13).toInt ≤ (X.1 0 13).toInt + 1 ∧ (Y.1 0 15).toInt ≤ (X.1 0 15).toInt + 5) ∧ FNK Y r m.toInt ∧ (∀ i : Nat, (i : Int) ≤ m.toInt → cmpK Y r i = 2) ∧ ksz Y (ix r) ≤ 6) := by
  intro d
  induction d with
  | zero =>
    intro i Z a2 N hi hN ha hF h10
    obtain ⟨N, rfl⟩ : ∃ k, N = k + 1 := ⟨N - 1, by omega⟩
    have i3 : ix (3000 : Int32) = 3000 := by decide
    have w13 : Z.1 0 13 = X.1 0 13 := hF.1 0 13 (by decide)
    have w15 : Z.1 0 15 = X.1 0 15 := hF.1 0 15 (by decide)
    have z3 : (3000 : Int32).toInt = 3000 := rfl
    have z2 : (2 : Int32).toInt = 2 := rfl
    have i2 : ix (2 : Int32) = 2 := by decide
    have hWT := hT.fr hF (by decide)
    have hWK := KX.fr hF (by decide)
    unfold f_anyFunction_2
    rw [lp_succ]
    unfold f_anyFunction_2_s
    refine ok.ite (fun _ => ?_) (fun c => absurd (show m.toInt < a2.toInt by omega) c)
    refine ok.add (by rw [show (1 : Int32).toInt = 1 from rfl]; omega) (fun x1 hx1 => ?_)
    have hx1 : x1.toInt = m.toInt + 1 := hx1
    refine ok.bd (j_kindOf (X := Z) (s := 5) (f := 3000) (n := x1) hWT (by rw [w13]; exact hc) (by rw [w15]; omega) (by rw [z3]; omega) (Or.inr (Or.inr ⟨rfl, by omega, by omega⟩)) (fun j hj => ?_)) ?_
    · rw [i3, h10 j (by omega), w13, z2]
      omega
    · rintro r Y ⟨y1, y2, y3, ⟨y4, y5⟩, ⟨g1, g2, g3, g4, g5⟩, y7⟩
      rw [i3] at g5
      refine ok.ret ⟨(hF.mono (by decide)).tr y1 (by decide), y2, hWK.tr y3, ⟨by rw [w13] at y4; exact y4, by rw [w15] at y5; omega⟩, ⟨g1, g2, by rw [g3]; rfl, by rw [g4]; omega⟩, fun j hj => ?_, ?_⟩
      · unfold cmpK
        rw [g5 j (by omega)]
        exact h10 j (by omega)
      · have ex := ixc (z := x1) (by omega)
        have key : ∀ q, q ≤ ix x1 → sumN (fun i => ksz Z (ix (Z.1 10 (ix 3000 + i)))) q ≤ q := by
          intro q
          induction q with
          | zero => intro _; exact Nat.le_refl _
          | succ q ihq =>
            intro hq
            have h1 := ihq (by omega)
            show sumN _ q + ksz Z (ix (Z.1 10 (ix 3000 + q))) ≤ q + 1
            rw [i3, h10 q (by omega), i2, ksz_fr hF (by decide), hks]
            rw [i3] at h1
            omega
        have := key _ (Nat.le_refl _)
        rw [y7]
        omega
  | succ d ih =>
    intro i Z a2 N hi hN ha hF h10
    obtain ⟨N, rfl⟩ : ∃ k, N = k + 1 := ⟨N - 1, by omega⟩
    have z3 : (3000 : Int32).toInt = 3000 := rfl
    unfold f_anyFunction_2
    rw [lp_succ]
    unfold f_anyFunction_2_s
    refine ok.ite (fun c => absurd c (by omega)) (fun _ => ?_)
    refine ok.add (by rw [z3]; omega) (fun x4 hx4 => ?_)
    rw [z3] at hx4
    have e4 := ixc (z := x4) (by omega)
    have e4i : ix x4 = 3000 + i := by omega
    refine ok.ck ⟨by omega, show x4.toInt < ((3100 : Nat) : Int) by omega⟩ (ok.letV (ok.inc (by decide) (by omega) (fun x6 hx6 => ?_)))
    have hx6 : x6.toInt = a2.toInt + 1 := hx6
    have key := ih (i + 1) (wI Z 10 (ix x4) 2) x6 N (by omega) (by omega) (by omega) (hF.wI 10 _ _ (show (2000 : Nat) ∈ [2000] from by decide)) (fun j hj => ?_)
    · unfold f_anyFunction_2 at key
      exact key
    · by_cases g : j = i
      · rw [g, ← e4i, wI_at]
      · rw [wI_ne _ 10 _ _ 10 _ (by rintro ⟨-, q⟩; omega)]
        exact h10 j (by omega)
theorem j_anyFunction {X : St} (hT : KT X) (h3 : K3 X) (hc : (X.1 0 13).toInt ≤ 5999) (hl : (X.1 0 15).toInt ≤ 19990) {m : Int32} (hm : 0 ≤ m.toInt ∧ m.toInt ≤ 4) : ok (f_anyFunction m X) (fun r Y => Fr YR [13, 15, 800, 1000, 1200, 1400, 1600, 1800, 2000] X Y ∧ KT Y ∧ KX X Y ∧ ((Y.1 0 13).toInt ≤ (X.1 0 13).toInt + 1 ∧ (Y.1 0 15).toInt ≤ (X.1 0 15).toInt + 5) ∧ FNK Y r m.toInt ∧ (∀ i : Nat, (i : Int) ≤ m.toInt → cmpK Y r i = 2) ∧ ksz Y (ix r) ≤ 6) := by
  have hks := h3.sz hT (k := 2) (by decide)
  rw [show ix (2 : Int32) = 2 from by decide] at hks
  have em := ixc hm.1
  unfold f_anyFunction
  exact any_loop hT h3.1 hc hl hks hm (ix m + 1) 0 X 0 BIG (by omega) (ltBIG (by omega)) rfl Fr.rf (fun j hj => absurd hj (Nat.not_lt_zero _))
/-- the kinds of a part as they are told now -/
def pkv (X : St) (p i : Nat) : Int32 := if (X.1 19 p).toInt = 0 then 2 else X.1 16 (4 * p + i)
def okv (X : St) (p : Nat) : Int32 := if (X.1 19 p).toInt = 0 then 2 else X.1 17 p
theorem j_paramKindOf {X : St} {p i : Int32} (hp : 0 ≤ p.toInt ∧ p.toInt ≤ 40) (hi : 0 ≤ i.toInt ∧ i.toInt ≤ 3) : ok (f_paramKindOf p i X) (fun r Y => X = Y ∧ r = pkv X (ix p) (ix i)) := by
  have ep := ixc hp.1
  have ei := ixc hi.1
  have z4 : (4 : Int32).toInt = 4 := rfl
  unfold f_paramKindOf
  refine ok.ck ⟨hp.1, show p.toInt < ((41 : Nat) : Int) by omega⟩ (ok.letV ?_)
  refine ok.ite (fun c => ok.ret ⟨rfl, (if_pos c).symm⟩) (fun c => ?_)
  refine ok.mul (by rw [z4]; omega) (fun x2 hx2 => ?_)
  rw [z4] at hx2
  refine ok.add (by omega) (fun x3 hx3 => ?_)
  have e3 := ixc (z := x3) (by omega)
  refine ok.ck ⟨by omega, show x3.toInt < ((164 : Nat) : Int) by omega⟩ (ok.letV (ok.ret ⟨rfl, ?_⟩))
  unfold pkv
  rw [if_neg c, show 4 * ix p + ix i = ix x3 by omega]
theorem j_ownKindOf {X : St} {p : Int32} (hp : 0 ≤ p.toInt ∧ p.toInt ≤ 40) : ok (f_ownKindOf p X) (fun r Y => X = Y ∧ r = okv X (ix p)) := by
  have inp : inR p 41 := ⟨hp.1, show p.toInt < ((41 : Nat) : Int) by omega⟩
  unfold f_ownKindOf
  refine ok.ck inp (ok.letV ?_)
  refine ok.ite (fun c => ok.ret ⟨rfl, (if_pos c).symm⟩) (fun c => ?_)
  exact ok.ck inp (ok.letV (ok.ret ⟨rfl, (if_neg c).symm⟩))
/-- the parts' kinds are kinds, and no larger than a text -/
def PF (X : St) : Prop := (0 ≤ (X.1 0 18).toInt ∧ (X.1 0 18).toInt ≤ 40) ∧ ∀ p : Nat, (p : Int) < (X.1 0 18).toInt → (0 ≤ (X.1 15 p).toInt ∧ (X.1 15 p).toInt ≤ 4) ∧ (∀ i, i < ix (X.1 15 p) → 0 ≤ (X.1 16 (4 * p + i)).toInt ∧ (X.1 16 (4 * p + i)).toInt < (X.1 0 13).toInt) ∧ (0 ≤ (X.1 17 p).toInt ∧ (X.1 17 p).toInt < (X.1 0 13).toInt) ∧ ((psum X p (ix (X.1 15 p)) : Nat) : Int) + ((ksz X (ix (X.1 17 p)) : Nat) : Int) ≤ 3001
theorem ALLP.pf {X : St} (h : ALLP X) (hP : 0 ≤ (X.1 0 18).toInt ∧ (X.1 0 18).toInt ≤ 40) : PF X := by
  obtain ⟨lo, a, b, c, d⟩ := h
  have e := ixc hP.1
  refine ⟨hP, fun p hp => ?_⟩
  obtain ⟨h1, h2, h3, h4, h5, h6, h7⟩ := (c p (by omega)).2.1
  exact ⟨⟨h1, h2⟩, h3, ⟨h4, h5⟩, h6⟩
theorem PF.kx {X Y : St} (h : PF X) (hT : KT X) (hTY : KT Y) (hK : KX X Y) (e18 : Y.1 0 18 = X.1 0 18) (hr : ∀ i, Y.1 15 i = X.1 15 i ∧ Y.1 16 i = X.1 16 i ∧ Y.1 17 i = X.1 17 i) : PF Y := by
  obtain ⟨h1, h2⟩ := h
  have hk := hK.1
  refine ⟨by rw [e18]; exact h1, fun p hp => ?_⟩
  rw [e18] at hp
  obtain ⟨a, b, c, d⟩ := h2 p hp
  have e17 := ixc c.1
  rw [(hr p).1, (hr p).2.2]
  refine ⟨a, fun i hi => ?_, ⟨c.1, by omega⟩, ?_⟩
  · rw [(hr _).2.1]
    have := b i hi
    omega
  · rw [psum_congr hT hTY hK (fun i _ => (hr _).2.1) b, ksz_kx hT hTY hK _ (by omega)]
    exact d
theorem PF.pkv {X : St} (h : PF X) (h3 : 3 ≤ (X.1 0 13).toInt) {p i : Nat} (hp : (p : Int) < (X.1 0 18).toInt) (hi : i < ix (X.1 15 p)) : 0 ≤ (pkv X p i).toInt ∧ (pkv X p i).toInt < (X.1 0 13).toInt := by
  obtain ⟨a, b, c, d⟩ := h.2 p hp
  unfold _root_.Jvm.Pilot.CBlameCourtLaw_law_r8381_f30dd1.pkv
  split
  · exact ⟨by decide, (show (2 : Int) < _ by omega)⟩
  · exact b i hi
theorem PF.okv {X : St} (h : PF X) (h3 : 3 ≤ (X.1 0 13).toInt) {p : Nat} (hp : (p : Int) < (X.1 0 18).toInt) : 0 ≤ (okv X p).toInt ∧ (okv X p).toInt < (X.1 0 13).toInt := by
  obtain ⟨a, b, c, d⟩ := h.2 p hp
  unfold _root_.Jvm.Pilot.CBlameCourtLaw_law_r8381_f30dd1.okv
  split
  · exact ⟨by decide, (show (2 : Int) < _ by omega)⟩
  · exact c
