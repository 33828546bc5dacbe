/-! kind(): its open frames -/
theorem ok2.bdE {ρ ρ1 : Type} {Q : ρ → St → St → Prop} {G G1 : Option (ρ1 × St)} {K K1 : ρ1 → St → Option (ρ × St)} {R : ρ1 → St → St → Prop} (hG : ok2 G G1 R) (h : ∀ r X X1, G = some (r, X) → R r X X1 → ok2 (K r X) (K1 r X1) Q) : ok2 (bnd G K) (bnd G1 K1) Q := by
  obtain ⟨r, X, X1, e, e1, hr⟩ := hG
  rw [e1]
  have h1 := h r X X1 e hr
  rw [e]
  exact h1
theorem bnd_some {ρ ρ1 : Type} {r : ρ1} {X : St} {K : ρ1 → St → Option (ρ × St)} : bnd (some (r, X)) K = K r X := rfl
theorem isSign_eq (s : Int32) (X : St) : ∃ r, f_isSign s X = some (r, X) := by
  obtain ⟨r, X1, X1t, e, -, h1, -, -⟩ := t_f_isSign s X X 1 0 AG.rf (Nat.le_refl 1)
  subst h1
  exact ⟨r, e⟩
theorem isWord_eq (s : Int32) (X : St) : ∃ r, f_isWord s X = some (r, X) := by
  obtain ⟨r, X1, X1t, e, -, h1, -, -⟩ := t_f_isWord s X X 1 0 AG.rf (Nat.le_refl 1)
  subst h1
  exact ⟨r, e⟩
theorem fails_eq {p q : Int32} (hp : ¬ p.toInt = 0) (X : St) : ∃ r X1, f_fails p q X = some (r, X1) ∧ ¬ (X1.1 0 9).toInt = 0 := by
  obtain ⟨r, X1, X1t, e, -, h1, -, -, h⟩ := t_f_fails p q X X 1 0 AG.rf
  exact ⟨r, X1, e, by rcases h with h | h <;> omega⟩
theorem stray_eq (X : St) : ∃ r X1, f_stray X = some (r, X1) ∧ ¬ (X1.1 0 9).toInt = 0 := by
  obtain ⟨r, X1, X1t, e, -, h1, -, -, h⟩ := t_f_stray X X 1 0 AG.rf (Nat.le_refl 1)
  exact ⟨r, X1, e, h⟩
/-- no kind begins here -/
def NB (Z : St) : Prop := f_isSign 91 Z = some (0, Z) ∧ f_isWord 14 Z = some (0, Z) ∧ f_isWord 11 Z = some (0, Z) ∧ f_isWord 12 Z = some (0, Z) ∧ f_isWord 13 Z = some (0, Z)
theorem fifth_nb {n r : Int32} {X X1 : St} (e : f_fifth n X = some (r, X1)) (hw : (X1.1 0 9).toInt = 0) : ¬ n.toInt = 4 ∨ NB X1 := by
  by_cases h4 : n.toInt = 4
  · right
    have bad : ∀ (b : Int32), ¬ b.toInt = 0 → f_fifth_50 n b X = some (r, X1) → False := by
      intro b hb e
      unfold f_fifth_50 at e
      rw [if_pos h4, if_neg hb] at e
      obtain ⟨r1, X2, e1, hw1⟩ := fails_eq (p := 3) (q := X.1 0 6) (by decide) X
      have e : bnd (f_fails (3 : Int32) (X.1 0 6) X) (fun _ X4 => some ((0 : Int32), X4)) = some (r, X1) := e
      rw [e1, bnd_some] at e
      injection e with e
      injection e with _ e
      subst e
      exact hw1 hw
    obtain ⟨r1, e1⟩ := isSign_eq 91 X
    obtain ⟨r2, e2⟩ := isWord_eq 14 X
    obtain ⟨r3, e3⟩ := isWord_eq 11 X
    obtain ⟨r4, e4⟩ := isWord_eq 12 X
    obtain ⟨r5, e5⟩ := isWord_eq 13 X
    unfold f_fifth at e
    rw [e1, bnd_some] at e
    by_cases c1 : r1.toInt = 0
    · rw [if_pos c1, e2, bnd_some] at e
      by_cases c2 : r2.toInt = 0
      · rw [if_pos c2, e3, bnd_some] at e
        by_cases c3 : r3.toInt = 0
        · rw [if_pos c3, e4, bnd_some] at e
          by_cases c4 : r4.toInt = 0
          · rw [if_pos c4, e5, bnd_some] at e
            by_cases c5 : r5.toInt = 0
            · rw [if_pos c5] at e
              unfold f_fifth_50 at e
              rw [if_pos h4, if_pos (show (0 : Int32).toInt = 0 from rfl)] at e
              injection e with e
              injection e with _ e
              subst e
              have z1 : r1 = 0 := Int32.toInt_inj.mp c1
              have z2 : r2 = 0 := Int32.toInt_inj.mp c2
              have z3 : r3 = 0 := Int32.toInt_inj.mp c3
              have z4 : r4 = 0 := Int32.toInt_inj.mp c4
              have z5 : r5 = 0 := Int32.toInt_inj.mp c5
              rw [z1] at e1
              rw [z2] at e2
              rw [z3] at e3
              rw [z4] at e4
              rw [z5] at e5
              exact ⟨e1, e2, e3, e4, e5⟩
            · rw [if_neg c5] at e
              exact (bad 1 (by decide) e).elim
          · rw [if_neg c4] at e
            exact (bad 1 (by decide) e).elim
        · rw [if_neg c3] at e
          exact (bad 1 (by decide) e).elim
      · rw [if_neg c2] at e
        exact (bad 1 (by decide) e).elim
    · rw [if_neg c1] at e
      exact (bad 1 (by decide) e).elim
  · exact Or.inl h4
theorem plain_nb {r : Int32} {X X1 : St} (h : NB X) (e : f_plainKind X = some (r, X1)) : ¬ (X1.1 0 9).toInt = 0 := by
  obtain ⟨-, -, e3, e4, e5⟩ := h
  unfold f_plainKind at e
  rw [e3, bnd_some, if_pos (show (0 : Int32).toInt = 0 from rfl), e4, bnd_some, if_pos (show (0 : Int32).toInt = 0 from rfl), e5, bnd_some, if_pos (show (0 : Int32).toInt = 0 from rfl)] at e
  unfold f_plainKind_40 at e
  rw [if_neg (by decide)] at e
  obtain ⟨r1, X2, e1, hw1⟩ := stray_eq X
  rw [e1, bnd_some] at e
  injection e with e
  injection e with _ e
  subst e
  exact hw1
theorem t_f_rowOf (k : Int32) (X Xt : St) (lv : Nat) (P : Int) (hag : AG lv P X Xt) (hn : (X.1 0 13).toInt ≤ 5999 ∧ (X.1 0 15).toInt ≤ 19999 ∧ 0 ≤ k.toInt ∧ k.toInt < (X.1 0 13).toInt) (hT : KT X) : ok2 (f_rowOf k X) (f_rowOf k Xt) (fun r X1 X1t => Fr YR [13, 15, 800, 1000, 1200, 1400, 1600, 1800, 2000] X X1 ∧ Fr YR [13, 15, 800, 1000, 1200, 1400, 1600, 1800, 2000] Xt X1t ∧ AG lv P X1 X1t ∧ ((X1.1 0 13).toInt ≤ (X.1 0 13).toInt + 1 ∧ (X.1 0 13).toInt ≤ (X1.1 0 13).toInt ∧ (X1.1 0 15).toInt ≤ (X.1 0 15).toInt + 1 ∧ (X.1 0 15).toInt ≤ (X1.1 0 15).toInt ∧ 0 ≤ r.toInt ∧ r.toInt < (X1.1 0 13).toInt) ∧ (KT X1) ∧ (KX X X1) ∧ (((∀ j, j ≠ 3000 → X1.1 10 j = X.1 10 j) ∧ (∀ j, j ≠ 3000 → X1t.1 10 j = Xt.1 10 j)) ∧ X1.1 4 (ix r) = 4 ∧ X1.1 5 (ix r) = 1 ∧ X1.1 9 (ix (X1.1 6 (ix r))) = k ∧ ksz X1 (ix r) = 1 + ksz X (ix k))) := by
  unfold f_rowOf
  refine ok2.ck (show 0 ≤ (3000 : Int32).toInt ∧ (3000 : Int32).toInt < ((3100 : Nat) : Int) from by decide) (ok2.letV ?_)
  have h3000 : ix (3000 : Int32) = 3000 := by decide
  have hT2 : KT (wI X 10 (ix (3000 : Int32)) k) := hT.fr (Fr.rf.wI 10 (ix (3000 : Int32)) k (show (2000 : Nat) ∈ [2000] from by decide)) (by decide)
  have hS : KS (4 : Int32).toInt (1 : Int32).toInt := Or.inr (Or.inl ⟨rfl, rfl⟩)
  have hcell : ∀ (Y : St) (j : Nat), (j : Int) < (1 : Int32).toInt → (wI Y 10 (ix (3000 : Int32)) k).1 10 (ix (3000 : Int32) + j) = k := by
    intro Y j hj
    have : j = 0 := by
      have e : (1 : Int32).toInt = 1 := rfl
      omega
    subst this
    rw [Nat.add_zero, wI_at]
  have hg : ∀ j : Nat, (j : Int) < (1 : Int32).toInt → 0 ≤ ((wI X 10 (ix (3000 : Int32)) k).1 10 (ix (3000 : Int32) + j)).toInt ∧ ((wI X 10 (ix (3000 : Int32)) k).1 10 (ix (3000 : Int32) + j)).toInt < ((wI X 10 (ix (3000 : Int32)) k).1 0 13).toInt := by
    intro j hj
    rw [hcell X j hj]
    exact hn.2.2
  have e13 : (wI X 10 (ix (3000 : Int32)) k).1 0 13 = X.1 0 13 := rfl
  have e15 : (wI X 10 (ix (3000 : Int32)) k).1 0 15 = X.1 0 15 := rfl
  refine ok2.bd (t_f_kindOf lv P (hag.wI 10 _ _ (Or.inl (by decide))) hT2 hn.1 (show (X.1 0 15).toInt + 1 ≤ 20000 by omega) (by decide) hS hg (fun j hj => by rw [hcell X j hj, hcell Xt j hj])) ?_
  rintro r X1 X1t ⟨hO, hOt, hA⟩
  have hx := hO.kx hT2 hS
  have hk1 := hO.kt hT2 hS hg
  have hnum := hO.num hS
  have his := hO.is hT2
  have hsz := his.sz hT2 hk1 hx hg
  have hKX : KX X X1 := (KX.fr (Fr.rf.wI 10 (ix (3000 : Int32)) k (show (2000 : Nat) ∈ [2000] from by decide)) (by decide)).tr hx
  rw [e13, e15] at hnum
  refine ok2.ret ⟨((Fr.rf.wI 10 _ _ (show (2000 : Nat) ∈ [13, 15, 800, 1000, 1200, 1400, 1600, 1800, 2000] from by decide)).tr hO.fr (by decide)), ((Fr.rf.wI 10 _ _ (show (2000 : Nat) ∈ [13, 15, 800, 1000, 1200, 1400, 1600, 1800, 2000] from by decide)).tr hOt.fr (by decide)), hA, ⟨hnum.1, hKX.1, by have := hnum.2; rw [show (1 : Int32).toInt = 1 from rfl] at this; exact this, hKX.2.1, his.1, his.2.1⟩, hk1, hKX, ⟨fun j hj => ?_, fun j hj => ?_⟩, his.2.2.1, his.2.2.2.1, ?_, ?_⟩
  · have : X1.1 10 j = (wI X 10 (ix (3000 : Int32)) k).1 10 j := hO.fr.1 10 j (show (2000 : Nat) ∉ [13, 15, 800, 1000, 1200, 1400, 1600, 1800] from by decide)
    rw [this, wI_ne _ _ _ _ _ _ (by rintro ⟨-, q⟩; rw [h3000] at q; exact hj q)]
  · have : X1t.1 10 j = (wI Xt 10 (ix (3000 : Int32)) k).1 10 j := hOt.fr.1 10 j (show (2000 : Nat) ∉ [13, 15, 800, 1000, 1200, 1400, 1600, 1800] from by decide)
    rw [this, wI_ne _ _ _ _ _ _ (by rintro ⟨-, q⟩; rw [h3000] at q; exact hj q)]
  · have := his.2.2.2.2 0 (by decide)
    rw [Nat.add_zero] at this
    rw [this]
    exact hcell X 0 (by decide)
  · rw [hsz]
    have e1 : ix (1 : Int32) = 1 := by decide
    rw [e1]
    show 1 + (0 + ksz _ (ix ((wI X 10 (ix (3000 : Int32)) k).1 10 (ix (3000 : Int32) + 0)))) = _
    rw [hcell X 0 (by decide), Nat.zero_add, ksz_kx hT hT2 (KX.fr (Fr.rf.wI 10 (ix (3000 : Int32)) k (show (2000 : Nat) ∈ [2000] from by decide)) (by decide)) _ (by have := ixc hn.2.2.1; omega)]
/-- j open frames; g the givens, w what they add to nest -/
def KF (Z : St) : Nat → Int → Int → Prop
  | 0, g, w => g = 0 ∧ w = 0
  | j + 1, g, w => ∃ g0 w0, KF Z j g0 w0 ∧ (((Z.1 33 j).toInt = 0 ∧ g = g0 ∧ w = w0 + 1) ∨ ((Z.1 33 j).toInt = 1 ∧ (Z.1 34 j).toInt = g0 ∧ g0 ≤ g ∧ g ≤ g0 + 3 ∧ w = w0 + 2) ∨ ((Z.1 33 j).toInt = 2 ∧ (Z.1 34 j).toInt = g0 ∧ g0 ≤ g ∧ g ≤ g0 + 4 ∧ w = w0 + 1))
/-- the same, where the top one may have m -/
def KFm (Z : St) (m : Int) : Nat → Int → Int → Prop
  | 0, g, w => g = 0 ∧ w = 0
  | j + 1, g, w => ∃ g0 w0, KF Z j g0 w0 ∧ (((Z.1 33 j).toInt = 0 ∧ g = g0 ∧ w = w0 + 1) ∨ ((Z.1 33 j).toInt = 1 ∧ (Z.1 34 j).toInt = g0 ∧ g0 ≤ g ∧ g ≤ g0 + m ∧ w = w0 + 2) ∨ ((Z.1 33 j).toInt = 2 ∧ (Z.1 34 j).toInt = g0 ∧ g0 ≤ g ∧ g ≤ g0 + m + 1 ∧ w = w0 + 1))
theorem KF.of {Z : St} {j : Nat} {g w : Int} (h : KFm Z 3 j g w) : KF Z j g w := by
  cases j with
  | zero => exact h
  | succ j =>
    obtain ⟨g0, w0, h0, hc⟩ := h
    exact ⟨g0, w0, h0, by omega⟩
theorem KF.to {Z : St} {j : Nat} {g w : Int} (h : KF Z j g w) : KFm Z 3 j g w := by
  cases j with
  | zero => exact h
  | succ j =>
    obtain ⟨g0, w0, h0, hc⟩ := h
    exact ⟨g0, w0, h0, by omega⟩
theorem KF.fr {Z Y : St} : ∀ {j : Nat} {g w : Int}, (∀ i, i < j → Y.1 33 i = Z.1 33 i ∧ Y.1 34 i = Z.1 34 i) → KF Z j g w → KF Y j g w
  | 0, _, _, _, h => h
  | j + 1, g, w, hs, h => by
    obtain ⟨g0, w0, h0, hc⟩ := h
    have e := hs j (Nat.lt_succ_self j)
    refine ⟨g0, w0, KF.fr (fun i hi => hs i (Nat.lt_succ_of_lt hi)) h0, ?_⟩
    rw [e.1, e.2]
    exact hc
theorem KFm.fr {Z Y : St} {m : Int} {j : Nat} {g w : Int} (hs : ∀ i, i < j → Y.1 33 i = Z.1 33 i ∧ Y.1 34 i = Z.1 34 i) (h : KFm Z m j g w) : KFm Y m j g w := by
  cases j with
  | zero => exact h
  | succ j =>
    obtain ⟨g0, w0, h0, hc⟩ := h
    have e := hs j (Nat.lt_succ_self j)
    refine ⟨g0, w0, KF.fr (fun i hi => hs i (Nat.lt_succ_of_lt hi)) h0, ?_⟩
    rw [e.1, e.2]
    exact hc
theorem KF.bd {Z : St} : ∀ {j : Nat} {g w : Int}, KF Z j g w → 0 ≤ g ∧ (j : Int) ≤ w
  | 0, g, w, h => by
    obtain ⟨h1, h2⟩ := h
    omega
  | j + 1, g, w, h => by
    obtain ⟨g0, w0, h0, hc⟩ := h
    have := KF.bd h0
    omega
theorem KFm.bd {Z : St} {m : Int} (j : Nat) {g w : Int} (h : KFm Z m j g w) : 0 ≤ g ∧ (j : Int) ≤ w := by
  cases j with
  | zero =>
    obtain ⟨h1, h2⟩ := h
    omega
  | succ j =>
    obtain ⟨g0, w0, h0, hc⟩ := h
    have := KF.bd h0
    omega
def gsum (Z : St) (g : Int32) : Nat := sumN (fun j => ksz Z (ix (Z.1 10 j))) (ix g)
def KW (Z Zt : St) (o k : Int32) (w m t : Int) : Prop := KFm Z m (ix o) (Z.1 0 17).toInt w ∧ Zt.1 0 17 = Z.1 0 17 ∧ (∀ j : Nat, (j : Int) < (Z.1 0 17).toInt → Zt.1 10 j = Z.1 10 j ∧ 0 ≤ (Z.1 10 j).toInt ∧ (Z.1 10 j).toInt < (Z.1 0 13).toInt) ∧ (∀ j : Nat, (j : Int) < o.toInt → Zt.1 33 j = Z.1 33 j ∧ (¬ (Z.1 33 j).toInt = 0 → Zt.1 34 j = Z.1 34 j)) ∧ (gsum Z (Z.1 0 17) : Int) + o.toInt ≤ t ∧ (0 ≤ k.toInt → (gsum Z (Z.1 0 17) : Int) + o.toInt + (ksz Z (ix k) : Int) ≤ t)
/-- what kind()'s frames are made of stays -/
def GS (Z Zt Y Yt : St) : Prop := Y.1 0 17 = Z.1 0 17 ∧ Yt.1 0 17 = Zt.1 0 17 ∧ (∀ j, j ≠ 3000 → Y.1 10 j = Z.1 10 j ∧ Yt.1 10 j = Zt.1 10 j) ∧ (∀ j, Y.1 33 j = Z.1 33 j ∧ Y.1 34 j = Z.1 34 j ∧ Yt.1 33 j = Zt.1 33 j ∧ Yt.1 34 j = Zt.1 34 j)
theorem GS.fr {Z Zt Y Yt : St} {L : List Nat} (h : Fr YR L Z Y) (ht : Fr YR L Zt Yt) (hl : 17 ∉ L ∧ 2000 ∉ L ∧ 6600 ∉ L ∧ 6800 ∉ L) : GS Z Zt Y Yt := ⟨h.1 0 17 hl.1, ht.1 0 17 hl.1, fun j _ => ⟨h.1 10 j hl.2.1, ht.1 10 j hl.2.1⟩, fun j => ⟨h.1 33 j hl.2.2.1, h.1 34 j hl.2.2.2, ht.1 33 j hl.2.2.1, ht.1 34 j hl.2.2.2⟩⟩
theorem GS.tr {Z Zt Y Yt V Vt : St} (h : GS Z Zt Y Yt) (g : GS Y Yt V Vt) : GS Z Zt V Vt := ⟨g.1.trans h.1, g.2.1.trans h.2.1, fun j hj => ⟨((g.2.2.1 j hj).1).trans (h.2.2.1 j hj).1, ((g.2.2.1 j hj).2).trans (h.2.2.1 j hj).2⟩, fun j => ⟨(g.2.2.2 j).1.trans (h.2.2.2 j).1, (g.2.2.2 j).2.1.trans (h.2.2.2 j).2.1, (g.2.2.2 j).2.2.1.trans (h.2.2.2 j).2.2.1, (g.2.2.2 j).2.2.2.trans (h.2.2.2 j).2.2.2⟩⟩
theorem gsum_kx {Z Y : St} {g : Int32} (hT : KT Z) (hT1 : KT Y) (hx : KX Z Y) (hg : g.toInt ≤ 3000) (h0 : 0 ≤ g.toInt) (h : ∀ j, j ≠ 3000 → Y.1 10 j = Z.1 10 j) (hv : ∀ j : Nat, (j : Int) < g.toInt → 0 ≤ (Z.1 10 j).toInt ∧ (Z.1 10 j).toInt < (Z.1 0 13).toInt) : gsum Y g = gsum Z g := by
  have hi := ixc h0
  refine sumN_congr _ (fun j hj => ?_)
  have h1 := hv j (by omega)
  have h2 := ixc h1.1
  show ksz Y (ix (Y.1 10 j)) = ksz Z (ix (Z.1 10 j))
  rw [h j (by omega)]
  exact ksz_kx hT hT1 hx _ (by omega)
theorem KW.pass {Z Zt Y Yt : St} {o k : Int32} {w m t : Int} (h : KW Z Zt o k w m t) (hs : GS Z Zt Y Yt) (hT : KT Z) (hT1 : KT Y) (hx : KX Z Y) (hg : (Z.1 0 17).toInt ≤ 3000) (hk : k.toInt < (Z.1 0 13).toInt) : KW Y Yt o k w m t := by
  obtain ⟨h1, h2, h3, h4, h5, h6⟩ := h
  have hb := KFm.bd _ h1
  have es : gsum Y (Z.1 0 17) = gsum Z (Z.1 0 17) := gsum_kx hT hT1 hx hg hb.1 (fun j hj => (hs.2.2.1 j hj).1) (fun j hj => (h3 j hj).2)
  refine ⟨?_, by rw [hs.1, hs.2.1, h2], fun j hj => ?_, fun j hj => ?_, by rw [hs.1, es]; exact h5, fun hk0 => ?_⟩
  · rw [hs.1]
    exact h1.fr (fun i _ => ⟨(hs.2.2.2 i).1, (hs.2.2.2 i).2.1⟩)
  · rw [hs.1] at hj
    obtain ⟨a, b, c⟩ := h3 j hj
    obtain ⟨d, e⟩ := hs.2.2.1 j (by omega)
    rw [d, e]
    exact ⟨a, b, Int.lt_of_lt_of_le c hx.1⟩
  · obtain ⟨a, b, c, d⟩ := hs.2.2.2 j
    rw [a, b, c, d]
    exact h4 j hj
  · rw [hs.1, es, ksz_kx hT hT1 hx _ (by have := ixc hk0; omega)]
    exact h6 hk0
theorem KW.le {Z Zt : St} {o k : Int32} {w m t t1 : Int} (h : KW Z Zt o k w m t) (ht : t ≤ t1) : KW Z Zt o k w m t1 := ⟨h.1, h.2.1, h.2.2.1, h.2.2.2.1, by have := h.2.2.2.2.1; omega, fun hk => by have := h.2.2.2.2.2 hk; omega⟩
theorem KW.ng {Z Zt : St} {o k : Int32} {w m t : Int} (h : KW Z Zt o k w m t) (k1 : Int32) (hk : k1.toInt < 0) : KW Z Zt o k1 w m t := ⟨h.1, h.2.1, h.2.2.1, h.2.2.2.1, h.2.2.2.2.1, fun hk => by omega⟩
/-- a row's kind is closed -/
theorem KW.row {Z Zt Y Yt : St} {o o1 k r : Int32} {w t : Int} (h : KW Z Zt o k w 3 t) (ho : o1.toInt = o.toInt - 1) (h0 : 0 ≤ o1.toInt) (ht : (Z.1 33 (ix o1)).toInt = 0) (hk : 0 ≤ k.toInt) (hT : KT Z) (hT1 : KT Y) (hx : KX Z Y) (hs : GS Z Zt Y Yt) (hg : (Z.1 0 17).toInt ≤ 3000) (hz : ksz Y (ix r) = 1 + ksz Z (ix k)) : KW Y Yt o1 r (w - 1) 3 t := by
  obtain ⟨h1, h2, h3, h4, h5, h6⟩ := h
  have hb := KFm.bd _ h1
  have es : gsum Y (Z.1 0 17) = gsum Z (Z.1 0 17) := gsum_kx hT hT1 hx hg hb.1 (fun j hj => (hs.2.2.1 j hj).1) (fun j hj => (h3 j hj).2)
  have e1 : ix o = ix o1 + 1 := by
    have := ixc h0
    have := ixc (z := o) (by omega)
    omega
  have h6 := h6 hk
  refine ⟨?_, by rw [hs.1, hs.2.1, h2], fun j hj => ?_, fun j hj => ?_, by rw [hs.1, es]; omega, fun _ => by rw [hs.1, es, hz]; omega⟩
  · rw [hs.1]
    rw [e1] at h1
    obtain ⟨g0, w0, hk0, hc⟩ := h1
    have hw : w0 = w - 1 ∧ (Z.1 0 17).toInt = g0 := by omega
    rw [hw.2, ← hw.1]
    have q := KF.fr (fun i _ => ⟨(hs.2.2.2 i).1, (hs.2.2.2 i).2.1⟩) hk0
    exact q.to
  · rw [hs.1] at hj
    obtain ⟨a, b, c⟩ := h3 j hj
    obtain ⟨d, e⟩ := hs.2.2.1 j (by omega)
    rw [d, e]
    exact ⟨a, b, Int.lt_of_lt_of_le c hx.1⟩
  · obtain ⟨a, b, c, d⟩ := hs.2.2.2 j
    rw [a, b, c, d]
    exact h4 j (by omega)
/-- a kind goes to the givens -/
theorem KW.push {Z Zt : St} {o o1 k g1 : Int32} {w t : Int} (h : KW Z Zt o k w 3 t) (ho : o1.toInt = o.toInt - 1) (h0 : 0 ≤ o1.toInt) (ht : ¬ (Z.1 33 (ix o1)).toInt = 0) (hk : 0 ≤ k.toInt) (hk1 : k.toInt < (Z.1 0 13).toInt) (hT : KT Z) (hg : (Z.1 0 17).toInt ≤ 2999) (hg1 : g1.toInt = (Z.1 0 17).toInt + 1) (m1 : Int32) (hm : m1.toInt < 0) : KW (wI (wI Z 10 (ix (Z.1 0 17)) k) 0 17 g1) (wI (wI Zt 10 (ix (Z.1 0 17)) k) 0 17 g1) o m1 w 4 t := by
  obtain ⟨h1, h2, h3, h4, h5, h6⟩ := h
  have hb := KFm.bd _ h1
  have h6 := h6 hk
  have hgx := ixc hb.1
  have e1 : ix o = ix o1 + 1 := by
    have := ixc h0
    have := ixc (z := o) (by omega)
    omega
  have e17 : (wI (wI Z 10 (ix (Z.1 0 17)) k) 0 17 g1).1 0 17 = g1 := wI_at _ _ _ _
  have e17t : (wI (wI Zt 10 (ix (Z.1 0 17)) k) 0 17 g1).1 0 17 = g1 := wI_at _ _ _ _
  have e10 : ∀ (V : St) (j : Nat), (wI (wI V 10 (ix (Z.1 0 17)) k) 0 17 g1).1 10 j = (wI V 10 (ix (Z.1 0 17)) k).1 10 j := fun V j => wI_ne _ _ _ _ _ _ (by rintro ⟨q, -⟩; omega)
  have e33 : ∀ (V : St) (j : Nat), (wI (wI V 10 (ix (Z.1 0 17)) k) 0 17 g1).1 33 j = V.1 33 j := fun V j => rfl
  have e34 : ∀ (V : St) (j : Nat), (wI (wI V 10 (ix (Z.1 0 17)) k) 0 17 g1).1 34 j = V.1 34 j := fun V j => rfl
  have e13 : (wI (wI Z 10 (ix (Z.1 0 17)) k) 0 17 g1).1 0 13 = Z.1 0 13 := rfl
  have hF : Fr YR [17, 2000] Z (wI (wI Z 10 (ix (Z.1 0 17)) k) 0 17 g1) := (Fr.rf.wI 10 _ _ (show (2000 : Nat) ∈ [17, 2000] from by decide)).wI 0 17 _ (show (17 : Nat) ∈ [17, 2000] from by decide)
  have hT1 := hT.fr hF (by decide)
  have hx := KX.fr hF (by decide)
  have esum : gsum (wI (wI Z 10 (ix (Z.1 0 17)) k) 0 17 g1) g1 = gsum Z (Z.1 0 17) + ksz Z (ix k) := by
    have q : ix g1 = ix (Z.1 0 17) + 1 := by have := ixc (z := g1) (by omega); omega
    unfold gsum
    rw [q]
    show sumN _ _ + _ = sumN _ _ + _
    congr 1
    · refine sumN_congr _ (fun j hj => ?_)
      have h7 := h3 j (by omega)
      have h8 := ixc h7.2.1
      show ksz _ (ix (_)) = ksz Z (ix (Z.1 10 j))
      rw [e10, wI_ne _ _ _ _ _ _ (by rintro ⟨-, q⟩; omega)]
      exact ksz_kx hT hT1 hx _ (by omega)
    · show ksz _ (ix (_)) = ksz Z (ix k)
      rw [e10, wI_at]
      exact ksz_kx hT hT1 hx _ (by have := ixc hk; omega)
  refine ⟨?_, by rw [e17, e17t], fun j hj => ?_, fun j hj => ?_, by rw [e17, esum]; omega, fun q => by omega⟩
  · rw [e17]
    rw [e1] at h1 ⊢
    obtain ⟨g0, w0, hk0, hc⟩ := h1
    refine ⟨g0, w0, KF.fr (fun i _ => ⟨e33 Z i, e34 Z i⟩) hk0, ?_⟩
    rw [e33, e34]
    omega
  · rw [e17] at hj
    rw [e10, e10, e13]
    by_cases q : j = ix (Z.1 0 17)
    · subst q
      rw [wI_at, wI_at]
      exact ⟨rfl, hk, hk1⟩
    · rw [wI_ne _ _ _ _ _ _ (fun h => q h.2), wI_ne _ _ _ _ _ _ (fun h => q h.2)]
      exact h3 j (by omega)
  · rw [e33, e33, e34, e34]
    exact h4 j hj
theorem ix_pred {o o1 : Int32} (ho : o1.toInt = o.toInt - 1) (h0 : 0 ≤ o1.toInt) : ix o = ix o1 + 1 := by
  have := ixc h0
  have := ixc (z := o) (by omega)
  omega
/-- the last of a function's params is given -/
theorem KW.close {V Vt : St} {o o1 k : Int32} {w t : Int} (h : KW V Vt o k w 4 t) (ho : o1.toInt = o.toInt - 1) (h0 : 0 ≤ o1.toInt) (ht : (V.1 33 (ix o1)).toInt = 1) (hT : KT V) : KW (wI V 33 (ix o1) 2) (wI Vt 33 (ix o1) 2) o k (w - 1) 3 t := by
  obtain ⟨h1, h2, h3, h4, h5, h6⟩ := h
  have e1 := ix_pred ho h0
  have hF : Fr YR [6600] V (wI V 33 (ix o1) 2) := Fr.rf.wI 33 _ _ (show (6600 : Nat) ∈ [6600] from by decide)
  have hx := KX.fr hF (by decide)
  have hT1 := hT.fr hF (by decide)
  have hb := KFm.bd _ h1
  have hgx := ixc hb.1
  have e10 : ∀ (U : St) (j : Nat), (wI U 33 (ix o1) 2).1 10 j = U.1 10 j := fun U j => rfl
  have e34 : ∀ (U : St) (j : Nat), (wI U 33 (ix o1) 2).1 34 j = U.1 34 j := fun U j => rfl
  have es : gsum (wI V 33 (ix o1) 2) (V.1 0 17) = gsum V (V.1 0 17) := by
    refine sumN_congr _ (fun j hj => ?_)
    have h7 := h3 j (by omega)
    have h8 := ixc h7.2.1
    show ksz _ (ix (V.1 10 j)) = ksz V (ix (V.1 10 j))
    exact ksz_kx hT hT1 hx _ (by omega)
  have ek : 0 ≤ k.toInt → k.toInt < (V.1 0 13).toInt → ksz (wI V 33 (ix o1) 2) (ix k) = ksz V (ix k) := fun q q1 => ksz_kx hT hT1 hx _ (by have := ixc q; omega)
  have hkz : ∀ j, kz (wI V 33 (ix o1) 2) j (ix k) = kz V j (ix k) := by
    intro j
    have gen : ∀ j k, kz (wI V 33 (ix o1) 2) j k = kz V j k := by
      intro j
      induction j with
      | zero => intro k; rfl
      | succ j ih =>
        intro k
        show 1 + sumN _ _ = 1 + sumN _ _
        congr 1
        exact sumN_congr _ (fun i _ => ih _)
    exact gen j _
  refine ⟨?_, h2, fun j hj => h3 j hj, fun j hj => ?_, ?_, fun q => ?_⟩
  · show KFm _ 3 (ix o) (V.1 0 17).toInt (w - 1)
    rw [e1] at h1 ⊢
    obtain ⟨g0, w0, hk0, hc⟩ := h1
    refine ⟨g0, w0, KF.fr (fun i hi => ⟨wI_ne _ _ _ _ _ _ (by rintro ⟨-, q⟩; omega), e34 V i⟩) hk0, ?_⟩
    rw [wI_at, e34]
    have : (2 : Int32).toInt = 2 := rfl
    omega
  · by_cases q : j = ix o1
    · subst q
      rw [wI_at, wI_at, e34, e34]
      exact ⟨rfl, fun _ => (h4 _ hj).2 (by omega)⟩
    · rw [wI_ne _ _ _ _ _ _ (fun h => q h.2), wI_ne _ _ _ _ _ _ (fun h => q h.2), e34, e34]
      exact h4 j hj
  · show (gsum _ (V.1 0 17) : Int) + _ ≤ _
    rw [es]
    exact h5
  · show (gsum _ (V.1 0 17) : Int) + _ + ((kz _ _ _ : Nat) : Int) ≤ _
    rw [es, hkz]
    exact h6 q
theorem KW.m4 {V Vt : St} {o k : Int32} {w t : Int} (h : KW V Vt o k w 3 t) : KW V Vt o k w 4 t := by
  obtain ⟨h1, h2⟩ := h
  refine ⟨?_, h2⟩
  cases hj : ix o with
  | zero => rw [hj] at h1; exact h1
  | succ j =>
    rw [hj] at h1
    obtain ⟨g0, w0, hk0, hc⟩ := h1
    exact ⟨g0, w0, hk0, by omega⟩
theorem KW.m3 {V Vt : St} {o o1 k n : Int32} {w t : Int} (h : KW V Vt o k w 4 t) (ho : o1.toInt = o.toInt - 1) (h0 : 0 ≤ o1.toInt) (ht : (V.1 33 (ix o1)).toInt = 1) (hn : n.toInt = (V.1 0 17).toInt - (V.1 34 (ix o1)).toInt) (h4 : ¬ n.toInt = 4) : KW V Vt o k w 3 t := by
  obtain ⟨h1, h2⟩ := h
  refine ⟨?_, h2⟩
  rw [ix_pred ho h0] at h1 ⊢
  obtain ⟨g0, w0, hk0, hc⟩ := h1
  exact ⟨g0, w0, hk0, by omega⟩
/-- the kinds of the top function -/
theorem KW.seg {V Vt : St} {o o1 k n : Int32} {w t : Int} (h : KW V Vt o k w 4 t) (ho : o1.toInt = o.toInt - 1) (h0 : 0 ≤ o1.toInt) (ht : ¬ (V.1 33 (ix o1)).toInt = 0 ∧ ¬ (V.1 33 (ix o1)).toInt = 1) : 0 ≤ (V.1 34 (ix o1)).toInt ∧ (V.1 34 (ix o1)).toInt ≤ (V.1 0 17).toInt ∧ (V.1 0 17).toInt ≤ (V.1 34 (ix o1)).toInt + 5 ∧ (∀ j : Nat, (V.1 34 (ix o1)).toInt + j < (V.1 0 17).toInt → 0 ≤ (V.1 10 (ix (V.1 34 (ix o1)) + j)).toInt ∧ (V.1 10 (ix (V.1 34 (ix o1)) + j)).toInt < (V.1 0 13).toInt ∧ Vt.1 10 (ix (V.1 34 (ix o1)) + j) = V.1 10 (ix (V.1 34 (ix o1)) + j)) := by
  obtain ⟨h1, h2, h3, h4, h5, h6⟩ := h
  rw [ix_pred ho h0] at h1
  obtain ⟨g0, w0, hk0, hc⟩ := h1
  have := KF.bd hk0
  have hc : (V.1 34 (ix o1)).toInt = g0 ∧ g0 ≤ (V.1 0 17).toInt ∧ (V.1 0 17).toInt ≤ g0 + 5 := by omega
  refine ⟨by omega, by omega, by omega, fun j hj => ?_⟩
  have := ixc (z := V.1 34 (ix o1)) (by omega)
  have q := h3 (ix (V.1 34 (ix o1)) + j) (by omega)
  exact ⟨q.2.1, q.2.2, q.1⟩
theorem KW.frm {V Vt : St} {o o1 k : Int32} {w m t : Int} (h : KW V Vt o k w m t) (ho : o1.toInt = o.toInt - 1) (h0 : 0 ≤ o1.toInt) (ht : ¬ (V.1 33 (ix o1)).toInt = 0) : 0 ≤ (V.1 34 (ix o1)).toInt ∧ (V.1 34 (ix o1)).toInt ≤ (V.1 0 17).toInt := by
  obtain ⟨h1, h2⟩ := h
  rw [ix_pred ho h0] at h1
  obtain ⟨g0, w0, hk0, hc⟩ := h1
  have := KF.bd hk0
  omega
theorem KW.fin {V Vt Y Yt : St} {o o1 k n r : Int32} {w t : Int} (h : KW V Vt o k w 4 t) (ho : o1.toInt = o.toInt - 1) (h0 : 0 ≤ o1.toInt) (ht : ¬ (V.1 33 (ix o1)).toInt = 0 ∧ ¬ (V.1 33 (ix o1)).toInt = 1) (hT : KT V) (hg : (V.1 0 17).toInt ≤ 3000) (hn : n.toInt = (V.1 0 17).toInt - (V.1 34 (ix o1)).toInt) (hS : KS (5 : Int32).toInt n.toInt) (hO : KOF V Y 5 (V.1 34 (ix o1)) n r) (hOt : KOF Vt Yt 5 (V.1 34 (ix o1)) n r) : KW (wI Y 0 17 (V.1 34 (ix o1))) (wI Yt 0 17 (V.1 34 (ix o1))) o1 r (w - 1) 3 t := by
  have sg := KW.seg (n := n) h ho h0 ht
  obtain ⟨s1, s2, s3, s4⟩ := sg
  obtain ⟨h1, h2, h3, h4, h5, h6⟩ := h
  have hgv : ∀ j : Nat, (j : Int) < n.toInt → 0 ≤ (V.1 10 (ix (V.1 34 (ix o1)) + j)).toInt ∧ (V.1 10 (ix (V.1 34 (ix o1)) + j)).toInt < (V.1 0 13).toInt := fun j hj => ⟨(s4 j (by omega)).1, (s4 j (by omega)).2.1⟩
  have hx := hO.kx hT hS
  have hT1 := hO.kt hT hS hgv
  have hsz := (hO.is hT).sz hT hT1 hx hgv
  have hF := hO.fr
  have hFt := hOt.fr
  have e1 := ix_pred ho h0
  have o1x := ixc h0
  have hfx := ixc s1
  have hnx := ixc (z := n) (by omega)
  have hgx := ixc (z := V.1 0 17) (by omega)
  have hT2 : KT (wI Y 0 17 (V.1 34 (ix o1))) := hT1.fr (Fr.rf.wI 0 17 _ (show (17 : Nat) ∈ [17] from by decide)) (by decide)
  have hx2 : KX Y (wI Y 0 17 (V.1 34 (ix o1))) := KX.fr (Fr.rf.wI 0 17 _ (show (17 : Nat) ∈ [17] from by decide)) (by decide)
  have hx3 := hx.tr hx2
  have c33 : ∀ i, (wI Y 0 17 (V.1 34 (ix o1))).1 33 i = V.1 33 i := fun i => hF.1 33 i (show (6600 : Nat) ∉ [13, 15, 800, 1000, 1200, 1400, 1600, 1800] from by decide)
  have c34 : ∀ i, (wI Y 0 17 (V.1 34 (ix o1))).1 34 i = V.1 34 i := fun i => hF.1 34 i (show (6800 : Nat) ∉ [13, 15, 800, 1000, 1200, 1400, 1600, 1800] from by decide)
  have t33 : ∀ i, (wI Yt 0 17 (V.1 34 (ix o1))).1 33 i = Vt.1 33 i := fun i => hFt.1 33 i (show (6600 : Nat) ∉ [13, 15, 800, 1000, 1200, 1400, 1600, 1800] from by decide)
  have t34 : ∀ i, (wI Yt 0 17 (V.1 34 (ix o1))).1 34 i = Vt.1 34 i := fun i => hFt.1 34 i (show (6800 : Nat) ∉ [13, 15, 800, 1000, 1200, 1400, 1600, 1800] from by decide)
  have c10 : ∀ i, (wI Y 0 17 (V.1 34 (ix o1))).1 10 i = V.1 10 i := fun i => hF.1 10 i (show (2000 : Nat) ∉ [13, 15, 800, 1000, 1200, 1400, 1600, 1800] from by decide)
  have t10 : ∀ i, (wI Yt 0 17 (V.1 34 (ix o1))).1 10 i = Vt.1 10 i := fun i => hFt.1 10 i (show (2000 : Nat) ∉ [13, 15, 800, 1000, 1200, 1400, 1600, 1800] from by decide)
  have c17 : (wI Y 0 17 (V.1 34 (ix o1))).1 0 17 = V.1 34 (ix o1) := wI_at _ _ _ _
  have t17 : (wI Yt 0 17 (V.1 34 (ix o1))).1 0 17 = V.1 34 (ix o1) := wI_at _ _ _ _
  have hpre : gsum (wI Y 0 17 (V.1 34 (ix o1))) (V.1 34 (ix o1)) = gsum V (V.1 34 (ix o1)) := by
    refine sumN_congr _ (fun j hj => ?_)
    have h7 := h3 j (by omega)
    have h8 := ixc h7.2.1
    show ksz _ (ix _) = ksz V (ix (V.1 10 j))
    rw [c10]
    exact ksz_kx hT hT2 hx3 _ (by omega)
  have hsum : gsum V (V.1 0 17) = gsum V (V.1 34 (ix o1)) + sumN (fun i => ksz V (ix (V.1 10 (ix (V.1 34 (ix o1)) + i)))) (ix n) := by
    have q : ix (V.1 0 17) = ix (V.1 34 (ix o1)) + ix n := by omega
    unfold gsum
    rw [q]
    exact sumN_add _ _ _
  have hrz : ksz (wI Y 0 17 (V.1 34 (ix o1))) (ix r) = ksz Y (ix r) := ksz_kx hT1 hT2 hx2 _ (by have := (hO.is hT).1; have := (hO.is hT).2.1; have := ixc (hO.is hT).1; omega)
  refine ⟨?_, by rw [c17, t17], fun j hj => ?_, fun j hj => ?_, ?_, fun _ => ?_⟩
  · rw [c17]
    rw [e1] at h1
    obtain ⟨g0, w0, hk0, hc⟩ := h1
    have hw : g0 = (V.1 34 (ix o1)).toInt ∧ w0 = w - 1 := by omega
    rw [← hw.1, ← hw.2]
    exact (KF.fr (fun i _ => ⟨c33 i, c34 i⟩) hk0).to
  · rw [c17] at hj
    rw [c10, t10]
    have q := h3 j (by omega)
    exact ⟨q.1, q.2.1, Int.lt_of_lt_of_le q.2.2 hx3.1⟩
  · rw [c33, c34, t33, t34]
    exact h4 j (by omega)
  · rw [c17, hpre]
    omega
  · rw [c17, hpre, hrz, hsz]
    omega
/-- one more frame -/
theorem KW.open0 {Z Zt : St} {o o1 k : Int32} {w t : Int} (h : KW Z Zt o k w 3 t) (h0 : 0 ≤ o.toInt) (ho : o1.toInt = o.toInt + 1) (hT : KT Z) (k1 : Int32) (hk : k1.toInt < 0) : KW (wI Z 33 (ix o) 0) (wI Zt 33 (ix o) 0) o1 k1 (w + 1) 3 (t + 1) := by
  obtain ⟨h1, h2, h3, h4, h5, h6⟩ := h
  have e1 := ix_pred (o := o1) (o1 := o) (by omega) h0
  have hF : Fr YR [6600] Z (wI Z 33 (ix o) 0) := Fr.rf.wI 33 _ _ (show (6600 : Nat) ∈ [6600] from by decide)
  have hx := KX.fr hF (by decide)
  have hT1 := hT.fr hF (by decide)
  have hb := KFm.bd _ h1
  have hgx := ixc hb.1
  have hox := ixc h0
  have e34 : ∀ (U : St) (j : Nat), (wI U 33 (ix o) 0).1 34 j = U.1 34 j := fun U j => rfl
  have es : gsum (wI Z 33 (ix o) 0) (Z.1 0 17) = gsum Z (Z.1 0 17) := by
    refine sumN_congr _ (fun j hj => ?_)
    have h7 := h3 j (by omega)
    have h8 := ixc h7.2.1
    show ksz _ (ix (Z.1 10 j)) = ksz Z (ix (Z.1 10 j))
    exact ksz_kx hT hT1 hx _ (by omega)
  refine ⟨?_, h2, fun j hj => h3 j hj, fun j hj => ?_, ?_, fun q => by omega⟩
  · show KFm _ 3 (ix o1) (Z.1 0 17).toInt (w + 1)
    rw [e1]
    refine ⟨(Z.1 0 17).toInt, w, KF.of (KFm.fr (fun i hi => ⟨wI_ne _ _ _ _ _ _ (by rintro ⟨-, q⟩; omega), e34 Z i⟩) h1), ?_⟩
    rw [wI_at]
    left
    exact ⟨rfl, rfl, rfl⟩
  · by_cases q : j = ix o
    · subst q
      rw [wI_at, wI_at]
      exact ⟨rfl, fun q => absurd rfl q⟩
    · rw [wI_ne _ _ _ _ _ _ (fun h => q h.2), wI_ne _ _ _ _ _ _ (fun h => q h.2), e34, e34]
      exact h4 j (by omega)
  · show (gsum _ (Z.1 0 17) : Int) + _ ≤ _
    rw [es]
    omega
theorem KW.open1 {Z Zt : St} {o o1 k : Int32} {w t : Int} (h : KW Z Zt o k w 3 t) (h0 : 0 ≤ o.toInt) (ho : o1.toInt = o.toInt + 1) (hT : KT Z) (k1 : Int32) (hk : k1.toInt < 0) : KW (wI (wI Z 33 (ix o) 1) 34 (ix o) (Z.1 0 17)) (wI (wI Zt 33 (ix o) 1) 34 (ix o) (Z.1 0 17)) o1 k1 (w + 2) 3 (t + 1) := by
  obtain ⟨h1, h2, h3, h4, h5, h6⟩ := h
  have e1 := ix_pred (o := o1) (o1 := o) (by omega) h0
  have hF : Fr YR [6600, 6800] Z (wI (wI Z 33 (ix o) 1) 34 (ix o) (Z.1 0 17)) := (Fr.rf.wI 33 _ _ (show (6600 : Nat) ∈ [6600, 6800] from by decide)).wI 34 _ _ (show (6800 : Nat) ∈ [6600, 6800] from by decide)
  have hx := KX.fr hF (by decide)
  have hT1 := hT.fr hF (by decide)
  have hb := KFm.bd _ h1
  have hgx := ixc hb.1
  have hox := ixc h0
  have e33 : ∀ (U : St) (j : Nat), (wI (wI U 33 (ix o) 1) 34 (ix o) (Z.1 0 17)).1 33 j = (wI U 33 (ix o) 1).1 33 j := fun U j => rfl
  have e34 : ∀ (U : St) (j : Nat), (wI (wI U 33 (ix o) 1) 34 (ix o) (Z.1 0 17)).1 34 j = (wI U 34 (ix o) (Z.1 0 17)).1 34 j := fun U j => rfl
  have es : gsum (wI (wI Z 33 (ix o) 1) 34 (ix o) (Z.1 0 17)) (Z.1 0 17) = gsum Z (Z.1 0 17) := by
    refine sumN_congr _ (fun j hj => ?_)
    have h7 := h3 j (by omega)
    have h8 := ixc h7.2.1
    show ksz _ (ix (Z.1 10 j)) = ksz Z (ix (Z.1 10 j))
    exact ksz_kx hT hT1 hx _ (by omega)
  refine ⟨?_, h2, fun j hj => h3 j hj, fun j hj => ?_, ?_, fun q => by omega⟩
  · show KFm _ 3 (ix o1) (Z.1 0 17).toInt (w + 2)
    rw [e1]
    refine ⟨(Z.1 0 17).toInt, w, KF.of (KFm.fr (fun i hi => ⟨by rw [e33, wI_ne _ _ _ _ _ _ (by rintro ⟨-, q⟩; omega)], by rw [e34, wI_ne _ _ _ _ _ _ (by rintro ⟨-, q⟩; omega)]⟩) h1), ?_⟩
    rw [e33, e34, wI_at, wI_at]
    right; left
    exact ⟨rfl, rfl, Int.le_refl _, by omega, rfl⟩
  · by_cases q : j = ix o
    · subst q
      rw [e33, e33, e34, e34, wI_at, wI_at, wI_at, wI_at]
      exact ⟨rfl, fun _ => rfl⟩
    · rw [e33, e33, e34, e34, wI_ne _ _ _ _ _ _ (fun h => q h.2), wI_ne _ _ _ _ _ _ (fun h => q h.2), wI_ne _ _ _ _ _ _ (fun h => q h.2), wI_ne _ _ _ _ _ _ (fun h => q h.2)]
      exact h4 j (by omega)
  · show (gsum _ (Z.1 0 17) : Int) + _ ≤ _
    rw [es]
    omega
/-- the three first kinds -/
def K3 (X : St) : Prop := 3 ≤ (X.1 0 13).toInt ∧ X.1 4 0 = 1 ∧ X.1 4 1 = 2 ∧ X.1 4 2 = 3
theorem K3.kx {X X1 : St} (h : K3 X) (hx : KX X X1) : K3 X1 := by
  obtain ⟨a, b, c, d⟩ := h
  exact ⟨Int.le_trans a hx.1, ((hx.2.2.1 0 (by omega)).1).trans b, ((hx.2.2.1 1 (by omega)).1).trans c, ((hx.2.2.1 2 (by omega)).1).trans d⟩
theorem K3.sz {X : St} (h : K3 X) (hT : KT X) {k : Int32} (hk : 0 ≤ k.toInt ∧ k.toInt ≤ 2) : ksz X (ix k) = 1 := by
  obtain ⟨a, b, c, d⟩ := h
  have hx := ixc hk.1
  rw [ksz_eq hT (by omega)]
  obtain ⟨p, q, r, s, -⟩ := hT.2.2 (ix k) (by omega)
  have hm : (X.1 5 (ix k)).toInt = 0 := by
    have e : ix k = 0 ∨ ix k = 1 ∨ ix k = 2 := by omega
    rcases e with e | e | e <;> rw [e] at s ⊢
    · rw [b] at s
      rcases s with s | s | s
      · exact s.2.2
      · exact absurd s.1 (by decide)
      · exact absurd s.1 (by decide)
    · rw [c] at s
      rcases s with s | s | s
      · exact s.2.2
      · exact absurd s.1 (by decide)
      · exact absurd s.1 (by decide)
    · rw [d] at s
      rcases s with s | s | s
      · exact s.2.2
      · exact absurd s.1 (by decide)
      · exact absurd s.1 (by decide)
  have : ix (X.1 5 (ix k)) = 0 := by have := ixc q; omega
  rw [this]
  rfl
theorem KW.plain {Z Zt : St} {o k k1 : Int32} {w t : Int} (h : KW Z Zt o k w 3 t) (h3 : K3 Z) (hT : KT Z) (hk : 0 ≤ k1.toInt ∧ k1.toInt ≤ 2) : KW Z Zt o k1 w 3 (t + 1) := ⟨h.1, h.2.1, h.2.2.1, h.2.2.2.1, by have := h.2.2.2.2.1; omega, fun _ => by have := h.2.2.2.2.1; rw [h3.sz hT hk]; omega⟩
