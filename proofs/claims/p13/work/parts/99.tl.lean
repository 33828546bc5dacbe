/-! kinds that a run may add -/
noncomputable def nbp (p : Prop) : Nat := @ite Nat p (Classical.propDecidable p) 0 1
theorem nbp_t {p : Prop} (h : p) : nbp p = 0 := by unfold nbp; rw [if_pos h]
theorem nbp_f {p : Prop} (h : ¬ p) : nbp p = 1 := by unfold nbp; rw [if_neg h]
theorem nbp_le {p : Prop} : nbp p ≤ 1 := by
  by_cases h : p
  · rw [nbp_t h]; omega
  · rw [nbp_f h]; omega
theorem nbp_mono {p r : Prop} (h : p → r) : nbp r ≤ nbp p := by
  by_cases g : p
  · rw [nbp_t (h g)]; omega
  · rw [nbp_f g]; exact nbp_le
def HAS (X : St) (i : Nat) : Prop := (i = 5 ∧ ∃ k, ROWK X k 2) ∨ (i ≤ 4 ∧ ∃ k, FNK X k (i : Int) ∧ ∀ j : Nat, j ≤ i → cmpK X k j = 2)
noncomputable def miss (X : St) : Nat := nbp (HAS X 0) + nbp (HAS X 1) + nbp (HAS X 2) + nbp (HAS X 3) + nbp (HAS X 4) + nbp (HAS X 5)
theorem miss_le (X : St) : miss X ≤ 6 := by
  have h0 := @nbp_le (HAS X 0)
  have h1 := @nbp_le (HAS X 1)
  have h2 := @nbp_le (HAS X 2)
  have h3 := @nbp_le (HAS X 3)
  have h4 := @nbp_le (HAS X 4)
  have h5 := @nbp_le (HAS X 5)
  unfold miss
  omega
theorem HAS.kx {X Y : St} {i : Nat} (h : HAS X i) (hT : KT X) (hK : KX X Y) : HAS Y i := by
  rcases h with ⟨a, k, b⟩ | ⟨a, k, b, c⟩
  · exact Or.inl ⟨a, k, b.kx hT hK⟩
  · refine Or.inr ⟨a, k, b.kx hK, fun j hj => ?_⟩
    rw [cmpK_kx hT hK b.1 b.2.1 (by have := b.2.2.2; omega)]
    exact c j hj
theorem miss_kx {X Y : St} (hT : KT X) (hK : KX X Y) : miss Y ≤ miss X := by
  have h0 := nbp_mono (fun h : HAS X 0 => h.kx hT hK)
  have h1 := nbp_mono (fun h : HAS X 1 => h.kx hT hK)
  have h2 := nbp_mono (fun h : HAS X 2 => h.kx hT hK)
  have h3 := nbp_mono (fun h : HAS X 3 => h.kx hT hK)
  have h4 := nbp_mono (fun h : HAS X 4 => h.kx hT hK)
  have h5 := nbp_mono (fun h : HAS X 5 => h.kx hT hK)
  unfold miss
  omega
theorem miss_new {X Y : St} (hT : KT X) (hK : KX X Y) {i : Nat} (hi : i ≤ 5) (h : ¬ HAS X i) (g : HAS Y i) : miss Y + 1 ≤ miss X := by
  have h0 := nbp_mono (fun h : HAS X 0 => h.kx hT hK)
  have h1 := nbp_mono (fun h : HAS X 1 => h.kx hT hK)
  have h2 := nbp_mono (fun h : HAS X 2 => h.kx hT hK)
  have h3 := nbp_mono (fun h : HAS X 3 => h.kx hT hK)
  have h4 := nbp_mono (fun h : HAS X 4 => h.kx hT hK)
  have h5 := nbp_mono (fun h : HAS X 5 => h.kx hT hK)
  have e1 := nbp_t g
  have e2 := nbp_f h
  unfold miss
  rcases (show i = 0 ∨ i = 1 ∨ i = 2 ∨ i = 3 ∨ i = 4 ∨ i = 5 by omega) with q | q | q | q | q | q <;> subst q <;> omega
/-- kinds and their lists grow by no more than what was wanting -/
def POT (X Y : St) : Prop := (Y.1 0 13).toInt + (miss Y : Int) ≤ (X.1 0 13).toInt + (miss X : Int) ∧ (Y.1 0 15).toInt + 5 * (miss Y : Int) ≤ (X.1 0 15).toInt + 5 * (miss X : Int)
def PBD (X : St) : Prop := (X.1 0 13).toInt + (miss X : Int) ≤ 5990 ∧ (X.1 0 15).toInt + 5 * (miss X : Int) ≤ 19900
theorem POT.rf {X : St} : POT X X := ⟨Int.le_refl _, Int.le_refl _⟩
theorem POT.tr {X Y Z : St} (h : POT X Y) (g : POT Y Z) : POT X Z := ⟨Int.le_trans g.1 h.1, Int.le_trans g.2 h.2⟩
theorem PBD.pot {X Y : St} (h : PBD X) (g : POT X Y) : PBD Y := ⟨Int.le_trans g.1 h.1, Int.le_trans g.2 h.2⟩
theorem POT.fr {X Y : St} {L : List Nat} (hT : KT X) (h : Fr YR L X Y) (hl : 13 ∉ L ∧ 15 ∉ L ∧ 800 ∉ L ∧ 1000 ∉ L ∧ 1200 ∉ L ∧ 1800 ∉ L) : POT X Y := by
  have hm := miss_kx hT (KX.fr h hl)
  have e13 : Y.1 0 13 = X.1 0 13 := h.1 0 13 hl.1
  have e15 : Y.1 0 15 = X.1 0 15 := h.1 0 15 hl.2.1
  unfold POT
  rw [e13, e15]
  omega
/-- all that a run may do to the kinds -/
def PER (L : List Nat) (X Y : St) : Prop := Fr YR L X Y ∧ KT Y ∧ KX X Y ∧ POT X Y
def L9K : List Nat := [13, 15, 800, 1000, 1200, 1400, 1600, 1800, 2000]
theorem PER.tr {L L1 : List Nat} {X Y Z : St} (h : PER L X Y) (g : PER L1 Y Z) (hs : ∀ k ∈ L1, k ∈ L) : PER L X Z := ⟨h.1.tr g.1 hs, g.2.1, h.2.2.1.tr g.2.2.1, h.2.2.2.tr g.2.2.2⟩
theorem PER.mono {L L1 : List Nat} {X Y : St} (h : PER L X Y) (hs : ∀ k ∈ L, k ∈ L1) : PER L1 X Y := ⟨h.1.mono hs, h.2⟩
theorem PER.fr {L : List Nat} {X Y : St} (hT : KT X) (h : Fr YR L X Y) (hl : 13 ∉ L ∧ 15 ∉ L ∧ 800 ∉ L ∧ 1000 ∉ L ∧ 1200 ∉ L ∧ 1800 ∉ L) : PER L X Y := ⟨h, hT.fr h hl, KX.fr h hl, POT.fr hT h hl⟩
theorem PER.rf {L : List Nat} {X : St} (hT : KT X) : PER L X X := ⟨Fr.rf, hT, KX.rf, POT.rf⟩
theorem any_new {X W Y : St} {s n r : Int32} {i : Nat} (hT : KT X) (hF : Fr YR [2000] X W) (hi : i ≤ 5) (hs : s.toInt = if i = 5 then 4 else 5) (hn : n.toInt = if i = 5 then 1 else (i : Int) + 1) (hg : ∀ j : Nat, (j : Int) < n.toInt → W.1 10 (3000 + j) = 2) (h3 : 3 ≤ (X.1 0 13).toInt) (h : KOF W Y s 3000 n r) : PER [13, 15, 800, 1000, 1200, 1400, 1600, 1800, 2000] X Y ∧ (0 ≤ r.toInt ∧ r.toInt < (Y.1 0 13).toInt) ∧ (Y.1 4 (ix r)).toInt = s.toInt ∧ (Y.1 5 (ix r)).toInt = n.toInt ∧ ∀ j : Nat, (j : Int) < n.toInt → cmpK Y r j = 2 := by
  have i3 : ix (3000 : Int32) = 3000 := by decide
  have z2 : (2 : Int32).toInt = 2 := rfl
  have hWT := hT.fr hF (by decide)
  have hWK := KX.fr hF (by decide)
  have w13 : W.1 0 13 = X.1 0 13 := hF.1 0 13 (by decide)
  have w15 : W.1 0 15 = X.1 0 15 := hF.1 0 15 (by decide)
  have hS : KS s.toInt n.toInt := by
    rw [hs, hn]
    by_cases g : i = 5
    · rw [if_pos g, if_pos g]
      exact Or.inr (Or.inl ⟨rfl, rfl⟩)
    · rw [if_neg g, if_neg g]
      exact Or.inr (Or.inr ⟨rfl, by omega, by omega⟩)
  have hgg : ∀ j : Nat, (j : Int) < n.toInt → 0 ≤ (W.1 10 (ix 3000 + j)).toInt ∧ (W.1 10 (ix 3000 + j)).toInt < (W.1 0 13).toInt := by
    intro j hj
    rw [i3, hg j hj, w13, z2]
    omega
  have hn5 : 1 ≤ n.toInt ∧ n.toInt ≤ 5 := by
    rw [hn]
    by_cases g : i = 5
    · rw [if_pos g]; omega
    · rw [if_neg g]; omega
  have hKY := h.kx hWT hS
  have hTY := h.kt hWT hS hgg
  obtain ⟨g1, g2, g3, g4, g5⟩ := h.is hWT
  have hc : ∀ j : Nat, (j : Int) < n.toInt → cmpK Y r j = 2 := by
    intro j hj
    unfold cmpK
    rw [g5 j hj, i3]
    exact hg j hj
  have hhas : HAS Y i := by
    by_cases g : i = 5
    · refine Or.inl ⟨g, r, g1, g2, ?_, ?_, hc 0 (by omega)⟩
      · rw [g3, hs, if_pos g]
      · rw [g4, hn, if_pos g]
    · refine Or.inr ⟨by omega, r, ⟨g1, g2, ?_, ?_⟩, fun j hj => hc j (by rw [hn, if_neg g]; omega)⟩
      · rw [g3, hs, if_neg g]
      · rw [g4, hn, if_neg g]
  refine ⟨⟨(hF.mono (by decide)).tr h.fr (by decide), hTY, hWK.tr hKY, ?_⟩, ⟨g1, g2⟩, by rw [g3], by rw [g4], hc⟩
  rcases h with ⟨a, b, c, -, rfl⟩ | ⟨hno, rfl, hN⟩
  · exact POT.fr hT hF (by decide)
  · have hnot : ¬ HAS X i := by
      intro q
      have q2 := q.kx hT hWK
      rcases q2 with ⟨a, k, b1, b2, b3, b4, b5⟩ | ⟨a, k, ⟨b1, b2, b3, b4⟩, b5⟩
      · have ek := ixc b1
        refine hno (ix k) (by omega) ⟨Int32.toInt_inj.mp (by rw [b3, hs, if_pos a]), Int32.toInt_inj.mp (by rw [b4, hn, if_pos a]), fun j hj => ?_⟩
        rw [i3, hg j hj]
        have : j = 0 := by rw [hn, if_pos a] at hj; omega
        subst this
        exact b5
      · have ek := ixc b1
        have a5 : ¬ i = 5 := by omega
        refine hno (ix k) (by omega) ⟨Int32.toInt_inj.mp (by rw [b3, hs, if_neg a5]), Int32.toInt_inj.mp (by rw [b4, hn, if_neg a5]), fun j hj => ?_⟩
        rw [i3, hg j hj]
        exact b5 j (by rw [hn, if_neg a5] at hj; omega)
    have hm := miss_new hT (hWK.tr hKY) hi hnot hhas
    have n1 := hN.2.1
    have n2 := hN.2.2.1
    unfold POT
    rw [w13] at n1
    rw [w15] at n2
    omega
theorem u_rowOf {X : St} (hT : KT X) (h3 : K3 X) (hB : PBD X) : ok (f_rowOf 2 X) (fun r Y => PER [13, 15, 800, 1000, 1200, 1400, 1600, 1800, 2000] X Y ∧ ROWK Y r 2) := by
  have i3 : ix (3000 : Int32) = 3000 := by decide
  have z2 : (2 : Int32).toInt = 2 := rfl
  have h13 := h3.1
  have hB1 := hB.1
  have hB2 := hB.2
  unfold f_rowOf
  refine ok.ck ⟨by decide, by decide⟩ (ok.letV ?_)
  have hF : Fr YR [2000] X (wI X 10 (ix 3000) 2) := Fr.rf.wI 10 _ _ (show (2000 : Nat) ∈ [2000] from by decide)
  have r10 : (wI X 10 (ix 3000) 2).1 10 3000 = 2 := by rw [i3, wI_at]
  obtain ⟨W, hW⟩ : ∃ W : St, wI X 10 (ix 3000) 2 = W := ⟨_, rfl⟩
  rw [hW] at hF r10 ⊢
  have w13 : W.1 0 13 = X.1 0 13 := hF.1 0 13 (by decide)
  have w15 : W.1 0 15 = X.1 0 15 := hF.1 0 15 (by decide)
  have hg : ∀ j : Nat, (j : Int) < (1 : Int32).toInt → W.1 10 (3000 + j) = 2 := by
    intro j hj
    have : j = 0 := by
      have : (1 : Int32).toInt = 1 := rfl
      omega
    subst this
    exact r10
  refine ok.bd (s_kindOf (X := W) (s := 4) (f := 3000) (n := 1) (hT.fr hF (by decide)) (by rw [w13]; omega) (by rw [w15, show (1 : Int32).toInt = 1 from rfl]; omega) (by decide) (Or.inr (Or.inl ⟨rfl, rfl⟩)) (fun j hj => ?_)) ?_
  · rw [i3, hg j hj, w13, z2]
    omega
  · intro r Y h
    obtain ⟨p1, ⟨p2, p3⟩, p4, p5, p6⟩ := any_new (i := 5) hT hF (by decide) rfl rfl hg h13 h
    exact ok.ret ⟨p1, p2, p3, p4, p5, p6 0 (by decide)⟩
theorem u_any_loop {X : St} (hT : KT X) (h3 : K3 X) (hB : PBD X) {m : Int32} (hm : 0 ≤ m.toInt ∧ m.toInt ≤ 4) : ∀ (d i : Nat) (Z : St) (a2 : Int32) (N : Nat), (i : Int) + d = m.toInt + 1 → d < N → a2.toInt = (i : Int) → Fr YR [2000] X Z → (∀ j, j < i → Z.1 10 (3000 + j) = 2) → ok (f_anyFunction_2 N m a2 Z) (fun r Y => PER [13, 15, 800, 1000, 1200, 1400, 1600, 1800, 2000] X Y ∧ FNK Y r m.toInt ∧ ∀ i : Nat, (i : Int) ≤ m.toInt → cmpK Y r i = 2) := by
  have h13 := h3.1
  have hB1 := hB.1
  have hB2 := hB.2
  intro d
  induction d with
  | zero =>
    intro i Z a2 N hi hN ha hF h10
    obtain ⟨N, rfl⟩ : ∃ k, N = k + 1 := ⟨N - 1, by omega⟩
    have i3 : ix (3000 : Int32) = 3000 := by decide
    have w13 : Z.1 0 13 = X.1 0 13 := hF.1 0 13 (by decide)
    have w15 : Z.1 0 15 = X.1 0 15 := hF.1 0 15 (by decide)
    have z3 : (3000 : Int32).toInt = 3000 := rfl
    have z2 : (2 : Int32).toInt = 2 := rfl
    have em := ixc hm.1
    unfold f_anyFunction_2
    rw [lp_succ]
    unfold f_anyFunction_2_s
    refine ok.ite (fun _ => ?_) (fun c => absurd (show m.toInt < a2.toInt by omega) c)
    refine ok.add (by rw [show (1 : Int32).toInt = 1 from rfl]; omega) (fun x1 hx1 => ?_)
    have hx1 : x1.toInt = m.toInt + 1 := hx1
    refine ok.bd (s_kindOf (X := Z) (s := 5) (f := 3000) (n := x1) (hT.fr hF (by decide)) (by rw [w13]; omega) (by rw [w15]; omega) (by rw [z3]; omega) (Or.inr (Or.inr ⟨rfl, by omega, by omega⟩)) (fun j hj => ?_)) ?_
    · rw [i3, h10 j (by omega), w13, z2]
      omega
    · intro r Y h
      have m5 : ¬ ix m = 5 := by omega
      obtain ⟨p1, ⟨p2, p3⟩, p4, p5, p6⟩ := any_new (i := ix m) hT hF (by omega) (by rw [if_neg m5]; rfl) (by rw [if_neg m5]; omega) (fun j hj => h10 j (by omega)) h13 h
      exact ok.ret ⟨p1, ⟨p2, p3, p4, by omega⟩, fun j hj => p6 j (by omega)⟩
  | succ d ih =>
    intro i Z a2 N hi hN ha hF h10
    obtain ⟨N, rfl⟩ : ∃ k, N = k + 1 := ⟨N - 1, by omega⟩
    have z3 : (3000 : Int32).toInt = 3000 := rfl
    unfold f_anyFunction_2
    rw [lp_succ]
    unfold f_anyFunction_2_s
    refine ok.ite (fun c => absurd c (by omega)) (fun _ => ?_)
    refine ok.add (by rw [z3]; omega) (fun x4 hx4 => ?_)
    rw [z3] at hx4
    have e4 := ixc (z := x4) (by omega)
    have e4i : ix x4 = 3000 + i := by omega
    refine ok.ck ⟨by omega, show x4.toInt < ((3100 : Nat) : Int) by omega⟩ (ok.letV (ok.inc (by decide) (by omega) (fun x6 hx6 => ?_)))
    have hx6 : x6.toInt = a2.toInt + 1 := hx6
    have key := ih (i + 1) (wI Z 10 (ix x4) 2) x6 N (by omega) (by omega) (by omega) (hF.wI 10 _ _ (show (2000 : Nat) ∈ [2000] from by decide)) (fun j hj => ?_)
    · unfold f_anyFunction_2 at key
      exact key
    · by_cases g : j = i
      · rw [g, ← e4i, wI_at]
      · rw [wI_ne _ 10 _ _ 10 _ (by rintro ⟨-, q⟩; omega)]
        exact h10 j (by omega)
theorem u_anyFunction {X : St} (hT : KT X) (h3 : K3 X) (hB : PBD X) {m : Int32} (hm : 0 ≤ m.toInt ∧ m.toInt ≤ 4) : ok (f_anyFunction m X) (fun r Y => PER [13, 15, 800, 1000, 1200, 1400, 1600, 1800, 2000] X Y ∧ FNK Y r m.toInt ∧ ∀ i : Nat, (i : Int) ≤ m.toInt → cmpK Y r i = 2) := by
  have em := ixc hm.1
  unfold f_anyFunction
  exact u_any_loop hT h3 hB hm (ix m + 1) 0 X 0 BIG (by omega) (ltBIG (by omega)) rfl Fr.rf (fun j hj => absurd hj (Nat.not_lt_zero _))
theorem FB.symm {R : Int32 → Int32 → Prop} {X : St} {a b : Int32} (h : FB R X a b) : FB (fun a b => R b a) X b a := by
  rcases h with h | h | h | ⟨h1, h2, h3, h4⟩
  · exact Or.inl h.symm
  · exact Or.inr (Or.inr (Or.inl h))
  · exact Or.inr (Or.inl h)
  · exact Or.inr (Or.inr (Or.inr ⟨h1.symm, by rw [← h1]; exact h2, h3.symm, fun i hi => h4 i (by rw [h3]; exact hi)⟩))
theorem FIT.symm {X : St} {a b : Int32} (h : FIT X a b) : FIT X b a := by
  refine FIT.ind (P := fun a b => FIT X b a) (fun a b g => FIT.intro ?_) h
  have g2 : FB (fun a b => FIT X b a) X a b := g.mono (fun _ _ q => q.2)
  exact g2.symm
/-- what two unlike kinds have in common that fit -/
theorem FIT.deep {X : St} {a b : Int32} (h : FIT X a b) (hne : ¬ a = b) (ha : ¬ a.toInt = 2) (hb : ¬ b.toInt = 2) : (X.1 4 (ix a)).toInt = (X.1 4 (ix b)).toInt ∧ 4 ≤ (X.1 4 (ix a)).toInt ∧ (X.1 5 (ix a)).toInt = (X.1 5 (ix b)).toInt ∧ ∀ i : Nat, (i : Int) < (X.1 5 (ix a)).toInt → FIT X (cmpK X a i) (cmpK X b i) := by
  rcases h.inv with q | q | q | ⟨q1, q2, q3, q4⟩
  · exact absurd q hne
  · exact absurd q ha
  · exact absurd q hb
  · exact ⟨congrArg Int32.toInt q1, q2, congrArg Int32.toInt q3, q4⟩
