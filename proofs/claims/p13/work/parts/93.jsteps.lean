/-! the judge's own steps -/
theorem fn_loop {X : St} (hT : KT X) (h3 : K3 X) (hPF : PF X) (hc : (X.1 0 13).toInt ≤ 5999) (hl : (X.1 0 15).toInt ≤ 19990) {p : Int32} (hp : 0 ≤ p.toInt ∧ p.toInt < (X.1 0 18).toInt) : ∀ (d i : Nat) (Z : St) (a2 : Int32) (N : Nat), i + d = ix (X.1 15 (ix p)) → d < N → a2.toInt = (i : Int) → Fr YR [2000] X Z → (∀ j, j < i → Z.1 10 (3000 + j) = pkv X (ix p) j) → ok (f_functionOf_2 N p a2 Z) (fun r Y => Fr YR [13, 15, 800, 1000, 1200, 1400, 1600, 1800, 2000] X Y ∧ KT Y ∧ KX X Y ∧ ((Y.1 0 13).toInt ≤ (X.1 0 13).toInt + 1 ∧ (Y.1 0 15).toInt ≤ (X.1 0 15).toInt + 5) ∧ FNK Y r (X.1 15 (ix p)).toInt ∧ (∀ i : Nat, i < ix (X.1 15 (ix p)) → cmpK Y r i = pkv X (ix p) i) ∧ cmpK Y r (ix (X.1 15 (ix p))) = okv X (ix p) ∧ ksz Y (ix r) ≤ 3002) := by
  have ep := ixc hp.1
  obtain ⟨⟨q1, q2⟩, q3, q4, q5⟩ := hPF.2 (ix p) (by omega)
  have hP40 := hPF.1.2
  have e15 := ixc q1
  have inp : inR p 41 := ⟨hp.1, show p.toInt < ((41 : Nat) : Int) by omega⟩
  have z3 : (3000 : Int32).toInt = 3000 := rfl
  intro d
  induction d with
  | zero =>
    intro i Z a2 N hi hN ha hF h10
    obtain ⟨N, rfl⟩ : ∃ k, N = k + 1 := ⟨N - 1, by omega⟩
    have i3 : ix (3000 : Int32) = 3000 := by decide
    have f15 : Z.1 15 (ix p) = X.1 15 (ix p) := hF.1 15 _ (show (3000 : Nat) ∉ [2000] from by decide)
    have hok : okv Z (ix p) = okv X (ix p) := by
      unfold okv
      rw [hF.1 19 _ (show (3800 : Nat) ∉ [2000] from by decide), hF.1 17 _ (show (3400 : Nat) ∉ [2000] from by decide)]
    unfold f_functionOf_2
    rw [lp_succ]
    unfold f_functionOf_2_s
    refine ok.ck inp (ok.letE (v1 := X.1 15 (ix p)) f15 ?_)
    refine ok.ite (fun _ => ?_) (fun c => absurd (show (X.1 15 (ix p)).toInt ≤ a2.toInt by omega) c)
    refine ok.ck inp (ok.letE (v1 := X.1 15 (ix p)) f15 (ok.add (by rw [z3]; omega) (fun x3 hx3 => ?_)))
    rw [z3] at hx3
    have e3 := ixc (z := x3) (by omega)
    have e3i : ix x3 = 3000 + ix (X.1 15 (ix p)) := by omega
    refine ok.bd (j_ownKindOf (X := Z) (p := p) (by omega)) ?_
    rintro x4 X5 ⟨rfl, rfl⟩
    refine ok.ck ⟨by omega, show x3.toInt < ((3100 : Nat) : Int) by omega⟩ (ok.letV ?_)
    have hF2 : Fr YR [2000] X (wI Z 10 (ix x3) (okv Z (ix p))) := hF.wI 10 _ _ (show (2000 : Nat) ∈ [2000] from by decide)
    have g10 : (wI Z 10 (ix x3) (okv Z (ix p))).1 10 (3000 + ix (X.1 15 (ix p))) = okv X (ix p) := by rw [← e3i, wI_at, hok]
    have g11 : ∀ j, j < ix (X.1 15 (ix p)) → (wI Z 10 (ix x3) (okv Z (ix p))).1 10 (3000 + j) = pkv X (ix p) j := fun j hj => by
      rw [wI_ne _ 10 _ _ 10 _ (by rintro ⟨-, q⟩; omega)]
      exact h10 j (by omega)
    obtain ⟨W, hW⟩ : ∃ W : St, wI Z 10 (ix x3) (okv Z (ix p)) = W := ⟨_, rfl⟩
    rw [hW] at hF2 g10 g11 ⊢
    have w13 : W.1 0 13 = X.1 0 13 := hF2.1 0 13 (by decide)
    have w15 : W.1 0 15 = X.1 0 15 := hF2.1 0 15 (by decide)
    have hWT := hT.fr hF2 (by decide)
    have hWK := KX.fr hF2 (by decide)
    refine ok.ck inp (ok.letE (v1 := X.1 15 (ix p)) (hF2.1 15 _ (show (3000 : Nat) ∉ [2000] from by decide)) ?_)
    refine ok.add (by rw [show (1 : Int32).toInt = 1 from rfl]; omega) (fun x8 hx8 => ?_)
    have hx8 : x8.toInt = (X.1 15 (ix p)).toInt + 1 := hx8
    have ex := ixc (z := x8) (by omega)
    have hall : ∀ j, j < ix x8 → 0 ≤ (W.1 10 (3000 + j)).toInt ∧ (W.1 10 (3000 + j)).toInt < (X.1 0 13).toInt := by
      intro j hj
      by_cases g : j < ix (X.1 15 (ix p))
      · rw [g11 j g]
        exact hPF.pkv h3.1 (by omega) g
      · rw [show j = ix (X.1 15 (ix p)) by omega, g10]
        exact hPF.okv h3.1 (by omega)
    refine ok.bd (j_kindOf (X := W) (s := 5) (f := 3000) (n := x8) hWT (by rw [w13]; exact hc) (by rw [w15]; omega) (by rw [z3]; omega) (Or.inr (Or.inr ⟨rfl, by omega, by omega⟩)) (fun j hj => ?_)) ?_
    · rw [i3, w13]
      exact hall j (by omega)
    · rintro r Y ⟨y1, y2, y3, ⟨y4, y5⟩, ⟨k1, k2, k3, k4, k5⟩, y7⟩
      rw [i3] at k5 y7
      refine ok.ret ⟨(hF2.mono (by decide)).tr y1 (by decide), y2, hWK.tr y3, ⟨by rw [w13] at y4; exact y4, by rw [w15] at y5; omega⟩, ⟨k1, k2, by rw [k3]; rfl, by rw [k4]; omega⟩, fun j hj => ?_, ?_, ?_⟩
      · unfold cmpK
        rw [k5 j (by omega)]
        exact g11 j hj
      · unfold cmpK
        rw [k5 _ (by omega)]
        exact g10
      · rw [y7, show ix x8 = ix (X.1 15 (ix p)) + 1 by omega]
        show 1 + (sumN (fun i => ksz W (ix (W.1 10 (3000 + i)))) (ix (X.1 15 (ix p))) + ksz W (ix (W.1 10 (3000 + ix (X.1 15 (ix p)))))) ≤ 3002
        rw [g10, sumN_congr (ix (X.1 15 (ix p))) (g1 := fun i => ksz X (ix (pkv X (ix p) i))) (fun i hi => by rw [g11 i hi, ksz_fr hF2 (by decide)]), ksz_fr hF2 (by decide)]
        by_cases ht : (X.1 19 (ix p)).toInt = 0
        · have hks := h3.sz hT (k := 2) (by decide)
          have o1 : okv X (ix p) = 2 := if_pos ht
          have key : ∀ m, sumN (fun i => ksz X (ix (pkv X (ix p) i))) m = m := by
            intro m
            induction m with
            | zero => rfl
            | succ m ihm =>
              have p1 : pkv X (ix p) m = 2 := if_pos ht
              show sumN _ m + ksz X (ix (pkv X (ix p) m)) = m + 1
              rw [ihm, p1, hks]
          rw [key, o1, hks]
          omega
        · have o1 : okv X (ix p) = X.1 17 (ix p) := if_neg ht
          have p1 : sumN (fun i => ksz X (ix (pkv X (ix p) i))) (ix (X.1 15 (ix p))) = psum X (ix p) (ix (X.1 15 (ix p))) := sumN_congr _ (fun i _ => by
            have p1 : pkv X (ix p) i = X.1 16 (4 * ix p + i) := if_neg ht
            rw [p1])
          rw [o1, p1]
          omega
  | succ d ih =>
    intro i Z a2 N hi hN ha hF h10
    obtain ⟨N, rfl⟩ : ∃ k, N = k + 1 := ⟨N - 1, by omega⟩
    have ea := ixc (z := a2) (by omega)
    unfold f_functionOf_2
    rw [lp_succ]
    unfold f_functionOf_2_s
    refine ok.ck inp (ok.letE (v1 := X.1 15 (ix p)) (hF.1 15 _ (show (3000 : Nat) ∉ [2000] from by decide)) ?_)
    refine ok.ite (fun c => absurd c (by omega)) (fun _ => ?_)
    refine ok.add (by rw [z3]; omega) (fun x4 hx4 => ?_)
    rw [z3] at hx4
    have e4 := ixc (z := x4) (by omega)
    have e4i : ix x4 = 3000 + i := by omega
    refine ok.bd (j_paramKindOf (X := Z) (p := p) (i := a2) (by omega) (by omega)) ?_
    rintro x12 X13 ⟨rfl, rfl⟩
    refine ok.ck ⟨by omega, show x4.toInt < ((3100 : Nat) : Int) by omega⟩ (ok.letV (ok.inc (by decide) (by omega) (fun x6 hx6 => ?_)))
    have hx6 : x6.toInt = a2.toInt + 1 := hx6
    have hpk : pkv Z (ix p) (ix a2) = pkv X (ix p) i := by
      unfold pkv
      rw [hF.1 19 _ (show (3800 : Nat) ∉ [2000] from by decide), hF.1 16 _ (show (3200 : Nat) ∉ [2000] from by decide), show ix a2 = i by omega]
    have key := ih (i + 1) (wI Z 10 (ix x4) (pkv Z (ix p) (ix a2))) x6 N (by omega) (by omega) (by omega) (hF.wI 10 _ _ (show (2000 : Nat) ∈ [2000] from by decide)) (fun j hj => ?_)
    · unfold f_functionOf_2 at key
      exact key
    · by_cases g : j = i
      · rw [g, ← e4i, wI_at, hpk]
      · rw [wI_ne _ 10 _ _ 10 _ (by rintro ⟨-, q⟩; omega)]
        exact h10 j (by omega)
theorem j_functionOf {X : St} (hT : KT X) (h3 : K3 X) (hPF : PF X) (hc : (X.1 0 13).toInt ≤ 5999) (hl : (X.1 0 15).toInt ≤ 19990) {p : Int32} (hp : 0 ≤ p.toInt ∧ p.toInt < (X.1 0 18).toInt) : ok (f_functionOf p X) (fun r Y => Fr YR [13, 15, 800, 1000, 1200, 1400, 1600, 1800, 2000] X Y ∧ KT Y ∧ KX X Y ∧ ((Y.1 0 13).toInt ≤ (X.1 0 13).toInt + 1 ∧ (Y.1 0 15).toInt ≤ (X.1 0 15).toInt + 5) ∧ FNK Y r (X.1 15 (ix p)).toInt ∧ (∀ i : Nat, i < ix (X.1 15 (ix p)) → cmpK Y r i = pkv X (ix p) i) ∧ cmpK Y r (ix (X.1 15 (ix p))) = okv X (ix p) ∧ ksz Y (ix r) ≤ 3002) := by
  have ep := ixc hp.1
  obtain ⟨⟨q1, q2⟩, -⟩ := hPF.2 (ix p) (by omega)
  have e15 := ixc q1
  unfold f_functionOf
  exact fn_loop hT h3 hPF hc hl hp (ix (X.1 15 (ix p))) 0 X 0 BIG (by omega) (ltBIG (by omega)) rfl Fr.rf (fun j hj => absurd hj (Nat.not_lt_zero _))
theorem j_elementOf {X : St} (hT : KT X) (h13 : (X.1 0 13).toInt ≤ 6000) (h15 : (X.1 0 15).toInt ≤ 20000) {k : Int32} (hk : 0 ≤ k.toInt ∧ k.toInt < (X.1 0 13).toInt) (hm : 1 ≤ (X.1 5 (ix k)).toInt) : ok (f_elementOf k X) (fun r Y => X = Y ∧ r = cmpK X k 0) := by
  have e := ixc hk.1
  obtain ⟨g1, g2, g3, g4, -⟩ := hT.2.2 (ix k) (by omega)
  unfold f_elementOf
  refine ok.ck ⟨hk.1, show k.toInt < ((6000 : Nat) : Int) by omega⟩ (ok.letV ?_)
  exact ok.ck ⟨g1, show (X.1 6 (ix k)).toInt < ((20000 : Nat) : Int) by omega⟩ (ok.letV (ok.ret ⟨rfl, rfl⟩))
theorem j_paramOf {X : St} (hT : KT X) (h13 : (X.1 0 13).toInt ≤ 6000) (h15 : (X.1 0 15).toInt ≤ 20000) {k i : Int32} (hk : 0 ≤ k.toInt ∧ k.toInt < (X.1 0 13).toInt) (hi : 0 ≤ i.toInt ∧ i.toInt < (X.1 5 (ix k)).toInt) : ok (f_paramOf k i X) (fun r Y => X = Y ∧ r = cmpK X k (ix i)) := by
  have e := ixc hk.1
  have ei := ixc hi.1
  obtain ⟨g1, g2, g3, g4, -⟩ := hT.2.2 (ix k) (by omega)
  have e6 := ixc g1
  unfold f_paramOf
  refine ok.ck ⟨hk.1, show k.toInt < ((6000 : Nat) : Int) by omega⟩ (ok.letV (ok.add (by omega) (fun x hx => ?_)))
  have ex := ixc (z := x) (by omega)
  refine ok.ck ⟨by omega, show x.toInt < ((20000 : Nat) : Int) by omega⟩ (ok.letV (ok.ret ⟨rfl, ?_⟩))
  unfold cmpK
  rw [show ix x = ix (X.1 6 (ix k)) + ix i by omega]
theorem j_resultOf {X : St} (hT : KT X) (h13 : (X.1 0 13).toInt ≤ 6000) (h15 : (X.1 0 15).toInt ≤ 20000) {k : Int32} {m : Nat} (hk : 0 ≤ k.toInt ∧ k.toInt < (X.1 0 13).toInt) (hm : (X.1 5 (ix k)).toInt = (m : Int) + 1) : ok (f_resultOf k X) (fun r Y => X = Y ∧ r = cmpK X k m) := by
  have e := ixc hk.1
  obtain ⟨g1, g2, g3, g4, -⟩ := hT.2.2 (ix k) (by omega)
  have e6 := ixc g1
  have z1 : (1 : Int32).toInt = 1 := rfl
  have ink : inR k 6000 := ⟨hk.1, show k.toInt < ((6000 : Nat) : Int) by omega⟩
  unfold f_resultOf
  refine ok.ck ink (ok.letV (ok.ck ink (ok.letV (ok.add (by omega) (fun x hx => ok.sub (by omega) (fun y hy => ?_))))))
  have ey := ixc (z := y) (by omega)
  refine ok.ck ⟨by omega, show y.toInt < ((20000 : Nat) : Int) by omega⟩ (ok.letV (ok.ret ⟨rfl, ?_⟩))
  unfold cmpK
  rw [show ix y = ix (X.1 6 (ix k)) + m by omega]
/-- a kind pushed -/
theorem j_push {X : St} {k : Int32} (hd : 0 ≤ (X.1 0 30).toInt ∧ (X.1 0 30).toInt < 3200) (hj : 0 ≤ (X.1 0 29).toInt ∧ (X.1 0 29).toInt ≤ 40) (hk : 0 ≤ k.toInt ∧ k.toInt < 6000) : ok (f_push k X) (fun _ Y => Fr YR [30, 11400, 11600] X Y ∧ (Y.1 0 30).toInt = (X.1 0 30).toInt + 1 ∧ Y.1 58 (ix (X.1 0 30)) = k ∧ ∀ i, i ≠ ix (X.1 0 30) → Y.1 58 i = X.1 58 i) := by
  unfold f_push
  refine ok.letV (ok.ck ⟨hd.1, show (X.1 0 30).toInt < ((3200 : Nat) : Int) by omega⟩ (ok.letV ?_))
  refine ok.letE (v1 := X.1 0 30) rfl (ok.add (by rw [show (1 : Int32).toInt = 1 from rfl]; omega) (fun x4 hx4 => ?_))
  have hx4 : x4.toInt = (X.1 0 30).toInt + 1 := hx4
  refine ok.letV ?_
  have hF : Fr YR [30, 11400, 11600] X (wI (wI X 58 (ix (X.1 0 30)) k) 0 30 x4) := (Fr.rf.wI 58 _ _ (show (11600 : Nat) ∈ [30, 11400, 11600] from by decide)).wI 0 30 _ (show (30 : Nat) ∈ [30, 11400, 11600] from by decide)
  have r30 : (wI (wI X 58 (ix (X.1 0 30)) k) 0 30 x4).1 0 30 = x4 := wI_at _ 0 30 _
  have r58 : (wI (wI X 58 (ix (X.1 0 30)) k) 0 30 x4).1 58 (ix (X.1 0 30)) = k := by rw [wI_ne _ 0 _ _ 58 _ (by rintro ⟨q, -⟩; omega), wI_at]
  have o58 : ∀ i, i ≠ ix (X.1 0 30) → (wI (wI X 58 (ix (X.1 0 30)) k) 0 30 x4).1 58 i = X.1 58 i := fun i hi => by rw [wI_ne _ 0 _ _ 58 _ (by rintro ⟨q, -⟩; omega), wI_ne _ 58 _ _ 58 _ (fun q => hi q.2)]
  obtain ⟨Z, hZ⟩ : ∃ Z : St, wI (wI X 58 (ix (X.1 0 30)) k) 0 30 x4 = Z := ⟨_, rfl⟩
  rw [hZ] at hF r30 r58 o58 ⊢
  have z29 : Z.1 0 29 = X.1 0 29 := hF.1 0 29 (by decide)
  have inj : inR (X.1 0 29) 41 := ⟨hj.1, show (X.1 0 29).toInt < ((41 : Nat) : Int) by omega⟩
  have ink : inR k 6000 := ⟨hk.1, show k.toInt < ((6000 : Nat) : Int) by omega⟩
  have fin : ∀ b : Int32, ok (f_push_54 b (X.1 0 29) Z) (fun _ Y => Fr YR [30, 11400, 11600] X Y ∧ (Y.1 0 30).toInt = (X.1 0 30).toInt + 1 ∧ Y.1 58 (ix (X.1 0 30)) = k ∧ ∀ i, i ≠ ix (X.1 0 30) → Y.1 58 i = X.1 58 i) := by
    intro b
    unfold f_push_54
    refine ok.ck inj (ok.letV (ok.ret ⟨hF.wI 57 _ _ (show (11400 : Nat) ∈ [30, 11400, 11600] from by decide), ?_, ?_, fun i hi => ?_⟩))
    · rw [wI_ne _ 57 _ _ 0 _ (by rintro ⟨q, -⟩; omega), r30]
      exact hx4
    · rw [wI_ne _ 57 _ _ 58 _ (by rintro ⟨q, -⟩; omega)]
      exact r58
    · rw [wI_ne _ 57 _ _ 58 _ (by rintro ⟨q, -⟩; omega)]
      exact o58 i hi
  refine ok.letE (v1 := X.1 0 29) z29 (ok.letE (v1 := X.1 0 29) z29 (ok.ck inj (ok.letV ?_)))
  refine ok.ite (fun _ => ?_) (fun _ => ?_)
  · refine ok.ck ink (ok.letV ?_)
    refine ok.ite (fun _ => fin 0) (fun _ => ?_)
    unfold f_push_49
    exact fin 1
  · unfold f_push_49
    exact fin 1
/-- a guard laid, or none -/
def GDL (X Y : St) (o : Nat) (k k1 : Int32) (taker : Int32) : Prop := (k = k1 ∧ X = Y) ∨ (¬ k = k1 ∧ Fr YR [28, 8600, 10400, 10600, 10800, 11000, 11200] X Y ∧ (Y.1 0 28).toInt = (X.1 0 28).toInt + 1 ∧ (Y.1 53 (ix (X.1 0 28)) = k ∧ Y.1 54 (ix (X.1 0 28)) = k1 ∧ Y.1 55 (ix (X.1 0 28)) = X.1 0 29 ∧ Y.1 56 (ix (X.1 0 28)) = taker) ∧ (∀ i, i ≠ ix (X.1 0 28) → Y.1 53 i = X.1 53 i ∧ Y.1 54 i = X.1 54 i ∧ Y.1 55 i = X.1 55 i ∧ Y.1 56 i = X.1 56 i) ∧ Y.1 43 o = X.1 0 28 ∧ ∀ i, i ≠ o → Y.1 43 i = X.1 43 i)
theorem j_guards {X : St} {o k k1 pl tk : Int32} (ho : 0 ≤ o.toInt ∧ o.toInt < 24000) (hg : 0 ≤ (X.1 0 28).toInt ∧ (X.1 0 28).toInt < 12000) : ok (f_guards o k k1 pl tk X) (fun _ Y => GDL X Y (ix o) k k1 tk) := by
  unfold f_guards
  refine ok.ite (fun c => ok.ret (Or.inl ⟨Int32.toInt_inj.mp c, rfl⟩)) (fun c => ?_)
  have ing : inR (X.1 0 28) 12000 := ⟨hg.1, show (X.1 0 28).toInt < ((12000 : Nat) : Int) by omega⟩
  have ino : inR o 24000 := ⟨ho.1, show o.toInt < ((24000 : Nat) : Int) by omega⟩
  refine ok.letV (ok.ck ing (ok.letV ?_))
  refine ok.letE (v1 := X.1 0 28) rfl (ok.ck ing (ok.letV ?_))
  refine ok.letE (v1 := X.1 0 28) rfl (ok.ck ing (ok.letV ?_))
  refine ok.letE (v1 := X.1 0 28) rfl (ok.letE (v1 := X.1 0 29) rfl (ok.ck ing (ok.letV ?_)))
  refine ok.letE (v1 := X.1 0 28) rfl (ok.ck ing (ok.letV ?_))
  refine ok.letE (v1 := X.1 0 28) rfl (ok.ck ino (ok.letV ?_))
  refine ok.letE (v1 := X.1 0 28) rfl (ok.add (by rw [show (1 : Int32).toInt = 1 from rfl]; omega) (fun x hx => ?_))
  have hx : x.toInt = (X.1 0 28).toInt + 1 := hx
  refine ok.letV (ok.ret (Or.inr ⟨fun q => c (by rw [q]), (((((((Fr.rf.wI 52 _ _ (show (10400 : Nat) ∈ [28, 8600, 10400, 10600, 10800, 11000, 11200] from by decide)).wI 53 _ _ (show (10600 : Nat) ∈ [28, 8600, 10400, 10600, 10800, 11000, 11200] from by decide)).wI 54 _ _ (show (10800 : Nat) ∈ [28, 8600, 10400, 10600, 10800, 11000, 11200] from by decide)).wI 55 _ _ (show (11000 : Nat) ∈ [28, 8600, 10400, 10600, 10800, 11000, 11200] from by decide)).wI 56 _ _ (show (11200 : Nat) ∈ [28, 8600, 10400, 10600, 10800, 11000, 11200] from by decide)).wI 43 _ _ (show (8600 : Nat) ∈ [28, 8600, 10400, 10600, 10800, 11000, 11200] from by decide)).wI 0 28 _ (show (28 : Nat) ∈ [28, 8600, 10400, 10600, 10800, 11000, 11200] from by decide)), ?_, ⟨?_, ?_, ?_, ?_⟩, fun i hi => ⟨?_, ?_, ?_, ?_⟩, ?_, fun i hi => ?_⟩))
  · rw [wI_at]
    exact hx
  · rw [wI_ne _ 0 _ _ 53 _ (by rintro ⟨q, -⟩; omega), wI_ne _ 43 _ _ 53 _ (by rintro ⟨q, -⟩; omega), wI_ne _ 56 _ _ 53 _ (by rintro ⟨q, -⟩; omega), wI_ne _ 55 _ _ 53 _ (by rintro ⟨q, -⟩; omega), wI_ne _ 54 _ _ 53 _ (by rintro ⟨q, -⟩; omega), wI_at]
  · rw [wI_ne _ 0 _ _ 54 _ (by rintro ⟨q, -⟩; omega), wI_ne _ 43 _ _ 54 _ (by rintro ⟨q, -⟩; omega), wI_ne _ 56 _ _ 54 _ (by rintro ⟨q, -⟩; omega), wI_ne _ 55 _ _ 54 _ (by rintro ⟨q, -⟩; omega), wI_at]
  · rw [wI_ne _ 0 _ _ 55 _ (by rintro ⟨q, -⟩; omega), wI_ne _ 43 _ _ 55 _ (by rintro ⟨q, -⟩; omega), wI_ne _ 56 _ _ 55 _ (by rintro ⟨q, -⟩; omega), wI_at]
  · rw [wI_ne _ 0 _ _ 56 _ (by rintro ⟨q, -⟩; omega), wI_ne _ 43 _ _ 56 _ (by rintro ⟨q, -⟩; omega), wI_at]
  · rw [wI_ne _ 0 _ _ 53 _ (by rintro ⟨q, -⟩; omega), wI_ne _ 43 _ _ 53 _ (by rintro ⟨q, -⟩; omega), wI_ne _ 56 _ _ 53 _ (by rintro ⟨q, -⟩; omega), wI_ne _ 55 _ _ 53 _ (by rintro ⟨q, -⟩; omega), wI_ne _ 54 _ _ 53 _ (by rintro ⟨q, -⟩; omega), wI_ne _ 53 _ _ 53 _ (fun q => hi q.2), wI_ne _ 52 _ _ 53 _ (by rintro ⟨q, -⟩; omega)]
  · rw [wI_ne _ 0 _ _ 54 _ (by rintro ⟨q, -⟩; omega), wI_ne _ 43 _ _ 54 _ (by rintro ⟨q, -⟩; omega), wI_ne _ 56 _ _ 54 _ (by rintro ⟨q, -⟩; omega), wI_ne _ 55 _ _ 54 _ (by rintro ⟨q, -⟩; omega), wI_ne _ 54 _ _ 54 _ (fun q => hi q.2), wI_ne _ 53 _ _ 54 _ (by rintro ⟨q, -⟩; omega), wI_ne _ 52 _ _ 54 _ (by rintro ⟨q, -⟩; omega)]
  · rw [wI_ne _ 0 _ _ 55 _ (by rintro ⟨q, -⟩; omega), wI_ne _ 43 _ _ 55 _ (by rintro ⟨q, -⟩; omega), wI_ne _ 56 _ _ 55 _ (by rintro ⟨q, -⟩; omega), wI_ne _ 55 _ _ 55 _ (fun q => hi q.2), wI_ne _ 54 _ _ 55 _ (by rintro ⟨q, -⟩; omega), wI_ne _ 53 _ _ 55 _ (by rintro ⟨q, -⟩; omega), wI_ne _ 52 _ _ 55 _ (by rintro ⟨q, -⟩; omega)]
  · rw [wI_ne _ 0 _ _ 56 _ (by rintro ⟨q, -⟩; omega), wI_ne _ 43 _ _ 56 _ (by rintro ⟨q, -⟩; omega), wI_ne _ 56 _ _ 56 _ (fun q => hi q.2), wI_ne _ 55 _ _ 56 _ (by rintro ⟨q, -⟩; omega), wI_ne _ 54 _ _ 56 _ (by rintro ⟨q, -⟩; omega), wI_ne _ 53 _ _ 56 _ (by rintro ⟨q, -⟩; omega), wI_ne _ 52 _ _ 56 _ (by rintro ⟨q, -⟩; omega)]
  · rw [wI_ne _ 0 _ _ 43 _ (by rintro ⟨q, -⟩; omega), wI_at]
  · rw [wI_ne _ 0 _ _ 43 _ (by rintro ⟨q, -⟩; omega), wI_ne _ 43 _ _ 43 _ (fun q => hi q.2), wI_ne _ 56 _ _ 43 _ (by rintro ⟨q, -⟩; omega), wI_ne _ 55 _ _ 43 _ (by rintro ⟨q, -⟩; omega), wI_ne _ 54 _ _ 43 _ (by rintro ⟨q, -⟩; omega), wI_ne _ 53 _ _ 43 _ (by rintro ⟨q, -⟩; omega), wI_ne _ 52 _ _ 43 _ (by rintro ⟨q, -⟩; omega)]
/-- what stands at an order that may be guarded, from kind k to kind k1 -/
def GRD (X : St) (o : Nat) (k k1 : Int32) : Prop := (k = k1 ∧ (X.1 43 o).toInt = -1) ∨ (FIT X k k1 ∧ ∃ g : Nat, (X.1 43 o).toInt = (g : Int) ∧ (g : Int) < (X.1 0 28).toInt ∧ X.1 53 g = k ∧ X.1 54 g = k1 ∧ (0 ≤ (X.1 55 g).toInt ∧ (X.1 55 g).toInt ≤ 40) ∧ 0 ≤ (X.1 56 g).toInt ∧ (X.1 56 g).toInt ≤ 40)
/-- the kinds of the guards that are laid from X to Y -/
def GN (X Y : St) : Prop := ∀ i : Nat, (X.1 0 28).toInt ≤ (i : Int) → (i : Int) < (Y.1 0 28).toInt → (0 ≤ (Y.1 53 i).toInt ∧ (Y.1 53 i).toInt < (Y.1 0 13).toInt) ∧ 0 ≤ (Y.1 54 i).toInt ∧ (Y.1 54 i).toInt < (Y.1 0 13).toInt
/-- from X to Y the judge has gone on: kinds grow, guards grow, guards are laid at orders of S alone -/
def JR (X Y : St) (S : Nat → Prop) : Prop := Fr YR [9, 10, 13, 15, 28, 30, 800, 1000, 1200, 1400, 1600, 1800, 2000, 6200, 6400, 8600, 10400, 10600, 10800, 11000, 11200, 11400, 11600, 11800] X Y ∧ KT Y ∧ KX X Y ∧ ((X.1 0 28).toInt ≤ (Y.1 0 28).toInt ∧ (∀ i : Nat, (i : Int) < (X.1 0 28).toInt → Y.1 53 i = X.1 53 i ∧ Y.1 54 i = X.1 54 i ∧ Y.1 55 i = X.1 55 i ∧ Y.1 56 i = X.1 56 i) ∧ GN X Y) ∧ ∀ i, ¬ S i → Y.1 43 i = X.1 43 i
theorem JR.tr {X Y Z : St} {S : Nat → Prop} (h : JR X Y S) (g : JR Y Z S) : JR X Z S := by
  obtain ⟨a, b, c, ⟨d1, d2, d3⟩, e⟩ := h
  obtain ⟨a', b', c', ⟨d1', d2', d3'⟩, e'⟩ := g
  refine ⟨a.tr a' (by decide), b', c.tr c', ⟨by omega, fun i hi => ?_, fun i h1 h2 => ?_⟩, fun i hi => (e' i hi).trans (e i hi)⟩
  · obtain ⟨p, q, r, t⟩ := d2 i hi
    obtain ⟨p', q', r', t'⟩ := d2' i (by omega)
    exact ⟨p'.trans p, q'.trans q, r'.trans r, t'.trans t⟩
  · by_cases g : (i : Int) < (Y.1 0 28).toInt
    · obtain ⟨p', q', -⟩ := d2' i g
      obtain ⟨⟨x1, x2⟩, x3, x4⟩ := d3 i h1 g
      have := c'.1
      rw [p', q']
      exact ⟨⟨x1, by omega⟩, x3, by omega⟩
    · exact d3' i (by omega) h2
theorem JR.mono {X Y : St} {S S1 : Nat → Prop} (h : JR X Y S) (hS : ∀ i, S i → S1 i) : JR X Y S1 := ⟨h.1, h.2.1, h.2.2.1, h.2.2.2.1, fun i hi => h.2.2.2.2 i (fun q => hi (hS i q))⟩
theorem JR.fr {X Y : St} {L : List Nat} (hT : KT X) (h : Fr YR L X Y) (hl : (∀ k ∈ L, k ∈ [9, 10, 13, 15, 28, 30, 800, 1000, 1200, 1400, 1600, 1800, 2000, 6200, 6400, 8600, 10400, 10600, 10800, 11000, 11200, 11400, 11600, 11800]) ∧ (13 ∉ L ∧ 15 ∉ L ∧ 800 ∉ L ∧ 1000 ∉ L ∧ 1200 ∉ L ∧ 1800 ∉ L) ∧ 28 ∉ L ∧ 8600 ∉ L ∧ 10600 ∉ L ∧ 10800 ∉ L ∧ 11000 ∉ L ∧ 11200 ∉ L) (S : Nat → Prop) : JR X Y S := ⟨h.mono hl.1, hT.fr h hl.2.1, KX.fr h hl.2.1, ⟨by rw [h.1 0 28 hl.2.2.1]; exact Int.le_refl _, fun i _ => ⟨h.1 53 i hl.2.2.2.2.1, h.1 54 i hl.2.2.2.2.2.1, h.1 55 i hl.2.2.2.2.2.2.1, h.1 56 i hl.2.2.2.2.2.2.2⟩, fun i h1 h2 => by rw [h.1 0 28 hl.2.2.1] at h2; omega⟩, fun i _ => h.1 43 i hl.2.2.2.1⟩
theorem JR.kx {X Y : St} {L : List Nat} (h : Fr YR L X Y) (hT : KT Y) (hK : KX X Y) (hl : (∀ k ∈ L, k ∈ [9, 10, 13, 15, 28, 30, 800, 1000, 1200, 1400, 1600, 1800, 2000, 6200, 6400, 8600, 10400, 10600, 10800, 11000, 11200, 11400, 11600, 11800]) ∧ 28 ∉ L ∧ 8600 ∉ L ∧ 10600 ∉ L ∧ 10800 ∉ L ∧ 11000 ∉ L ∧ 11200 ∉ L) (S : Nat → Prop) : JR X Y S := ⟨h.mono hl.1, hT, hK, ⟨by rw [h.1 0 28 hl.2.1]; exact Int.le_refl _, fun i _ => ⟨h.1 53 i hl.2.2.2.1, h.1 54 i hl.2.2.2.2.1, h.1 55 i hl.2.2.2.2.2.1, h.1 56 i hl.2.2.2.2.2.2⟩, fun i h1 h2 => by rw [h.1 0 28 hl.2.1] at h2; omega⟩, fun i _ => h.1 43 i hl.2.2.1⟩
theorem GRD.jr {X Y : St} {S : Nat → Prop} {o : Nat} {k k1 : Int32} (h : GRD X o k k1) (hT : KT X) (hJ : JR X Y S) (ho : ¬ S o) (hk : 0 ≤ k.toInt ∧ k.toInt < (X.1 0 13).toInt) (hk1 : 0 ≤ k1.toInt ∧ k1.toInt < (X.1 0 13).toInt) : GRD Y o k k1 := by
  obtain ⟨a, b, c, ⟨d1, d2, -⟩, e⟩ := hJ
  rcases h with ⟨h1, h2⟩ | ⟨h1, g, h2, h3, h4, h5, h6, h7⟩
  · exact Or.inl ⟨h1, by rw [e o ho]; exact h2⟩
  · obtain ⟨p, q, r, t⟩ := d2 g h3
    exact Or.inr ⟨h1.kx hT c hk hk1, g, by rw [e o ho]; exact h2, by omega, by rw [p]; exact h4, by rw [q]; exact h5, by rw [r]; exact h6, by rw [t]; exact h7⟩
/-- GDL as a step of the judge -/
theorem GDL.jr {X Y : St} {o : Nat} {k k1 tk : Int32} (h : GDL X Y o k k1 tk) (hT : KT X) (hg : 0 ≤ (X.1 0 28).toInt) (hf : FIT X k k1) (h43 : (X.1 43 o).toInt = -1) (hj : 0 ≤ (X.1 0 29).toInt ∧ (X.1 0 29).toInt ≤ 40) (ht : 0 ≤ tk.toInt ∧ tk.toInt ≤ 40) (hk : 0 ≤ k.toInt ∧ k.toInt < (X.1 0 13).toInt) (hk1 : 0 ≤ k1.toInt ∧ k1.toInt < (X.1 0 13).toInt) : JR X Y (fun i => i = o) ∧ GRD Y o k k1 ∧ (Y.1 0 28).toInt ≤ (X.1 0 28).toInt + 1 ∧ (∀ i, Y.1 58 i = X.1 58 i) ∧ (∀ i, Y.1 59 i = X.1 59 i) ∧ Y.1 0 30 = X.1 0 30 ∧ Y.1 0 9 = X.1 0 9 ∧ Y.1 0 13 = X.1 0 13 ∧ Y.1 0 15 = X.1 0 15 := by
  rcases h with ⟨h1, rfl⟩ | ⟨h1, hF, h2, ⟨h3, h4, h5, h6⟩, h7, h8, h9⟩
  · exact ⟨JR.fr hT (Fr.rf (L := [])) (by decide) _, Or.inl ⟨h1, h43⟩, by omega, fun _ => rfl, fun _ => rfl, rfl, rfl, rfl, rfl⟩
  · have eg := ixc hg
    have hK := KX.fr hF (by decide)
    refine ⟨⟨hF.mono (by decide), hT.fr hF (by decide), hK, ⟨by omega, fun i hi => h7 i (by omega), fun i g1 g2 => by
      have ei : i = ix (X.1 0 28) := by omega
      rw [ei, h3, h4, hF.1 0 13 (by decide)]
      exact ⟨hk, hk1⟩⟩, fun i hi => h9 i hi⟩, Or.inr ⟨hf.kx hT hK hk hk1, ix (X.1 0 28), by rw [h8]; exact eg.symm, by omega, h3, h4, by rw [h5]; exact hj, by rw [h6]; exact ht⟩, by omega, fun i => hF.1 58 i (show (11600 : Nat) ∉ [28, 8600, 10400, 10600, 10800, 11000, 11200] from by decide), fun i => hF.1 59 i (show (11800 : Nat) ∉ [28, 8600, 10400, 10600, 10800, 11000, 11200] from by decide), hF.1 0 30 (by decide), hF.1 0 9 (by decide), hF.1 0 13 (by decide), hF.1 0 15 (by decide)⟩
