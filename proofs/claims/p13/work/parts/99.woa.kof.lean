/-! the reference's kinds: what kindOf answers, wherever it answers -/
/-- the kind k is the one of sort s with the n kinds that stand from f on -/
def k7s (X : St) (k : Nat) (s n : Int) (f : Nat) : Prop := (X.1 4 k).toInt = s ∧ (X.1 5 k).toInt = n ∧ ∀ i : Nat, (i : Int) < n → (X.1 9 (ix (X.1 6 k) + i)).toInt = (X.1 10 (f + i)).toInt
/-- the table of kinds is sound -/
def KIq (X : St) : Prop := (0 ≤ (X.1 0 13).toInt ∧ 0 ≤ (X.1 0 15).toInt ∧ (X.1 0 15).toInt ≤ 20000) ∧ ∀ k : Nat, (k : Int) < (X.1 0 13).toInt → 0 ≤ (X.1 6 k).toInt ∧ 0 ≤ (X.1 5 k).toInt ∧ (X.1 6 k).toInt + (X.1 5 k).toInt ≤ (X.1 0 15).toInt
/-- old kinds stay -/
def KXq (X Y : St) : Prop := (X.1 0 13).toInt ≤ (Y.1 0 13).toInt ∧ (X.1 0 15).toInt ≤ (Y.1 0 15).toInt ∧ (∀ k : Nat, (k : Int) < (X.1 0 13).toInt → Y.1 4 k = X.1 4 k ∧ Y.1 5 k = X.1 5 k ∧ Y.1 6 k = X.1 6 k) ∧ ∀ k : Nat, (k : Int) < (X.1 0 15).toInt → Y.1 9 k = X.1 9 k
/-- no kind is told twice -/
def KU (X : St) : Prop := ∀ k k1 : Nat, (k : Int) < (X.1 0 13).toInt → (k1 : Int) < (X.1 0 13).toInt → (X.1 4 k).toInt = (X.1 4 k1).toInt → (X.1 5 k).toInt = (X.1 5 k1).toInt → (∀ i : Nat, (i : Int) < (X.1 5 k).toInt → (X.1 9 (ix (X.1 6 k) + i)).toInt = (X.1 9 (ix (X.1 6 k1) + i)).toInt) → k = k1
/-- what kindOf leaves -/
def KOq (X Y : St) (s n : Int) (f : Nat) (r : Int32) : Prop := (0 ≤ r.toInt ∧ r.toInt < (Y.1 0 13).toInt) ∧ k7s Y (ix r) s n f ∧ KIq Y ∧ KXq X Y ∧ (KU X → KU Y)
section KOF7
variable {X Y Z X0 : St} {s f n : Int32}
theorem KXq.rf : KXq X X := ⟨Int.le_refl _, Int.le_refl _, fun _ _ => ⟨rfl, rfl, rfl⟩, fun _ _ => rfl⟩
theorem KXq.tr (h : KXq X Y) (g : KXq Y Z) : KXq X Z := ⟨Int.le_trans h.1 g.1, Int.le_trans h.2.1 g.2.1, fun k hk => by
  obtain ⟨a, b, c⟩ := h.2.2.1 k hk
  obtain ⟨a1, b1, c1⟩ := g.2.2.1 k (Int.lt_of_lt_of_le hk h.1)
  exact ⟨a1.trans a, b1.trans b, c1.trans c⟩, fun k hk => (g.2.2.2 k (Int.lt_of_lt_of_le hk h.2.1)).trans (h.2.2.2 k hk)⟩
/-- the new kind's list is filled -/
theorem x_fill {X : St} {K : Nat} {L0 : Int} (hf : 0 ≤ f.toInt) (hn : 0 ≤ n.toInt) (hfn : f.toInt + n.toInt ≤ 10000) (hL : 0 ≤ L0) {k4 : Int32} (hk4 : ix k4 = K) (hk0 : 0 ≤ k4.toInt) : ∀ (M i : Nat) (a5 a6 : Int32) (Z : St), a6.toInt = (i : Int) → (i : Int) ≤ n.toInt → (∀ e j, e = 4 ∨ e = 5 ∨ e = 6 ∨ e = 10 → Z.1 e j = X.1 e j) → Z.1 0 13 = X.1 0 13 → (Z.1 0 15).toInt = L0 + i → (Z.1 0 15).toInt ≤ 20000 → (∀ j : Nat, (j : Int) < L0 → Z.1 9 j = X.1 9 j) → (∀ j : Nat, j < i → Z.1 9 (L0.toNat + j) = X.1 10 (ix f + j)) → pw (f_kindOf_212 M s f n k4 a5 a6 Z) (fun r Y => r = k4 ∧ (∀ e j, e = 4 ∨ e = 5 ∨ e = 6 ∨ e = 10 → Y.1 e j = X.1 e j) ∧ Y.1 0 13 = X.1 0 13 ∧ (Y.1 0 15).toInt = L0 + n.toInt ∧ (Y.1 0 15).toInt ≤ 20000 ∧ (∀ j : Nat, (j : Int) < L0 → Y.1 9 j = X.1 9 j) ∧ ∀ j : Nat, (j : Int) < n.toInt → Y.1 9 (L0.toNat + j) = X.1 10 (ix f + j)) := by
  have l1 : (1 : Int32).toInt = 1 := by decide
  have lo1 : (Int32.ofInt 1).toInt = 1 := by decide
  intro M
  induction M with
  | zero => exact fun _ _ _ _ _ _ _ _ _ _ _ _ => pw_none
  | succ M ih =>
    intro i a5 a6 Z h6 hi hr h13 h15 hle hlo hB
    have e : f_kindOf_212 (M + 1) = f_kindOf_212_s (f_kindOf_212 M) := by
      unfold f_kindOf_212
      exact lp_succ _ _ _
    rw [e]
    unfold f_kindOf_212_s
    refine pw_ite (fun c => ?_) (fun c => ?_)
    · have ei : (i : Int) = n.toInt := by omega
      refine pw_ck (fun _ => pw_eq (fun Y e11 => pw_ret ⟨rfl, fun e j he => ?_, ?_, ?_, ?_, fun j hj => ?_, fun j hj => ?_⟩))
      · rw [e11, wI_ne _ _ _ _ _ _ (by omega)]; exact hr e j he
      · rw [e11, wI_ne _ _ _ _ _ _ (by omega)]; exact h13
      · rw [e11, wI_ne _ _ _ _ _ _ (by omega), h15]; omega
      · rw [e11, wI_ne _ _ _ _ _ _ (by omega)]; exact hle
      · rw [e11, wI_ne _ _ _ _ _ _ (by omega)]; exact hlo j hj
      · rw [e11, wI_ne _ _ _ _ _ _ (by omega)]; exact hB j (by omega)
    · have x13v : (f + a6).toInt = f.toInt + i := by rw [ti_add (by rw [h6]; omega) (by rw [h6]; omega), h6]
      have x13i : ix (f + a6) = ix f + i := by
        have h1 := ixc hf
        have h2 := ixc (z := f + a6) (by omega)
        omega
      refine pw_let (pw_let (pw_ck (fun _ => pw_let (pw_ck (fun hc12 => pw_eq (fun X15 e15 => ?_))))))
      have hb := hc12.2
      rw [x13i, hr 10 _ (Or.inr (Or.inr (Or.inr rfl)))] at e15
      have i15 : ix (Z.1 0 15) = L0.toNat + i := by
        have := ixc (z := Z.1 0 15) (by omega)
        omega
      rw [i15] at e15
      refine pw_let (pw_eq (fun x17 e17 => pw_eq (fun X18 e18 => ?_)))
      have c15 : X15.1 0 15 = Z.1 0 15 := by rw [e15, wI_ne _ _ _ _ _ _ (by omega)]
      have v17 : x17.toInt = L0 + (i + 1 : Nat) := by
        rw [e17, c15, ti_add (by rw [l1]; omega) (by rw [l1]; omega), l1, h15]
        omega
      have step : ∀ (W : St), (∀ e j, ¬ e = 8 → W.1 e j = X18.1 e j) → ∀ b0 : Int32, pw (f_kindOf_315 (f_kindOf_212 M) s f n k4 a6 b0 W) (fun r Y => r = k4 ∧ (∀ e j, e = 4 ∨ e = 5 ∨ e = 6 ∨ e = 10 → Y.1 e j = X.1 e j) ∧ Y.1 0 13 = X.1 0 13 ∧ (Y.1 0 15).toInt = L0 + n.toInt ∧ (Y.1 0 15).toInt ≤ 20000 ∧ (∀ j : Nat, (j : Int) < L0 → Y.1 9 j = X.1 9 j) ∧ ∀ j : Nat, (j : Int) < n.toInt → Y.1 9 (L0.toNat + j) = X.1 10 (ix f + j)) := by
        intro W hW b0
        unfold f_kindOf_315
        have sv : (a6 + Int32.ofInt 1).toInt = ((i + 1 : Nat) : Int) := by rw [ti_add (by rw [h6, lo1]; omega) (by rw [h6, lo1]; omega), h6, lo1]; omega
        refine pw_let (ih (i + 1) b0 _ W sv (by omega) (fun e j he => ?_) ?_ ?_ ?_ (fun j hj => ?_) (fun j hj => ?_))
        · rw [hW e j (by omega), e18, wI_ne _ _ _ _ _ _ (by omega), e15, wI_ne _ _ _ _ _ _ (by omega)]
          exact hr e j he
        · rw [hW 0 13 (by omega), e18, wI_ne _ _ _ _ _ _ (by omega), e15, wI_ne _ _ _ _ _ _ (by omega)]
          exact h13
        · rw [hW 0 15 (by omega), e18, wI_at]
          exact v17
        · rw [hW 0 15 (by omega), e18, wI_at, v17]
          omega
        · rw [hW 9 j (by omega), e18, wI_ne _ _ _ _ _ _ (by omega), e15, wI_ne _ _ _ _ _ _ (by omega)]
          exact hlo j hj
        · rw [hW 9 _ (by omega), e18, wI_ne _ _ _ _ _ _ (by omega), e15]
          by_cases ej : j = i
          · rw [ej, wI_at]
          · rw [wI_ne _ _ _ _ _ _ (by omega)]
            exact hB j (by omega)
      have c284 : ∀ (b0 b1 : Int32), pw (f_kindOf_284 (f_kindOf_212 M) s f n k4 a5 a6 b0 b1 X18) (fun r Y => r = k4 ∧ (∀ e j, e = 4 ∨ e = 5 ∨ e = 6 ∨ e = 10 → Y.1 e j = X.1 e j) ∧ Y.1 0 13 = X.1 0 13 ∧ (Y.1 0 15).toInt = L0 + n.toInt ∧ (Y.1 0 15).toInt ≤ 20000 ∧ (∀ j : Nat, (j : Int) < L0 → Y.1 9 j = X.1 9 j) ∧ ∀ j : Nat, (j : Int) < n.toInt → Y.1 9 (L0.toNat + j) = X.1 10 (ix f + j)) := by
        intro b0 b1
        unfold f_kindOf_284
        refine pw_ck (fun _ => pw_eq (fun X20 e20 => ?_))
        have k20 : ∀ e j, ¬ e = 8 → X20.1 e j = X18.1 e j := fun e j he => by rw [e20, wI_ne _ _ _ _ _ _ (by omega)]
        refine pw_ite (fun _ => ?_) (fun _ => step X20 k20 _)
        exact pw_let (pw_let (pw_ck (fun _ => pw_let (pw_ck (fun _ => pw_let (pw_let (step X20 k20 _)))))))
      refine pw_ck (fun _ => pw_let ?_)
      refine pw_ite (fun _ => ?_) (fun _ => c284 _ _)
      refine pw_let (pw_ck (fun _ => pw_let (pw_ck (fun _ => pw_let ?_))))
      exact pw_ite (fun _ => c284 _ _) (fun _ => c284 _ _)
theorem x_new {X : St} {K : Nat} (hI : KIq X) (hf : 0 ≤ f.toInt) (hn : 0 ≤ n.toInt) (hfn : f.toInt + n.toInt ≤ 10000) (hK : (X.1 0 13).toInt = (K : Int)) (hno : ∀ k : Nat, k < K → ¬ k7s X k s.toInt n.toInt (ix f)) {X9 : St} {x8 : Int32} (h13 : (X9.1 0 13).toInt = (K : Int) + 1) (h4 : X9.1 4 K = s) (h5 : X9.1 5 K = n) (h6 : X9.1 6 K = X.1 0 15) (hr : ∀ e j, e = 4 ∨ e = 5 ∨ e = 6 → ¬ j = K → X9.1 e j = X.1 e j) (hr2 : ∀ e j, e = 9 ∨ e = 10 → X9.1 e j = X.1 e j) (h15 : X9.1 0 15 = X.1 0 15) {x2 : Int32} (h2 : x2.toInt = (K : Int)) (b0 : Int32) : pw (f_kindOf_168 s f n x2 b0 x2 X9) (fun r Y => KOq X Y s.toInt n.toInt (ix f) r) := by
  obtain ⟨⟨i13, i15, i20⟩, hI2⟩ := hI
  have go : ∀ (X10 : St) (b : Int32), (∀ e j, ¬ e = 8 → X10.1 e j = X9.1 e j) → pw (f_kindOf_207 s f n x2 b X10) (fun r Y => KOq X Y s.toInt n.toInt (ix f) r) := by
    intro X10 b h10
    unfold f_kindOf_207
    refine pw_mono (x_fill (X := X10) (K := K) (L0 := (X.1 0 15).toInt) hf hn hfn i15 (ixn h2) (by omega) BIG 0 b 0 X10 (by decide) (by omega) (fun _ _ _ => rfl) rfl (by rw [h10 0 15 (by omega), h15]; omega) (by rw [h10 0 15 (by omega), h15]; exact i20) (fun _ _ => rfl) (fun j hj => absurd hj (Nat.not_lt_zero _))) ?_
    rintro r Y ⟨er, y4, y13, y15, y20, ylo, yB⟩
    have y13' : (Y.1 0 13).toInt = (K : Int) + 1 := by rw [y13, h10 0 13 (by omega)]; exact h13
    have old : ∀ e j, e = 4 ∨ e = 5 ∨ e = 6 → ¬ j = K → Y.1 e j = X.1 e j := fun e j he hj => by rw [y4 e j (by omega), h10 e j (by omega)]; exact hr e j he hj
    have y10 : ∀ j, Y.1 10 j = X.1 10 j := fun j => by rw [y4 10 j (by omega), h10 10 j (by omega)]; exact hr2 10 j (by omega)
    have y9 : ∀ j : Nat, (j : Int) < (X.1 0 15).toInt → Y.1 9 j = X.1 9 j := fun j hj => by rw [ylo j hj, h10 9 j (by omega)]; exact hr2 9 j (by omega)
    have n4 : Y.1 4 K = s := by rw [y4 4 K (by omega), h10 4 K (by omega)]; exact h4
    have n5 : Y.1 5 K = n := by rw [y4 5 K (by omega), h10 5 K (by omega)]; exact h5
    have n6 : Y.1 6 K = X.1 0 15 := by rw [y4 6 K (by omega), h10 6 K (by omega)]; exact h6
    have n9 : ∀ j : Nat, (j : Int) < n.toInt → Y.1 9 (ix (Y.1 6 K) + j) = X.1 10 (ix f + j) := fun j hj => by
      rw [n6]
      have := yB j hj
      rw [h10 10 _ (by omega), hr2 10 _ (by omega)] at this
      exact this
    have rK : ix r = K := by rw [er]; exact ixn h2
    have old9 : ∀ k : Nat, k < K → ∀ i : Nat, (i : Int) < (X.1 5 k).toInt → Y.1 9 (ix (Y.1 6 k) + i) = X.1 9 (ix (X.1 6 k) + i) := fun k hk i hi => by
      obtain ⟨a, b, c⟩ := hI2 k (by omega)
      have := ixc a
      rw [old 6 k (by omega) (by omega)]
      exact y9 _ (by omega)
    refine ⟨⟨by rw [er]; omega, by rw [er]; omega⟩, ?_, ⟨⟨by omega, by omega, y20⟩, fun k hk => ?_⟩, ⟨by omega, by omega, fun k hk => ⟨old 4 k (by omega) (by omega), old 5 k (by omega) (by omega), old 6 k (by omega) (by omega)⟩, y9⟩, fun hU => ?_⟩
    · rw [rK]
      exact ⟨by rw [n4], by rw [n5], fun i hi => by rw [n9 i hi, y10]⟩
    · by_cases ek : k = K
      · rw [ek, n5, n6, y15]
        omega
      · rw [old 5 k (by omega) ek, old 6 k (by omega) ek, y15]
        have := hI2 k (by omega)
        omega
    · have no : ∀ k : Nat, k < K → (Y.1 4 k).toInt = (Y.1 4 K).toInt → (Y.1 5 k).toInt = (Y.1 5 K).toInt → (∀ i : Nat, (i : Int) < (Y.1 5 K).toInt → (Y.1 9 (ix (Y.1 6 k) + i)).toInt = (Y.1 9 (ix (Y.1 6 K) + i)).toInt) → False := by
        intro k hk a b d
        rw [n5] at d b
        rw [n4] at a
        rw [old 4 k (by omega) (by omega)] at a
        rw [old 5 k (by omega) (by omega)] at b
        refine hno k hk ⟨a, b, fun i hi => ?_⟩
        have := d i hi
        rw [old9 k hk i (by omega), n9 i hi] at this
        exact this
      intro k k1 hk hk1 a b d
      by_cases ek : k = K
      · by_cases ek1 : k1 = K
        · omega
        · rw [ek] at a b d
          exact (no k1 (by omega) a.symm b.symm (fun i hi => (d i hi).symm)).elim
      · by_cases ek1 : k1 = K
        · rw [ek1] at a b d
          exact (no k (by omega) a b (fun i hi => d i (by omega))).elim
        · rw [old 4 k (by omega) ek, old 4 k1 (by omega) ek1] at a
          rw [old 5 k (by omega) ek, old 5 k1 (by omega) ek1] at b
          refine hU k k1 (by omega) (by omega) a b (fun i hi => ?_)
          have := d i (by rw [old 5 k (by omega) ek]; exact hi)
          rw [old9 k (by omega) i hi, old9 k1 (by omega) i (by omega)] at this
          exact this
  unfold f_kindOf_168
  refine pw_ck (fun _ => pw_eq (fun X10 e10 => ?_))
  have k10 : ∀ e j, ¬ e = 8 → X10.1 e j = X9.1 e j := fun e j he => by rw [e10, wI_ne _ _ _ _ _ _ (by omega)]
  refine pw_ite (fun _ => ?_) (fun _ => pw_ite (fun _ => ?_) (fun _ => go X10 _ k10))
  · exact pw_ck (fun _ => pw_let (pw_ck (fun _ => pw_let (pw_let (pw_let (go X10 _ k10))))))
  · exact pw_let (pw_let (go X10 _ k10))
theorem x_kof {X : St} (hI : KIq X) (hf : 0 ≤ f.toInt) (hn : 0 ≤ n.toInt) (hfn : f.toInt + n.toInt ≤ 10000) : pw (f_kindOf s f n X) (fun r Y => KOq X Y s.toInt n.toInt (ix f) r) := by
  have l1 : (1 : Int32).toInt = 1 := by decide
  have lo1 : (Int32.ofInt 1).toInt = 1 := by decide
  obtain ⟨K, hK⟩ : ∃ K : Nat, (X.1 0 13).toInt = (K : Int) := ⟨ix (X.1 0 13), (ixc hI.1.1).symm⟩
  have main : ∀ (M k : Nat) (a4 : Int32), a4.toInt = (k : Int) → k ≤ K → (∀ j : Nat, j < k → ¬ k7s X j s.toInt n.toInt (ix f)) → pw (f_kindOf_3 M s f n a4 X) (fun r Y => KOq X Y s.toInt n.toInt (ix f) r) := by
    intro M
    induction M with
    | zero => exact fun _ _ _ _ _ => pw_none
    | succ M ih =>
      intro k a4 ha hk hno
      have e : f_kindOf_3 (M + 1) = f_kindOf_3_s (f_kindOf_3 M) := by
        unfold f_kindOf_3
        exact lp_succ _ _ _
      rw [e]
      unfold f_kindOf_3_s
      refine pw_let (pw_ite (fun c => ?_) (fun c => ?_))
      · have ek : k = K := by omega
        rw [ek] at hno
        refine pw_let (pw_let (pw_eq (fun x4 e4 => pw_eq (fun X5 e5 => ?_))))
        rw [ixn hK]
        refine pw_ck (fun hc => pw_eq (fun X6 e6 => pw_ck (fun _ => pw_eq (fun X7 e7 => pw_let (pw_ck (fun _ => pw_eq (fun X9 e9 => ?_)))))))
        have hb := hc.2
        have v4 : x4.toInt = (K : Int) + 1 := by rw [e4, ti_add (by rw [hK, l1]; omega) (by rw [hK, l1]; omega), hK, l1]
        have c15 : X7.1 0 15 = X.1 0 15 := by rw [e7, wI_ne _ _ _ _ _ _ (by omega), e6, wI_ne _ _ _ _ _ _ (by omega), e5, wI_ne _ _ _ _ _ _ (by omega)]
        have hh : ∀ b0 : Int32, pw (f_kindOf_168 s f n (X.1 0 13) b0 (X.1 0 13) X9) (fun r Y => KOq X Y s.toInt n.toInt (ix f) r) := by
          intro b0
          refine x_new (x8 := 0) hI hf hn hfn hK hno ?_ ?_ ?_ ?_ (fun e j he hj => ?_) (fun e j he => ?_) ?_ hK b0
          · rw [e9, wI_ne _ _ _ _ _ _ (by omega), e7, wI_ne _ _ _ _ _ _ (by omega), e6, wI_ne _ _ _ _ _ _ (by omega), e5, wI_at]; exact v4
          · rw [e9, wI_ne _ _ _ _ _ _ (by omega), e7, wI_ne _ _ _ _ _ _ (by omega), e6, wI_at]
          · rw [e9, wI_ne _ _ _ _ _ _ (by omega), e7, wI_at]
          · rw [e9, wI_at, c15]
          · rw [e9, wI_ne _ _ _ _ _ _ (by omega), e7, wI_ne _ _ _ _ _ _ (by omega), e6, wI_ne _ _ _ _ _ _ (by omega), e5, wI_ne _ _ _ _ _ _ (by omega)]
          · rw [e9, wI_ne _ _ _ _ _ _ (by omega), e7, wI_ne _ _ _ _ _ _ (by omega), e6, wI_ne _ _ _ _ _ _ (by omega), e5, wI_ne _ _ _ _ _ _ (by omega)]
          · rw [e9, wI_ne _ _ _ _ _ _ (by omega)]; exact c15
        exact pw_ite (fun _ => hh 1) (fun _ => hh 0)
      · have hkK : k < K := by omega
        refine pw_ck (fun hc => pw_let ?_)
        have hb := hc.2
        rw [ixn ha]
        obtain ⟨q6, q5, q7⟩ := hI.2 k (by omega)
        have q20 := hI.1.2.2
        have nxt : ¬ k7s X k s.toInt n.toInt (ix f) → pw (f_kindOf_3 M s f n (a4 + Int32.ofInt 1) X) (fun r Y => KOq X Y s.toInt n.toInt (ix f) r) := fun h => by
          refine ih (k + 1) _ (by rw [ti_add (by rw [ha, lo1]; omega) (by rw [ha, lo1]; omega), ha, lo1]; omega) (by omega) (fun j hj => ?_)
          by_cases ej : j = k
          · rw [ej]; exact h
          · exact hno j (by omega)
        have c95 : ∀ a5 : Int32, (a5.toInt = 0 → ¬ k7s X k s.toInt n.toInt (ix f)) → (¬ a5.toInt = 0 → k7s X k s.toInt n.toInt (ix f)) → pw (f_kindOf_95 (f_kindOf_3 M) s f n a4 a5 X) (fun r Y => KOq X Y s.toInt n.toInt (ix f) r) := by
          intro a5 h0 h1
          unfold f_kindOf_95
          refine pw_ite (fun z => pw_let (nxt (h0 z))) (fun z => pw_ret ?_)
          refine ⟨by omega, by rw [ixn ha]; exact h1 z, hI, KXq.rf, fun h => h⟩
        have c44 : ∀ (M1 i : Nat) (a5 a6 : Int32), a6.toInt = (i : Int) → (i : Int) ≤ n.toInt → (a5.toInt = 0 → ¬ k7s X k s.toInt n.toInt (ix f)) → (¬ a5.toInt = 0 → (X.1 4 k).toInt = s.toInt ∧ (X.1 5 k).toInt = n.toInt ∧ ∀ j : Nat, j < i → (X.1 9 (ix (X.1 6 k) + j)).toInt = (X.1 10 (ix f + j)).toInt) → pw (f_kindOf_44 (f_kindOf_3 M) M1 s f n a4 a5 a6 X) (fun r Y => KOq X Y s.toInt n.toInt (ix f) r) := by
          intro M1
          induction M1 with
          | zero => exact fun _ _ _ _ _ _ _ => pw_none
          | succ M1 ih1 =>
            intro i a5 a6 h6 hi h0 h1
            have e1 : f_kindOf_44 (f_kindOf_3 M) (M1 + 1) = f_kindOf_44_s (f_kindOf_3 M) (f_kindOf_44 (f_kindOf_3 M) M1) := by
              unfold f_kindOf_44
              exact lp_succ _ _ _
            rw [e1]
            unfold f_kindOf_44_s
            refine pw_ite (fun c6 => c95 a5 h0 (fun z => ?_)) (fun c6 => ?_)
            · obtain ⟨x, y, w⟩ := h1 z
              exact ⟨x, y, fun j hj => w j (by omega)⟩
            · refine pw_ite (fun c5 => c95 a5 h0 (fun z => absurd c5 z)) (fun c5 => ?_)
              obtain ⟨x, y, w⟩ := h1 c5
              refine pw_ck (fun _ => pw_let ?_)
              rw [ixn ha]
              have v39 : (X.1 6 k + a6).toInt = (X.1 6 k).toInt + i := by rw [ti_add (by rw [h6]; omega) (by rw [h6]; omega), h6]
              have i39 : ix (X.1 6 k + a6) = ix (X.1 6 k) + i := by
                have z1 := ixc q6
                have z2 := ixc (z := X.1 6 k + a6) (by omega)
                omega
              have v41 : (f + a6).toInt = f.toInt + i := by rw [ti_add (by rw [h6]; omega) (by rw [h6]; omega), h6]
              have i41 : ix (f + a6) = ix f + i := by
                have z1 := ixc hf
                have z2 := ixc (z := f + a6) (by omega)
                omega
              refine pw_let (pw_ck (fun _ => pw_let (pw_let (pw_ck (fun _ => pw_let ?_)))))
              rw [i39, i41]
              have sv : (a6 + Int32.ofInt 1).toInt = ((i + 1 : Nat) : Int) := by rw [ti_add (by rw [h6, lo1]; omega) (by rw [h6, lo1]; omega), h6, lo1]; omega
              unfold f_kindOf_87
              refine pw_ite (fun cc => pw_let (ih1 (i + 1) 1 _ sv (by omega) (fun z => absurd z (by decide)) (fun _ => ⟨x, y, fun j hj => ?_⟩))) (fun cc => pw_let (ih1 (i + 1) 0 _ sv (by omega) (fun _ z => cc (z.2.2 i (by omega))) (fun z => absurd (by decide) z)))
              by_cases ej : j = i
              · rw [ej]; exact cc
              · exact w j (by omega)
        have c38 : ¬ k7s X k s.toInt n.toInt (ix f) → pw (f_kindOf_38 (f_kindOf_3 M) s f n a4 X) (fun r Y => KOq X Y s.toInt n.toInt (ix f) r) := fun h => by
          unfold f_kindOf_38 f_kindOf_39
          exact c44 BIG 0 0 0 (by decide) (by omega) (fun _ => h) (fun z => absurd (by decide) z)
        refine pw_ite (fun c4 => ?_) (fun c4 => c38 (fun z => c4 z.1))
        refine pw_ck (fun _ => pw_let ?_)
        refine pw_ite (fun c5 => ?_) (fun c5 => c38 (fun z => c5 z.2.1))
        unfold f_kindOf_39
        exact c44 BIG 0 1 0 (by decide) (by omega) (fun z => absurd z (by decide)) (fun _ => ⟨c4, c5, fun j hj => absurd hj (Nat.not_lt_zero _)⟩)
  exact main BIG 0 0 (by decide) (Nat.zero_le _) (fun j hj => absurd hj (Nat.not_lt_zero _))
end KOF7
/-- a kind of the reference's table, told as a text tells it; m: how deep -/
def KDf (X : St) : Nat → Nat → List Int → Prop
  | 0, _, _ => False
  | m + 1, k, d => (k : Int) < (X.1 0 13).toInt ∧ (((X.1 4 k).toInt = 1 ∧ (X.1 5 k).toInt = 0 ∧ d = [1]) ∨ ((X.1 4 k).toInt = 2 ∧ (X.1 5 k).toInt = 0 ∧ d = [2]) ∨ ((X.1 4 k).toInt = 3 ∧ (X.1 5 k).toInt = 0 ∧ d = [3]) ∨
    ((X.1 4 k).toInt = 4 ∧ (X.1 5 k).toInt = 1 ∧ ∃ (k1 : Nat) (d1 : List Int), (X.1 9 (ix (X.1 6 k))).toInt = (k1 : Int) ∧ KDf X m k1 d1 ∧ d = 4 :: d1) ∨
    ((X.1 4 k).toInt = 5 ∧ ∃ ds : List (List Int), (X.1 5 k).toInt = (ds.length : Int) + 1 ∧ (∀ i e, ds[i]? = some e → ∃ k1 : Nat, (X.1 9 (ix (X.1 6 k) + i)).toInt = (k1 : Int) ∧ KDf X m k1 e) ∧ ∃ (k1 : Nat) (d1 : List Int), (X.1 9 (ix (X.1 6 k) + ds.length)).toInt = (k1 : Int) ∧ KDf X m k1 d1 ∧ d = (5 + (ds.length : Int)) :: (ds.flatten ++ d1)))
def KD (X : St) (k : Nat) (d : List Int) : Prop := ∃ m, KDf X m k d
/-- kinds told before stay told -/
def KDk (X Y : St) : Prop := ∀ k d, KD X k d → KD Y k d
section KDS
variable {X Y Z : St}
theorem KDf.kx (hI : KIq X) (h : KXq X Y) : ∀ (m k : Nat) (d : List Int), KDf X m k d → KDf Y m k d := by
  intro m
  induction m with
  | zero => exact fun _ _ g => g.elim
  | succ m ih =>
    intro k d g
    rw [KDf] at g ⊢
    obtain ⟨hk, g⟩ := g
    obtain ⟨a4, a5, a6⟩ := h.2.2.1 k hk
    obtain ⟨b6, b5, b7⟩ := hI.2 k hk
    have hb := ixc b6
    refine ⟨Int.lt_of_lt_of_le hk h.1, ?_⟩
    rw [a4, a5, a6]
    rcases g with g | g | g | ⟨s, n, k1, d1, g1, g2, g3⟩ | ⟨s, ds, g1, g2, k1, d1, g3, g4, g5⟩
    · exact Or.inl g
    · exact Or.inr (Or.inl g)
    · exact Or.inr (Or.inr (Or.inl g))
    · exact Or.inr (Or.inr (Or.inr (Or.inl ⟨s, n, k1, d1, by rw [h.2.2.2 _ (by omega)]; exact g1, ih _ _ g2, g3⟩)))
    · refine Or.inr (Or.inr (Or.inr (Or.inr ⟨s, ds, g1, fun i e he => ?_, k1, d1, by rw [h.2.2.2 _ (by omega)]; exact g3, ih _ _ g4, g5⟩)))
      obtain ⟨k2, x1, x2⟩ := g2 i e he
      have hl := (List.getElem?_eq_some_iff.mp he).1
      exact ⟨k2, by rw [h.2.2.2 _ (by omega)]; exact x1, ih _ _ x2⟩
theorem KDk.of (hI : KIq X) (h : KXq X Y) : KDk X Y := fun k d ⟨m, g⟩ => ⟨m, KDf.kx hI h m k d g⟩
theorem KDf.up : ∀ (m k : Nat) (d : List Int), KDf X m k d → KDf X (m + 1) k d := by
  intro m
  induction m with
  | zero => exact fun _ _ g => g.elim
  | succ m ih =>
    intro k d g
    rw [KDf] at g ⊢
    obtain ⟨hk, g⟩ := g
    refine ⟨hk, ?_⟩
    rcases g with g | g | g | ⟨s, n, k1, d1, g1, g2, g3⟩ | ⟨s, ds, g1, g2, k1, d1, g3, g4, g5⟩
    · exact Or.inl g
    · exact Or.inr (Or.inl g)
    · exact Or.inr (Or.inr (Or.inl g))
    · exact Or.inr (Or.inr (Or.inr (Or.inl ⟨s, n, k1, d1, g1, ih _ _ g2, g3⟩)))
    · refine Or.inr (Or.inr (Or.inr (Or.inr ⟨s, ds, g1, fun i e he => ?_, k1, d1, g3, ih _ _ g4, g5⟩)))
      obtain ⟨k2, x1, x2⟩ := g2 i e he
      exact ⟨k2, x1, ih _ _ x2⟩
theorem KDf.le {m m1 k : Nat} {d : List Int} (h : KDf X m k d) (g : m ≤ m1) : KDf X m1 k d := by
  induction g with
  | refl => exact h
  | step _ ih => exact KDf.up _ _ _ ih
/-- a row of a kind -/
theorem KD.row {f : Nat} {r : Int32} {k1 : Nat} {d1 : List Int} (h : KOq X Y 4 1 f r) (h10 : (Y.1 10 f).toInt = (k1 : Int)) (g : KD Y k1 d1) : KD Y (ix r) (4 :: d1) := by
  obtain ⟨⟨r0, r1⟩, ⟨a, b, c⟩, _⟩ := h
  obtain ⟨m, g⟩ := g
  have := ixc r0
  refine ⟨m + 1, ?_⟩
  rw [KDf]
  have c0 := c 0 (by omega)
  rw [Nat.add_zero, Nat.add_zero] at c0
  exact ⟨by omega, Or.inr (Or.inr (Or.inr (Or.inl ⟨a, b, k1, d1, by rw [c0]; exact h10, g, rfl⟩)))⟩
theorem KD.all : ∀ (ds : List (List Int)) (f : Nat), (∀ i e, ds[i]? = some e → ∃ k1 : Nat, (Y.1 10 (f + i)).toInt = (k1 : Int) ∧ KD Y k1 e) → ∃ m, ∀ i e, ds[i]? = some e → ∃ k1 : Nat, (Y.1 10 (f + i)).toInt = (k1 : Int) ∧ KDf Y m k1 e := by
  intro ds
  induction ds with
  | nil =>
    intro f _
    refine ⟨0, fun i e he => ?_⟩
    rw [List.getElem?_nil] at he
    exact absurd he.symm (Option.some_ne_none _)
  | cons d ds ih =>
    intro f h
    obtain ⟨k1, x1, m1, x2⟩ := h 0 d rfl
    obtain ⟨m2, g⟩ := ih (f + 1) (fun i e he => by
      obtain ⟨k2, y1, y2⟩ := h (i + 1) e he
      exact ⟨k2, by rw [show f + 1 + i = f + (i + 1) by omega]; exact y1, y2⟩)
    refine ⟨max m1 m2, fun i e he => ?_⟩
    cases i with
    | zero =>
      have e1 : d = e := Option.some.inj he
      rw [← e1]
      exact ⟨k1, x1, x2.le (Nat.le_max_left ..)⟩
    | succ i =>
      obtain ⟨k2, y1, y2⟩ := g i e he
      exact ⟨k2, by rw [show f + (i + 1) = f + 1 + i by omega]; exact y1, y2.le (Nat.le_max_right ..)⟩
/-- a function of kinds -/
theorem KD.fun {f : Nat} {r : Int32} {ds : List (List Int)} {k1 : Nat} {d1 : List Int} (h : KOq X Y 5 ((ds.length : Int) + 1) f r) (hd : ∀ i e, ds[i]? = some e → ∃ k1 : Nat, (Y.1 10 (f + i)).toInt = (k1 : Int) ∧ KD Y k1 e) (h10 : (Y.1 10 (f + ds.length)).toInt = (k1 : Int)) (g : KD Y k1 d1) : KD Y (ix r) ((5 + (ds.length : Int)) :: (ds.flatten ++ d1)) := by
  obtain ⟨⟨r0, r1⟩, ⟨a, b, c⟩, _⟩ := h
  obtain ⟨m1, g⟩ := g
  obtain ⟨m2, hd⟩ := KD.all ds f hd
  have := ixc r0
  refine ⟨max m1 m2 + 1, ?_⟩
  rw [KDf]
  refine ⟨by omega, Or.inr (Or.inr (Or.inr (Or.inr ⟨a, ds, b, fun i e he => ?_, k1, d1, by rw [c ds.length (by omega)]; exact h10, g.le (Nat.le_max_left ..), rfl⟩)))⟩
  obtain ⟨k2, x1, x2⟩ := hd i e he
  have hl := (List.getElem?_eq_some_iff.mp he).1
  exact ⟨k2, by rw [c i (by omega)]; exact x1, x2.le (Nat.le_max_right ..)⟩
end KDS
theorem KIq.cg {X Y : St} (h : KIq X) (g : ∀ e k, (e = 0 ∧ (k = 13 ∨ k = 15)) ∨ e = 5 ∨ e = 6 → Y.1 e k = X.1 e k) : KIq Y := by
  refine ⟨by rw [g 0 13 (by omega), g 0 15 (by omega)]; exact h.1, fun k hk => ?_⟩
  rw [g 0 13 (by omega)] at hk
  rw [g 5 k (by omega), g 6 k (by omega), g 0 15 (by omega)]
  exact h.2 k hk
theorem KXq.of {X Y : St} (g : ∀ e k, (e = 0 ∧ (k = 13 ∨ k = 15)) ∨ e = 4 ∨ e = 5 ∨ e = 6 ∨ e = 9 → Y.1 e k = X.1 e k) : KXq X Y := ⟨by rw [g 0 13 (by omega)]; exact Int.le_refl _, by rw [g 0 15 (by omega)]; exact Int.le_refl _, fun k _ => ⟨g 4 k (by omega), g 5 k (by omega), g 6 k (by omega)⟩, fun k _ => g 9 k (by omega)⟩
/-- the table of kinds while a text is read: sound, the plain kinds first -/
def KJq (X : St) : Prop := KIq X ∧ 3 ≤ (X.1 0 13).toInt ∧ ∀ i : Nat, i < 3 → (X.1 4 i).toInt = (i : Int) + 1 ∧ (X.1 5 i).toInt = 0
theorem KJq.cg {X Y : St} (h : KJq X) (g : ∀ e k, (e = 0 ∧ (k = 13 ∨ k = 15)) ∨ e = 4 ∨ e = 5 ∨ e = 6 → Y.1 e k = X.1 e k) : KJq Y := ⟨h.1.cg (fun e k q => g e k (by omega)), by rw [g 0 13 (by omega)]; exact h.2.1, fun i hi => by rw [g 4 i (by omega), g 5 i (by omega)]; exact h.2.2 i hi⟩
theorem KJq.kx {X Y : St} (h : KJq X) (hI : KIq Y) (g : KXq X Y) : KJq Y := ⟨hI, Int.le_trans h.2.1 g.1, fun i hi => by
  obtain ⟨a, b, _⟩ := g.2.2.1 i (by have := h.2.1; omega)
  rw [a, b]
  exact h.2.2 i hi⟩
theorem KJq.pl {X : St} (h : KJq X) {i : Nat} (hi : i < 3) : KD X i [(i : Int) + 1] := by
  obtain ⟨a, b⟩ := h.2.2 i hi
  refine ⟨1, ?_⟩
  rw [KDf]
  refine ⟨by have := h.2.1; omega, ?_⟩
  have : i = 0 ∨ i = 1 ∨ i = 2 := by omega
  rcases this with rfl | rfl | rfl
  · exact Or.inl ⟨a, b, rfl⟩
  · exact Or.inr (Or.inl ⟨a, b, rfl⟩)
  · exact Or.inr (Or.inr (Or.inl ⟨a, b, rfl⟩))
theorem KDk.oj {X Y : St} (h : KJq X) (g : KXq X Y) : KDk X Y := KDk.of h.1 g
/-- a row's kind -/
theorem x_rowk {p1 : Int32} {X : St} (hI : KIq X) : pw (f_rowOf p1 X) (fun r Y => (KIq Y ∧ KXq X Y ∧ (KU X → KU Y)) ∧ 0 ≤ r.toInt ∧ ∀ (k1 : Nat) (d1 : List Int), p1.toInt = (k1 : Int) → KD X k1 d1 → KD Y (ix r) (4 :: d1)) := by
  have l4 : (4 : Int32).toInt = 4 := by decide
  have l1 : (1 : Int32).toInt = 1 := by decide
  unfold f_rowOf
  refine pw_ck (fun _ => pw_eq (fun X1 e1 => ?_))
  have r1 : ∀ e k, ¬ e = 10 → X1.1 e k = X.1 e k := fun e k he => by rw [e1, wI_ne _ _ _ _ _ _ (by omega)]
  have hI1 : KIq X1 := hI.cg (fun e k q => r1 e k (by omega))
  have hX1 : KXq X X1 := KXq.of (fun e k q => r1 e k (by omega))
  have at1 : X1.1 10 (ix (3000 : Int32)) = p1 := by rw [e1, wI_at]
  have f10 : pw (f_kindOf (4 : Int32) (3000 : Int32) (1 : Int32) X1) (fun _ Y => Y.1 10 (ix (3000 : Int32)) = p1) := pw_mono fw_kindOf (fun _ Y g => (g.1 10 _ (show (2000 : Nat) ∉ Lw18 from by decide)).trans at1)
  refine pw_bd (pw_and (x_kof hI1 (by decide) (by decide) (by decide)) f10) ?_
  rintro r Y ⟨hk, h10⟩
  rw [l4, l1] at hk
  refine pw_ret ⟨⟨hk.2.2.1, hX1.tr hk.2.2.2.1, fun hU => hk.2.2.2.2 ?_⟩, hk.1.1, fun k1 d1 h1 hd => ?_⟩
  · intro k k1 a b c d e
    rw [r1 0 13 (by omega)] at a b
    rw [r1 4 k (by omega), r1 4 k1 (by omega)] at c
    rw [r1 5 k (by omega), r1 5 k1 (by omega)] at d
    refine hU k k1 a b c d (fun i hi => ?_)
    have := e i (by rw [r1 5 k (by omega)]; exact hi)
    rw [r1 9 _ (by omega), r1 9 _ (by omega), r1 6 k (by omega), r1 6 k1 (by omega)] at this
    exact this
  · exact KD.row hk (by rw [h10]; exact h1) (KDk.of hI (hX1.tr hk.2.2.2.1) _ _ hd)
section KGS
variable {X Y Z : St}
/-- kinds grow, none is told twice -/
def KGq (X Y : St) : Prop := KXq X Y ∧ (KU X → KU Y)
theorem KGq.rf : KGq X X := ⟨KXq.rf, fun h => h⟩
theorem KGq.tr (h : KGq X Y) (g : KGq Y Z) : KGq X Z := ⟨h.1.tr g.1, fun u => g.2 (h.2 u)⟩
theorem KGq.of (g : ∀ e k, (e = 0 ∧ (k = 13 ∨ k = 15)) ∨ e = 4 ∨ e = 5 ∨ e = 6 ∨ e = 9 → Y.1 e k = X.1 e k) : KGq X Y := by
  refine ⟨KXq.of g, fun hU k k1 a b c d e => ?_⟩
  rw [g 0 13 (by omega)] at a b
  rw [g 4 k (by omega), g 4 k1 (by omega)] at c
  rw [g 5 k (by omega), g 5 k1 (by omega)] at d
  refine hU k k1 a b c d (fun i hi => ?_)
  have := e i (by rw [g 5 k (by omega)]; exact hi)
  rw [g 9 _ (by omega), g 9 _ (by omega), g 6 k (by omega), g 6 k1 (by omega)] at this
  exact this
theorem KGq.kj (h : KGq X Y) (hX : KJq X) (hI : KIq Y) : KJq Y := hX.kx hI h.1
end KGS
