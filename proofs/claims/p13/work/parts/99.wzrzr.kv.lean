/-! the reference's kinds: the code of a kind, and whether ANY stands in it -/
/-- the code, going on from v over m kinds that are listed at g j, g (j + 1), .. -/
def cvF (X : St) (g : Nat → Nat) : Nat → Nat → Int32 → Int32
  | 0, _, v => v
  | m + 1, j, v => cvF X g m (j + 1) ((31 : Int32) * v + X.1 7 (g j))
/-- the code of a kind of sort s, n kinds listed at g -/
def cv0 (X : St) (g : Nat → Nat) (s n : Int32) : Int32 := if s.toInt = 4 then (5 : Int32) * X.1 7 (g 0) + 4 else if s.toInt = 5 then cvF X g n.toInt.toNat 0 ((7 : Int32) + n - 1) else s
/-- kind k's list -/
def kls (X : St) (k : Nat) (i : Nat) : Nat := ix (X.1 9 (ix (X.1 6 k) + i))
/-- a kind made of older ones has its code, and is told whether ANY stands in it -/
def KVk (X : St) (k : Nat) : Prop := ((X.1 4 k).toInt = 4 → 1 ≤ (X.1 5 k).toInt) → (∀ i : Nat, (i : Int) < (X.1 5 k).toInt → kls X k i < k) → X.1 7 k = cv0 X (kls X k) (X.1 4 k) (X.1 5 k) ∧ ((X.1 8 k).toInt = 0 ↔ ¬ (X.1 4 k).toInt = 3 ∧ ∀ i : Nat, (i : Int) < (X.1 5 k).toInt → (X.1 8 (kls X k i)).toInt = 0) ∧ (X.1 8 k = 0 ∨ X.1 8 k = 1)
/-- the lists of the kinds below m lie below l -/
def KVl (X : St) (m l : Int) : Prop := ∀ k : Nat, (k : Int) < m → ∀ i : Nat, (i : Int) < (X.1 5 k).toInt → 0 ≤ (X.1 6 k).toInt ∧ (X.1 6 k).toInt + i < l
/-- the table of kinds; where P holds, what the text's kinds are too -/
def KVa (P : Prop) (X : St) : Prop := (0 ≤ (X.1 0 13).toInt ∧ 0 ≤ (X.1 0 15).toInt ∧ KVl X (X.1 0 13).toInt (X.1 0 15).toInt ∧ ∀ k : Nat, (k : Int) < (X.1 0 13).toInt → KVk X k) ∧ (P → 0 ≤ (X.1 0 14).toInt ∧ (X.1 0 14).toInt ≤ (X.1 0 13).toInt ∧ 0 ≤ (X.1 0 16).toInt ∧ (X.1 0 16).toInt ≤ (X.1 0 15).toInt ∧ KVl X (X.1 0 14).toInt (X.1 0 16).toInt)
/-- a list is being filled -/
def VZ (X : St) (K : Nat) (L0 : Int) (i : Nat) (f : Int32) (Z : St) : Prop := (∀ e j, e = 4 ∨ e = 5 ∨ e = 6 ∨ e = 10 → Z.1 e j = X.1 e j) ∧ (∀ k, k = 13 ∨ k = 14 ∨ k = 16 → Z.1 0 k = X.1 0 k) ∧ (∀ e j, e = 7 ∨ e = 8 → ¬ j = K → Z.1 e j = X.1 e j) ∧ (Z.1 0 15).toInt = L0 + i ∧ (∀ j : Nat, (j : Int) < L0 → Z.1 9 j = X.1 9 j) ∧ (∀ j : Nat, j < i → Z.1 9 (L0.toNat + j) = X.1 10 (ix f + j)) ∧ (Z.1 8 K = 0 ∨ Z.1 8 K = 1)
/-- it has been filled -/
def VP (X : St) (K : Nat) (L0 : Int) (s f n : Int32) (i : Nat) (a5 z8 : Int32) (Y : St) : Prop := VZ X K L0 n.toInt.toNat f Y ∧ ((∀ j : Nat, i ≤ j → j < n.toInt.toNat → ¬ ix (X.1 10 (ix f + j)) = K) → Y.1 7 K = (if s.toInt = 5 then cvF X (fun j => ix (X.1 10 (ix f + j))) (n.toInt.toNat - i) i a5 else a5) ∧ ((Y.1 8 K).toInt = 0 ↔ z8.toInt = 0 ∧ ∀ j : Nat, i ≤ j → j < n.toInt.toNat → (X.1 8 (ix (X.1 10 (ix f + j)))).toInt = 0))
section KV8
variable {X Y Z : St} {s f n : Int32} {P : Prop} {e k : Nat} {v : Int32}
theorem cvF.cg {g g1 : Nat → Nat} : ∀ (m j : Nat) (v : Int32), (∀ i, j ≤ i → i < j + m → g1 i = g i ∧ Y.1 7 (g i) = X.1 7 (g i)) → cvF Y g1 m j v = cvF X g m j v := by
  intro m
  induction m with
  | zero => exact fun _ _ _ => rfl
  | succ m ih =>
    intro j v h
    obtain ⟨a, b⟩ := h j (Nat.le_refl _) (by omega)
    rw [cvF, cvF, a, b]
    exact ih (j + 1) _ (fun i h1 h2 => h i (by omega) (by omega))
theorem nar8_0 : (vp_nar .boolean 0).toInt = 0 := by decide
theorem nar8_1 : ¬ (vp_nar .boolean 1).toInt = 0 := by decide
/-- the new kind's list is filled -/
theorem v_fill {K : Nat} {L0 : Int} {k4 : Int32} (hk4 : ix k4 = K) (hL : 0 ≤ L0) : ∀ (M i : Nat) (a5 a6 : Int32) (Z : St), a6.toInt = (i : Int) → i ≤ n.toInt.toNat → (0 < i → 0 ≤ f.toInt ∧ f.toInt + i ≤ 3100) → VZ X K L0 i f Z → pw (f_kindOf_212 M s f n k4 a5 a6 Z) (fun _ Y => VP X K L0 s f n i a5 (Z.1 8 K) Y) := by
  have lo1 : (Int32.ofInt 1).toInt = 1 := by decide
  have l1 : (1 : Int32).toInt = 1 := by decide
  intro M
  induction M with
  | zero => exact fun _ _ _ _ _ _ _ _ => pw_none
  | succ M ih =>
    intro i a5 a6 Z h6 hi hfi hZ
    obtain ⟨hr, h0, h78, h15, hlo, hB, h8K⟩ := hZ
    have eu : f_kindOf_212 (M + 1) = f_kindOf_212_s (f_kindOf_212 M) := by
      unfold f_kindOf_212
      exact lp_succ _ _ _
    rw [eu]
    unfold f_kindOf_212_s
    refine pw_ite (fun c => ?_) (fun c => ?_)
    · have ei : i = n.toInt.toNat := by omega
      have ez : n.toInt.toNat - i = 0 := by omega
      refine pw_ck (fun _ => pw_eq (fun Y e11 => pw_ret ⟨⟨fun e j he => ?_, fun k hk => ?_, fun e j he hj => ?_, ?_, fun j hj => ?_, fun j hj => ?_, ?_⟩, fun _ => ⟨?_, ?_⟩⟩))
      · rw [e11, wI_ne _ _ _ _ _ _ (by omega)]; exact hr e j he
      · rw [e11, wI_ne _ _ _ _ _ _ (by omega)]; exact h0 k hk
      · rw [e11, hk4, wI_ne _ _ _ _ _ _ (by omega)]; exact h78 e j he hj
      · rw [e11, wI_ne _ _ _ _ _ _ (by omega), ← ei]; exact h15
      · rw [e11, wI_ne _ _ _ _ _ _ (by omega)]; exact hlo j hj
      · rw [e11, wI_ne _ _ _ _ _ _ (by omega)]; exact hB j (by omega)
      · rw [e11, wI_ne _ _ _ _ _ _ (by omega)]; exact h8K
      · rw [e11, hk4, wI_at, ez, cvF]
        exact (ite_self a5).symm
      · rw [e11, wI_ne _ _ _ _ _ _ (by omega)]
        exact ⟨fun g => ⟨g, fun j h1 h2 => by omega⟩, fun g => g.1⟩
    · have hin : i < n.toInt.toNat := by omega
      refine pw_let (pw_eq (fun x13 e13 => pw_ck (fun hc13 => pw_let (pw_ck (fun hc12 => pw_eq (fun X15 e15 => pw_let (pw_eq (fun x17 e17 => pw_eq (fun X18 e18 => ?_)))))))))
      have b1 := hc13.1
      have b2 := hc13.2
      have b3 := hc12.2
      have hf : 0 ≤ f.toInt ∧ f.toInt + i < 3100 ∧ x13.toInt = f.toInt + i := by
        by_cases z : i = 0
        · have a60 : a6 = 0 := Int32.toInt_inj.mp (by rw [h6, z]; rfl)
          rw [a60, Int32.add_zero] at e13
          rw [e13] at b1 b2
          rw [e13]
          omega
        · have q := hfi (by omega)
          have qv : x13.toInt = f.toInt + i := by rw [e13, ti_add (by rw [h6]; omega) (by rw [h6]; omega), h6]
          omega
      have x13i : ix x13 = ix f + i := by
        have z1 := ixc hf.1
        have z2 := ixc (z := x13) (by omega)
        omega
      have i15 : ix (Z.1 0 15) = L0.toNat + i := by
        have := ixc (z := Z.1 0 15) (by omega)
        omega
      rw [i15, x13i, hr 10 _ (by omega)] at e15
      have c15 : X15.1 0 15 = Z.1 0 15 := by rw [e15, wI_ne _ _ _ _ _ _ (by omega)]
      have v17 : x17.toInt = L0 + (i + 1 : Nat) := by
        rw [e17, c15, ti_add (by rw [l1]; omega) (by rw [l1]; omega), l1, h15]
        omega
      have k18 : ∀ e j, ¬ (e = 0 ∧ j = 15) → ¬ e = 9 → X18.1 e j = Z.1 e j := fun e j z1 z2 => by rw [e18, wI_ne _ _ _ _ _ _ (by omega), e15, wI_ne _ _ _ _ _ _ (by omega)]
      have sv : (a6 + Int32.ofInt 1).toInt = ((i + 1 : Nat) : Int) := by rw [ti_add (by rw [h6, lo1]; omega) (by rw [h6, lo1]; omega), h6, lo1]; omega
      obtain ⟨q, hq⟩ : ∃ q, ix (X.1 10 (ix f + i)) = q := ⟨_, rfl⟩
      have r13 : X18.1 10 (ix x13) = X.1 10 (ix f + i) := by rw [x13i, k18 10 _ (by omega) (by omega)]; exact hr 10 _ (by omega)
      -- what is left, from the state W where row 8 is up to date
      have step : ∀ (W : St) (v : Int32), (∀ e j, ¬ e = 8 → W.1 e j = X18.1 e j) → (∀ j, ¬ j = K → W.1 8 j = X18.1 8 j) → (¬ q = K → ((W.1 8 K).toInt = 0 ↔ (Z.1 8 K).toInt = 0 ∧ (X.1 8 q).toInt = 0)) → (¬ q = K → v = if s.toInt = 5 then (31 : Int32) * a5 + X.1 7 q else a5) → (W.1 8 K = 0 ∨ W.1 8 K = 1) → pw (f_kindOf_315 (f_kindOf_212 M) s f n k4 a6 v W) (fun _ Y => VP X K L0 s f n i a5 (Z.1 8 K) Y) := by
        intro W v w1 w2 w3 w4 w5
        unfold f_kindOf_315
        refine pw_let (pw_mono (ih (i + 1) v _ W sv (by omega) (fun _ => by omega) ⟨fun e j he => ?_, fun k hk => ?_, fun e j he hj => ?_, ?_, fun j hj => ?_, fun j hj => ?_, w5⟩) ?_)
        · rw [w1 e j (by omega), k18 e j (by omega) (by omega)]; exact hr e j he
        · rw [w1 0 k (by omega), k18 0 k (by omega) (by omega)]; exact h0 k hk
        · rcases he with he | he
          · rw [w1 e j (by omega), k18 e j (by omega) (by omega)]
            exact h78 e j (Or.inl he) hj
          · rw [he, w2 j hj, k18 8 j (by omega) (by omega)]
            exact h78 8 j (Or.inr rfl) hj
        · rw [w1 0 15 (by omega), e18, wI_at]; exact v17
        · rw [w1 9 j (by omega), e18, wI_ne _ _ _ _ _ _ (by omega), e15, wI_ne _ _ _ _ _ _ (by omega)]; exact hlo j hj
        · rw [w1 9 _ (by omega), e18, wI_ne _ _ _ _ _ _ (by omega), e15]
          by_cases ej : j = i
          · rw [ej, wI_at]
          · rw [wI_ne _ _ _ _ _ _ (by omega)]
            exact hB j (by omega)
        · rintro r Y ⟨y1, y2⟩
          refine ⟨y1, fun hc => ?_⟩
          have hqK : ¬ q = K := by rw [← hq]; exact hc i (Nat.le_refl _) hin
          obtain ⟨y3, y4⟩ := y2 (fun j h1 h2 => hc j (by omega) h2)
          refine ⟨?_, ?_⟩
          · rw [y3, w4 hqK]
            by_cases z : s.toInt = 5
            · rw [if_pos z, if_pos z, if_pos z, show n.toInt.toNat - i = (n.toInt.toNat - (i + 1)) + 1 from by omega, cvF, hq]
            · rw [if_neg z, if_neg z, if_neg z]
          · rw [y4, w3 hqK]
            constructor
            · rintro ⟨⟨g1, g2⟩, g3⟩
              refine ⟨g1, fun j h1 h2 => ?_⟩
              by_cases ej : j = i
              · rw [ej, hq]; exact g2
              · exact g3 j (by omega) h2
            · rintro ⟨g1, g2⟩
              exact ⟨⟨g1, by rw [← hq]; exact g2 i (Nat.le_refl _) hin⟩, fun j h1 h2 => g2 j (by omega) h2⟩
      have c284 : ∀ (b0 : Int32), (b0 = 0 ∨ b0 = 1) → (¬ q = K → (b0 = 0 ↔ (Z.1 8 K).toInt = 0 ∧ (X.1 8 q).toInt = 0)) → pw (f_kindOf_284 (f_kindOf_212 M) s f n k4 a5 a6 b0 k4 X18) (fun _ Y => VP X K L0 s f n i a5 (Z.1 8 K) Y) := by
        intro b0 hb hb2
        unfold f_kindOf_284
        refine pw_ck (fun _ => pw_eq (fun X20 e20 => ?_))
        rw [hk4] at e20
        have k20 : ∀ e j, ¬ e = 8 → X20.1 e j = X18.1 e j := fun e j he => by rw [e20, wI_ne _ _ _ _ _ _ (by omega)]
        have k20b : ∀ j, ¬ j = K → X20.1 8 j = X18.1 8 j := fun j he => by rw [e20, wI_ne _ _ _ _ _ _ (by omega)]
        have k20c : ¬ q = K → ((X20.1 8 K).toInt = 0 ↔ (Z.1 8 K).toInt = 0 ∧ (X.1 8 q).toInt = 0) := fun z => by
          rw [← hb2 z, e20, wI_at]
          rcases hb with g | g
          · rw [g]; exact ⟨fun _ => rfl, fun _ => nar8_0⟩
          · rw [g]; exact ⟨fun y => absurd y nar8_1, fun y => absurd y (by decide)⟩
        have k20d : X20.1 8 K = 0 ∨ X20.1 8 K = 1 := by
          rw [e20, wI_at]
          rcases hb with g | g
          · rw [g]; exact Or.inl (by decide)
          · rw [g]; exact Or.inr (by decide)
        refine pw_ite (fun z5 => ?_) (fun z5 => step X20 a5 k20 k20b k20c (fun _ => (if_neg z5).symm) k20d)
        rw [← e13]
        refine pw_let (pw_let (pw_ck (fun _ => pw_let (pw_ck (fun _ => pw_let (pw_let (step X20 _ k20 k20b k20c (fun z => ?_) k20d)))))))
        rw [if_pos z5, k20 10 _ (by omega), r13, hq, k20 7 _ (by omega), k18 7 _ (by omega) (by omega), h78 7 q (Or.inl rfl) z]
      rw [hk4]
      refine pw_ck (fun _ => pw_let ?_)
      rw [k18 8 K (by omega) (by omega), ← e13]
      refine pw_ite (fun z0 => ?_) (fun z0 => ?_)
      · refine pw_let (pw_ck (fun _ => pw_let (pw_ck (fun _ => pw_let ?_))))
        rw [r13, hq]
        refine pw_ite (fun z1 => c284 0 (Or.inl rfl) (fun z => ⟨fun _ => ⟨z0, ?_⟩, fun _ => rfl⟩)) (fun z1 => ?_)
        · rw [← h78 8 q (Or.inr rfl) z, ← k18 8 q (by omega) (by omega)]
          exact z1
        · unfold f_kindOf_279
          refine c284 1 (Or.inr rfl) (fun z => ⟨fun y => absurd y (by decide), fun y => absurd y.2 ?_⟩)
          rw [← h78 8 q (Or.inr rfl) z, ← k18 8 q (by omega) (by omega)]
          exact z1
      · unfold f_kindOf_279
        exact c284 1 (Or.inr rfl) (fun z => ⟨fun y => absurd y (by decide), fun y => absurd y.1 z0⟩)
/-- the new kind -/
theorem v_new {K : Nat} (hX : KVa P X) (hK : (X.1 0 13).toInt = (K : Int)) {X9 : St} {x2 : Int32} (h2 : x2.toInt = (K : Int)) (h13 : (X9.1 0 13).toInt = (K : Int) + 1) (h4 : X9.1 4 K = s) (h5 : X9.1 5 K = n) (h6 : X9.1 6 K = X.1 0 15) (hr : ∀ e j, e = 4 ∨ e = 5 ∨ e = 6 → ¬ j = K → X9.1 e j = X.1 e j) (hr2 : ∀ e j, (7 ≤ e ∧ e ≤ 10) ∨ (e = 0 ∧ (j = 14 ∨ j = 15 ∨ j = 16)) → X9.1 e j = X.1 e j) {b0 : Int32} (hb : (s.toInt = 3 ∧ b0 = 1) ∨ (¬ s.toInt = 3 ∧ b0 = 0)) : pw (f_kindOf_168 s f n x2 b0 x2 X9) (fun _ Y => KVa P Y ∧ KXq X Y) := by
  obtain ⟨⟨i13, i15, il, ik⟩, iP⟩ := hX
  have n0 : (X.1 0 15).toInt.toNat = ix (X.1 0 15) := by have := ixc i15; omega
  have go : ∀ (X10 : St) (b : Int32), (∀ e j, ¬ (e = 8 ∧ j = K) → X10.1 e j = X9.1 e j) → ((X10.1 8 K).toInt = 0 ↔ ¬ s.toInt = 3) → (X10.1 8 K = 0 ∨ X10.1 8 K = 1) → ((s.toInt = 4 → 1 ≤ n.toInt) → b = if s.toInt = 4 then (5 : Int32) * X9.1 7 (ix (X9.1 10 (ix f))) + 4 else if s.toInt = 5 then (7 : Int32) + n - 1 else s) → pw (f_kindOf_207 s f n x2 b X10) (fun _ Y => KVa P Y ∧ KXq X Y) := by
    intro X10 b h10 h10k h10z hbv
    unfold f_kindOf_207
    refine pw_mono (v_fill (X := X10) (K := K) (L0 := (X.1 0 15).toInt) (ixn h2) i15 BIG 0 b 0 X10 (by decide) (Nat.zero_le _) (fun z => absurd z (by omega)) ⟨fun _ _ _ => rfl, fun _ _ => rfl, fun _ _ _ _ => rfl, ?_, fun _ _ => rfl, fun j hj => absurd hj (Nat.not_lt_zero _), h10z⟩) ?_
    · rw [h10 0 15 (by omega), hr2 0 15 (by omega)]
      omega
    rintro r Y ⟨⟨y4, y0, y7, y15, ylo, yB, y8K⟩, yk⟩
    have old : ∀ e j, e = 4 ∨ e = 5 ∨ e = 6 ∨ e = 7 ∨ e = 8 → ¬ j = K → Y.1 e j = X.1 e j := by
      intro e j he hj
      by_cases z : e = 7 ∨ e = 8
      · rw [y7 e j z hj, h10 e j (by omega)]; exact hr2 e j (by omega)
      · rw [y4 e j (by omega), h10 e j (by omega)]; exact hr e j (by omega) hj
    have y13 : (Y.1 0 13).toInt = (K : Int) + 1 := by rw [y0 13 (by omega), h10 0 13 (by omega)]; exact h13
    have y14 : Y.1 0 14 = X.1 0 14 := by rw [y0 14 (by omega), h10 0 14 (by omega)]; exact hr2 0 14 (by omega)
    have y16 : Y.1 0 16 = X.1 0 16 := by rw [y0 16 (by omega), h10 0 16 (by omega)]; exact hr2 0 16 (by omega)
    have n4 : Y.1 4 K = s := by rw [y4 4 K (by omega), h10 4 K (by omega)]; exact h4
    have n5 : Y.1 5 K = n := by rw [y4 5 K (by omega), h10 5 K (by omega)]; exact h5
    have n6 : Y.1 6 K = X.1 0 15 := by rw [y4 6 K (by omega), h10 6 K (by omega)]; exact h6
    have x10 : ∀ j, X10.1 10 j = X9.1 10 j := fun j => h10 10 j (by omega)
    have y9 : ∀ j : Nat, (j : Int) < (X.1 0 15).toInt → Y.1 9 j = X.1 9 j := fun j hj => by rw [ylo j hj, h10 9 j (by omega)]; exact hr2 9 j (by omega)
    have nl : ∀ j : Nat, (j : Int) < n.toInt → kls Y K j = ix (X10.1 10 (ix f + j)) := fun j hj => by
      unfold kls
      rw [n6, ← n0, yB j (by omega)]
    have ol : ∀ k : Nat, k < K → ∀ i : Nat, (i : Int) < (X.1 5 k).toInt → kls Y k i = kls X k i := fun k hk i hi => by
      obtain ⟨a, b⟩ := il k (by omega) i hi
      have := ixc a
      unfold kls
      rw [old 6 k (by omega) (by omega), y9 _ (by omega)]
    refine ⟨⟨⟨by omega, by omega, fun k hk i hi => ?_, fun k hk g1 g2 => ?_⟩, fun hP => ?_⟩, by omega, by omega, fun k hk => ⟨old 4 k (by omega) (by omega), old 5 k (by omega) (by omega), old 6 k (by omega) (by omega)⟩, y9⟩
    · by_cases ek : k = K
      · rw [ek, n5] at hi
        rw [ek, n6, y15]
        omega
      · rw [old 5 k (by omega) ek] at hi
        rw [old 6 k (by omega) ek, y15]
        have := il k (by omega) i hi
        omega
    · by_cases ek : k = K
      · rw [ek] at g1 g2 ⊢
        rw [n4, n5] at g1
        rw [n5] at g2
        have nK : ∀ j : Nat, (j : Int) < n.toInt → ¬ ix (X10.1 10 (ix f + j)) = K := fun j hj => by
          have := g2 j hj
          rw [nl j hj] at this
          omega
        obtain ⟨z1, z2⟩ := yk (fun j _ hj => nK j (by omega))
        rw [n4, n5]
        have hv := hbv g1
        refine ⟨?_, ?_, y8K⟩
        · rw [z1, hv]
          unfold cv0
          by_cases z4 : s.toInt = 4
          · have := g1 z4
            have nk0 := nK 0 (by omega)
            rw [Nat.add_zero] at nk0
            rw [if_pos z4, if_pos z4, if_neg (by omega), nl 0 (by omega), Nat.add_zero, y7 7 _ (Or.inl rfl) nk0, h10 7 _ (by omega), x10]
          · rw [if_neg z4, if_neg z4]
            by_cases z5 : s.toInt = 5
            · rw [if_pos z5, if_pos z5, if_pos z5, Nat.sub_zero]
              exact (cvF.cg (X := X10) (Y := Y) _ _ _ (fun i _ hi => ⟨nl i (by omega), y7 7 _ (Or.inl rfl) (nK i (by omega))⟩)).symm
            · rw [if_neg z5, if_neg z5, if_neg z5]
        · rw [z2, h10k]
          constructor
          · rintro ⟨u1, u2⟩
            refine ⟨u1, fun i hi => ?_⟩
            rw [nl i hi, y7 8 _ (Or.inr rfl) (nK i hi)]
            exact u2 i (Nat.zero_le _) (by omega)
          · rintro ⟨u1, u2⟩
            refine ⟨u1, fun i _ hi => ?_⟩
            have := u2 i (by omega)
            rw [nl i (by omega), y7 8 _ (Or.inr rfl) (nK i (by omega))] at this
            exact this
      · rw [old 4 k (by omega) ek, old 5 k (by omega) ek] at g1
        rw [old 5 k (by omega) ek] at g2
        have g3 : ∀ i : Nat, (i : Int) < (X.1 5 k).toInt → kls X k i < k := fun i hi => by
          have := g2 i hi
          rw [ol k (by omega) i hi] at this
          exact this
        have og : ∀ e (i : Nat), e = 7 ∨ e = 8 → (i : Int) < (X.1 5 k).toInt → Y.1 e (kls X k i) = X.1 e (kls X k i) := fun e i he hi => old e _ (by omega) (by have := g3 i hi; omega)
        obtain ⟨z1, z2, z3⟩ := ik k (by omega) g1 g3
        rw [old 4 k (by omega) ek, old 5 k (by omega) ek, old 7 k (by omega) ek, old 8 k (by omega) ek]
        refine ⟨?_, ?_, z3⟩
        · rw [z1]
          unfold cv0
          by_cases z4 : (X.1 4 k).toInt = 4
          · have := g1 z4
            rw [if_pos z4, if_pos z4, ol k (by omega) 0 (by omega), og 7 0 (Or.inl rfl) (by omega)]
          · rw [if_neg z4, if_neg z4]
            by_cases z5 : (X.1 4 k).toInt = 5
            · rw [if_pos z5, if_pos z5]
              exact (cvF.cg (X := X) (Y := Y) _ _ _ (fun i _ hi => ⟨ol k (by omega) i (by omega), og 7 i (Or.inl rfl) (by omega)⟩)).symm
            · rw [if_neg z5, if_neg z5]
        · rw [z2]
          constructor
          · rintro ⟨u1, u2⟩
            exact ⟨u1, fun i hi => by rw [ol k (by omega) i hi, og 8 i (Or.inr rfl) hi]; exact u2 i hi⟩
          · rintro ⟨u1, u2⟩
            refine ⟨u1, fun i hi => ?_⟩
            have := u2 i hi
            rw [ol k (by omega) i hi, og 8 i (Or.inr rfl) hi] at this
            exact this
    · obtain ⟨p1, p2, p3, p4, p5⟩ := iP hP
      rw [y14, y16]
      refine ⟨p1, by omega, p3, by omega, fun k hk i hi => ?_⟩
      rw [old 5 k (by omega) (by omega)] at hi
      rw [old 6 k (by omega) (by omega)]
      exact p5 k hk i hi
  unfold f_kindOf_168
  refine pw_ck (fun _ => pw_eq (fun X10 e10 => ?_))
  rw [ixn h2] at e10
  have k10 : ∀ e j, ¬ (e = 8 ∧ j = K) → X10.1 e j = X9.1 e j := fun e j he => by rw [e10, wI_ne _ _ _ _ _ _ (by omega)]
  have k10k : (X10.1 8 K).toInt = 0 ↔ ¬ s.toInt = 3 := by
    rw [e10, wI_at]
    rcases hb with ⟨g1, g2⟩ | ⟨g1, g2⟩
    · rw [g2]; exact ⟨fun y => absurd y nar8_1, fun y => absurd g1 y⟩
    · rw [g2]; exact ⟨fun _ => g1, fun _ => nar8_0⟩
  have k10z : X10.1 8 K = 0 ∨ X10.1 8 K = 1 := by
    rw [e10, wI_at]
    rcases hb with ⟨_, g2⟩ | ⟨_, g2⟩
    · rw [g2]; exact Or.inr (by decide)
    · rw [g2]; exact Or.inl (by decide)
  refine pw_ite (fun z4 => ?_) (fun z4 => pw_ite (fun z5 => ?_) (fun z5 => go X10 _ k10 k10k k10z (fun _ => by rw [if_neg z4, if_neg z5])))
  · refine pw_ck (fun _ => pw_let (pw_ck (fun _ => pw_eq (fun x33 e33 => pw_let (pw_let (go X10 _ k10 k10k k10z (fun g => ?_)))))))
    rw [if_pos z4, e33, k10 10 _ (by omega)]
    by_cases z : ix (X9.1 10 (ix f)) = K
    · rw [k10 7 _ (by omega)]
    · rw [k10 7 _ (by omega)]
  · exact pw_let (pw_let (go X10 _ k10 k10k k10z (fun _ => by rw [if_neg z4, if_pos z5])))
theorem v_kof2 (h : KVa P X) : pw (f_kindOf s f n X) (fun _ Y => KVa P Y ∧ KXq X Y) := by
  have l1 : (1 : Int32).toInt = 1 := by decide
  have main : ∀ (M : Nat) (a4 : Int32), pw (f_kindOf_3 M s f n a4 X) (fun _ Y => KVa P Y ∧ KXq X Y) := by
    intro M
    induction M with
    | zero => exact fun _ => pw_none
    | succ M ih =>
      intro a4
      have eu : f_kindOf_3 (M + 1) = f_kindOf_3_s (f_kindOf_3 M) := by
        unfold f_kindOf_3
        exact lp_succ _ _ _
      rw [eu]
      unfold f_kindOf_3_s
      have c95 : ∀ a5 : Int32, pw (f_kindOf_95 (f_kindOf_3 M) s f n a4 a5 X) (fun _ Y => KVa P Y ∧ KXq X Y) := by
        intro a5
        unfold f_kindOf_95
        exact pw_ite (fun _ => pw_let (ih _)) (fun _ => pw_ret ⟨h, KXq.rf⟩)
      have c44 : ∀ (M1 : Nat) (a5 a6 : Int32), pw (f_kindOf_44 (f_kindOf_3 M) M1 s f n a4 a5 a6 X) (fun _ Y => KVa P Y ∧ KXq X Y) := by
        intro M1
        induction M1 with
        | zero => exact fun _ _ => pw_none
        | succ M1 ih1 =>
          intro a5 a6
          have e1 : f_kindOf_44 (f_kindOf_3 M) (M1 + 1) = f_kindOf_44_s (f_kindOf_3 M) (f_kindOf_44 (f_kindOf_3 M) M1) := by
            unfold f_kindOf_44
            exact lp_succ _ _ _
          rw [e1]
          unfold f_kindOf_44_s f_kindOf_87
          refine pw_ite (fun _ => c95 a5) (fun _ => pw_ite (fun _ => c95 a5) (fun _ => pw_ck (fun _ => pw_let (pw_let (pw_ck (fun _ => pw_let (pw_let (pw_ck (fun _ => pw_let ?_)))))))))
          exact pw_ite (fun _ => pw_let (ih1 _ _)) (fun _ => pw_let (ih1 _ _))
      have c38 : pw (f_kindOf_38 (f_kindOf_3 M) s f n a4 X) (fun _ Y => KVa P Y ∧ KXq X Y) := by
        unfold f_kindOf_38 f_kindOf_39
        exact c44 BIG _ _
      refine pw_let (pw_ite (fun c => ?_) (fun c => pw_ck (fun _ => pw_let (pw_ite (fun _ => pw_ck (fun _ => pw_let (pw_ite (fun _ => ?_) (fun _ => c38)))) (fun _ => c38)))))
      · obtain ⟨K, hK⟩ : ∃ K : Nat, (X.1 0 13).toInt = (K : Int) := ⟨ix (X.1 0 13), (ixc h.1.1).symm⟩
        refine pw_let (pw_let (pw_eq (fun x4 e4 => pw_eq (fun X5 e5 => ?_))))
        rw [ixn hK]
        refine pw_ck (fun hc => pw_eq (fun X6 e6 => pw_ck (fun _ => pw_eq (fun X7 e7 => pw_let (pw_ck (fun _ => pw_eq (fun X9 e9 => ?_)))))))
        have hb := hc.2
        have v4 : x4.toInt = (K : Int) + 1 := by rw [e4, ti_add (by rw [hK, l1]; omega) (by rw [hK, l1]; omega), hK, l1]
        have c15 : X7.1 0 15 = X.1 0 15 := by rw [e7, wI_ne _ _ _ _ _ _ (by omega), e6, wI_ne _ _ _ _ _ _ (by omega), e5, wI_ne _ _ _ _ _ _ (by omega)]
        have hh : ∀ b0 : Int32, (s.toInt = 3 ∧ b0 = 1) ∨ (¬ s.toInt = 3 ∧ b0 = 0) → pw (f_kindOf_168 s f n (X.1 0 13) b0 (X.1 0 13) X9) (fun _ Y => KVa P Y ∧ KXq X Y) := by
          intro b0 hb0
          refine v_new h hK hK ?_ ?_ ?_ ?_ (fun e j he hj => ?_) (fun e j he => ?_) hb0
          · rw [e9, wI_ne _ _ _ _ _ _ (by omega), e7, wI_ne _ _ _ _ _ _ (by omega), e6, wI_ne _ _ _ _ _ _ (by omega), e5, wI_at]; exact v4
          · rw [e9, wI_ne _ _ _ _ _ _ (by omega), e7, wI_ne _ _ _ _ _ _ (by omega), e6, wI_at]
          · rw [e9, wI_ne _ _ _ _ _ _ (by omega), e7, wI_at]
          · rw [e9, wI_at, c15]
          · rw [e9, wI_ne _ _ _ _ _ _ (by omega), e7, wI_ne _ _ _ _ _ _ (by omega), e6, wI_ne _ _ _ _ _ _ (by omega), e5, wI_ne _ _ _ _ _ _ (by omega)]
          · rw [e9, wI_ne _ _ _ _ _ _ (by omega), e7, wI_ne _ _ _ _ _ _ (by omega), e6, wI_ne _ _ _ _ _ _ (by omega), e5, wI_ne _ _ _ _ _ _ (by omega)]
        exact pw_ite (fun z => hh 1 (Or.inl ⟨z, rfl⟩)) (fun z => hh 0 (Or.inr ⟨z, rfl⟩))
      · unfold f_kindOf_39
        exact c44 BIG _ _
  exact main BIG 0
theorem v_kof (h : KVa P X) : pw (f_kindOf s f n X) (fun _ Y => KVa P Y) := pw_mono (v_kof2 h) (fun _ _ z => z.1)
/-- what doesn't touch the table -/
theorem KVa.cg (h : KVa P X) (g : ∀ e j, (e = 0 ∧ 13 ≤ j ∧ j ≤ 16) ∨ (4 ≤ e ∧ e ≤ 9) → Y.1 e j = X.1 e j) : KVa P Y := by
  obtain ⟨⟨a, b, c, d⟩, p⟩ := h
  have e13 := g 0 13 (by omega)
  have e14 := g 0 14 (by omega)
  have e15 := g 0 15 (by omega)
  have e16 := g 0 16 (by omega)
  have kl : ∀ k i, kls Y k i = kls X k i := fun k i => by unfold kls; rw [g 6 k (by omega), g 9 _ (by omega)]
  refine ⟨⟨by rw [e13]; exact a, by rw [e15]; exact b, ?_, ?_⟩, fun hP => ?_⟩
  · rw [e13, e15]
    exact fun k hk i hi => by rw [g 5 k (by omega)] at hi; rw [g 6 k (by omega)]; exact c k hk i hi
  · rw [e13]
    intro k hk g1 g2
    rw [g 4 k (by omega), g 5 k (by omega)] at g1
    rw [g 5 k (by omega)] at g2
    obtain ⟨z1, z2, z3⟩ := d k hk g1 (fun i hi => by have := g2 i hi; rw [kl] at this; exact this)
    rw [g 4 k (by omega), g 5 k (by omega), g 7 k (by omega), g 8 k (by omega), z1, z2]
    refine ⟨?_, ?_, z3⟩
    · unfold cv0
      rw [kl, g 7 _ (by omega), cvF.cg (X := X) (Y := Y) (g := kls X k) (g1 := kls Y k) _ _ _ (fun i _ _ => ⟨kl k i, g 7 _ (by omega)⟩)]
    · have q : ∀ i, Y.1 8 (kls Y k i) = X.1 8 (kls X k i) := fun i => by rw [kl, g 8 _ (by omega)]
      exact ⟨fun u => ⟨u.1, fun i hi => by rw [q]; exact u.2 i hi⟩, fun u => ⟨u.1, fun i hi => by rw [← q]; exact u.2 i hi⟩⟩
  · rw [e13, e14, e15, e16]
    obtain ⟨p1, p2, p3, p4, p5⟩ := p hP
    exact ⟨p1, p2, p3, p4, fun k hk i hi => by rw [g 5 k (by omega)] at hi; rw [g 6 k (by omega)]; exact p5 k hk i hi⟩
theorem KVa_w (h : KVa P X) (hk : ¬ ((e = 0 ∧ 13 ≤ k ∧ k ≤ 16) ∨ (4 ≤ e ∧ e ≤ 9))) : KVa P (_root_.Jvm.Pilot.CBlameCourtLaw_law_r8381_f30dd1.wI X e k v) := h.cg (fun e1 j q => wI_ne _ _ _ _ _ _ (by omega))
/-- the table made anew -/
theorem v_kinds : pw (f_kinds (0 : Int32) X) (fun _ Y => KVa False Y) := by
  unfold f_kinds
  refine pw_eq (fun X1 e1 => pw_eq (fun X2 e2 => ?_))
  have l0 : (0 : Int32).toInt = 0 := by decide
  have c13 : (X2.1 0 13).toInt = 0 := by rw [e2, wI_ne _ _ _ _ _ _ (by omega), e1, wI_at]; exact l0
  have c15 : (X2.1 0 15).toInt = 0 := by rw [e2, wI_at]; exact l0
  have h2 : KVa False X2 := ⟨⟨by omega, by omega, fun k hk => absurd hk (by omega), fun k hk => absurd hk (by omega)⟩, fun z => z.elim⟩
  exact pw_bd (v_kof h2) (fun _ _ h4 => pw_bd (v_kof h4) (fun _ _ h6 => pw_bd (v_kof h6) (fun _ _ h8 => pw_ret h8)))
/-- reading ends: the text's kinds -/
theorem v_reads167 (h : KVa False X) : pw (f_reads_167 X) (fun _ Y => KVa True Y) := by
  unfold f_reads_167
  refine pw_eq (fun x18 e18 => pw_eq (fun X19 e19 => pw_eq (fun x20 e20 => pw_eq (fun X21 e21 => pw_ret ?_))))
  have r : ∀ e j, ¬ (e = 0 ∧ (j = 14 ∨ j = 16)) → X21.1 e j = X.1 e j := fun e j z => by rw [e21, wI_ne _ _ _ _ _ _ (by omega), e19, wI_ne _ _ _ _ _ _ (by omega)]
  have c14 : X21.1 0 14 = X.1 0 13 := by rw [e21, wI_ne _ _ _ _ _ _ (by omega), e19, wI_at, e18]
  have c16 : X21.1 0 16 = X.1 0 15 := by rw [e21, wI_at, e20, e19, wI_ne _ _ _ _ _ _ (by omega)]
  obtain ⟨⟨a, b, c, d⟩, -⟩ := h
  have kl : ∀ k i, kls X21 k i = kls X k i := fun k i => by unfold kls; rw [r 6 k (by omega), r 9 _ (by omega)]
  have kL : KVl X21 (X.1 0 13).toInt (X.1 0 15).toInt := fun k hk i hi => by rw [r 5 k (by omega)] at hi; rw [r 6 k (by omega)]; exact c k hk i hi
  refine ⟨⟨by rw [r 0 13 (by omega)]; exact a, by rw [r 0 15 (by omega)]; exact b, by rw [r 0 13 (by omega), r 0 15 (by omega)]; exact kL, ?_⟩, fun _ => ?_⟩
  · rw [r 0 13 (by omega)]
    intro k hk g1 g2
    rw [r 4 k (by omega), r 5 k (by omega)] at g1
    rw [r 5 k (by omega)] at g2
    obtain ⟨z1, z2, z3⟩ := d k hk g1 (fun i hi => by have := g2 i hi; rw [kl] at this; exact this)
    rw [r 4 k (by omega), r 5 k (by omega), r 7 k (by omega), r 8 k (by omega), z1, z2]
    refine ⟨?_, ?_, z3⟩
    · unfold cv0
      rw [kl, r 7 _ (by omega), cvF.cg (X := X) (Y := X21) (g := kls X k) (g1 := kls X21 k) _ _ _ (fun i _ _ => ⟨kl k i, r 7 _ (by omega)⟩)]
    · have q : ∀ i, X21.1 8 (kls X21 k i) = X.1 8 (kls X k i) := fun i => by rw [kl, r 8 _ (by omega)]
      exact ⟨fun u => ⟨u.1, fun i hi => by rw [q]; exact u.2 i hi⟩, fun u => ⟨u.1, fun i hi => by rw [← q]; exact u.2 i hi⟩⟩
  · rw [c14, c16, r 0 13 (by omega), r 0 15 (by omega)]
    exact ⟨a, Int.le_refl _, b, Int.le_refl _, kL⟩
/-- the text's kinds alone -/
theorem KVa.tx (h : KVa True X) (r : ∀ e j, ¬ (e = 0 ∧ (j = 13 ∨ j = 15)) → (e = 0 ∧ 13 ≤ j ∧ j ≤ 16) ∨ (4 ≤ e ∧ e ≤ 9) → Y.1 e j = X.1 e j) (h13 : Y.1 0 13 = X.1 0 14) (h15 : Y.1 0 15 = X.1 0 16) : KVa True Y := by
  obtain ⟨⟨a, b, c, d⟩, p⟩ := h
  obtain ⟨p1, p2, p3, p4, p5⟩ := p trivial
  have kl : ∀ k i, kls Y k i = kls X k i := fun k i => by unfold kls; rw [r 6 k (by omega) (by omega), r 9 _ (by omega) (by omega)]
  have kL : KVl Y (X.1 0 14).toInt (X.1 0 16).toInt := fun k hk i hi => by rw [r 5 k (by omega) (by omega)] at hi; rw [r 6 k (by omega) (by omega)]; exact p5 k hk i hi
  refine ⟨⟨by rw [h13]; exact p1, by rw [h15]; exact p3, by rw [h13, h15]; exact kL, ?_⟩, fun _ => ?_⟩
  · rw [h13]
    intro k hk g1 g2
    rw [r 4 k (by omega) (by omega), r 5 k (by omega) (by omega)] at g1
    rw [r 5 k (by omega) (by omega)] at g2
    obtain ⟨z1, z2, z3⟩ := d k (by omega) g1 (fun i hi => by have := g2 i hi; rw [kl] at this; exact this)
    rw [r 4 k (by omega) (by omega), r 5 k (by omega) (by omega), r 7 k (by omega) (by omega), r 8 k (by omega) (by omega), z1, z2]
    refine ⟨?_, ?_, z3⟩
    · unfold cv0
      rw [kl, r 7 _ (by omega) (by omega), cvF.cg (X := X) (Y := Y) (g := kls X k) (g1 := kls Y k) _ _ _ (fun i _ _ => ⟨kl k i, r 7 _ (by omega) (by omega)⟩)]
    · have q : ∀ i, Y.1 8 (kls Y k i) = X.1 8 (kls X k i) := fun i => by rw [kl, r 8 _ (by omega) (by omega)]
      exact ⟨fun u => ⟨u.1, fun i hi => by rw [q]; exact u.2 i hi⟩, fun u => ⟨u.1, fun i hi => by rw [← q]; exact u.2 i hi⟩⟩
  · rw [h13, h15, r 0 14 (by omega) (by omega), r 0 16 (by omega) (by omega)]
    exact ⟨p1, Int.le_refl _, p3, Int.le_refl _, kL⟩
end KV8
