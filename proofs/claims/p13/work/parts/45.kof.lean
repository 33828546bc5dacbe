/-! kinds: what kindOf answers -/
section QL
variable {ρ τ : Type} {Q : Option ρ → Prop} {A B F : Option ρ}
theorem q_ck {c : Prop} [Decidable c] (hc : c) (h : Q F) : Q (chk c F) := by
  show Q (if c then F else none)
  rw [if_pos hc]; exact h
theorem q_ite {c : Prop} [Decidable c] (h1 : c → Q A) (h2 : ¬ c → Q B) : Q (if c then A else B) := by
  by_cases h : c
  · rw [if_pos h]; exact h1 h
  · rw [if_neg h]; exact h2 h
theorem q_let {v : τ} {K : τ → Option ρ} (h : Q (K v)) : Q (letV v K) := h
end QL
def sameK (X : St) (k : Nat) (s f n : Int32) : Prop := X.1 4 k = s ∧ X.1 5 k = n ∧ ∀ i : Nat, (i : Int) < n.toInt → X.1 9 (ix (X.1 6 k) + i) = X.1 10 (ix f + i)
def KS (s n : Int) : Prop := (1 ≤ s ∧ s ≤ 3 ∧ n = 0) ∨ (s = 4 ∧ n = 1) ∨ (s = 5 ∧ 1 ≤ n ∧ n ≤ 5)
def KTk (X : St) (k : Nat) : Prop := 0 ≤ (X.1 6 k).toInt ∧ 0 ≤ (X.1 5 k).toInt ∧ (X.1 6 k).toInt + (X.1 5 k).toInt ≤ (X.1 0 15).toInt ∧ KS (X.1 4 k).toInt (X.1 5 k).toInt ∧ ∀ i : Nat, (i : Int) < (X.1 5 k).toInt → 0 ≤ (X.1 9 (ix (X.1 6 k) + i)).toInt ∧ (X.1 9 (ix (X.1 6 k) + i)).toInt < k
def KT (X : St) : Prop := 0 ≤ (X.1 0 13).toInt ∧ 0 ≤ (X.1 0 15).toInt ∧ ∀ k : Nat, (k : Int) < (X.1 0 13).toInt → KTk X k
theorem ix_add {a b : Int32} {c : Int32} (ha : 0 ≤ a.toInt) (hb : 0 ≤ b.toInt) (h : c.toInt = a.toInt + b.toInt) : ix c = ix a + ix b := by
  have h1 := ixc ha
  have h2 := ixc hb
  have h3 := ixc (z := c) (by omega)
  omega
theorem ix_inj {a b : Int32} (ha : 0 ≤ a.toInt) (hb : 0 ≤ b.toInt) (h : ix a = ix b) : a = b := by
  have h1 := ixc ha
  have h2 := ixc hb
  exact Int32.toInt_inj.mp (by omega)
theorem k_cmp {r3 : Int32 → Int32 → Int32 → Int32 → St → Option (Int32 × St)} {s f n k : Int32} {X : St} {Q : Option (Int32 × St) → Prop} (hk : 0 ≤ k.toInt ∧ k.toInt < 6000) (hF : 0 ≤ (X.1 6 (ix k)).toInt) (hL : (X.1 6 (ix k)).toInt + n.toInt ≤ 20000) (hf : 0 ≤ f.toInt ∧ f.toInt + n.toInt ≤ 3100)
    (hy : (∀ j : Nat, (j : Int) < n.toInt → X.1 9 (ix (X.1 6 (ix k)) + j) = X.1 10 (ix f + j)) → Q (some (k, X))) (hn : (¬ ∀ j : Nat, (j : Int) < n.toInt → X.1 9 (ix (X.1 6 (ix k)) + j) = X.1 10 (ix f + j)) → Q (r3 s f n (k + Int32.ofInt 1) X)) :
    ∀ (m : Nat) (a5 i : Int32), 0 ≤ i.toInt → i.toInt ≤ n.toInt ∨ i.toInt = 0 → (n.toInt - i.toInt).toNat < m → (a5.toInt = 0 → ¬ ∀ j : Nat, (j : Int) < n.toInt → X.1 9 (ix (X.1 6 (ix k)) + j) = X.1 10 (ix f + j)) → (¬ a5.toInt = 0 → ∀ j : Nat, (j : Int) < i.toInt → X.1 9 (ix (X.1 6 (ix k)) + j) = X.1 10 (ix f + j)) → Q (f_kindOf_44 r3 m s f n k a5 i X) := by
  intro m
  unfold f_kindOf_44
  refine lp_indN (P := fun (m : Nat) (r : Int32 → Int32 → Int32 → Int32 → Int32 → Int32 → St → Option (Int32 × St)) => ∀ (a5 i : Int32), 0 ≤ i.toInt → i.toInt ≤ n.toInt ∨ i.toInt = 0 → (n.toInt - i.toInt).toNat < m → (a5.toInt = 0 → ¬ ∀ j : Nat, (j : Int) < n.toInt → X.1 9 (ix (X.1 6 (ix k)) + j) = X.1 10 (ix f + j)) → (¬ a5.toInt = 0 → ∀ j : Nat, (j : Int) < i.toInt → X.1 9 (ix (X.1 6 (ix k)) + j) = X.1 10 (ix f + j)) → Q (r s f n k a5 i X)) ?_ ?_ m
  · intro a5 i _ _ hm; exact absurd hm (Nat.not_lt_zero _)
  · intro m r ih a5 i hi hin hm h0 h1
    unfold f_kindOf_44_s
    refine q_ite (fun c => ?_) (fun c => ?_)
    · unfold f_kindOf_95
      refine q_ite (fun d => ?_) (fun d => ?_)
      · exact hn (h0 d)
      · exact hy (fun j hj => h1 d j (by omega))
    · refine q_ite (fun d => ?_) (fun d => ?_)
      · unfold f_kindOf_95
        refine q_ite (fun _ => hn (h0 d)) (fun d1 => absurd d d1)
      · refine q_ck (show 0 ≤ k.toInt ∧ k.toInt < ((6000 : Nat) : Int) from hk) ?_
        refine q_let ?_
        obtain ⟨x39, e39, hx39⟩ : ∃ x39 : Int32, X.1 6 (ix k) + i = x39 ∧ x39.toInt = (X.1 6 (ix k)).toInt + i.toInt := ⟨_, rfl, ti_add (by omega) (by omega)⟩
        obtain ⟨x41, e41, hx41⟩ : ∃ x41 : Int32, f + i = x41 ∧ x41.toInt = f.toInt + i.toInt := ⟨_, rfl, ti_add (by omega) (by omega)⟩
        rw [e39, e41]
        refine q_let ?_
        refine q_ck (show 0 ≤ x39.toInt ∧ x39.toInt < ((20000 : Nat) : Int) by omega) ?_
        refine q_let (q_let ?_)
        refine q_ck (show 0 ≤ x41.toInt ∧ x41.toInt < ((3100 : Nat) : Int) by omega) ?_
        refine q_let ?_
        have hi39 := ix_add hF hi hx39
        have hi41 := ix_add hf.1 hi hx41
        have hii := ixc hi
        refine q_ite (fun g => ?_) (fun g => ?_)
        · unfold f_kindOf_87
          have g := Int32.toInt_inj.mp g
          obtain ⟨i1, ei1, hi1⟩ : ∃ i1 : Int32, i + Int32.ofInt 1 = i1 ∧ i1.toInt = i.toInt + 1 := ti_inc (by omega) (by decide)
          rw [ei1]
          refine q_let (ih (1 : Int32) i1 (by omega) (Or.inl (by omega)) (by omega) (fun q => absurd q (by decide)) (fun _ j hj => ?_))
          by_cases gj : (j : Int) < i.toInt
          · exact h1 d j gj
          · have : j = ix i := by omega
            subst this
            rw [← hi39, ← hi41]
            exact g
        · unfold f_kindOf_87
          obtain ⟨i1, ei1, hi1⟩ : ∃ i1 : Int32, i + Int32.ofInt 1 = i1 ∧ i1.toInt = i.toInt + 1 := ti_inc (by omega) (by decide)
          rw [ei1]
          refine q_let (ih (0 : Int32) i1 (by omega) (Or.inl (by omega)) (by omega) (fun _ hall => ?_) (fun q => absurd rfl q))
          apply g
          have := hall (ix i) (by omega)
          rw [← hi39, ← hi41] at this
          rw [this]
/-- what kindOf does when no kind is like it -/
noncomputable def kNew (a1 a2 a3 : Int32) (X : St) : Option (Int32 × St) :=
  letV (X.1 0 13) fun x2 =>
  letV (X.1 0 13) fun x3 =>
  letV (x3 + (1 : Int32)) fun x4 =>
  letV (wI X 0 13 x4) fun X5 =>
  chk (inR x2 6000) (letV (wI X5 4 (ix x2) a1) fun X6 =>
  chk (inR x2 6000) (letV (wI X6 5 (ix x2) a3) fun X7 =>
  letV (X7.1 0 15) fun x8 =>
  chk (inR x2 6000) (letV (wI X7 6 (ix x2) x8) fun X9 =>
  if a1.toInt = 3 then
    f_kindOf_168 a1 a2 a3 x2 (1 : Int32) x2 X9
  else
    f_kindOf_168 a1 a2 a3 x2 (0 : Int32) x2 X9)))
theorem k_find {s f n : Int32} {X : St} {Q : Option (Int32 × St) → Prop} (hT : KT X) (hc : (X.1 0 13).toInt ≤ 6000) (hl : (X.1 0 15).toInt ≤ 20000) (hf : 0 ≤ f.toInt ∧ f.toInt + n.toInt ≤ 3100)
    (hy : ∀ k : Int32, 0 ≤ k.toInt → k.toInt < (X.1 0 13).toInt → sameK X (ix k) s f n → (∀ j : Nat, (j : Int) < k.toInt → ¬ sameK X j s f n) → Q (some (k, X))) (hn : (∀ j : Nat, (j : Int) < (X.1 0 13).toInt → ¬ sameK X j s f n) → Q (kNew s f n X)) : Q (f_kindOf s f n X) := by
  unfold f_kindOf
  have key : ∀ (m : Nat) (k : Int32), 0 ≤ k.toInt → k.toInt ≤ (X.1 0 13).toInt → ((X.1 0 13).toInt - k.toInt).toNat < m → (∀ j : Nat, (j : Int) < k.toInt → ¬ sameK X j s f n) → Q (f_kindOf_3 m s f n k X) := by
    intro m
    unfold f_kindOf_3
    refine lp_indN (P := fun (m : Nat) (r : Int32 → Int32 → Int32 → Int32 → St → Option (Int32 × St)) => ∀ (k : Int32), 0 ≤ k.toInt → k.toInt ≤ (X.1 0 13).toInt → ((X.1 0 13).toInt - k.toInt).toNat < m → (∀ j : Nat, (j : Int) < k.toInt → ¬ sameK X j s f n) → Q (r s f n k X)) ?_ ?_ m
    · intro k _ _ hm; exact absurd hm (Nat.not_lt_zero _)
    · intro m r ih k h0 h1 hm hj
      unfold f_kindOf_3_s
      refine q_let ?_
      refine q_ite (fun c => ?_) (fun c => ?_)
      · exact hn (fun j hj1 => hj j (by omega))
      · have hii := ixc h0
        obtain ⟨hk1, hk2, hk3, hk4, hk5⟩ := hT.2.2 (ix k) (by omega)
        have next : (¬ sameK X (ix k) s f n) → Q (r s f n (k + Int32.ofInt 1) X) := by
          intro hs
          obtain ⟨k1, ek1, hk1⟩ : ∃ k1 : Int32, k + Int32.ofInt 1 = k1 ∧ k1.toInt = k.toInt + 1 := ti_inc (by omega) (by decide)
          rw [ek1]
          refine ih k1 (by omega) (by omega) (by omega) (fun j hj1 => ?_)
          by_cases g : (j : Int) < k.toInt
          · exact hj j g
          · have : j = ix k := by omega
            subst this
            exact hs
        have no38 : (¬ sameK X (ix k) s f n) → Q (f_kindOf_38 r s f n k X) := by
          intro hs
          unfold f_kindOf_38 f_kindOf_39
          have hb : (BIG : Nat) = BIG - 1 + 1 := by decide
          unfold f_kindOf_44
          rw [hb]
          refine lp_indN (P := fun (m : Nat) (r4 : Int32 → Int32 → Int32 → Int32 → Int32 → Int32 → St → Option (Int32 × St)) => 0 < m → Q (r4 s f n k (0 : Int32) (0 : Int32) X)) ?_ ?_ (BIG - 1 + 1) (Nat.succ_pos _)
          · intro hm; exact absurd hm (Nat.lt_irrefl 0)
          · intro m r4 _ _
            unfold f_kindOf_44_s f_kindOf_95
            refine q_ite (fun c => ?_) (fun c => ?_)
            · exact q_ite (fun _ => next hs) (fun d => absurd rfl d)
            · refine q_ite (fun _ => ?_) (fun d => absurd rfl d)
              exact q_ite (fun _ => next hs) (fun d => absurd rfl d)
        refine q_ck (show 0 ≤ k.toInt ∧ k.toInt < ((6000 : Nat) : Int) by omega) (q_let ?_)
        refine q_ite (fun d => ?_) (fun d => ?_)
        · have d := Int32.toInt_inj.mp d
          refine q_ck (show 0 ≤ k.toInt ∧ k.toInt < ((6000 : Nat) : Int) by omega) (q_let ?_)
          refine q_ite (fun g => ?_) (fun g => ?_)
          · have g := Int32.toInt_inj.mp g
            unfold f_kindOf_39
            rw [g] at hk3
            refine k_cmp (by omega) hk1 (by omega) hf (fun hall => hy k h0 (by omega) ⟨d, g, hall⟩ hj) (fun hall => next (fun hs => hall hs.2.2)) BIG (1 : Int32) (0 : Int32) (by decide) (Or.inr rfl) (Nat.lt_of_le_of_lt (show (n.toInt - (0 : Int32).toInt).toNat ≤ 3100 by rw [show (0 : Int32).toInt = 0 from rfl]; omega) (by decide)) (fun q => absurd q (by decide)) (fun _ j hj1 => ?_)
            rw [show (0 : Int32).toInt = 0 from rfl] at hj1
            omega
          · exact no38 (fun hs => g (by rw [hs.2.1]))
        · exact no38 (fun hs => d (by rw [hs.1]))
  refine key BIG (0 : Int32) (by decide) hT.1 (Nat.lt_of_le_of_lt (show ((X.1 0 13).toInt - (0 : Int32).toInt).toNat ≤ 6000 by rw [show (0 : Int32).toInt = 0 from rfl]; omega) (by decide)) (fun j hj => ?_)
  rw [show (0 : Int32).toInt = 0 from rfl] at hj
  omega
