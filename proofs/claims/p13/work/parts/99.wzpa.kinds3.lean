/-! the plain kinds are told first -/
section KINDS3
variable {X : St}
theorem x_k3 {a : Int32} {K : Nat} (ha : ¬ a.toInt = 4 ∧ ¬ a.toInt = 5) (hK : (X.1 0 13).toInt = (K : Int)) (hK3 : K ≤ 3) (hno : ∀ i : Nat, i < K → ¬ (X.1 4 i).toInt = a.toInt) : pw (f_kindOf a 0 0 X) (fun _ Y => (Y.1 0 13).toInt = (K : Int) + 1 ∧ Y.1 4 K = a ∧ (Y.1 5 K).toInt = 0 ∧ ∀ i : Nat, i < K → Y.1 4 i = X.1 4 i ∧ Y.1 5 i = X.1 5 i) := by
  have l1 : (1 : Int32).toInt = 1 := by decide
  have lo1 : (Int32.ofInt 1).toInt = 1 := by decide
  have l0 : (0 : Int32).toInt = 0 := by decide
  unfold f_kindOf f_kindOf_3
  have loop : ∀ M, ∀ (a1 a2 a3 a4 : Int32) (i : Nat), a1 = a → a3 = 0 → a4.toInt = (i : Int) → i ≤ K → pw (lp (fun _ _ _ _ _ => none) f_kindOf_3_s M a1 a2 a3 a4 X) (fun _ Y => (Y.1 0 13).toInt = (K : Int) + 1 ∧ Y.1 4 K = a ∧ (Y.1 5 K).toInt = 0 ∧ ∀ i : Nat, i < K → Y.1 4 i = X.1 4 i ∧ Y.1 5 i = X.1 5 i) := by
    intro M
    refine lp_ind (P := fun (r : Int32 → Int32 → Int32 → Int32 → St → Option (Int32 × St)) => ∀ (a1 a2 a3 a4 : Int32) (i : Nat), a1 = a → a3 = 0 → a4.toInt = (i : Int) → i ≤ K → pw (r a1 a2 a3 a4 X) (fun _ Y => (Y.1 0 13).toInt = (K : Int) + 1 ∧ Y.1 4 K = a ∧ (Y.1 5 K).toInt = 0 ∧ ∀ i : Nat, i < K → Y.1 4 i = X.1 4 i ∧ Y.1 5 i = X.1 5 i)) (fun _ _ _ _ _ _ _ _ _ => pw_none) (fun r ih a1 a2 a3 a4 i h1 h3 h4 hi => ?_) M
    unfold f_kindOf_3_s
    refine pw_let (pw_ite (fun c => ?_) (fun c => ?_))
    · refine pw_let (pw_let (pw_eq (fun x4 e4 => pw_eq (fun X5 e5 => ?_))))
      rw [ixn hK]
      have v4 : x4.toInt = (K : Int) + 1 := by rw [e4, ti_add (by rw [hK, l1]; omega) (by rw [hK, l1]; omega), hK, l1]
      refine pw_ck (fun _ => pw_eq (fun X6 e6 => pw_ck (fun _ => pw_eq (fun X7 e7 => pw_let (pw_ck (fun _ => pw_eq (fun X9 e9 => ?_)))))))
      have tail : ∀ b : Int32, pw (f_kindOf_168 a1 a2 a3 (X.1 0 13) b (X.1 0 13) X9) (fun _ Y => (Y.1 0 13).toInt = (K : Int) + 1 ∧ Y.1 4 K = a ∧ (Y.1 5 K).toInt = 0 ∧ ∀ i : Nat, i < K → Y.1 4 i = X.1 4 i ∧ Y.1 5 i = X.1 5 i) := by
        intro b
        unfold f_kindOf_168
        rw [ixn hK]
        refine pw_ck (fun _ => pw_eq (fun X10 e10 => pw_neg (by rw [h1]; exact ha.1) (pw_neg (by rw [h1]; exact ha.2) ?_)))
        unfold f_kindOf_207 f_kindOf_212
        refine lp_ind (P := fun (r : Int32 → Int32 → Int32 → Int32 → Int32 → Int32 → St → Option (Int32 × St)) => pw (r a1 a2 a3 (X.1 0 13) a1 0 X10) (fun _ Y => (Y.1 0 13).toInt = (K : Int) + 1 ∧ Y.1 4 K = a ∧ (Y.1 5 K).toInt = 0 ∧ ∀ i : Nat, i < K → Y.1 4 i = X.1 4 i ∧ Y.1 5 i = X.1 5 i)) pw_none (fun r _ => ?_) BIG
        unfold f_kindOf_212_s
        refine pw_pos (by rw [h3]; exact Int.le_refl _) ?_
        rw [ixn hK]
        refine pw_ck (fun _ => pw_eq (fun X11 e11 => pw_ret ⟨?_, ?_, ?_, fun k hk => ⟨?_, ?_⟩⟩))
        · rw [e11, wI_ne _ _ _ _ _ _ (by omega), e10, wI_ne _ _ _ _ _ _ (by omega), e9, wI_ne _ _ _ _ _ _ (by omega), e7, wI_ne _ _ _ _ _ _ (by omega), e6, wI_ne _ _ _ _ _ _ (by omega), e5, wI_at]
          exact v4
        · rw [e11, wI_ne _ _ _ _ _ _ (by omega), e10, wI_ne _ _ _ _ _ _ (by omega), e9, wI_ne _ _ _ _ _ _ (by omega), e7, wI_ne _ _ _ _ _ _ (by omega), e6, wI_at]
          exact h1
        · rw [e11, wI_ne _ _ _ _ _ _ (by omega), e10, wI_ne _ _ _ _ _ _ (by omega), e9, wI_ne _ _ _ _ _ _ (by omega), e7, wI_at, h3]
          exact l0
        · rw [e11, wI_ne _ _ _ _ _ _ (by omega), e10, wI_ne _ _ _ _ _ _ (by omega), e9, wI_ne _ _ _ _ _ _ (by omega), e7, wI_ne _ _ _ _ _ _ (by omega), e6, wI_ne _ _ _ _ _ _ (by omega), e5, wI_ne _ _ _ _ _ _ (by omega)]
        · rw [e11, wI_ne _ _ _ _ _ _ (by omega), e10, wI_ne _ _ _ _ _ _ (by omega), e9, wI_ne _ _ _ _ _ _ (by omega), e7, wI_ne _ _ _ _ _ _ (by omega), e6, wI_ne _ _ _ _ _ _ (by omega), e5, wI_ne _ _ _ _ _ _ (by omega)]
      exact pw_ite (fun _ => tail 1) (fun _ => tail 0)
    · have hi1 : i < K := by omega
      rw [ixn h4]
      refine pw_ck (fun _ => pw_let (pw_neg (by rw [h1]; exact hno i hi1) ?_))
      unfold f_kindOf_38 f_kindOf_39 f_kindOf_44
      refine lp_ind (P := fun (r2 : Int32 → Int32 → Int32 → Int32 → Int32 → Int32 → St → Option (Int32 × St)) => pw (r2 a1 a2 a3 a4 0 0 X) (fun _ Y => (Y.1 0 13).toInt = (K : Int) + 1 ∧ Y.1 4 K = a ∧ (Y.1 5 K).toInt = 0 ∧ ∀ i : Nat, i < K → Y.1 4 i = X.1 4 i ∧ Y.1 5 i = X.1 5 i)) pw_none (fun r2 _ => ?_) BIG
      unfold f_kindOf_44_s
      refine pw_pos (by rw [h3]; exact Int.le_refl _) ?_
      unfold f_kindOf_95
      refine pw_pos l0 (pw_let (ih a1 a2 a3 _ (i + 1) h1 h3 ?_ (by omega)))
      rw [ti_add (by rw [h4, lo1]; omega) (by rw [h4, lo1]; omega), h4, lo1]
      omega
  exact loop BIG a 0 0 0 0 rfl rfl l0 (Nat.zero_le _)
/-- kinds() from nothing -/
theorem x_kinds : pw (f_kinds 0 X) (fun _ Y => KJq Y ∧ KU Y) := by
  have l0 : (0 : Int32).toInt = 0 := by decide
  have l1 : (1 : Int32).toInt = 1 := by decide
  have l2 : (2 : Int32).toInt = 2 := by decide
  have l3 : (3 : Int32).toInt = 3 := by decide
  unfold f_kinds
  refine pw_eq (fun A1 d1 => pw_eq (fun A2 d2 => ?_))
  have c13 : (A2.1 0 13).toInt = 0 := by rw [d2, wI_ne _ _ _ _ _ _ (by omega), d1, wI_at]; exact l0
  have c15 : (A2.1 0 15).toInt = 0 := by rw [d2, wI_at]; exact l0
  have I2 : KIq A2 := ⟨⟨by omega, by omega, by omega⟩, fun k hk => by omega⟩
  have U2 : KU A2 := fun k k1 hk => by omega
  refine pw_bd (pw_and (x_kof I2 (by rw [l0]; omega) (by rw [l0]; omega) (by rw [l0]; omega)) (x_k3 (K := 0) (by rw [l1]; omega) c13 (by omega) (fun i hi => by omega))) ?_
  rintro x3 A4 ⟨⟨_, _, I4, _, U4⟩, n4, a4, b4, _⟩
  refine pw_bd (pw_and (x_kof I4 (by rw [l0]; omega) (by rw [l0]; omega) (by rw [l0]; omega)) (x_k3 (K := 1) (by rw [l2]; omega) (by rw [n4]; rfl) (by omega) (fun i hi => by
    have e : i = 0 := by omega
    rw [e, a4, l1, l2]; omega))) ?_
  rintro x5 A6 ⟨⟨_, _, I6, _, U6⟩, n6, a6, b6, o6⟩
  refine pw_bd (pw_and (x_kof I6 (by rw [l0]; omega) (by rw [l0]; omega) (by rw [l0]; omega)) (x_k3 (K := 2) (by rw [l3]; omega) (by rw [n6]; rfl) (by omega) (fun i hi => by
    by_cases e : i = 0
    · rw [e, (o6 0 (by omega)).1, a4, l1, l3]; omega
    · have e : i = 1 := by omega
      rw [e, a6, l2, l3]; omega))) ?_
  rintro x7 A8 ⟨⟨_, _, I8, _, U8⟩, n8, a8, b8, o8⟩
  refine pw_ret ⟨⟨I8, by rw [n8]; decide, fun i hi => ?_⟩, U8 (U6 (U4 U2))⟩
  by_cases e : i = 0
  · rw [e, (o8 0 (by omega)).1, (o8 0 (by omega)).2, (o6 0 (by omega)).1, (o6 0 (by omega)).2, a4]
    exact ⟨l1, b4⟩
  · by_cases e1 : i = 1
    · rw [e1, (o8 1 (by omega)).1, (o8 1 (by omega)).2, a6]
      exact ⟨l2, b6⟩
    · have e2 : i = 2 := by omega
      rw [e2, a8]
      exact ⟨l3, b8⟩
end KINDS3
