/-! a run begins on both sides -/
section BEG
variable {X Y Z V : St} {e i : Nat} {p1 p2 p3 a1 a2 : Int32} {Q : Int32 → St → Prop} {ks : List (List Int)} {po W pst pen : Nat → Nat} {PTs : Nat → Nat → Ty} {nr : Int → Int} {cd : List Ins}
/-- tables are cleared -/
theorem n_72 (h : ∀ V : St, (∀ e k, ¬ e = 80 → V.1 e k = X.1 e k) → (∀ k : Nat, k < 1681 → V.1 80 k = 0) → Fr YR [16000] X V → pw (bnd (f_calls a1 (-1 : Int32) (0 : Int32) V) fun _ X15 => chk (inR a1 41) (letV (X15.1 44 (ix a1)) fun x16 => f_starts_106 BIG x16 X15)) Q) : ∀ (M i : Nat) (a2 : Int32) (Z : St), a2.toInt = (i : Int) → i ≤ 1681 → (∀ e k, ¬ e = 80 → Z.1 e k = X.1 e k) → (∀ k : Nat, k < i → Z.1 80 k = 0) → Fr YR [16000] X Z → pw (f_starts_72 M a1 a2 Z) Q := by
  have lo1 : (Int32.ofInt 1).toInt = 1 := by decide
  intro M
  induction M with
  | zero => exact fun _ _ _ _ _ _ _ _ => pw_none
  | succ M ih =>
    intro i a2 Z h2 hi hz h0 hF
    have eu : f_starts_72 (M + 1) = f_starts_72_s (f_starts_72 M) := by
      unfold f_starts_72
      exact lp_succ _ _ _
    rw [eu]
    unfold f_starts_72_s
    refine pw_ite (fun c => ?_) (fun c => ?_)
    · have ei : i = 1681 := by omega
      rw [ei] at h0
      exact h Z hz h0 hF
    · refine pw_ck (fun _ => pw_eq (fun X27 e27 => pw_let (ih (i + 1) _ X27 ?_ (by omega) (fun e k q => by rw [e27, wI_ne _ _ _ _ _ _ (by omega)]; exact hz e k q) (fun k hk => ?_) ?_)))
      · rw [ti_add (by rw [h2, lo1]; omega) (by rw [h2, lo1]; omega), h2, lo1]; omega
      · rw [ixn h2] at e27
        by_cases q : k = i
        · rw [q, e27, wI_at]
        · rw [e27, wI_ne _ _ _ _ _ _ (by omega)]
          exact h0 k (by omega)
      · rw [e27]
        exact hF.wI 80 _ _ (show (16000 : Nat) ∈ [16000] from by decide)
theorem l_fill87 : pw (g_JArrays_fill 87 (0 : Int32) Y) (fun _ Z => (∀ j k, ¬ j = 87 → Z.1 j k = Y.1 j k) ∧ Z.2 = Y.2 ∧ ∀ k : Nat, k < 1600 → Z.1 87 k = 0) := by
  have lo1 : (Int32.ofInt 1).toInt = 1 := by decide
  have loop : ∀ (M i : Nat) (a2 a3 : Int32) (Z : St), a3.toInt = 1600 → a2.toInt = (i : Int) → i ≤ 1600 → (∀ j k, ¬ j = 87 → Z.1 j k = Y.1 j k) → Z.2 = Y.2 → (∀ k : Nat, k < i → Z.1 87 k = 0) → pw (g_JArrays_fill_5 M 87 (0 : Int32) a2 a3 Z) (fun _ Z => (∀ j k, ¬ j = 87 → Z.1 j k = Y.1 j k) ∧ Z.2 = Y.2 ∧ ∀ k : Nat, k < 1600 → Z.1 87 k = 0) := by
    intro M
    induction M with
    | zero => exact fun _ _ _ _ _ _ _ _ _ _ => pw_none
    | succ M ih =>
      intro i a2 a3 Z h3 h2 hi hz hl h0
      have eu : g_JArrays_fill_5 (M + 1) = g_JArrays_fill_5_s (g_JArrays_fill_5 M) := by
        unfold g_JArrays_fill_5
        exact lp_succ _ _ _
      rw [eu]
      unfold g_JArrays_fill_5_s
      refine pw_ite (fun c => ?_) (fun c => ?_)
      · have ei : i = 1600 := by omega
        rw [ei] at h0
        exact pw_ret ⟨hz, hl, h0⟩
      · refine pw_ck (fun _ => pw_eq (fun X2 e2 => pw_let (ih (i + 1) _ a3 X2 h3 ?_ (by omega) (fun j k q => by rw [e2, wI_ne _ _ _ _ _ _ (by omega)]; exact hz j k q) (by rw [e2]; exact hl) (fun k hk => ?_))))
        · rw [ti_add (by rw [h2, lo1]; omega) (by rw [h2, lo1]; omega), h2, lo1]; omega
        · rw [ixn h2] at e2
          by_cases q : k = i
          · rw [q, e2, wI_at]
          · rw [e2, wI_ne _ _ _ _ _ _ (by omega)]
            exact h0 k (by omega)
  unfold g_JArrays_fill
  refine pw_eq (fun x1 e1 => loop BIG 0 0 x1 Y (by rw [e1]; decide +kernel) (by decide) (by omega) (fun _ _ _ => rfl) rfl (fun k hk => absurd hk (Nat.not_lt_zero _)))
/-- main is called -/
theorem x_callmain (h38 : (X.1 0 38).toInt = 0) (h37 : (X.1 0 37).toInt = 0) (h15 : (X.1 15 (ix p1)).toInt = 0) : pw (f_calls p1 p2 p3 X) (fun _ Y => Fr YR [32, 37, 38, 15200, 15400, 15600] X Y ∧ (∀ e k, ¬ (e = 0 ∧ (k = 32 ∨ k = 37 ∨ k = 38)) → ¬ (76 ≤ e ∧ e ≤ 78) → Y.1 e k = X.1 e k) ∧ (Y.1 0 38).toInt = 1 ∧ (Y.1 0 37).toInt = 1 ∧ (Y.1 0 32).toInt = 0 ∧ (Y.1 76 0).toInt = -1 ∧ Y.1 77 0 = p2) := by
  have l1 : (1 : Int32).toInt = 1 := by decide
  have l45 : (45 : Int32).toInt = 45 := by decide
  unfold f_calls
  refine pw_let (pw_neg (by omega) (pw_eq (fun x2 e2 => pw_eq (fun x3 e3 => pw_eq (fun X4 e4 => pw_eq (fun x5 e5 => pw_ck (fun _ => pw_eq (fun X6 e6 => pw_eq (fun x7 e7 => pw_ck (fun _ => pw_eq (fun X8 e8 => pw_eq (fun x9 e9 => pw_eq (fun x10 e10 => pw_ck (fun _ => pw_eq (fun X11 e11 => pw_eq (fun x12 e12 => pw_eq (fun x13 e13 => pw_eq (fun X14 e14 => pw_eq (fun x15 e15 => pw_eq (fun x16 e16 => pw_eq (fun x17 e17 => pw_eq (fun X18 e18 => pw_ck (fun _ => pw_eq (fun x19 e19 => pw_eq (fun x20 e20 => ?_)))))))))))))))))))))))))
  have v3 : x3.toInt = 1 := by rw [e3, e2, ti_add (by rw [h38, l1]; omega) (by rw [h38, l1]; omega), h38, l1]; rfl
  have f5 : x5 = X.1 0 37 := by rw [e5, e4, wI_ne _ _ _ _ _ _ (by omega)]
  have f7 : x7 = X.1 0 37 := by rw [e7, e6, wI_ne _ _ _ _ _ _ (by omega), e4, wI_ne _ _ _ _ _ _ (by omega)]
  have f9 : x9 = X.1 0 37 := by rw [e9, e8, wI_ne _ _ _ _ _ _ (by omega), e6, wI_ne _ _ _ _ _ _ (by omega), e4, wI_ne _ _ _ _ _ _ (by omega)]
  have i0 : ix (X.1 0 37) = 0 := ixn (by rw [h37]; rfl)
  rw [f5, i0] at e6
  rw [f7, i0] at e8
  rw [f9, i0] at e11
  have r11 : ∀ e k, ¬ (e = 0 ∧ k = 38) → ¬ (76 ≤ e ∧ e ≤ 78) → X11.1 e k = X.1 e k := fun e k z z2 => by rw [e11, wI_ne _ _ _ _ _ _ (by omega), e8, wI_ne _ _ _ _ _ _ (by omega), e6, wI_ne _ _ _ _ _ _ (by omega), e4, wI_ne _ _ _ _ _ _ (by omega)]
  have s38 : X11.1 0 38 = x3 := by rw [e11, wI_ne _ _ _ _ _ _ (by omega), e8, wI_ne _ _ _ _ _ _ (by omega), e6, wI_ne _ _ _ _ _ _ (by omega), e4, wI_at]
  have s15 : x15 = x3 := by rw [e15, e14, wI_ne _ _ _ _ _ _ (by omega), s38]
  have v16 : x16.toInt = 0 := by rw [e16, s15, ti_sub (by rw [v3, l1]; omega) (by rw [v3, l1]; omega), v3, l1]; rfl
  have v17 : x17.toInt = 0 := by rw [e17, ti_mul (by rw [v16, l45]; omega) (by rw [v16, l45]; omega), v16, l45]; rfl
  have v13 : x13.toInt = 1 := by rw [e13, e12, r11 0 37 (by omega) (by omega), ti_add (by rw [h37, l1]; omega) (by rw [h37, l1]; omega), h37, l1]; rfl
  have r18 : ∀ e k, ¬ (e = 0 ∧ (k = 32 ∨ k = 37 ∨ k = 38)) → ¬ (76 ≤ e ∧ e ≤ 78) → X18.1 e k = X.1 e k := fun e k z z2 => by rw [e18, wI_ne _ _ _ _ _ _ (by omega), e14, wI_ne _ _ _ _ _ _ (by omega), r11 e k (by omega) z2]
  have v20 : x20.toInt = -1 := by rw [e20, e19, r18 15 _ (by omega) (by omega), ti_sub (by rw [h15, l1]; omega) (by rw [h15, l1]; omega), h15, l1]; rfl
  obtain ⟨N, hN⟩ : ∃ N, BIG = N + 1 := ⟨BIG - 1, by decide⟩
  have eu : f_calls_92 (N + 1) = f_calls_92_s (f_calls_92 N) := by
    unfold f_calls_92
    exact lp_succ _ _ _
  rw [hN, eu]
  unfold f_calls_92_s
  refine pw_pos (by omega) (pw_ret ⟨?_, r18, ?_, ?_, ?_, ?_, ?_⟩)
  · rw [e18, e14, e11, e8, e6, e4]
    exact (((((Fr.rf.wI 0 38 _ (show (38 : Nat) ∈ [32, 37, 38, 15200, 15400, 15600] from by decide)).wI 76 0 _ (show (15200 : Nat) ∈ [32, 37, 38, 15200, 15400, 15600] from by decide)).wI 77 0 _ (show (15400 : Nat) ∈ [32, 37, 38, 15200, 15400, 15600] from by decide)).wI 78 0 _ (show (15600 : Nat) ∈ [32, 37, 38, 15200, 15400, 15600] from by decide)).wI 0 37 _ (show (37 : Nat) ∈ [32, 37, 38, 15200, 15400, 15600] from by decide)).wI 0 32 _ (show (32 : Nat) ∈ [32, 37, 38, 15200, 15400, 15600] from by decide)
  · rw [e18, wI_ne _ _ _ _ _ _ (by omega), e14, wI_ne _ _ _ _ _ _ (by omega), s38]
    exact v3
  · rw [e18, wI_ne _ _ _ _ _ _ (by omega), e14, wI_at]
    exact v13
  · rw [e18, wI_at]
    exact v17
  · rw [e18, wI_ne _ _ _ _ _ _ (by omega), e14, wI_ne _ _ _ _ _ _ (by omega), e11, wI_ne _ _ _ _ _ _ (by omega), e8, wI_ne _ _ _ _ _ _ (by omega), e6, wI_at]
    decide
  · rw [e18, wI_ne _ _ _ _ _ _ (by omega), e14, wI_ne _ _ _ _ _ _ (by omega), e11, wI_ne _ _ _ _ _ _ (by omega), e8, wI_at]
/-- the class enters main -/
theorem l_entermain (he : e = 2 ∨ e = 24) (h70 : Y.2.2 70 2 = e + 1) (h11 : (Y.1 70 11).toInt = 0) (hp : 0 ≤ p1.toInt ∧ p1.toInt < (Y.1 e 1).toInt) : pw (g_Running_enterPart p1 (0 : Int32) p3 Y) (fun _ V => (∀ j k, ¬ (j = 70 ∧ (k = 10 ∨ k = 11)) → ¬ (j = 82 ∧ k = 0) → V.1 j k = Y.1 j k) ∧ V.2 = Y.2 ∧ (V.1 70 11).toInt = 1 ∧ V.1 70 10 = Y.1 (e + 17) (ix p1)) := by
  have l1 : (1 : Int32).toInt = 1 := by decide
  have k17 := (kYq he).2.1
  have i0 : ix (Y.1 70 11) = 0 := ixn (by rw [h11]; rfl)
  unfold g_Running_enterPart
  refine pw_let (pw_pos (by omega) (pw_let (pw_eq (fun x3 e3 => pw_ck (fun _ => pw_eq (fun X4 e4 => pw_eq (fun x5 e5 => pw_eq (fun x6 e6 => pw_eq (fun X7 e7 => pw_eq (fun x8 e8 => ?_))))))))))
  rw [i0] at e4
  have v8 : x8.toInt = -1 := by rw [e8]; decide
  have v6 : x6.toInt = 1 := by
    rw [e6, e5, e4, wI_ne _ _ _ _ _ _ (by omega), ti_add (by rw [h11, l1]; omega) (by rw [h11, l1]; omega), h11, l1]
    rfl
  have r7 : ∀ j k, ¬ (j = 70 ∧ k = 11) → ¬ (j = 82 ∧ k = 0) → X7.1 j k = Y.1 j k := fun j k z z2 => by rw [e7, wI_ne _ _ _ _ _ _ z, e4, wI_ne _ _ _ _ _ _ z2]
  have l7 : X7.2 = Y.2 := by rw [e7, e4]; rfl
  have p7 : X7.2.2 70 2 - 1 = e := by rw [l7, h70]; rfl
  have ie : ¬ e = 70 ∧ ¬ e = 82 ∧ ¬ e + 17 = 70 ∧ ¬ e + 17 = 82 := by omega
  obtain ⟨N, hN⟩ : ∃ N, BIG = N + 1 := ⟨BIG - 1, by decide⟩
  have eu : g_Running_enterPart_44 (N + 1) = g_Running_enterPart_44_s (g_Running_enterPart_44 N) := by
    unfold g_Running_enterPart_44
    exact lp_succ _ _ _
  rw [hN, eu]
  unfold g_Running_enterPart_44_s
  refine pw_pos (by omega) (pw_neg (by omega) (pw_ck (fun _ => pw_to p7 (pw_eq (fun x11 e11 => pw_neg ?_ (pw_ck (fun _ => pw_to p7 (pw_to k17 (pw_ck (fun _ => pw_eq (fun x14 e14 => ?_)))))))))))
  · rw [e11, r7 e 1 (fun z => ie.1 z.1) (fun z => ie.2.1 z.1)]
    omega
  · unfold g_Running_enterPart_99
    refine pw_eq (fun X9 e9 => pw_ret ⟨fun j k z z2 => ?_, by rw [e9]; exact l7, ?_, ?_⟩)
    · rw [e9, wI_ne _ _ _ _ _ _ (by omega), r7 j k (by omega) z2]
    · rw [e9, wI_ne _ _ _ _ _ _ (by omega), e7, wI_at]
      exact v6
    · rw [e9, wI_at, e14, r7 _ _ (fun z => ie.2.2.1 z.1) (fun z => ie.2.2.2 z.1)]
end BEG
