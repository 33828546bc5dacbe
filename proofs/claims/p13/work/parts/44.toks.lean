set_option maxHeartbeats 4000000 in
set_option maxRecDepth 100000 in
theorem t_f_nests (X Xt : St) (lv : Nat) (P : Int) (hag : AG lv P X Xt) (hlv : 2 ≤ lv) (hy0 : -100 ≤ (X.1 0 21).toInt ∧ (X.1 0 21).toInt ≤ 100) : ok2 (f_nests X) (f_nests Xt) (fun r X1 X1t => Fr YR [9, 10, 21] X X1 ∧ Fr YR [9, 10, 21] Xt X1t ∧ AG lv P X1 X1t ∧ ((X1.1 0 21).toInt = (X.1 0 21).toInt + 1 ∧ ((X1.1 0 9).toInt = 0 → (X.1 0 9).toInt = 0 ∧ ¬ (X.1 0 21).toInt = 40))) := by
  unfold f_nests
  refine ok2.letE (v1 := (X.1 0 21)) rfl (hag.s2 21 (by decide) (Nat.le_trans (show 2 ≤ 2 from by decide) hlv)) ?_
  refine ok2.ite (fun c1 => ?_) (fun c1 => ?_)
  · skip
    refine ok2.letE (v1 := (X.1 0 6)) rfl (hag.s1 6 (by decide) (Nat.le_trans (show 1 ≤ 2 from by decide) hlv)) ?_
    refine ok2.bd (t_f_fails _ _ _ _ lv P hag) ?_
    rintro r_4 X_3 X_3t ⟨hFh2, hGh2, hAh2, hh2⟩
    have hh2 : (((X.1 0 9).toInt = 0 ∧ (X_3.1 0 9).toInt = (3 : Int)) ∨ (¬ (X.1 0 9).toInt = 0 ∧ (X_3.1 0 9).toInt = (X.1 0 9).toInt)) := hh2
    unfold f_nests_18
    refine ok2.letE (v1 := (X.1 0 21)) (hFh2.1 0 21 (show (21 : Nat) ∉ [9, 10] from by decide)) ((hAh2.s2 21 (by decide) (Nat.le_trans (show 2 ≤ 2 from by decide) hlv)).trans (hFh2.1 0 21 (show (21 : Nat) ∉ [9, 10] from by decide))) ?_
    refine ok2.add (show _ ≤ (X.1 0 21).toInt + (1 : Int) ∧ (X.1 0 21).toInt + (1 : Int) ≤ _ from by omega) (fun x3 hx3 => ?_)
    have hx3 : x3.toInt = (X.1 0 21).toInt + (1 : Int) := hx3
    refine ok2.letV ?_
    exact ok2.ret ⟨((Fr.rf.tr hFh2 (by decide)).wI 0 21 _ (show (21 : Nat) ∈ [9, 10, 21] from by decide)), ((Fr.rf.tr hGh2 (by decide)).wI 0 21 _ (show (21 : Nat) ∈ [9, 10, 21] from by decide)), (hAh2.wI 0 21 _ (by decide)), (show x3.toInt = (X.1 0 21).toInt + 1 ∧ ((X_3.1 0 9).toInt = 0 → (X.1 0 9).toInt = 0 ∧ ¬ (X.1 0 21).toInt = 40) from by exact ⟨(by omega), (fun hq69 => ⟨(by omega), (by omega)⟩)⟩)⟩
  · skip
    unfold f_nests_18
    refine ok2.letE (v1 := (X.1 0 21)) rfl (hag.s2 21 (by decide) (Nat.le_trans (show 2 ≤ 2 from by decide) hlv)) ?_
    refine ok2.add (show _ ≤ (X.1 0 21).toInt + (1 : Int) ∧ (X.1 0 21).toInt + (1 : Int) ≤ _ from by omega) (fun x3 hx3 => ?_)
    have hx3 : x3.toInt = (X.1 0 21).toInt + (1 : Int) := hx3
    refine ok2.letV ?_
    exact ok2.ret ⟨(Fr.rf.wI 0 21 _ (show (21 : Nat) ∈ [9, 10, 21] from by decide)), (Fr.rf.wI 0 21 _ (show (21 : Nat) ∈ [9, 10, 21] from by decide)), (hag.wI 0 21 _ (by decide)), (show x3.toInt = (X.1 0 21).toInt + 1 ∧ ((X.1 0 9).toInt = 0 → (X.1 0 9).toInt = 0 ∧ ¬ (X.1 0 21).toInt = 40) from by exact ⟨(by omega), (fun hq67 => ⟨(by omega), (by omega)⟩)⟩)⟩
set_option maxHeartbeats 4000000 in
set_option maxRecDepth 100000 in
theorem t_f_opens (p1 : Int32) (X Xt : St) (lv : Nat) (P : Int) (hag : AG lv P X Xt) (hlv : 2 ≤ lv) (hy0 : 0 ≤ (X.1 0 6).toInt ∧ (X.1 0 6).toInt ≤ (X.1 0 5).toInt ∧ (X.1 0 5).toInt ≤ (X.1 0 1).toInt ∧ (X.1 0 1).toInt ≤ 3000 ∧ 0 ≤ (X.1 0 7).toInt ∧ (X.1 0 7).toInt ≤ 5 ∧ ((X.1 0 7).toInt = 0 ∨ (X.1 0 6).toInt < (X.1 0 5).toInt)) (hy1 : -100 ≤ (X.1 0 21).toInt ∧ (X.1 0 21).toInt ≤ 100) : ok2 (f_opens p1 X) (f_opens p1 Xt) (fun r X1 X1t => Fr YR [5, 6, 7, 8, 9, 10, 21, 47] X X1 ∧ Fr YR [5, 6, 7, 8, 9, 10, 21, 47] Xt X1t ∧ AG lv P X1 X1t ∧ (0 ≤ (X1.1 0 6).toInt ∧ (X1.1 0 6).toInt ≤ (X1.1 0 5).toInt ∧ (X1.1 0 5).toInt ≤ (X1.1 0 1).toInt ∧ (X1.1 0 1).toInt ≤ 3000 ∧ 0 ≤ (X1.1 0 7).toInt ∧ (X1.1 0 7).toInt ≤ 5 ∧ ((X1.1 0 7).toInt = 0 ∨ (X1.1 0 6).toInt < (X1.1 0 5).toInt) ∧ (X.1 0 6).toInt ≤ (X1.1 0 6).toInt ∧ (X.1 0 21).toInt ≤ (X1.1 0 21).toInt ∧ (X1.1 0 21).toInt ≤ (X.1 0 21).toInt + 1 ∧ ((X1.1 0 9).toInt = 0 → (X.1 0 9).toInt = 0 ∧ (X.1 0 6).toInt < (X1.1 0 6).toInt ∧ (X1.1 0 21).toInt = (X.1 0 21).toInt + 1 ∧ ¬ (X.1 0 21).toInt = 40))) := by
  unfold f_opens
  refine ok2.bd (t_f_isSign _ _ _ lv P hag (Nat.le_trans (show 1 ≤ 2 from by decide) hlv)) ?_
  rintro x1 X_2 X_2t ⟨eX_2, eX_2t, hh1⟩
  subst eX_2
  subst eX_2t
  have hh1 : ((x1.toInt = 1 ∧ (X.1 0 9).toInt = 0 ∧ (X.1 0 7).toInt = 4) ∨ x1.toInt = 0) := hh1
  refine ok2.ite (fun c3 => ?_) (fun c3 => ?_)
  · skip
    refine ok2.bd (t_f_stray  _ _ lv P hag (Nat.le_trans (show 1 ≤ 2 from by decide) hlv)) ?_
    rintro r_6 X_5 X_5t ⟨hFh4, hGh4, hAh4, hh4⟩
    have hh4 : (¬ (X_5.1 0 9).toInt = 0) := hh4
    exact ok2.ret ⟨(Fr.rf.tr hFh4 (by decide)), (Fr.rf.tr hGh4 (by decide)), hAh4, (show 0 ≤ (X_5.1 0 6).toInt ∧ (X_5.1 0 6).toInt ≤ (X_5.1 0 5).toInt ∧ (X_5.1 0 5).toInt ≤ (X_5.1 0 1).toInt ∧ (X_5.1 0 1).toInt ≤ 3000 ∧ 0 ≤ (X_5.1 0 7).toInt ∧ (X_5.1 0 7).toInt ≤ 5 ∧ ((X_5.1 0 7).toInt = 0 ∨ (X_5.1 0 6).toInt < (X_5.1 0 5).toInt) ∧ (X.1 0 6).toInt ≤ (X_5.1 0 6).toInt ∧ (X.1 0 21).toInt ≤ (X_5.1 0 21).toInt ∧ (X_5.1 0 21).toInt ≤ (X.1 0 21).toInt + 1 ∧ ((X_5.1 0 9).toInt = 0 → (X.1 0 9).toInt = 0 ∧ (X.1 0 6).toInt < (X_5.1 0 6).toInt ∧ (X_5.1 0 21).toInt = (X.1 0 21).toInt + 1 ∧ ¬ (X.1 0 21).toInt = 40) from by have e0_ : (X_5.1 0 6).toInt = (X.1 0 6).toInt := congrArg Int32.toInt (hFh4.1 0 6 (show (6 : Nat) ∉ [9, 10] from by decide)); have e1_ : (X_5.1 0 5).toInt = (X.1 0 5).toInt := congrArg Int32.toInt (hFh4.1 0 5 (show (5 : Nat) ∉ [9, 10] from by decide)); have e2_ : (X_5.1 0 1).toInt = (X.1 0 1).toInt := congrArg Int32.toInt (hFh4.1 0 1 (show (1 : Nat) ∉ [9, 10] from by decide)); have e3_ : (X_5.1 0 7).toInt = (X.1 0 7).toInt := congrArg Int32.toInt (hFh4.1 0 7 (show (7 : Nat) ∉ [9, 10] from by decide)); have e4_ : (X_5.1 0 21).toInt = (X.1 0 21).toInt := congrArg Int32.toInt (hFh4.1 0 21 (show (21 : Nat) ∉ [9, 10] from by decide)); exact ⟨(by omega), (by omega), (by omega), (by omega), (by omega), (by omega), (by omega), (by omega), (by omega), (by omega), (fun hq151 => ⟨(by omega), (by omega), (by omega), (by omega)⟩)⟩)⟩
  · skip
    refine ok2.bd (t_f_nests  _ _ lv P hag (Nat.le_trans (show 2 ≤ 2 from by decide) hlv) (show -100 ≤ (X.1 0 21).toInt ∧ (X.1 0 21).toInt ≤ 100 from by exact ⟨(by omega), (by omega)⟩)) ?_
    rintro r_9 X_8 X_8t ⟨hFh7, hGh7, hAh7, hh7⟩
    have hh7 : ((X_8.1 0 21).toInt = (X.1 0 21).toInt + 1 ∧ ((X_8.1 0 9).toInt = 0 → (X.1 0 9).toInt = 0 ∧ ¬ (X.1 0 21).toInt = 40)) := hh7
    refine ok2.bd (t_f_isWell  _ _ lv P hAh7) ?_
    rintro x4 X_11 X_11t ⟨eX_11, eX_11t, hh10⟩
    subst eX_11
    subst eX_11t
    have hh10 : ((x4.toInt = 1 ∧ (X_8.1 0 9).toInt = 0) ∨ (x4.toInt = 0 ∧ ¬ (X_8.1 0 9).toInt = 0)) := hh10
    refine ok2.ite (fun c12 => ?_) (fun c12 => ?_)
    · skip
      exact ok2.ret ⟨(Fr.rf.tr hFh7 (by decide)), (Fr.rf.tr hGh7 (by decide)), hAh7, (show 0 ≤ (X_8.1 0 6).toInt ∧ (X_8.1 0 6).toInt ≤ (X_8.1 0 5).toInt ∧ (X_8.1 0 5).toInt ≤ (X_8.1 0 1).toInt ∧ (X_8.1 0 1).toInt ≤ 3000 ∧ 0 ≤ (X_8.1 0 7).toInt ∧ (X_8.1 0 7).toInt ≤ 5 ∧ ((X_8.1 0 7).toInt = 0 ∨ (X_8.1 0 6).toInt < (X_8.1 0 5).toInt) ∧ (X.1 0 6).toInt ≤ (X_8.1 0 6).toInt ∧ (X.1 0 21).toInt ≤ (X_8.1 0 21).toInt ∧ (X_8.1 0 21).toInt ≤ (X.1 0 21).toInt + 1 ∧ ((X_8.1 0 9).toInt = 0 → (X.1 0 9).toInt = 0 ∧ (X.1 0 6).toInt < (X_8.1 0 6).toInt ∧ (X_8.1 0 21).toInt = (X.1 0 21).toInt + 1 ∧ ¬ (X.1 0 21).toInt = 40) from by have e0_ : (X_8.1 0 6).toInt = (X.1 0 6).toInt := congrArg Int32.toInt (hFh7.1 0 6 (show (6 : Nat) ∉ [9, 10, 21] from by decide)); have e1_ : (X_8.1 0 5).toInt = (X.1 0 5).toInt := congrArg Int32.toInt (hFh7.1 0 5 (show (5 : Nat) ∉ [9, 10, 21] from by decide)); have e2_ : (X_8.1 0 1).toInt = (X.1 0 1).toInt := congrArg Int32.toInt (hFh7.1 0 1 (show (1 : Nat) ∉ [9, 10, 21] from by decide)); have e3_ : (X_8.1 0 7).toInt = (X.1 0 7).toInt := congrArg Int32.toInt (hFh7.1 0 7 (show (7 : Nat) ∉ [9, 10, 21] from by decide)); exact ⟨(by omega), (by omega), (by omega), (by omega), (by omega), (by omega), (by omega), (by omega), (by omega), (by omega), (fun hq151 => ⟨(by omega), (by omega), (by omega), (by omega)⟩)⟩)⟩
    · skip
      refine ok2.bd (t_f_next  _ _ lv P hAh7 (show 0 ≤ (X_8.1 0 5).toInt ∧ (X_8.1 0 5).toInt ≤ (X_8.1 0 1).toInt ∧ (X_8.1 0 1).toInt ≤ 3000 from by have e0_ : (X_8.1 0 5).toInt = (X.1 0 5).toInt := congrArg Int32.toInt (hFh7.1 0 5 (show (5 : Nat) ∉ [9, 10, 21] from by decide)); have e1_ : (X_8.1 0 1).toInt = (X.1 0 1).toInt := congrArg Int32.toInt (hFh7.1 0 1 (show (1 : Nat) ∉ [9, 10, 21] from by decide)); exact ⟨(by omega), (by omega), (by omega)⟩)) ?_
      rintro r_15 X_14 X_14t ⟨hFh13, hGh13, hAh13, hh13⟩
      have eh13_0 : (X_14.1 0 1).toInt = (X.1 0 1).toInt := congrArg Int32.toInt ((hFh13.1 0 1 (show (1 : Nat) ∉ [5, 6, 7, 8, 47] from by decide)).trans (hFh7.1 0 1 (show (1 : Nat) ∉ [9, 10, 21] from by decide)))
      have eh13_1 : (X_8.1 0 5).toInt = (X.1 0 5).toInt := congrArg Int32.toInt (hFh7.1 0 5 (show (5 : Nat) ∉ [9, 10, 21] from by decide))
      have hh13 : (0 ≤ (X_14.1 0 6).toInt ∧ (X_14.1 0 6).toInt ≤ (X_14.1 0 5).toInt ∧ (X_14.1 0 5).toInt ≤ (X_14.1 0 1).toInt ∧ (X_14.1 0 1).toInt ≤ 3000 ∧ 0 ≤ (X_14.1 0 7).toInt ∧ (X_14.1 0 7).toInt ≤ 5 ∧ ((X_14.1 0 7).toInt = 0 ∨ (X_14.1 0 6).toInt < (X_14.1 0 5).toInt) ∧ (X_8.1 0 5).toInt ≤ (X_14.1 0 6).toInt) ∧ (X_14t.1 0 6 = X_14.1 0 6) ∧ (X_14t.1 0 7 = X_14.1 0 7) ∧ (X_14t.2.1 0 47 = X_14.2.1 0 47) := hh13
      obtain ⟨hh13, hh13_d6, hh13_d7, hh13_dT⟩ := hh13
      exact ok2.ret ⟨((Fr.rf.tr hFh7 (by decide)).tr hFh13 (by decide)), ((Fr.rf.tr hGh7 (by decide)).tr hGh13 (by decide)), hAh13, (show 0 ≤ (X_14.1 0 6).toInt ∧ (X_14.1 0 6).toInt ≤ (X_14.1 0 5).toInt ∧ (X_14.1 0 5).toInt ≤ (X_14.1 0 1).toInt ∧ (X_14.1 0 1).toInt ≤ 3000 ∧ 0 ≤ (X_14.1 0 7).toInt ∧ (X_14.1 0 7).toInt ≤ 5 ∧ ((X_14.1 0 7).toInt = 0 ∨ (X_14.1 0 6).toInt < (X_14.1 0 5).toInt) ∧ (X.1 0 6).toInt ≤ (X_14.1 0 6).toInt ∧ (X.1 0 21).toInt ≤ (X_14.1 0 21).toInt ∧ (X_14.1 0 21).toInt ≤ (X.1 0 21).toInt + 1 ∧ ((X_14.1 0 9).toInt = 0 → (X.1 0 9).toInt = 0 ∧ (X.1 0 6).toInt < (X_14.1 0 6).toInt ∧ (X_14.1 0 21).toInt = (X.1 0 21).toInt + 1 ∧ ¬ (X.1 0 21).toInt = 40) from by have e0_ : (X_14.1 0 1).toInt = (X.1 0 1).toInt := congrArg Int32.toInt ((hFh13.1 0 1 (show (1 : Nat) ∉ [5, 6, 7, 8, 47] from by decide)).trans (hFh7.1 0 1 (show (1 : Nat) ∉ [9, 10, 21] from by decide))); have e1_ : (X_14.1 0 21).toInt = (X_8.1 0 21).toInt := congrArg Int32.toInt (hFh13.1 0 21 (show (21 : Nat) ∉ [5, 6, 7, 8, 47] from by decide)); have e2_ : (X_14.1 0 9).toInt = (X_8.1 0 9).toInt := congrArg Int32.toInt (hFh13.1 0 9 (show (9 : Nat) ∉ [5, 6, 7, 8, 47] from by decide)); exact ⟨(by omega), (by omega), (by omega), (by omega), (by omega), (by omega), (by omega), (by omega), (by omega), (by omega), (fun hq154 => ⟨(by omega), (by omega), (by omega), (by omega)⟩)⟩)⟩
set_option maxHeartbeats 4000000 in
set_option maxRecDepth 100000 in
theorem t_f_closes (p1 : Int32) (X Xt : St) (lv : Nat) (P : Int) (hag : AG lv P X Xt) (hlv : 2 ≤ lv) (hy0 : 0 ≤ (X.1 0 6).toInt ∧ (X.1 0 6).toInt ≤ (X.1 0 5).toInt ∧ (X.1 0 5).toInt ≤ (X.1 0 1).toInt ∧ (X.1 0 1).toInt ≤ 3000 ∧ 0 ≤ (X.1 0 7).toInt ∧ (X.1 0 7).toInt ≤ 5 ∧ ((X.1 0 7).toInt = 0 ∨ (X.1 0 6).toInt < (X.1 0 5).toInt)) (hy1 : -100 ≤ (X.1 0 21).toInt ∧ (X.1 0 21).toInt ≤ 100) : ok2 (f_closes p1 X) (f_closes p1 Xt) (fun r X1 X1t => Fr YR [5, 6, 7, 8, 9, 10, 21, 47] X X1 ∧ Fr YR [5, 6, 7, 8, 9, 10, 21, 47] Xt X1t ∧ AG lv P X1 X1t ∧ (0 ≤ (X1.1 0 6).toInt ∧ (X1.1 0 6).toInt ≤ (X1.1 0 5).toInt ∧ (X1.1 0 5).toInt ≤ (X1.1 0 1).toInt ∧ (X1.1 0 1).toInt ≤ 3000 ∧ 0 ≤ (X1.1 0 7).toInt ∧ (X1.1 0 7).toInt ≤ 5 ∧ ((X1.1 0 7).toInt = 0 ∨ (X1.1 0 6).toInt < (X1.1 0 5).toInt) ∧ (X.1 0 6).toInt ≤ (X1.1 0 6).toInt ∧ (X1.1 0 21).toInt = (X.1 0 21).toInt - 1 ∧ ((X1.1 0 9).toInt = 0 → (X.1 0 9).toInt = 0 ∧ (X.1 0 6).toInt < (X1.1 0 6).toInt))) := by
  unfold f_closes
  refine ok2.bd (t_f_takes _ _ _ lv P hag (Nat.le_trans (show 1 ≤ 2 from by decide) hlv) (show 0 ≤ (X.1 0 6).toInt ∧ (X.1 0 6).toInt ≤ (X.1 0 5).toInt ∧ (X.1 0 5).toInt ≤ (X.1 0 1).toInt ∧ (X.1 0 1).toInt ≤ 3000 ∧ 0 ≤ (X.1 0 7).toInt ∧ (X.1 0 7).toInt ≤ 5 ∧ ((X.1 0 7).toInt = 0 ∨ (X.1 0 6).toInt < (X.1 0 5).toInt) from by exact ⟨(by omega), (by omega), (by omega), (by omega), (by omega), (by omega), (by omega)⟩)) ?_
  rintro r_3 X_2 X_2t ⟨hFh1, hGh1, hAh1, hh1⟩
  have eh1_0 : (X_2.1 0 1).toInt = (X.1 0 1).toInt := congrArg Int32.toInt (hFh1.1 0 1 (show (1 : Nat) ∉ [5, 6, 7, 8, 9, 10, 47] from by decide))
  have hh1 : (0 ≤ (X_2.1 0 6).toInt ∧ (X_2.1 0 6).toInt ≤ (X_2.1 0 5).toInt ∧ (X_2.1 0 5).toInt ≤ (X_2.1 0 1).toInt ∧ (X_2.1 0 1).toInt ≤ 3000 ∧ 0 ≤ (X_2.1 0 7).toInt ∧ (X_2.1 0 7).toInt ≤ 5 ∧ ((X_2.1 0 7).toInt = 0 ∨ (X_2.1 0 6).toInt < (X_2.1 0 5).toInt) ∧ (X.1 0 6).toInt ≤ (X_2.1 0 6).toInt ∧ ((X_2.1 0 9).toInt = 0 → (X.1 0 9).toInt = 0 ∧ (X.1 0 6).toInt < (X_2.1 0 6).toInt)) := hh1
  refine ok2.letE (v1 := (X.1 0 21)) (hFh1.1 0 21 (show (21 : Nat) ∉ [5, 6, 7, 8, 9, 10, 47] from by decide)) ((hAh1.s2 21 (by decide) (Nat.le_trans (show 2 ≤ 2 from by decide) hlv)).trans (hFh1.1 0 21 (show (21 : Nat) ∉ [5, 6, 7, 8, 9, 10, 47] from by decide))) ?_
  refine ok2.sub (show _ ≤ (X.1 0 21).toInt - (1 : Int) ∧ (X.1 0 21).toInt - (1 : Int) ≤ _ from by omega) (fun x3 hx3 => ?_)
  have hx3 : x3.toInt = (X.1 0 21).toInt - (1 : Int) := hx3
  refine ok2.letV ?_
  exact ok2.ret ⟨((Fr.rf.tr hFh1 (by decide)).wI 0 21 _ (show (21 : Nat) ∈ [5, 6, 7, 8, 9, 10, 21, 47] from by decide)), ((Fr.rf.tr hGh1 (by decide)).wI 0 21 _ (show (21 : Nat) ∈ [5, 6, 7, 8, 9, 10, 21, 47] from by decide)), (hAh1.wI 0 21 _ (by decide)), (show 0 ≤ (X_2.1 0 6).toInt ∧ (X_2.1 0 6).toInt ≤ (X_2.1 0 5).toInt ∧ (X_2.1 0 5).toInt ≤ (X_2.1 0 1).toInt ∧ (X_2.1 0 1).toInt ≤ 3000 ∧ 0 ≤ (X_2.1 0 7).toInt ∧ (X_2.1 0 7).toInt ≤ 5 ∧ ((X_2.1 0 7).toInt = 0 ∨ (X_2.1 0 6).toInt < (X_2.1 0 5).toInt) ∧ (X.1 0 6).toInt ≤ (X_2.1 0 6).toInt ∧ x3.toInt = (X.1 0 21).toInt - 1 ∧ ((X_2.1 0 9).toInt = 0 → (X.1 0 9).toInt = 0 ∧ (X.1 0 6).toInt < (X_2.1 0 6).toInt) from by have e0_ : (X_2.1 0 1).toInt = (X.1 0 1).toInt := congrArg Int32.toInt (hFh1.1 0 1 (show (1 : Nat) ∉ [5, 6, 7, 8, 9, 10, 47] from by decide)); exact ⟨(by omega), (by omega), (by omega), (by omega), (by omega), (by omega), (by omega), (by omega), (by omega), (fun hq81 => ⟨(by omega), (by omega)⟩)⟩)⟩
set_option maxHeartbeats 4000000 in
set_option maxRecDepth 100000 in
theorem t_f_plainKind (X Xt : St) (lv : Nat) (P : Int) (hag : AG lv P X Xt) (hlv : 1 ≤ lv) (hy0 : 0 ≤ (X.1 0 6).toInt ∧ (X.1 0 6).toInt ≤ (X.1 0 5).toInt ∧ (X.1 0 5).toInt ≤ (X.1 0 1).toInt ∧ (X.1 0 1).toInt ≤ 3000 ∧ 0 ≤ (X.1 0 7).toInt ∧ (X.1 0 7).toInt ≤ 5 ∧ ((X.1 0 7).toInt = 0 ∨ (X.1 0 6).toInt < (X.1 0 5).toInt)) : ok2 (f_plainKind X) (f_plainKind Xt) (fun r X1 X1t => Fr YR [5, 6, 7, 8, 9, 10, 47] X X1 ∧ Fr YR [5, 6, 7, 8, 9, 10, 47] Xt X1t ∧ AG lv P X1 X1t ∧ (0 ≤ (X1.1 0 6).toInt ∧ (X1.1 0 6).toInt ≤ (X1.1 0 5).toInt ∧ (X1.1 0 5).toInt ≤ (X1.1 0 1).toInt ∧ (X1.1 0 1).toInt ≤ 3000 ∧ 0 ≤ (X1.1 0 7).toInt ∧ (X1.1 0 7).toInt ≤ 5 ∧ ((X1.1 0 7).toInt = 0 ∨ (X1.1 0 6).toInt < (X1.1 0 5).toInt) ∧ (X.1 0 6).toInt ≤ (X1.1 0 6).toInt ∧ -1 ≤ r.toInt ∧ r.toInt ≤ 2 ∧ ((X1.1 0 9).toInt = 0 → (X.1 0 9).toInt = 0 ∧ 0 ≤ r.toInt ∧ (X.1 0 6).toInt < (X1.1 0 6).toInt))) := by
  unfold f_plainKind
  refine ok2.bd (t_f_isWord _ _ _ lv P hag (Nat.le_trans (show 1 ≤ 1 from by decide) hlv)) ?_
  rintro x1 X_2 X_2t ⟨eX_2, eX_2t, hh1⟩
  subst eX_2
  subst eX_2t
  have hh1 : ((x1.toInt = 1 ∧ (X.1 0 9).toInt = 0 ∧ (X.1 0 7).toInt = 2) ∨ x1.toInt = 0) := hh1
  refine ok2.ite (fun c3 => ?_) (fun c3 => ?_)
  · skip
    refine ok2.bd (t_f_isWord _ _ _ lv P hag (Nat.le_trans (show 1 ≤ 1 from by decide) hlv)) ?_
    rintro x3 X_5 X_5t ⟨eX_5, eX_5t, hh4⟩
    subst eX_5
    subst eX_5t
    have hh4 : ((x3.toInt = 1 ∧ (X.1 0 9).toInt = 0 ∧ (X.1 0 7).toInt = 2) ∨ x3.toInt = 0) := hh4
    refine ok2.ite (fun c6 => ?_) (fun c6 => ?_)
    · skip
      refine ok2.bd (t_f_isWord _ _ _ lv P hag (Nat.le_trans (show 1 ≤ 1 from by decide) hlv)) ?_
      rintro x5 X_8 X_8t ⟨eX_8, eX_8t, hh7⟩
      subst eX_8
      subst eX_8t
      have hh7 : ((x5.toInt = 1 ∧ (X.1 0 9).toInt = 0 ∧ (X.1 0 7).toInt = 2) ∨ x5.toInt = 0) := hh7
      refine ok2.ite (fun c9 => ?_) (fun c9 => ?_)
      · skip
        unfold f_plainKind_40
        refine ok2.ite (fun c10 => ?_) (fun c10 => ?_)
        · skip
          have l11 : ((-1) : Int32).toInt = (-1) := by decide
          refine ok2.bd (t_f_next  _ _ lv P hag (show 0 ≤ (X.1 0 5).toInt ∧ (X.1 0 5).toInt ≤ (X.1 0 1).toInt ∧ (X.1 0 1).toInt ≤ 3000 from by exact ⟨(by omega), (by omega), (by omega)⟩)) ?_
          rintro r_14 X_13 X_13t ⟨hFh12, hGh12, hAh12, hh12⟩
          have eh12_0 : (X_13.1 0 1).toInt = (X.1 0 1).toInt := congrArg Int32.toInt (hFh12.1 0 1 (show (1 : Nat) ∉ [5, 6, 7, 8, 47] from by decide))
          have hh12 : (0 ≤ (X_13.1 0 6).toInt ∧ (X_13.1 0 6).toInt ≤ (X_13.1 0 5).toInt ∧ (X_13.1 0 5).toInt ≤ (X_13.1 0 1).toInt ∧ (X_13.1 0 1).toInt ≤ 3000 ∧ 0 ≤ (X_13.1 0 7).toInt ∧ (X_13.1 0 7).toInt ≤ 5 ∧ ((X_13.1 0 7).toInt = 0 ∨ (X_13.1 0 6).toInt < (X_13.1 0 5).toInt) ∧ (X.1 0 5).toInt ≤ (X_13.1 0 6).toInt) ∧ (X_13t.1 0 6 = X_13.1 0 6) ∧ (X_13t.1 0 7 = X_13.1 0 7) ∧ (X_13t.2.1 0 47 = X_13.2.1 0 47) := hh12
          obtain ⟨hh12, hh12_d6, hh12_d7, hh12_dT⟩ := hh12
          exact ok2.ret ⟨(Fr.rf.tr hFh12 (by decide)), (Fr.rf.tr hGh12 (by decide)), hAh12, (show 0 ≤ (X_13.1 0 6).toInt ∧ (X_13.1 0 6).toInt ≤ (X_13.1 0 5).toInt ∧ (X_13.1 0 5).toInt ≤ (X_13.1 0 1).toInt ∧ (X_13.1 0 1).toInt ≤ 3000 ∧ 0 ≤ (X_13.1 0 7).toInt ∧ (X_13.1 0 7).toInt ≤ 5 ∧ ((X_13.1 0 7).toInt = 0 ∨ (X_13.1 0 6).toInt < (X_13.1 0 5).toInt) ∧ (X.1 0 6).toInt ≤ (X_13.1 0 6).toInt ∧ -1 ≤ (-1 : Int) ∧ (-1 : Int) ≤ 2 ∧ ((X_13.1 0 9).toInt = 0 → (X.1 0 9).toInt = 0 ∧ 0 ≤ (-1 : Int) ∧ (X.1 0 6).toInt < (X_13.1 0 6).toInt) from by have e0_ : (X_13.1 0 1).toInt = (X.1 0 1).toInt := congrArg Int32.toInt (hFh12.1 0 1 (show (1 : Nat) ∉ [5, 6, 7, 8, 47] from by decide)); have e1_ : (X_13.1 0 9).toInt = (X.1 0 9).toInt := congrArg Int32.toInt (hFh12.1 0 9 (show (9 : Nat) ∉ [5, 6, 7, 8, 47] from by decide)); exact ⟨(by omega), (by omega), (by omega), (by omega), (by omega), (by omega), (by omega), (by omega), (by omega), (by omega), (fun hq100 => ⟨(by omega), (by omega), (by omega)⟩)⟩)⟩
        · skip
          have l15 : ((-1) : Int32).toInt = (-1) := by decide
          refine ok2.bd (t_f_stray  _ _ lv P hag (Nat.le_trans (show 1 ≤ 1 from by decide) hlv)) ?_
          rintro r_18 X_17 X_17t ⟨hFh16, hGh16, hAh16, hh16⟩
          have hh16 : (¬ (X_17.1 0 9).toInt = 0) := hh16
          exact ok2.ret ⟨(Fr.rf.tr hFh16 (by decide)), (Fr.rf.tr hGh16 (by decide)), hAh16, (show 0 ≤ (X_17.1 0 6).toInt ∧ (X_17.1 0 6).toInt ≤ (X_17.1 0 5).toInt ∧ (X_17.1 0 5).toInt ≤ (X_17.1 0 1).toInt ∧ (X_17.1 0 1).toInt ≤ 3000 ∧ 0 ≤ (X_17.1 0 7).toInt ∧ (X_17.1 0 7).toInt ≤ 5 ∧ ((X_17.1 0 7).toInt = 0 ∨ (X_17.1 0 6).toInt < (X_17.1 0 5).toInt) ∧ (X.1 0 6).toInt ≤ (X_17.1 0 6).toInt ∧ -1 ≤ (-1 : Int) ∧ (-1 : Int) ≤ 2 ∧ ((X_17.1 0 9).toInt = 0 → (X.1 0 9).toInt = 0 ∧ 0 ≤ (-1 : Int) ∧ (X.1 0 6).toInt < (X_17.1 0 6).toInt) from by have e0_ : (X_17.1 0 6).toInt = (X.1 0 6).toInt := congrArg Int32.toInt (hFh16.1 0 6 (show (6 : Nat) ∉ [9, 10] from by decide)); have e1_ : (X_17.1 0 5).toInt = (X.1 0 5).toInt := congrArg Int32.toInt (hFh16.1 0 5 (show (5 : Nat) ∉ [9, 10] from by decide)); have e2_ : (X_17.1 0 1).toInt = (X.1 0 1).toInt := congrArg Int32.toInt (hFh16.1 0 1 (show (1 : Nat) ∉ [9, 10] from by decide)); have e3_ : (X_17.1 0 7).toInt = (X.1 0 7).toInt := congrArg Int32.toInt (hFh16.1 0 7 (show (7 : Nat) ∉ [9, 10] from by decide)); exact ⟨(by omega), (by omega), (by omega), (by omega), (by omega), (by omega), (by omega), (by omega), (by omega), (by omega), (fun hq100 => ⟨(by omega), (by omega), (by omega)⟩)⟩)⟩
      · skip
        unfold f_plainKind_40
        refine ok2.ite (fun c19 => ?_) (fun c19 => ?_)
        · skip
          have l20 : ((2) : Int32).toInt = (2) := by decide
          refine ok2.bd (t_f_next  _ _ lv P hag (show 0 ≤ (X.1 0 5).toInt ∧ (X.1 0 5).toInt ≤ (X.1 0 1).toInt ∧ (X.1 0 1).toInt ≤ 3000 from by exact ⟨(by omega), (by omega), (by omega)⟩)) ?_
          rintro r_23 X_22 X_22t ⟨hFh21, hGh21, hAh21, hh21⟩
          have eh21_0 : (X_22.1 0 1).toInt = (X.1 0 1).toInt := congrArg Int32.toInt (hFh21.1 0 1 (show (1 : Nat) ∉ [5, 6, 7, 8, 47] from by decide))
          have hh21 : (0 ≤ (X_22.1 0 6).toInt ∧ (X_22.1 0 6).toInt ≤ (X_22.1 0 5).toInt ∧ (X_22.1 0 5).toInt ≤ (X_22.1 0 1).toInt ∧ (X_22.1 0 1).toInt ≤ 3000 ∧ 0 ≤ (X_22.1 0 7).toInt ∧ (X_22.1 0 7).toInt ≤ 5 ∧ ((X_22.1 0 7).toInt = 0 ∨ (X_22.1 0 6).toInt < (X_22.1 0 5).toInt) ∧ (X.1 0 5).toInt ≤ (X_22.1 0 6).toInt) ∧ (X_22t.1 0 6 = X_22.1 0 6) ∧ (X_22t.1 0 7 = X_22.1 0 7) ∧ (X_22t.2.1 0 47 = X_22.2.1 0 47) := hh21
          obtain ⟨hh21, hh21_d6, hh21_d7, hh21_dT⟩ := hh21
          exact ok2.ret ⟨(Fr.rf.tr hFh21 (by decide)), (Fr.rf.tr hGh21 (by decide)), hAh21, (show 0 ≤ (X_22.1 0 6).toInt ∧ (X_22.1 0 6).toInt ≤ (X_22.1 0 5).toInt ∧ (X_22.1 0 5).toInt ≤ (X_22.1 0 1).toInt ∧ (X_22.1 0 1).toInt ≤ 3000 ∧ 0 ≤ (X_22.1 0 7).toInt ∧ (X_22.1 0 7).toInt ≤ 5 ∧ ((X_22.1 0 7).toInt = 0 ∨ (X_22.1 0 6).toInt < (X_22.1 0 5).toInt) ∧ (X.1 0 6).toInt ≤ (X_22.1 0 6).toInt ∧ -1 ≤ (2 : Int) ∧ (2 : Int) ≤ 2 ∧ ((X_22.1 0 9).toInt = 0 → (X.1 0 9).toInt = 0 ∧ 0 ≤ (2 : Int) ∧ (X.1 0 6).toInt < (X_22.1 0 6).toInt) from by have e0_ : (X_22.1 0 1).toInt = (X.1 0 1).toInt := congrArg Int32.toInt (hFh21.1 0 1 (show (1 : Nat) ∉ [5, 6, 7, 8, 47] from by decide)); have e1_ : (X_22.1 0 9).toInt = (X.1 0 9).toInt := congrArg Int32.toInt (hFh21.1 0 9 (show (9 : Nat) ∉ [5, 6, 7, 8, 47] from by decide)); exact ⟨(by omega), (by omega), (by omega), (by omega), (by omega), (by omega), (by omega), (by omega), (by omega), (by omega), (fun hq99 => ⟨(by omega), (by omega), (by omega)⟩)⟩)⟩
        · skip
          have l24 : ((2) : Int32).toInt = (2) := by decide
          refine ok2.bd (t_f_stray  _ _ lv P hag (Nat.le_trans (show 1 ≤ 1 from by decide) hlv)) ?_
          rintro r_27 X_26 X_26t ⟨hFh25, hGh25, hAh25, hh25⟩
          have hh25 : (¬ (X_26.1 0 9).toInt = 0) := hh25
          exact ok2.ret ⟨(Fr.rf.tr hFh25 (by decide)), (Fr.rf.tr hGh25 (by decide)), hAh25, (show 0 ≤ (X_26.1 0 6).toInt ∧ (X_26.1 0 6).toInt ≤ (X_26.1 0 5).toInt ∧ (X_26.1 0 5).toInt ≤ (X_26.1 0 1).toInt ∧ (X_26.1 0 1).toInt ≤ 3000 ∧ 0 ≤ (X_26.1 0 7).toInt ∧ (X_26.1 0 7).toInt ≤ 5 ∧ ((X_26.1 0 7).toInt = 0 ∨ (X_26.1 0 6).toInt < (X_26.1 0 5).toInt) ∧ (X.1 0 6).toInt ≤ (X_26.1 0 6).toInt ∧ -1 ≤ (2 : Int) ∧ (2 : Int) ≤ 2 ∧ ((X_26.1 0 9).toInt = 0 → (X.1 0 9).toInt = 0 ∧ 0 ≤ (2 : Int) ∧ (X.1 0 6).toInt < (X_26.1 0 6).toInt) from by have e0_ : (X_26.1 0 6).toInt = (X.1 0 6).toInt := congrArg Int32.toInt (hFh25.1 0 6 (show (6 : Nat) ∉ [9, 10] from by decide)); have e1_ : (X_26.1 0 5).toInt = (X.1 0 5).toInt := congrArg Int32.toInt (hFh25.1 0 5 (show (5 : Nat) ∉ [9, 10] from by decide)); have e2_ : (X_26.1 0 1).toInt = (X.1 0 1).toInt := congrArg Int32.toInt (hFh25.1 0 1 (show (1 : Nat) ∉ [9, 10] from by decide)); have e3_ : (X_26.1 0 7).toInt = (X.1 0 7).toInt := congrArg Int32.toInt (hFh25.1 0 7 (show (7 : Nat) ∉ [9, 10] from by decide)); exact ⟨(by omega), (by omega), (by omega), (by omega), (by omega), (by omega), (by omega), (by omega), (by omega), (by omega), (fun hq99 => ⟨(by omega), (by omega), (by omega)⟩)⟩)⟩
    · skip
      unfold f_plainKind_40
      refine ok2.ite (fun c28 => ?_) (fun c28 => ?_)
      · skip
        have l29 : ((1) : Int32).toInt = (1) := by decide
        refine ok2.bd (t_f_next  _ _ lv P hag (show 0 ≤ (X.1 0 5).toInt ∧ (X.1 0 5).toInt ≤ (X.1 0 1).toInt ∧ (X.1 0 1).toInt ≤ 3000 from by exact ⟨(by omega), (by omega), (by omega)⟩)) ?_
        rintro r_32 X_31 X_31t ⟨hFh30, hGh30, hAh30, hh30⟩
        have eh30_0 : (X_31.1 0 1).toInt = (X.1 0 1).toInt := congrArg Int32.toInt (hFh30.1 0 1 (show (1 : Nat) ∉ [5, 6, 7, 8, 47] from by decide))
        have hh30 : (0 ≤ (X_31.1 0 6).toInt ∧ (X_31.1 0 6).toInt ≤ (X_31.1 0 5).toInt ∧ (X_31.1 0 5).toInt ≤ (X_31.1 0 1).toInt ∧ (X_31.1 0 1).toInt ≤ 3000 ∧ 0 ≤ (X_31.1 0 7).toInt ∧ (X_31.1 0 7).toInt ≤ 5 ∧ ((X_31.1 0 7).toInt = 0 ∨ (X_31.1 0 6).toInt < (X_31.1 0 5).toInt) ∧ (X.1 0 5).toInt ≤ (X_31.1 0 6).toInt) ∧ (X_31t.1 0 6 = X_31.1 0 6) ∧ (X_31t.1 0 7 = X_31.1 0 7) ∧ (X_31t.2.1 0 47 = X_31.2.1 0 47) := hh30
        obtain ⟨hh30, hh30_d6, hh30_d7, hh30_dT⟩ := hh30
        exact ok2.ret ⟨(Fr.rf.tr hFh30 (by decide)), (Fr.rf.tr hGh30 (by decide)), hAh30, (show 0 ≤ (X_31.1 0 6).toInt ∧ (X_31.1 0 6).toInt ≤ (X_31.1 0 5).toInt ∧ (X_31.1 0 5).toInt ≤ (X_31.1 0 1).toInt ∧ (X_31.1 0 1).toInt ≤ 3000 ∧ 0 ≤ (X_31.1 0 7).toInt ∧ (X_31.1 0 7).toInt ≤ 5 ∧ ((X_31.1 0 7).toInt = 0 ∨ (X_31.1 0 6).toInt < (X_31.1 0 5).toInt) ∧ (X.1 0 6).toInt ≤ (X_31.1 0 6).toInt ∧ -1 ≤ (1 : Int) ∧ (1 : Int) ≤ 2 ∧ ((X_31.1 0 9).toInt = 0 → (X.1 0 9).toInt = 0 ∧ 0 ≤ (1 : Int) ∧ (X.1 0 6).toInt < (X_31.1 0 6).toInt) from by have e0_ : (X_31.1 0 1).toInt = (X.1 0 1).toInt := congrArg Int32.toInt (hFh30.1 0 1 (show (1 : Nat) ∉ [5, 6, 7, 8, 47] from by decide)); have e1_ : (X_31.1 0 9).toInt = (X.1 0 9).toInt := congrArg Int32.toInt (hFh30.1 0 9 (show (9 : Nat) ∉ [5, 6, 7, 8, 47] from by decide)); exact ⟨(by omega), (by omega), (by omega), (by omega), (by omega), (by omega), (by omega), (by omega), (by omega), (by omega), (fun hq99 => ⟨(by omega), (by omega), (by omega)⟩)⟩)⟩
      · skip
        have l33 : ((1) : Int32).toInt = (1) := by decide
        refine ok2.bd (t_f_stray  _ _ lv P hag (Nat.le_trans (show 1 ≤ 1 from by decide) hlv)) ?_
        rintro r_36 X_35 X_35t ⟨hFh34, hGh34, hAh34, hh34⟩
        have hh34 : (¬ (X_35.1 0 9).toInt = 0) := hh34
        exact ok2.ret ⟨(Fr.rf.tr hFh34 (by decide)), (Fr.rf.tr hGh34 (by decide)), hAh34, (show 0 ≤ (X_35.1 0 6).toInt ∧ (X_35.1 0 6).toInt ≤ (X_35.1 0 5).toInt ∧ (X_35.1 0 5).toInt ≤ (X_35.1 0 1).toInt ∧ (X_35.1 0 1).toInt ≤ 3000 ∧ 0 ≤ (X_35.1 0 7).toInt ∧ (X_35.1 0 7).toInt ≤ 5 ∧ ((X_35.1 0 7).toInt = 0 ∨ (X_35.1 0 6).toInt < (X_35.1 0 5).toInt) ∧ (X.1 0 6).toInt ≤ (X_35.1 0 6).toInt ∧ -1 ≤ (1 : Int) ∧ (1 : Int) ≤ 2 ∧ ((X_35.1 0 9).toInt = 0 → (X.1 0 9).toInt = 0 ∧ 0 ≤ (1 : Int) ∧ (X.1 0 6).toInt < (X_35.1 0 6).toInt) from by have e0_ : (X_35.1 0 6).toInt = (X.1 0 6).toInt := congrArg Int32.toInt (hFh34.1 0 6 (show (6 : Nat) ∉ [9, 10] from by decide)); have e1_ : (X_35.1 0 5).toInt = (X.1 0 5).toInt := congrArg Int32.toInt (hFh34.1 0 5 (show (5 : Nat) ∉ [9, 10] from by decide)); have e2_ : (X_35.1 0 1).toInt = (X.1 0 1).toInt := congrArg Int32.toInt (hFh34.1 0 1 (show (1 : Nat) ∉ [9, 10] from by decide)); have e3_ : (X_35.1 0 7).toInt = (X.1 0 7).toInt := congrArg Int32.toInt (hFh34.1 0 7 (show (7 : Nat) ∉ [9, 10] from by decide)); exact ⟨(by omega), (by omega), (by omega), (by omega), (by omega), (by omega), (by omega), (by omega), (by omega), (by omega), (fun hq99 => ⟨(by omega), (by omega), (by omega)⟩)⟩)⟩
  · skip
    unfold f_plainKind_40
    refine ok2.ite (fun c37 => ?_) (fun c37 => ?_)
    · skip
      have l38 : ((0) : Int32).toInt = (0) := by decide
      refine ok2.bd (t_f_next  _ _ lv P hag (show 0 ≤ (X.1 0 5).toInt ∧ (X.1 0 5).toInt ≤ (X.1 0 1).toInt ∧ (X.1 0 1).toInt ≤ 3000 from by exact ⟨(by omega), (by omega), (by omega)⟩)) ?_
      rintro r_41 X_40 X_40t ⟨hFh39, hGh39, hAh39, hh39⟩
      have eh39_0 : (X_40.1 0 1).toInt = (X.1 0 1).toInt := congrArg Int32.toInt (hFh39.1 0 1 (show (1 : Nat) ∉ [5, 6, 7, 8, 47] from by decide))
      have hh39 : (0 ≤ (X_40.1 0 6).toInt ∧ (X_40.1 0 6).toInt ≤ (X_40.1 0 5).toInt ∧ (X_40.1 0 5).toInt ≤ (X_40.1 0 1).toInt ∧ (X_40.1 0 1).toInt ≤ 3000 ∧ 0 ≤ (X_40.1 0 7).toInt ∧ (X_40.1 0 7).toInt ≤ 5 ∧ ((X_40.1 0 7).toInt = 0 ∨ (X_40.1 0 6).toInt < (X_40.1 0 5).toInt) ∧ (X.1 0 5).toInt ≤ (X_40.1 0 6).toInt) ∧ (X_40t.1 0 6 = X_40.1 0 6) ∧ (X_40t.1 0 7 = X_40.1 0 7) ∧ (X_40t.2.1 0 47 = X_40.2.1 0 47) := hh39
      obtain ⟨hh39, hh39_d6, hh39_d7, hh39_dT⟩ := hh39
      exact ok2.ret ⟨(Fr.rf.tr hFh39 (by decide)), (Fr.rf.tr hGh39 (by decide)), hAh39, (show 0 ≤ (X_40.1 0 6).toInt ∧ (X_40.1 0 6).toInt ≤ (X_40.1 0 5).toInt ∧ (X_40.1 0 5).toInt ≤ (X_40.1 0 1).toInt ∧ (X_40.1 0 1).toInt ≤ 3000 ∧ 0 ≤ (X_40.1 0 7).toInt ∧ (X_40.1 0 7).toInt ≤ 5 ∧ ((X_40.1 0 7).toInt = 0 ∨ (X_40.1 0 6).toInt < (X_40.1 0 5).toInt) ∧ (X.1 0 6).toInt ≤ (X_40.1 0 6).toInt ∧ -1 ≤ (0 : Int) ∧ (0 : Int) ≤ 2 ∧ ((X_40.1 0 9).toInt = 0 → (X.1 0 9).toInt = 0 ∧ 0 ≤ (0 : Int) ∧ (X.1 0 6).toInt < (X_40.1 0 6).toInt) from by have e0_ : (X_40.1 0 1).toInt = (X.1 0 1).toInt := congrArg Int32.toInt (hFh39.1 0 1 (show (1 : Nat) ∉ [5, 6, 7, 8, 47] from by decide)); have e1_ : (X_40.1 0 9).toInt = (X.1 0 9).toInt := congrArg Int32.toInt (hFh39.1 0 9 (show (9 : Nat) ∉ [5, 6, 7, 8, 47] from by decide)); exact ⟨(by omega), (by omega), (by omega), (by omega), (by omega), (by omega), (by omega), (by omega), (by omega), (by omega), (fun hq99 => ⟨(by omega), (by omega), (by omega)⟩)⟩)⟩
    · skip
      have l42 : ((0) : Int32).toInt = (0) := by decide
      refine ok2.bd (t_f_stray  _ _ lv P hag (Nat.le_trans (show 1 ≤ 1 from by decide) hlv)) ?_
      rintro r_45 X_44 X_44t ⟨hFh43, hGh43, hAh43, hh43⟩
      have hh43 : (¬ (X_44.1 0 9).toInt = 0) := hh43
      exact ok2.ret ⟨(Fr.rf.tr hFh43 (by decide)), (Fr.rf.tr hGh43 (by decide)), hAh43, (show 0 ≤ (X_44.1 0 6).toInt ∧ (X_44.1 0 6).toInt ≤ (X_44.1 0 5).toInt ∧ (X_44.1 0 5).toInt ≤ (X_44.1 0 1).toInt ∧ (X_44.1 0 1).toInt ≤ 3000 ∧ 0 ≤ (X_44.1 0 7).toInt ∧ (X_44.1 0 7).toInt ≤ 5 ∧ ((X_44.1 0 7).toInt = 0 ∨ (X_44.1 0 6).toInt < (X_44.1 0 5).toInt) ∧ (X.1 0 6).toInt ≤ (X_44.1 0 6).toInt ∧ -1 ≤ (0 : Int) ∧ (0 : Int) ≤ 2 ∧ ((X_44.1 0 9).toInt = 0 → (X.1 0 9).toInt = 0 ∧ 0 ≤ (0 : Int) ∧ (X.1 0 6).toInt < (X_44.1 0 6).toInt) from by have e0_ : (X_44.1 0 6).toInt = (X.1 0 6).toInt := congrArg Int32.toInt (hFh43.1 0 6 (show (6 : Nat) ∉ [9, 10] from by decide)); have e1_ : (X_44.1 0 5).toInt = (X.1 0 5).toInt := congrArg Int32.toInt (hFh43.1 0 5 (show (5 : Nat) ∉ [9, 10] from by decide)); have e2_ : (X_44.1 0 1).toInt = (X.1 0 1).toInt := congrArg Int32.toInt (hFh43.1 0 1 (show (1 : Nat) ∉ [9, 10] from by decide)); have e3_ : (X_44.1 0 7).toInt = (X.1 0 7).toInt := congrArg Int32.toInt (hFh43.1 0 7 (show (7 : Nat) ∉ [9, 10] from by decide)); exact ⟨(by omega), (by omega), (by omega), (by omega), (by omega), (by omega), (by omega), (by omega), (by omega), (by omega), (fun hq99 => ⟨(by omega), (by omega), (by omega)⟩)⟩)⟩
set_option maxHeartbeats 4000000 in
set_option maxRecDepth 100000 in
theorem t_f_fifth (p1 : Int32) (X Xt : St) (lv : Nat) (P : Int) (hag : AG lv P X Xt) (hlv : 1 ≤ lv) : ok2 (f_fifth p1 X) (f_fifth p1 Xt) (fun r X1 X1t => Fr YR [9, 10] X X1 ∧ Fr YR [9, 10] Xt X1t ∧ AG lv P X1 X1t ∧ (((X1.1 0 9).toInt = 0 → (X.1 0 9).toInt = 0))) := by
  unfold f_fifth
  refine ok2.bd (t_f_isSign _ _ _ lv P hag (Nat.le_trans (show 1 ≤ 1 from by decide) hlv)) ?_
  rintro x1 X_2 X_2t ⟨eX_2, eX_2t, hh1⟩
  subst eX_2
  subst eX_2t
  have hh1 : ((x1.toInt = 1 ∧ (X.1 0 9).toInt = 0 ∧ (X.1 0 7).toInt = 4) ∨ x1.toInt = 0) := hh1
  refine ok2.ite (fun c3 => ?_) (fun c3 => ?_)
  · skip
    refine ok2.bd (t_f_isWord _ _ _ lv P hag (Nat.le_trans (show 1 ≤ 1 from by decide) hlv)) ?_
    rintro x5 X_5 X_5t ⟨eX_5, eX_5t, hh4⟩
    subst eX_5
    subst eX_5t
    have hh4 : ((x5.toInt = 1 ∧ (X.1 0 9).toInt = 0 ∧ (X.1 0 7).toInt = 2) ∨ x5.toInt = 0) := hh4
    refine ok2.ite (fun c6 => ?_) (fun c6 => ?_)
    · skip
      refine ok2.bd (t_f_isWord _ _ _ lv P hag (Nat.le_trans (show 1 ≤ 1 from by decide) hlv)) ?_
      rintro x7 X_8 X_8t ⟨eX_8, eX_8t, hh7⟩
      subst eX_8
      subst eX_8t
      have hh7 : ((x7.toInt = 1 ∧ (X.1 0 9).toInt = 0 ∧ (X.1 0 7).toInt = 2) ∨ x7.toInt = 0) := hh7
      refine ok2.ite (fun c9 => ?_) (fun c9 => ?_)
      · skip
        refine ok2.bd (t_f_isWord _ _ _ lv P hag (Nat.le_trans (show 1 ≤ 1 from by decide) hlv)) ?_
        rintro x9 X_11 X_11t ⟨eX_11, eX_11t, hh10⟩
        subst eX_11
        subst eX_11t
        have hh10 : ((x9.toInt = 1 ∧ (X.1 0 9).toInt = 0 ∧ (X.1 0 7).toInt = 2) ∨ x9.toInt = 0) := hh10
        refine ok2.ite (fun c12 => ?_) (fun c12 => ?_)
        · skip
          refine ok2.bd (t_f_isWord _ _ _ lv P hag (Nat.le_trans (show 1 ≤ 1 from by decide) hlv)) ?_
          rintro x11 X_14 X_14t ⟨eX_14, eX_14t, hh13⟩
          subst eX_14
          subst eX_14t
          have hh13 : ((x11.toInt = 1 ∧ (X.1 0 9).toInt = 0 ∧ (X.1 0 7).toInt = 2) ∨ x11.toInt = 0) := hh13
          refine ok2.ite (fun c15 => ?_) (fun c15 => ?_)
          · skip
            unfold f_fifth_50
            refine ok2.ite (fun c16 => ?_) (fun c16 => ?_)
            · skip
              refine ok2.ite (fun c17 => ?_) (fun c17 => ?_)
              · skip
                have l18 : ((0) : Int32).toInt = (0) := by decide
                exact ok2.ret ⟨Fr.rf, Fr.rf, hag, (show ((X.1 0 9).toInt = 0 → (X.1 0 9).toInt = 0) from by exact (fun hq41 => (by omega)))⟩
              · skip
                have l19 : ((0) : Int32).toInt = (0) := by decide
                refine ok2.letE (v1 := (X.1 0 6)) rfl (hag.s1 6 (by decide) (Nat.le_trans (show 1 ≤ 1 from by decide) hlv)) ?_
                refine ok2.bd (t_f_fails _ _ _ _ lv P hag) ?_
                rintro r_22 X_21 X_21t ⟨hFh20, hGh20, hAh20, hh20⟩
                have hh20 : (((X.1 0 9).toInt = 0 ∧ (X_21.1 0 9).toInt = (3 : Int)) ∨ (¬ (X.1 0 9).toInt = 0 ∧ (X_21.1 0 9).toInt = (X.1 0 9).toInt)) := hh20
                exact ok2.ret ⟨(Fr.rf.tr hFh20 (by decide)), (Fr.rf.tr hGh20 (by decide)), hAh20, (show ((X_21.1 0 9).toInt = 0 → (X.1 0 9).toInt = 0) from by exact (fun hq44 => (by omega)))⟩
            · skip
              exact ok2.ret ⟨Fr.rf, Fr.rf, hag, (show ((X.1 0 9).toInt = 0 → (X.1 0 9).toInt = 0) from by exact (fun hq41 => (by omega)))⟩
          · skip
            unfold f_fifth_45
            unfold f_fifth_50
            refine ok2.ite (fun c23 => ?_) (fun c23 => ?_)
            · skip
              refine ok2.ite (fun c24 => ?_) (fun c24 => ?_)
              · skip
                have l25 : ((1) : Int32).toInt = (1) := by decide
                exact ok2.ret ⟨Fr.rf, Fr.rf, hag, (show ((X.1 0 9).toInt = 0 → (X.1 0 9).toInt = 0) from by exact (fun hq41 => (by omega)))⟩
              · skip
                have l26 : ((1) : Int32).toInt = (1) := by decide
                refine ok2.letE (v1 := (X.1 0 6)) rfl (hag.s1 6 (by decide) (Nat.le_trans (show 1 ≤ 1 from by decide) hlv)) ?_
                refine ok2.bd (t_f_fails _ _ _ _ lv P hag) ?_
                rintro r_29 X_28 X_28t ⟨hFh27, hGh27, hAh27, hh27⟩
                have hh27 : (((X.1 0 9).toInt = 0 ∧ (X_28.1 0 9).toInt = (3 : Int)) ∨ (¬ (X.1 0 9).toInt = 0 ∧ (X_28.1 0 9).toInt = (X.1 0 9).toInt)) := hh27
                exact ok2.ret ⟨(Fr.rf.tr hFh27 (by decide)), (Fr.rf.tr hGh27 (by decide)), hAh27, (show ((X_28.1 0 9).toInt = 0 → (X.1 0 9).toInt = 0) from by exact (fun hq44 => (by omega)))⟩
            · skip
              exact ok2.ret ⟨Fr.rf, Fr.rf, hag, (show ((X.1 0 9).toInt = 0 → (X.1 0 9).toInt = 0) from by exact (fun hq41 => (by omega)))⟩
        · skip
          unfold f_fifth_45
          unfold f_fifth_50
          refine ok2.ite (fun c30 => ?_) (fun c30 => ?_)
          · skip
            refine ok2.ite (fun c31 => ?_) (fun c31 => ?_)
            · skip
              have l32 : ((1) : Int32).toInt = (1) := by decide
              exact ok2.ret ⟨Fr.rf, Fr.rf, hag, (show ((X.1 0 9).toInt = 0 → (X.1 0 9).toInt = 0) from by exact (fun hq41 => (by omega)))⟩
            · skip
              have l33 : ((1) : Int32).toInt = (1) := by decide
              refine ok2.letE (v1 := (X.1 0 6)) rfl (hag.s1 6 (by decide) (Nat.le_trans (show 1 ≤ 1 from by decide) hlv)) ?_
              refine ok2.bd (t_f_fails _ _ _ _ lv P hag) ?_
              rintro r_36 X_35 X_35t ⟨hFh34, hGh34, hAh34, hh34⟩
              have hh34 : (((X.1 0 9).toInt = 0 ∧ (X_35.1 0 9).toInt = (3 : Int)) ∨ (¬ (X.1 0 9).toInt = 0 ∧ (X_35.1 0 9).toInt = (X.1 0 9).toInt)) := hh34
              exact ok2.ret ⟨(Fr.rf.tr hFh34 (by decide)), (Fr.rf.tr hGh34 (by decide)), hAh34, (show ((X_35.1 0 9).toInt = 0 → (X.1 0 9).toInt = 0) from by exact (fun hq44 => (by omega)))⟩
          · skip
            exact ok2.ret ⟨Fr.rf, Fr.rf, hag, (show ((X.1 0 9).toInt = 0 → (X.1 0 9).toInt = 0) from by exact (fun hq41 => (by omega)))⟩
      · skip
        unfold f_fifth_45
        unfold f_fifth_50
        refine ok2.ite (fun c37 => ?_) (fun c37 => ?_)
        · skip
          refine ok2.ite (fun c38 => ?_) (fun c38 => ?_)
          · skip
            have l39 : ((1) : Int32).toInt = (1) := by decide
            exact ok2.ret ⟨Fr.rf, Fr.rf, hag, (show ((X.1 0 9).toInt = 0 → (X.1 0 9).toInt = 0) from by exact (fun hq41 => (by omega)))⟩
          · skip
            have l40 : ((1) : Int32).toInt = (1) := by decide
            refine ok2.letE (v1 := (X.1 0 6)) rfl (hag.s1 6 (by decide) (Nat.le_trans (show 1 ≤ 1 from by decide) hlv)) ?_
            refine ok2.bd (t_f_fails _ _ _ _ lv P hag) ?_
            rintro r_43 X_42 X_42t ⟨hFh41, hGh41, hAh41, hh41⟩
            have hh41 : (((X.1 0 9).toInt = 0 ∧ (X_42.1 0 9).toInt = (3 : Int)) ∨ (¬ (X.1 0 9).toInt = 0 ∧ (X_42.1 0 9).toInt = (X.1 0 9).toInt)) := hh41
            exact ok2.ret ⟨(Fr.rf.tr hFh41 (by decide)), (Fr.rf.tr hGh41 (by decide)), hAh41, (show ((X_42.1 0 9).toInt = 0 → (X.1 0 9).toInt = 0) from by exact (fun hq44 => (by omega)))⟩
        · skip
          exact ok2.ret ⟨Fr.rf, Fr.rf, hag, (show ((X.1 0 9).toInt = 0 → (X.1 0 9).toInt = 0) from by exact (fun hq41 => (by omega)))⟩
    · skip
      unfold f_fifth_45
      unfold f_fifth_50
      refine ok2.ite (fun c44 => ?_) (fun c44 => ?_)
      · skip
        refine ok2.ite (fun c45 => ?_) (fun c45 => ?_)
        · skip
          have l46 : ((1) : Int32).toInt = (1) := by decide
          exact ok2.ret ⟨Fr.rf, Fr.rf, hag, (show ((X.1 0 9).toInt = 0 → (X.1 0 9).toInt = 0) from by exact (fun hq41 => (by omega)))⟩
        · skip
          have l47 : ((1) : Int32).toInt = (1) := by decide
          refine ok2.letE (v1 := (X.1 0 6)) rfl (hag.s1 6 (by decide) (Nat.le_trans (show 1 ≤ 1 from by decide) hlv)) ?_
          refine ok2.bd (t_f_fails _ _ _ _ lv P hag) ?_
          rintro r_50 X_49 X_49t ⟨hFh48, hGh48, hAh48, hh48⟩
          have hh48 : (((X.1 0 9).toInt = 0 ∧ (X_49.1 0 9).toInt = (3 : Int)) ∨ (¬ (X.1 0 9).toInt = 0 ∧ (X_49.1 0 9).toInt = (X.1 0 9).toInt)) := hh48
          exact ok2.ret ⟨(Fr.rf.tr hFh48 (by decide)), (Fr.rf.tr hGh48 (by decide)), hAh48, (show ((X_49.1 0 9).toInt = 0 → (X.1 0 9).toInt = 0) from by exact (fun hq44 => (by omega)))⟩
      · skip
        exact ok2.ret ⟨Fr.rf, Fr.rf, hag, (show ((X.1 0 9).toInt = 0 → (X.1 0 9).toInt = 0) from by exact (fun hq41 => (by omega)))⟩
  · skip
    unfold f_fifth_45
    unfold f_fifth_50
    refine ok2.ite (fun c51 => ?_) (fun c51 => ?_)
    · skip
      refine ok2.ite (fun c52 => ?_) (fun c52 => ?_)
      · skip
        have l53 : ((1) : Int32).toInt = (1) := by decide
        exact ok2.ret ⟨Fr.rf, Fr.rf, hag, (show ((X.1 0 9).toInt = 0 → (X.1 0 9).toInt = 0) from by exact (fun hq41 => (by omega)))⟩
      · skip
        have l54 : ((1) : Int32).toInt = (1) := by decide
        refine ok2.letE (v1 := (X.1 0 6)) rfl (hag.s1 6 (by decide) (Nat.le_trans (show 1 ≤ 1 from by decide) hlv)) ?_
        refine ok2.bd (t_f_fails _ _ _ _ lv P hag) ?_
        rintro r_57 X_56 X_56t ⟨hFh55, hGh55, hAh55, hh55⟩
        have hh55 : (((X.1 0 9).toInt = 0 ∧ (X_56.1 0 9).toInt = (3 : Int)) ∨ (¬ (X.1 0 9).toInt = 0 ∧ (X_56.1 0 9).toInt = (X.1 0 9).toInt)) := hh55
        exact ok2.ret ⟨(Fr.rf.tr hFh55 (by decide)), (Fr.rf.tr hGh55 (by decide)), hAh55, (show ((X_56.1 0 9).toInt = 0 → (X.1 0 9).toInt = 0) from by exact (fun hq44 => (by omega)))⟩
    · skip
      exact ok2.ret ⟨Fr.rf, Fr.rf, hag, (show ((X.1 0 9).toInt = 0 → (X.1 0 9).toInt = 0) from by exact (fun hq41 => (by omega)))⟩
