set_option maxHeartbeats 4000000 in
set_option maxRecDepth 100000 in
theorem t_f_knows (X Xt : St) (lv : Nat) (P : Int) (hag : AG lv P X Xt) (hy0 : (X.1 0 9).toInt = 0 ∧ 0 ≤ (X.1 0 18).toInt ∧ (X.1 0 18).toInt ≤ 40 ∧ (X.1 0 18).toInt ≤ P ∧ 0 ≤ (X.1 0 19).toInt ∧ (X.1 0 19).toInt ≤ 3001 ∧ 0 ≤ (X.1 0 1).toInt ∧ (X.1 0 1).toInt ≤ 3000) (h_FL : (FLw X)) : ok2 (f_knows X) (f_knows Xt) (fun r X1 X1t => Fr YR [9, 10, 5200] X X1 ∧ Fr YR [9, 10, 5200] Xt X1t ∧ AG lv P X1 X1t ∧ (((X1.1 0 9).toInt = 0 → (X.1 0 9).toInt = 0)) ∧ ((X1.1 0 9).toInt = 0 → ∀ i : Nat, (i : Int) < (X.1 0 19).toInt → (X.1 20 i).toInt = 3 → 0 ≤ (X1.1 26 i).toInt ∧ (X1.1 26 i).toInt < (X.1 0 18).toInt) ∧ (∀ i : Nat, ¬ (X.1 20 i).toInt = 3 → X1.1 26 i = X.1 26 i)) := by
  unfold f_knows
  refine ok2.letE (v1 := (X.1 0 1)) rfl (hag.s0 1 (by decide)) ?_
  refine ok2.add (show _ ≤ (X.1 0 1).toInt + (1 : Int) ∧ (X.1 0 1).toInt + (1 : Int) ≤ _ from by omega) (fun x2 hx2 => ?_)
  have hx2 : x2.toInt = (X.1 0 1).toInt + (1 : Int) := hx2
  have lp_f_knows_11 : ∀ (n : Nat), ∀ (a1 : Int32) (a2 : Int32) (a3 : Int32) (Z1 Z1t : St), X = Z1 → Xt = Z1t → (((a2.toInt = 0 ∧ a1.toInt = (X.1 0 1).toInt + 1) ∨ 1 ≤ a2.toInt) ∧ 0 ≤ a3.toInt ∧ a3.toInt ≤ (X.1 0 18).toInt) → ((X.1 0 18).toInt - a3.toInt).toNat < n → ok2 (f_knows_11 n a1 a2 a3 Z1) (f_knows_11 n a1 a2 a3 Z1t) (fun r X1 X1t => Fr YR [9, 10, 5200] X X1 ∧ Fr YR [9, 10, 5200] Xt X1t ∧ AG lv P X1 X1t ∧ (((X1.1 0 9).toInt = 0 → (X.1 0 9).toInt = 0)) ∧ ((X1.1 0 9).toInt = 0 → ∀ i : Nat, (i : Int) < (X.1 0 19).toInt → (X.1 20 i).toInt = 3 → 0 ≤ (X1.1 26 i).toInt ∧ (X1.1 26 i).toInt < (X.1 0 18).toInt) ∧ (∀ i : Nat, ¬ (X.1 20 i).toInt = 3 → X1.1 26 i = X.1 26 i)) := by
    intro n
    unfold f_knows_11
    refine lp_indN (P := fun (n : Nat) (r_f_knows_11 : Int32 → Int32 → Int32 → St → Option (Int32 × St)) => ∀ (a1 : Int32) (a2 : Int32) (a3 : Int32) (Z1 Z1t : St), X = Z1 → Xt = Z1t → (((a2.toInt = 0 ∧ a1.toInt = (X.1 0 1).toInt + 1) ∨ 1 ≤ a2.toInt) ∧ 0 ≤ a3.toInt ∧ a3.toInt ≤ (X.1 0 18).toInt) → ((X.1 0 18).toInt - a3.toInt).toNat < n → ok2 (r_f_knows_11 a1 a2 a3 Z1) (r_f_knows_11 a1 a2 a3 Z1t) (fun r X1 X1t => Fr YR [9, 10, 5200] X X1 ∧ Fr YR [9, 10, 5200] Xt X1t ∧ AG lv P X1 X1t ∧ (((X1.1 0 9).toInt = 0 → (X.1 0 9).toInt = 0)) ∧ ((X1.1 0 9).toInt = 0 → ∀ i : Nat, (i : Int) < (X.1 0 19).toInt → (X.1 20 i).toInt = 3 → 0 ≤ (X1.1 26 i).toInt ∧ (X1.1 26 i).toInt < (X.1 0 18).toInt) ∧ (∀ i : Nat, ¬ (X.1 20 i).toInt = 3 → X1.1 26 i = X.1 26 i))) ?_ ?_ n
    · intro a1 a2 a3 Z1 Z1t hF hA hI hm; exact absurd hm (Nat.not_lt_zero _)
    · intro n r_f_knows_11 ih_f_knows_11 a1 a2 a3 Z1 Z1t hFZ1 hAZ1 hIZ1 hmZ1
      subst hFZ1
      subst hAZ1
      unfold f_knows_11_s
      refine ok2.letE (v1 := (X.1 0 18)) rfl (hag.s0 18 (by decide)) ?_
      refine ok2.ite (fun c2 => ?_) (fun c2 => ?_)
      · skip
        have lp_f_knows_60 : ∀ (n : Nat), ∀ (a1 : Int32) (a2 : Int32) (a3 : Int32) (Z3 Z3t : St), Fr YR [5200] X Z3 → Fr YR [5200] Xt Z3t → AG lv P Z3 Z3t → (((a2.toInt = 0 ∧ a1.toInt = (X.1 0 1).toInt + 1) ∨ 1 ≤ a2.toInt) ∧ 0 ≤ a3.toInt ∧ a3.toInt ≤ (X.1 0 19).toInt) → (a2.toInt = 0 → ∀ i : Nat, i < ix a3 → (X.1 20 i).toInt = 3 → 0 ≤ (Z3.1 26 i).toInt ∧ (Z3.1 26 i).toInt < (X.1 0 18).toInt) → (∀ i : Nat, ¬ (X.1 20 i).toInt = 3 → Z3.1 26 i = X.1 26 i) → ((X.1 0 19).toInt - a3.toInt).toNat < n → ok2 (f_knows_60 n a1 a2 a3 Z3) (f_knows_60 n a1 a2 a3 Z3t) (fun r X1 X1t => Fr YR [9, 10, 5200] X X1 ∧ Fr YR [9, 10, 5200] Xt X1t ∧ AG lv P X1 X1t ∧ (((X1.1 0 9).toInt = 0 → (X.1 0 9).toInt = 0)) ∧ ((X1.1 0 9).toInt = 0 → ∀ i : Nat, (i : Int) < (X.1 0 19).toInt → (X.1 20 i).toInt = 3 → 0 ≤ (X1.1 26 i).toInt ∧ (X1.1 26 i).toInt < (X.1 0 18).toInt) ∧ (∀ i : Nat, ¬ (X.1 20 i).toInt = 3 → X1.1 26 i = X.1 26 i)) := by
          intro n
          unfold f_knows_60
          refine lp_indN (P := fun (n : Nat) (r_f_knows_60 : Int32 → Int32 → Int32 → St → Option (Int32 × St)) => ∀ (a1 : Int32) (a2 : Int32) (a3 : Int32) (Z3 Z3t : St), Fr YR [5200] X Z3 → Fr YR [5200] Xt Z3t → AG lv P Z3 Z3t → (((a2.toInt = 0 ∧ a1.toInt = (X.1 0 1).toInt + 1) ∨ 1 ≤ a2.toInt) ∧ 0 ≤ a3.toInt ∧ a3.toInt ≤ (X.1 0 19).toInt) → (a2.toInt = 0 → ∀ i : Nat, i < ix a3 → (X.1 20 i).toInt = 3 → 0 ≤ (Z3.1 26 i).toInt ∧ (Z3.1 26 i).toInt < (X.1 0 18).toInt) → (∀ i : Nat, ¬ (X.1 20 i).toInt = 3 → Z3.1 26 i = X.1 26 i) → ((X.1 0 19).toInt - a3.toInt).toNat < n → ok2 (r_f_knows_60 a1 a2 a3 Z3) (r_f_knows_60 a1 a2 a3 Z3t) (fun r X1 X1t => Fr YR [9, 10, 5200] X X1 ∧ Fr YR [9, 10, 5200] Xt X1t ∧ AG lv P X1 X1t ∧ (((X1.1 0 9).toInt = 0 → (X.1 0 9).toInt = 0)) ∧ ((X1.1 0 9).toInt = 0 → ∀ i : Nat, (i : Int) < (X.1 0 19).toInt → (X.1 20 i).toInt = 3 → 0 ≤ (X1.1 26 i).toInt ∧ (X1.1 26 i).toInt < (X.1 0 18).toInt) ∧ (∀ i : Nat, ¬ (X.1 20 i).toInt = 3 → X1.1 26 i = X.1 26 i))) ?_ ?_ n
          · intro a1 a2 a3 Z3 Z3t hF hG hA hI hZ3_VP hZ3_V3 hm; exact absurd hm (Nat.not_lt_zero _)
          · intro n r_f_knows_60 ih_f_knows_60 a1 a2 a3 Z3 Z3t hFZ3 hGZ3 hAZ3 hIZ3 hZ3_VP hZ3_V3 hmZ3
            unfold f_knows_60_s
            refine ok2.letE (v1 := (X.1 0 19)) (hFZ3.1 0 19 (show (19 : Nat) ∉ [5200] from by decide)) ((hAZ3.s0 19 (by decide)).trans (hFZ3.1 0 19 (show (19 : Nat) ∉ [5200] from by decide))) ?_
            refine ok2.ite (fun c4 => ?_) (fun c4 => ?_)
            · skip
              refine ok2.ite (fun c5 => ?_) (fun c5 => ?_)
              · skip
                exact ok2.ret ⟨(Fr.rf.tr hFZ3 (by decide)), (Fr.rf.tr hGZ3 (by decide)), hAZ3, (show ((Z3.1 0 9).toInt = 0 → (X.1 0 9).toInt = 0) from by have e0_ : (Z3.1 0 9).toInt = (X.1 0 9).toInt := congrArg Int32.toInt (hFZ3.1 0 9 (show (9 : Nat) ∉ [5200] from by decide)); exact (fun hq42 => (by omega))), (fun hw i hi h3 => hZ3_VP (by omega) i (by have := ixc (z := a3) (by omega); omega) h3), hZ3_V3⟩
              · skip
                refine ok2.bd (t_f_fails _ _ _ _ lv P hAZ3) ?_
                rintro r_8 X_7 X_7t ⟨hFh6, hGh6, hAh6, hh6⟩
                have eh6_0 : (Z3.1 0 9).toInt = (X.1 0 9).toInt := congrArg Int32.toInt (hFZ3.1 0 9 (show (9 : Nat) ∉ [5200] from by decide))
                have hh6 : (((Z3.1 0 9).toInt = 0 ∧ (X_7.1 0 9).toInt = a2.toInt) ∨ (¬ (Z3.1 0 9).toInt = 0 ∧ (X_7.1 0 9).toInt = (Z3.1 0 9).toInt)) := hh6
                exact ok2.ret ⟨((Fr.rf.tr hFZ3 (by decide)).tr hFh6 (by decide)), ((Fr.rf.tr hGZ3 (by decide)).tr hGh6 (by decide)), hAh6, (show ((X_7.1 0 9).toInt = 0 → (X.1 0 9).toInt = 0) from by exact (fun hq43 => (by omega))), (fun hw => absurd hw (by omega)), (fun i h3 => ((hFh6.1 26 _ (show (5200 : Nat) ∉ [9, 10] from by decide))).trans (hZ3_V3 i h3))⟩
            · skip
              refine ok2.ck (show 0 ≤ a3.toInt ∧ a3.toInt < ((3100 : Nat) : Int) from by omega) ?_
              refine ok2.letE (v1 := (X.1 20 (ix a3))) (hFZ3.1 20 (ix a3) (show (4000 : Nat) ∉ [5200] from by decide)) ((hAZ3.ri 20 19 (by decide) (Nat.zero_le _) a3 (show 0 ≤ a3.toInt ∧ a3.toInt < (Z3.1 0 19).toInt from by have ec_ : (Z3.1 0 19).toInt = (X.1 0 19).toInt := congrArg Int32.toInt (hFZ3.1 0 19 (show (19 : Nat) ∉ [5200] from by decide)); omega)).trans (hFZ3.1 20 (ix a3) (show (4000 : Nat) ∉ [5200] from by decide))) ?_
              refine ok2.ite (fun c9 => ?_) (fun c9 => ?_)
              · skip
                refine ok2.ck (show 0 ≤ a3.toInt ∧ a3.toInt < ((3100 : Nat) : Int) from by omega) ?_
                refine ok2.anyE (hAZ3.rl 29 19 (by decide) (Nat.zero_le _) a3 (show 0 ≤ a3.toInt ∧ a3.toInt < (Z3.1 0 19).toInt from by have ec_ : (Z3.1 0 19).toInt = (X.1 0 19).toInt := congrArg Int32.toInt (hFZ3.1 0 19 (show (19 : Nat) ∉ [5200] from by decide)); omega)) (fun y7 => ?_)
                refine ok2.bd (t_f_partOf _ _ _ lv P hAZ3 (show 0 ≤ (Z3.1 0 18).toInt ∧ (Z3.1 0 18).toInt ≤ 41 ∧ (Z3.1 0 18).toInt ≤ P from by have e0_ : (Z3.1 0 18).toInt = (X.1 0 18).toInt := congrArg Int32.toInt (hFZ3.1 0 18 (show (18 : Nat) ∉ [5200] from by decide)); exact ⟨(by omega), (by omega), (by omega)⟩)) ?_
                rintro x8 X_11 X_11t ⟨eX_11, eX_11t, hh10⟩
                subst eX_11
                subst eX_11t
                have eh10_0 : (Z3.1 0 18).toInt = (X.1 0 18).toInt := congrArg Int32.toInt (hFZ3.1 0 18 (show (18 : Nat) ∉ [5200] from by decide))
                have hh10 : (-1 ≤ x8.toInt ∧ (x8.toInt = -1 ∨ x8.toInt < (Z3.1 0 18).toInt)) := hh10
                refine ok2.ck (show 0 ≤ a3.toInt ∧ a3.toInt < ((3100 : Nat) : Int) from by omega) ?_
                refine ok2.letV ?_
                refine ok2.ck (show 0 ≤ a3.toInt ∧ a3.toInt < ((3100 : Nat) : Int) from by omega) ?_
                refine ok2.letE (v1 := ((wI Z3 26 (ix a3) x8).1 26 (ix a3))) rfl ((hAZ3.wI 26 (ix a3) _ (Or.inl (by decide))).ri 26 19 (by decide) (Nat.zero_le _) a3 (show 0 ≤ a3.toInt ∧ a3.toInt < ((wI Z3 26 (ix a3) x8).1 0 19).toInt from by have ec_ : ((wI Z3 26 (ix a3) x8).1 0 19).toInt = (X.1 0 19).toInt := congrArg Int32.toInt (hFZ3.1 0 19 (show (19 : Nat) ∉ [5200] from by decide)); omega)) ?_
                refine ok2.ite (fun c12 => ?_) (fun c12 => ?_)
                · skip
                  unfold f_knows_126
                  refine ok2.inc (by decide) (show _ ≤ a3.toInt + (1) ∧ a3.toInt + (1) ≤ _ from by omega) (fun x12 hx12 => ?_)
                  have hx12 : x12.toInt = a3.toInt + (1) := hx12
                  have K13 : a2.toInt = 0 → ∀ i : Nat, i < ix x12 → (X.1 20 i).toInt = 3 → 0 ≤ ((wI Z3 26 (ix a3) x8).1 26 i).toInt ∧ ((wI Z3 26 (ix a3) x8).1 26 i).toInt < (X.1 0 18).toInt := by
                    intro hz i hi h3
                    have e1 := ixc (z := a3) (by omega)
                    have e2 := ixc (z := x12) (by omega)
                    by_cases qi : i = ix a3
                    · have hq : ((wI Z3 26 (ix a3) x8).1 26 (ix a3)).toInt = x8.toInt := congrArg Int32.toInt (wI_at _ 26 _ _)
                      rw [qi]
                      omega
                    · rw [wI_ne _ 26 _ _ 26 _ (fun q => qi q.2)]
                      exact hZ3_VP (by omega) i (by omega) h3
                  exact ih_f_knows_60 a1 a2 x12 (wI Z3 26 (ix a3) x8) (wI Z3t 26 (ix a3) x8) ((Fr.rf.tr hFZ3 (by decide)).wI 26 (ix a3) _ (show (5200 : Nat) ∈ [5200] from by decide)) ((Fr.rf.tr hGZ3 (by decide)).wI 26 (ix a3) _ (show (5200 : Nat) ∈ [5200] from by decide)) (hAZ3.wI 26 (ix a3) _ (Or.inl (by decide))) (show ((a2.toInt = 0 ∧ a1.toInt = (X.1 0 1).toInt + 1) ∨ 1 ≤ a2.toInt) ∧ 0 ≤ x12.toInt ∧ x12.toInt ≤ (X.1 0 19).toInt from by exact ⟨(by omega), (by omega), (by omega)⟩) K13 (fun i h3 => (wI_ne _ 26 _ _ 26 _ (fun q => h3 (by rw [q.2]; omega))).trans (hZ3_V3 i h3)) (show ((X.1 0 19).toInt - x12.toInt).toNat < n from by omega)
                · skip
                  refine ok2.ck (show 0 ≤ a3.toInt ∧ a3.toInt < ((3100 : Nat) : Int) from by omega) ?_
                  refine ok2.letE (v1 := (X.1 21 (ix a3))) (hFZ3.1 21 (ix a3) (show (4200 : Nat) ∉ [5200] from by decide)) ((hAZ3.ri 21 19 (by decide) (Nat.zero_le _) a3 (show 0 ≤ a3.toInt ∧ a3.toInt < (Z3.1 0 19).toInt from by have ec_ : (Z3.1 0 19).toInt = (X.1 0 19).toInt := congrArg Int32.toInt (hFZ3.1 0 19 (show (19 : Nat) ∉ [5200] from by decide)); omega)).trans (hFZ3.1 21 (ix a3) (show (4200 : Nat) ∉ [5200] from by decide))) ?_
                  have hf14 : (X.1 21 (ix a3)).toInt ≤ (X.1 0 1).toInt := (h_FL (by omega)).1 (ix a3) (by have := ixc (z := a3) (by omega); omega)
                  refine ok2.ite (fun c15 => ?_) (fun c15 => ?_)
                  · skip
                    unfold f_knows_126
                    refine ok2.inc (by decide) (show _ ≤ a3.toInt + (1) ∧ a3.toInt + (1) ≤ _ from by omega) (fun x12 hx12 => ?_)
                    have hx12 : x12.toInt = a3.toInt + (1) := hx12
                    have K16 : a2.toInt = 0 → ∀ i : Nat, i < ix x12 → (X.1 20 i).toInt = 3 → 0 ≤ ((wI Z3 26 (ix a3) x8).1 26 i).toInt ∧ ((wI Z3 26 (ix a3) x8).1 26 i).toInt < (X.1 0 18).toInt := by
                      intro hz i hi h3
                      have e1 := ixc (z := a3) (by omega)
                      have e2 := ixc (z := x12) (by omega)
                      by_cases qi : i = ix a3
                      · have hq : ((wI Z3 26 (ix a3) x8).1 26 (ix a3)).toInt = x8.toInt := congrArg Int32.toInt (wI_at _ 26 _ _)
                        rw [qi]
                        omega
                      · rw [wI_ne _ 26 _ _ 26 _ (fun q => qi q.2)]
                        exact hZ3_VP (by omega) i (by omega) h3
                    exact ih_f_knows_60 a1 a2 x12 (wI Z3 26 (ix a3) x8) (wI Z3t 26 (ix a3) x8) ((Fr.rf.tr hFZ3 (by decide)).wI 26 (ix a3) _ (show (5200 : Nat) ∈ [5200] from by decide)) ((Fr.rf.tr hGZ3 (by decide)).wI 26 (ix a3) _ (show (5200 : Nat) ∈ [5200] from by decide)) (hAZ3.wI 26 (ix a3) _ (Or.inl (by decide))) (show ((a2.toInt = 0 ∧ a1.toInt = (X.1 0 1).toInt + 1) ∨ 1 ≤ a2.toInt) ∧ 0 ≤ x12.toInt ∧ x12.toInt ≤ (X.1 0 19).toInt from by exact ⟨(by omega), (by omega), (by omega)⟩) K16 (fun i h3 => (wI_ne _ 26 _ _ 26 _ (fun q => h3 (by rw [q.2]; omega))).trans (hZ3_V3 i h3)) (show ((X.1 0 19).toInt - x12.toInt).toNat < n from by omega)
                  · skip
                    refine ok2.ck (show 0 ≤ a3.toInt ∧ a3.toInt < ((3100 : Nat) : Int) from by omega) ?_
                    refine ok2.letE (v1 := (X.1 21 (ix a3))) (hFZ3.1 21 (ix a3) (show (4200 : Nat) ∉ [5200] from by decide)) ((hAZ3.ri 21 19 (by decide) (Nat.zero_le _) a3 (show 0 ≤ a3.toInt ∧ a3.toInt < (Z3.1 0 19).toInt from by have ec_ : (Z3.1 0 19).toInt = (X.1 0 19).toInt := congrArg Int32.toInt (hFZ3.1 0 19 (show (19 : Nat) ∉ [5200] from by decide)); omega)).trans (hFZ3.1 21 (ix a3) (show (4200 : Nat) ∉ [5200] from by decide))) ?_
                    have hf17 : (X.1 21 (ix a3)).toInt ≤ (X.1 0 1).toInt := (h_FL (by omega)).1 (ix a3) (by have := ixc (z := a3) (by omega); omega)
                    unfold f_knows_126
                    refine ok2.inc (by decide) (show _ ≤ a3.toInt + (1) ∧ a3.toInt + (1) ≤ _ from by omega) (fun x12 hx12 => ?_)
                    have hx12 : x12.toInt = a3.toInt + (1) := hx12
                    exact ih_f_knows_60 (X.1 21 (ix a3)) (6 : Int32) x12 (wI Z3 26 (ix a3) x8) (wI Z3t 26 (ix a3) x8) ((Fr.rf.tr hFZ3 (by decide)).wI 26 (ix a3) _ (show (5200 : Nat) ∈ [5200] from by decide)) ((Fr.rf.tr hGZ3 (by decide)).wI 26 (ix a3) _ (show (5200 : Nat) ∈ [5200] from by decide)) (hAZ3.wI 26 (ix a3) _ (Or.inl (by decide))) (show (((6 : Int) = 0 ∧ (X.1 21 (ix a3)).toInt = (X.1 0 1).toInt + 1) ∨ 1 ≤ (6 : Int)) ∧ 0 ≤ x12.toInt ∧ x12.toInt ≤ (X.1 0 19).toInt from by exact ⟨(by omega), (by omega), (by omega)⟩) (fun hz => absurd hz (by decide)) (fun i h3 => (wI_ne _ 26 _ _ 26 _ (fun q => h3 (by rw [q.2]; omega))).trans (hZ3_V3 i h3)) (show ((X.1 0 19).toInt - x12.toInt).toNat < n from by omega)
              · skip
                unfold f_knows_126
                refine ok2.inc (by decide) (show _ ≤ a3.toInt + (1) ∧ a3.toInt + (1) ≤ _ from by omega) (fun x12 hx12 => ?_)
                have hx12 : x12.toInt = a3.toInt + (1) := hx12
                have K18 : a2.toInt = 0 → ∀ i : Nat, i < ix x12 → (X.1 20 i).toInt = 3 → 0 ≤ (Z3.1 26 i).toInt ∧ (Z3.1 26 i).toInt < (X.1 0 18).toInt := by
                  intro hz i hi h3
                  have e1 := ixc (z := a3) (by omega)
                  have e2 := ixc (z := x12) (by omega)
                  by_cases qi : i = ix a3
                  · exfalso
                    rw [qi] at h3
                    omega
                  · exact hZ3_VP (by omega) i (by omega) h3
                exact ih_f_knows_60 a1 a2 x12 Z3 Z3t (Fr.rf.tr hFZ3 (by decide)) (Fr.rf.tr hGZ3 (by decide)) hAZ3 (show ((a2.toInt = 0 ∧ a1.toInt = (X.1 0 1).toInt + 1) ∨ 1 ≤ a2.toInt) ∧ 0 ≤ x12.toInt ∧ x12.toInt ≤ (X.1 0 19).toInt from by exact ⟨(by omega), (by omega), (by omega)⟩) K18 hZ3_V3 (show ((X.1 0 19).toInt - x12.toInt).toNat < n from by omega)
        exact lp_f_knows_60 BIG a1 a2 (0 : Int32) X Xt Fr.rf Fr.rf hag (show ((a2.toInt = 0 ∧ a1.toInt = (X.1 0 1).toInt + 1) ∨ 1 ≤ a2.toInt) ∧ 0 ≤ (0 : Int) ∧ (0 : Int) ≤ (X.1 0 19).toInt from by exact ⟨(by omega), (by omega), (by omega)⟩) (fun _ i hi => absurd hi (by rw [show ix (0 : Int32) = 0 from by decide]; omega)) (fun _ _ => rfl) (ltBIG (show ((X.1 0 19).toInt - (0 : Int)).toNat < 100000 from by omega))
      · skip
        refine ok2.ck (show 0 ≤ a3.toInt ∧ a3.toInt < ((41 : Nat) : Int) from by omega) ?_
        refine ok2.anyE (hag.lP 11 (by decide) a3 (show 0 ≤ a3.toInt ∧ a3.toInt < P from by omega)) (fun y15 => ?_)
        refine ok2.bd (t_f_partOf _ _ _ lv P hag (show 0 ≤ (X.1 0 18).toInt ∧ (X.1 0 18).toInt ≤ 41 ∧ (X.1 0 18).toInt ≤ P from by exact ⟨(by omega), (by omega), (by omega)⟩)) ?_
        rintro x16 X_20 X_20t ⟨eX_20, eX_20t, hh19⟩
        subst eX_20
        subst eX_20t
        have hh19 : (-1 ≤ x16.toInt ∧ (x16.toInt = -1 ∨ x16.toInt < (X.1 0 18).toInt)) := hh19
        refine ok2.ite (fun c21 => ?_) (fun c21 => ?_)
        · skip
          unfold f_knows_52
          refine ok2.inc (by decide) (show _ ≤ a3.toInt + (1) ∧ a3.toInt + (1) ≤ _ from by omega) (fun x18 hx18 => ?_)
          have hx18 : x18.toInt = a3.toInt + (1) := hx18
          exact ih_f_knows_11 a1 a2 x18 X Xt rfl rfl (show ((a2.toInt = 0 ∧ a1.toInt = (X.1 0 1).toInt + 1) ∨ 1 ≤ a2.toInt) ∧ 0 ≤ x18.toInt ∧ x18.toInt ≤ (X.1 0 18).toInt from by exact ⟨(by omega), (by omega), (by omega)⟩) (show ((X.1 0 18).toInt - x18.toInt).toNat < n from by omega)
        · skip
          refine ok2.ck (show 0 ≤ a3.toInt ∧ a3.toInt < ((41 : Nat) : Int) from by omega) ?_
          refine ok2.letE (v1 := (X.1 12 (ix a3))) rfl (hag.rP 12 (by decide) a3 (show 0 ≤ a3.toInt ∧ a3.toInt < P from by omega)) ?_
          refine ok2.ite (fun c22 => ?_) (fun c22 => ?_)
          · skip
            unfold f_knows_52
            refine ok2.inc (by decide) (show _ ≤ a3.toInt + (1) ∧ a3.toInt + (1) ≤ _ from by omega) (fun x18 hx18 => ?_)
            have hx18 : x18.toInt = a3.toInt + (1) := hx18
            exact ih_f_knows_11 a1 a2 x18 X Xt rfl rfl (show ((a2.toInt = 0 ∧ a1.toInt = (X.1 0 1).toInt + 1) ∨ 1 ≤ a2.toInt) ∧ 0 ≤ x18.toInt ∧ x18.toInt ≤ (X.1 0 18).toInt from by exact ⟨(by omega), (by omega), (by omega)⟩) (show ((X.1 0 18).toInt - x18.toInt).toNat < n from by omega)
          · skip
            refine ok2.ck (show 0 ≤ a3.toInt ∧ a3.toInt < ((41 : Nat) : Int) from by omega) ?_
            refine ok2.letE (v1 := (X.1 12 (ix a3))) rfl (hag.rP 12 (by decide) a3 (show 0 ≤ a3.toInt ∧ a3.toInt < P from by omega)) ?_
            unfold f_knows_52
            refine ok2.inc (by decide) (show _ ≤ a3.toInt + (1) ∧ a3.toInt + (1) ≤ _ from by omega) (fun x18 hx18 => ?_)
            have hx18 : x18.toInt = a3.toInt + (1) := hx18
            exact ih_f_knows_11 (X.1 12 (ix a3)) (5 : Int32) x18 X Xt rfl rfl (show (((5 : Int) = 0 ∧ (X.1 12 (ix a3)).toInt = (X.1 0 1).toInt + 1) ∨ 1 ≤ (5 : Int)) ∧ 0 ≤ x18.toInt ∧ x18.toInt ≤ (X.1 0 18).toInt from by exact ⟨(by omega), (by omega), (by omega)⟩) (show ((X.1 0 18).toInt - x18.toInt).toNat < n from by omega)
  exact lp_f_knows_11 BIG x2 (0 : Int32) (0 : Int32) X Xt rfl rfl (show (((0 : Int) = 0 ∧ x2.toInt = (X.1 0 1).toInt + 1) ∨ 1 ≤ (0 : Int)) ∧ 0 ≤ (0 : Int) ∧ (0 : Int) ≤ (X.1 0 18).toInt from by exact ⟨(by omega), (by omega), (by omega)⟩) (ltBIG (show ((X.1 0 18).toInt - (0 : Int)).toNat < 100000 from by omega))
set_option maxHeartbeats 4000000 in
set_option maxRecDepth 100000 in
theorem t_f_reads_167 (X Xt : St) (lv : Nat) (P : Int) (hag : AG lv P X Xt) : ok2 (f_reads_167 X) (f_reads_167 Xt) (fun r X1 X1t => Fr YR [14, 16] X X1 ∧ Fr YR [14, 16] Xt X1t ∧ AG lv P X1 X1t ∧ ((X1.1 0 14).toInt = (X.1 0 13).toInt ∧ (X1.1 0 16).toInt = (X.1 0 15).toInt)) := by
  unfold f_reads_167
  refine ok2.letE (v1 := (X.1 0 13)) rfl (hag.s0 13 (by decide)) ?_
  refine ok2.letV ?_
  refine ok2.letE (v1 := (X.1 0 15)) rfl (hag.s0 15 (by decide)) ?_
  refine ok2.letV ?_
  exact ok2.ret ⟨((Fr.rf.wI 0 14 _ (show (14 : Nat) ∈ [14, 16] from by decide)).wI 0 16 _ (show (16 : Nat) ∈ [14, 16] from by decide)), ((Fr.rf.wI 0 14 _ (show (14 : Nat) ∈ [14, 16] from by decide)).wI 0 16 _ (show (16 : Nat) ∈ [14, 16] from by decide)), ((hag.wI 0 14 _ (by decide)).wI 0 16 _ (by decide)), (show (X.1 0 13).toInt = (X.1 0 13).toInt ∧ (X.1 0 15).toInt = (X.1 0 15).toInt from by exact ⟨(by omega), (by omega)⟩)⟩
set_option maxHeartbeats 4000000 in
set_option maxRecDepth 100000 in
theorem t_f_reads_120 (X Xt : St) (lv : Nat) (P : Int) (hag : AG lv P X Xt) (hy0 : 0 ≤ (X.1 0 18).toInt ∧ (X.1 0 18).toInt ≤ 40 ∧ (X.1 0 18).toInt ≤ P) : ok2 (f_reads_120 X) (f_reads_120 Xt) (fun r X1 X1t => Fr YR [9, 10, 14, 16, 25] X X1 ∧ Fr YR [9, 10, 14, 16, 25] Xt X1t ∧ AG lv P X1 X1t ∧ (((X1.1 0 9).toInt = 0 → (X.1 0 9).toInt = 0) ∧ (X1.1 0 14).toInt = (X.1 0 13).toInt ∧ (X1.1 0 16).toInt = (X.1 0 15).toInt) ∧ (∃ m : Int32, X1.1 0 25 = m ∧ ((X1.1 0 9).toInt = 0 → 0 ≤ m.toInt ∧ m.toInt < (X.1 0 18).toInt ∧ (X.1 15 (ix m)).toInt ≤ 0))) := by
  unfold f_reads_120
  refine ok2.bd (t_f_partOf _ _ _ lv P hag (show 0 ≤ (X.1 0 18).toInt ∧ (X.1 0 18).toInt ≤ 41 ∧ (X.1 0 18).toInt ≤ P from by exact ⟨(by omega), (by omega), (by omega)⟩)) ?_
  rintro x13 X_2 X_2t ⟨eX_2, eX_2t, hh1⟩
  subst eX_2
  subst eX_2t
  have hh1 : (-1 ≤ x13.toInt ∧ (x13.toInt = -1 ∨ x13.toInt < (X.1 0 18).toInt)) := hh1
  refine ok2.letV ?_
  refine ok2.bd (t_f_isWell  _ _ lv P (hag.wI 0 25 _ (by decide))) ?_
  rintro x16 X_4 X_4t ⟨eX_4, eX_4t, hh3⟩
  subst eX_4
  subst eX_4t
  have hh3 : ((x16.toInt = 1 ∧ (X.1 0 9).toInt = 0) ∨ (x16.toInt = 0 ∧ ¬ (X.1 0 9).toInt = 0)) := hh3
  refine ok2.ite (fun c5 => ?_) (fun c5 => ?_)
  · skip
    refine ok2.mono (t_f_reads_167  _ _ lv P (hag.wI 0 25 _ (by decide))) ?_
    rintro rt6 X_8 X_8t ⟨hFh7, hGh7, hAh7, hh7⟩
    have hh7 : ((X_8.1 0 14).toInt = (X.1 0 13).toInt ∧ (X_8.1 0 16).toInt = (X.1 0 15).toInt) := hh7
    exact ⟨((Fr.rf.wI 0 25 _ (show (25 : Nat) ∈ [9, 10, 14, 16, 25] from by decide)).tr hFh7 (by decide)), ((Fr.rf.wI 0 25 _ (show (25 : Nat) ∈ [9, 10, 14, 16, 25] from by decide)).tr hGh7 (by decide)), hAh7, (show ((X_8.1 0 9).toInt = 0 → (X.1 0 9).toInt = 0) ∧ (X_8.1 0 14).toInt = (X.1 0 13).toInt ∧ (X_8.1 0 16).toInt = (X.1 0 15).toInt from by have e0_ : (X_8.1 0 9).toInt = (X.1 0 9).toInt := congrArg Int32.toInt (hFh7.1 0 9 (show (9 : Nat) ∉ [14, 16] from by decide)); exact ⟨(fun hq43 => (by omega)), (by omega), (by omega)⟩), ⟨x13, (hFh7.1 0 25 (show (25 : Nat) ∉ [14, 16] from by decide)), fun hw => by have : (X_8.1 0 9).toInt = (X.1 0 9).toInt := congrArg Int32.toInt (hFh7.1 0 9 (show (9 : Nat) ∉ [14, 16] from by decide)); exact ⟨by omega, by omega, by omega⟩⟩⟩
  · skip
    refine ok2.letE (v1 := x13) rfl rfl ?_
    refine ok2.ite (fun c9 => ?_) (fun c9 => ?_)
    · skip
      unfold f_reads_157
      refine ok2.letE (v1 := (X.1 0 1)) rfl (hag.s0 1 (by decide)) ?_
      refine ok2.bd (t_f_fails _ _ _ _ lv P (hag.wI 0 25 _ (by decide))) ?_
      rintro r_12 X_11 X_11t ⟨hFh10, hGh10, hAh10, hh10⟩
      have hh10 : (((X.1 0 9).toInt = 0 ∧ (X_11.1 0 9).toInt = (7 : Int)) ∨ (¬ (X.1 0 9).toInt = 0 ∧ (X_11.1 0 9).toInt = (X.1 0 9).toInt)) := hh10
      refine ok2.mono (t_f_reads_167  _ _ lv P hAh10) ?_
      rintro rt13 X_15 X_15t ⟨hFh14, hGh14, hAh14, hh14⟩
      have eh14_0 : (X_11.1 0 13).toInt = (X.1 0 13).toInt := congrArg Int32.toInt (hFh10.1 0 13 (show (13 : Nat) ∉ [9, 10] from by decide))
      have eh14_1 : (X_11.1 0 15).toInt = (X.1 0 15).toInt := congrArg Int32.toInt (hFh10.1 0 15 (show (15 : Nat) ∉ [9, 10] from by decide))
      have hh14 : ((X_15.1 0 14).toInt = (X_11.1 0 13).toInt ∧ (X_15.1 0 16).toInt = (X_11.1 0 15).toInt) := hh14
      exact ⟨(((Fr.rf.wI 0 25 _ (show (25 : Nat) ∈ [9, 10, 14, 16, 25] from by decide)).tr hFh10 (by decide)).tr hFh14 (by decide)), (((Fr.rf.wI 0 25 _ (show (25 : Nat) ∈ [9, 10, 14, 16, 25] from by decide)).tr hGh10 (by decide)).tr hGh14 (by decide)), hAh14, (show ((X_15.1 0 9).toInt = 0 → (X.1 0 9).toInt = 0) ∧ (X_15.1 0 14).toInt = (X.1 0 13).toInt ∧ (X_15.1 0 16).toInt = (X.1 0 15).toInt from by have e0_ : (X_15.1 0 9).toInt = (X_11.1 0 9).toInt := congrArg Int32.toInt (hFh14.1 0 9 (show (9 : Nat) ∉ [14, 16] from by decide)); exact ⟨(fun hq44 => (by omega)), (by omega), (by omega)⟩), ⟨x13, ((hFh14.1 0 25 (show (25 : Nat) ∉ [14, 16] from by decide)).trans (hFh10.1 0 25 (show (25 : Nat) ∉ [9, 10] from by decide))), fun hw => by have : (X_15.1 0 9).toInt = (X_11.1 0 9).toInt := congrArg Int32.toInt (hFh14.1 0 9 (show (9 : Nat) ∉ [14, 16] from by decide)); exact ⟨by omega, by omega, by omega⟩⟩⟩
    · skip
      refine ok2.letE (v1 := x13) rfl rfl ?_
      refine ok2.ck (show 0 ≤ x13.toInt ∧ x13.toInt < ((41 : Nat) : Int) from by omega) ?_
      refine ok2.letE (v1 := (X.1 15 (ix x13))) rfl (hag.rP 15 (by decide) x13 (show 0 ≤ x13.toInt ∧ x13.toInt < P from by omega)) ?_
      refine ok2.ite (fun c16 => ?_) (fun c16 => ?_)
      · skip
        refine ok2.mono (t_f_reads_167  _ _ lv P (hag.wI 0 25 _ (by decide))) ?_
        rintro rt17 X_19 X_19t ⟨hFh18, hGh18, hAh18, hh18⟩
        have hh18 : ((X_19.1 0 14).toInt = (X.1 0 13).toInt ∧ (X_19.1 0 16).toInt = (X.1 0 15).toInt) := hh18
        exact ⟨((Fr.rf.wI 0 25 _ (show (25 : Nat) ∈ [9, 10, 14, 16, 25] from by decide)).tr hFh18 (by decide)), ((Fr.rf.wI 0 25 _ (show (25 : Nat) ∈ [9, 10, 14, 16, 25] from by decide)).tr hGh18 (by decide)), hAh18, (show ((X_19.1 0 9).toInt = 0 → (X.1 0 9).toInt = 0) ∧ (X_19.1 0 14).toInt = (X.1 0 13).toInt ∧ (X_19.1 0 16).toInt = (X.1 0 15).toInt from by have e0_ : (X_19.1 0 9).toInt = (X.1 0 9).toInt := congrArg Int32.toInt (hFh18.1 0 9 (show (9 : Nat) ∉ [14, 16] from by decide)); exact ⟨(fun hq44 => (by omega)), (by omega), (by omega)⟩), ⟨x13, (hFh18.1 0 25 (show (25 : Nat) ∉ [14, 16] from by decide)), fun hw => by have : (X_19.1 0 9).toInt = (X.1 0 9).toInt := congrArg Int32.toInt (hFh18.1 0 9 (show (9 : Nat) ∉ [14, 16] from by decide)); exact ⟨by omega, by omega, by omega⟩⟩⟩
      · skip
        unfold f_reads_157
        refine ok2.letE (v1 := (X.1 0 1)) rfl (hag.s0 1 (by decide)) ?_
        refine ok2.bd (t_f_fails _ _ _ _ lv P (hag.wI 0 25 _ (by decide))) ?_
        rintro r_22 X_21 X_21t ⟨hFh20, hGh20, hAh20, hh20⟩
        have hh20 : (((X.1 0 9).toInt = 0 ∧ (X_21.1 0 9).toInt = (7 : Int)) ∨ (¬ (X.1 0 9).toInt = 0 ∧ (X_21.1 0 9).toInt = (X.1 0 9).toInt)) := hh20
        refine ok2.mono (t_f_reads_167  _ _ lv P hAh20) ?_
        rintro rt23 X_25 X_25t ⟨hFh24, hGh24, hAh24, hh24⟩
        have eh24_0 : (X_21.1 0 13).toInt = (X.1 0 13).toInt := congrArg Int32.toInt (hFh20.1 0 13 (show (13 : Nat) ∉ [9, 10] from by decide))
        have eh24_1 : (X_21.1 0 15).toInt = (X.1 0 15).toInt := congrArg Int32.toInt (hFh20.1 0 15 (show (15 : Nat) ∉ [9, 10] from by decide))
        have hh24 : ((X_25.1 0 14).toInt = (X_21.1 0 13).toInt ∧ (X_25.1 0 16).toInt = (X_21.1 0 15).toInt) := hh24
        exact ⟨(((Fr.rf.wI 0 25 _ (show (25 : Nat) ∈ [9, 10, 14, 16, 25] from by decide)).tr hFh20 (by decide)).tr hFh24 (by decide)), (((Fr.rf.wI 0 25 _ (show (25 : Nat) ∈ [9, 10, 14, 16, 25] from by decide)).tr hGh20 (by decide)).tr hGh24 (by decide)), hAh24, (show ((X_25.1 0 9).toInt = 0 → (X.1 0 9).toInt = 0) ∧ (X_25.1 0 14).toInt = (X.1 0 13).toInt ∧ (X_25.1 0 16).toInt = (X.1 0 15).toInt from by have e0_ : (X_25.1 0 9).toInt = (X_21.1 0 9).toInt := congrArg Int32.toInt (hFh24.1 0 9 (show (9 : Nat) ∉ [14, 16] from by decide)); exact ⟨(fun hq44 => (by omega)), (by omega), (by omega)⟩), ⟨x13, ((hFh24.1 0 25 (show (25 : Nat) ∉ [14, 16] from by decide)).trans (hFh20.1 0 25 (show (25 : Nat) ∉ [9, 10] from by decide))), fun hw => by have : (X_25.1 0 9).toInt = (X_21.1 0 9).toInt := congrArg Int32.toInt (hFh24.1 0 9 (show (9 : Nat) ∉ [14, 16] from by decide)); exact ⟨by omega, by omega, by omega⟩⟩⟩
set_option maxHeartbeats 4000000 in
set_option maxRecDepth 100000 in
theorem t_f_reads_109 (X Xt : St) (lv : Nat) (P : Int) (hag : AG lv P X Xt) (hy0 : 0 ≤ (X.1 0 18).toInt ∧ (X.1 0 18).toInt ≤ 40 ∧ (X.1 0 18).toInt ≤ P) (hy1 : 0 ≤ (X.1 0 19).toInt ∧ ((X.1 0 9).toInt = 0 → (X.1 0 19).toInt ≤ 3001) ∧ 0 ≤ (X.1 0 1).toInt ∧ (X.1 0 1).toInt ≤ 3000) (h_FL : (FLw X)) : ok2 (f_reads_109 X) (f_reads_109 Xt) (fun r X1 X1t => Fr YR [9, 10, 14, 16, 25, 5200] X X1 ∧ Fr YR [9, 10, 14, 16, 25, 5200] Xt X1t ∧ AG lv P X1 X1t ∧ (((X1.1 0 9).toInt = 0 → (X.1 0 9).toInt = 0) ∧ (X1.1 0 14).toInt = (X.1 0 13).toInt ∧ (X1.1 0 16).toInt = (X.1 0 15).toInt) ∧ ((X1.1 0 9).toInt = 0 → ∀ i : Nat, (i : Int) < (X.1 0 19).toInt → (X.1 20 i).toInt = 3 → 0 ≤ (X1.1 26 i).toInt ∧ (X1.1 26 i).toInt < (X.1 0 18).toInt) ∧ (∀ i : Nat, ¬ (X.1 20 i).toInt = 3 → X1.1 26 i = X.1 26 i) ∧ (∃ m : Int32, X1.1 0 25 = m ∧ ((X1.1 0 9).toInt = 0 → 0 ≤ m.toInt ∧ m.toInt < (X.1 0 18).toInt ∧ (X.1 15 (ix m)).toInt ≤ 0))) := by
  unfold f_reads_109
  refine ok2.bd (t_f_isWell  _ _ lv P hag) ?_
  rintro x11 X_2 X_2t ⟨eX_2, eX_2t, hh1⟩
  subst eX_2
  subst eX_2t
  have hh1 : ((x11.toInt = 1 ∧ (X.1 0 9).toInt = 0) ∨ (x11.toInt = 0 ∧ ¬ (X.1 0 9).toInt = 0)) := hh1
  refine ok2.ite (fun c3 => ?_) (fun c3 => ?_)
  · skip
    refine ok2.mono (t_f_reads_120  _ _ lv P hag (show 0 ≤ (X.1 0 18).toInt ∧ (X.1 0 18).toInt ≤ 40 ∧ (X.1 0 18).toInt ≤ P from by exact ⟨(by omega), (by omega), (by omega)⟩)) ?_
    rintro rt4 X_6 X_6t ⟨hFh5, hGh5, hAh5, hh5⟩
    have hh5 : (((X_6.1 0 9).toInt = 0 → (X.1 0 9).toInt = 0) ∧ (X_6.1 0 14).toInt = (X.1 0 13).toInt ∧ (X_6.1 0 16).toInt = (X.1 0 15).toInt) ∧ (∃ m : Int32, X_6.1 0 25 = m ∧ ((X_6.1 0 9).toInt = 0 → 0 ≤ m.toInt ∧ m.toInt < (X.1 0 18).toInt ∧ (X.1 15 (ix m)).toInt ≤ 0)) := hh5
    obtain ⟨hh5, hh5_MAINP⟩ := hh5
    exact ⟨(Fr.rf.tr hFh5 (by decide)), (Fr.rf.tr hGh5 (by decide)), hAh5, (show ((X_6.1 0 9).toInt = 0 → (X.1 0 9).toInt = 0) ∧ (X_6.1 0 14).toInt = (X.1 0 13).toInt ∧ (X_6.1 0 16).toInt = (X.1 0 15).toInt from by exact ⟨(fun hq43 => (by omega)), (by omega), (by omega)⟩), (fun hw => absurd hw (by omega)), (fun i h3 => (hFh5.1 26 i (show (5200 : Nat) ∉ [9, 10, 14, 16, 25] from by decide))), hh5_MAINP⟩
  · skip
    refine ok2.bd (t_f_knows  _ _ lv P hag (show (X.1 0 9).toInt = 0 ∧ 0 ≤ (X.1 0 18).toInt ∧ (X.1 0 18).toInt ≤ 40 ∧ (X.1 0 18).toInt ≤ P ∧ 0 ≤ (X.1 0 19).toInt ∧ (X.1 0 19).toInt ≤ 3001 ∧ 0 ≤ (X.1 0 1).toInt ∧ (X.1 0 1).toInt ≤ 3000 from by exact ⟨(by omega), (by omega), (by omega), (by omega), (by omega), (by omega), (by omega), (by omega)⟩) h_FL) ?_
    rintro r_9 X_8 X_8t ⟨hFh7, hGh7, hAh7, hh7⟩
    have hh7 : (((X_8.1 0 9).toInt = 0 → (X.1 0 9).toInt = 0)) ∧ ((X_8.1 0 9).toInt = 0 → ∀ i : Nat, (i : Int) < (X.1 0 19).toInt → (X.1 20 i).toInt = 3 → 0 ≤ (X_8.1 26 i).toInt ∧ (X_8.1 26 i).toInt < (X.1 0 18).toInt) ∧ (∀ i : Nat, ¬ (X.1 20 i).toInt = 3 → X_8.1 26 i = X.1 26 i) := hh7
    obtain ⟨hh7, hh7_KNP, hh7_V3⟩ := hh7
    refine ok2.mono (t_f_reads_120  _ _ lv P hAh7 (show 0 ≤ (X_8.1 0 18).toInt ∧ (X_8.1 0 18).toInt ≤ 40 ∧ (X_8.1 0 18).toInt ≤ P from by have e0_ : (X_8.1 0 18).toInt = (X.1 0 18).toInt := congrArg Int32.toInt (hFh7.1 0 18 (show (18 : Nat) ∉ [9, 10, 5200] from by decide)); exact ⟨(by omega), (by omega), (by omega)⟩)) ?_
    rintro rt10 X_12 X_12t ⟨hFh11, hGh11, hAh11, hh11⟩
    have eh11_0 : (X_8.1 0 13).toInt = (X.1 0 13).toInt := congrArg Int32.toInt (hFh7.1 0 13 (show (13 : Nat) ∉ [9, 10, 5200] from by decide))
    have eh11_1 : (X_8.1 0 15).toInt = (X.1 0 15).toInt := congrArg Int32.toInt (hFh7.1 0 15 (show (15 : Nat) ∉ [9, 10, 5200] from by decide))
    have hh11 : (((X_12.1 0 9).toInt = 0 → (X_8.1 0 9).toInt = 0) ∧ (X_12.1 0 14).toInt = (X_8.1 0 13).toInt ∧ (X_12.1 0 16).toInt = (X_8.1 0 15).toInt) ∧ (∃ m : Int32, X_12.1 0 25 = m ∧ ((X_12.1 0 9).toInt = 0 → 0 ≤ m.toInt ∧ m.toInt < (X_8.1 0 18).toInt ∧ (X_8.1 15 (ix m)).toInt ≤ 0)) := hh11
    obtain ⟨hh11, hh11_MAINP⟩ := hh11
    exact ⟨((Fr.rf.tr hFh7 (by decide)).tr hFh11 (by decide)), ((Fr.rf.tr hGh7 (by decide)).tr hGh11 (by decide)), hAh11, (show ((X_12.1 0 9).toInt = 0 → (X.1 0 9).toInt = 0) ∧ (X_12.1 0 14).toInt = (X.1 0 13).toInt ∧ (X_12.1 0 16).toInt = (X.1 0 15).toInt from by exact ⟨(fun hq44 => (by omega)), (by omega), (by omega)⟩), (fun hw i hi h3 => by rw [show X_12.1 26 i = X_8.1 26 i from (hFh11.1 26 i (show (5200 : Nat) ∉ [9, 10, 14, 16, 25] from by decide))]; exact hh7_KNP (by omega) i hi h3), (fun i h3 => ((hFh11.1 26 i (show (5200 : Nat) ∉ [9, 10, 14, 16, 25] from by decide)).trans (hh7_V3 i h3))), (by obtain ⟨m, q1, q2⟩ := hh11_MAINP; refine ⟨m, q1, fun hw => ?_⟩; have q3 := q2 hw; rw [show X_8.1 0 18 = X.1 0 18 from (hFh7.1 0 18 (show (18 : Nat) ∉ [9, 10, 5200] from by decide)), show X_8.1 15 (ix m) = X.1 15 (ix m) from (hFh7.1 15 _ (show (3000 : Nat) ∉ [9, 10, 5200] from by decide))] at q3; exact q3)⟩
