set_option maxHeartbeats 4000000 in
set_option maxRecDepth 100000 in
theorem t_f_partOf (q1 : Int64) (X Xt : St) (lv : Nat) (P : Int) (hag : AG lv P X Xt) (hy0 : 0 ≤ (X.1 0 18).toInt ∧ (X.1 0 18).toInt ≤ 41 ∧ (X.1 0 18).toInt ≤ P) : ok2 (f_partOf q1 X) (f_partOf q1 Xt) (fun r X1 X1t => X = X1 ∧ Xt = X1t ∧ (-1 ≤ r.toInt ∧ (r.toInt = -1 ∨ r.toInt < (X.1 0 18).toInt))) := by
  unfold f_partOf
  refine ok2.letE (v1 := (X.1 0 18)) rfl (hag.s0 18 (by decide)) ?_
  refine ok2.sub (show _ ≤ (X.1 0 18).toInt - (1 : Int) ∧ (X.1 0 18).toInt - (1 : Int) ≤ _ from by omega) (fun x2 hx2 => ?_)
  have hx2 : x2.toInt = (X.1 0 18).toInt - (1 : Int) := hx2
  have lp_f_partOf_10 : ∀ (n : Nat), ∀ (l1 : Int64) (a3 : Int32) (a4 : Int32) (Z1 Z1t : St), X = Z1 → Xt = Z1t → (-1 ≤ a3.toInt ∧ (a3.toInt = -1 ∨ a3.toInt < (Z1.1 0 18).toInt) ∧ -1 ≤ a4.toInt ∧ a4.toInt < (Z1.1 0 18).toInt) → (a4.toInt + 1).toNat < n → ok2 (f_partOf_10 n l1 a3 a4 Z1) (f_partOf_10 n l1 a3 a4 Z1t) (fun r X1 X1t => X = X1 ∧ Xt = X1t ∧ (-1 ≤ r.toInt ∧ (r.toInt = -1 ∨ r.toInt < (X.1 0 18).toInt))) := by
    intro n
    unfold f_partOf_10
    refine lp_indN (P := fun (n : Nat) (r_f_partOf_10 : Int64 → Int32 → Int32 → St → Option (Int32 × St)) => ∀ (l1 : Int64) (a3 : Int32) (a4 : Int32) (Z1 Z1t : St), X = Z1 → Xt = Z1t → (-1 ≤ a3.toInt ∧ (a3.toInt = -1 ∨ a3.toInt < (Z1.1 0 18).toInt) ∧ -1 ≤ a4.toInt ∧ a4.toInt < (Z1.1 0 18).toInt) → (a4.toInt + 1).toNat < n → ok2 (r_f_partOf_10 l1 a3 a4 Z1) (r_f_partOf_10 l1 a3 a4 Z1t) (fun r X1 X1t => X = X1 ∧ Xt = X1t ∧ (-1 ≤ r.toInt ∧ (r.toInt = -1 ∨ r.toInt < (X.1 0 18).toInt)))) ?_ ?_ n
    · intro l1 a3 a4 Z1 Z1t hF hA hI hm; exact absurd hm (Nat.not_lt_zero _)
    · intro n r_f_partOf_10 ih_f_partOf_10 l1 a3 a4 Z1 Z1t hFZ1 hAZ1 hIZ1 hmZ1
      subst hFZ1
      subst hAZ1
      unfold f_partOf_10_s
      refine ok2.ite (fun c2 => ?_) (fun c2 => ?_)
      · skip
        exact ok2.ret ⟨rfl, rfl, (show -1 ≤ a3.toInt ∧ (a3.toInt = -1 ∨ a3.toInt < (X.1 0 18).toInt) from by exact ⟨(by omega), (by omega)⟩)⟩
      · skip
        refine ok2.ck (show 0 ≤ a4.toInt ∧ a4.toInt < ((41 : Nat) : Int) from by omega) ?_
        refine ok2.anyE (hag.lP 11 (by decide) a4 (show 0 ≤ a4.toInt ∧ a4.toInt < P from by omega)) (fun y3 => ?_)
        refine ok2.any (fun x4 => ?_)
        refine ok2.ite (fun c3 => ?_) (fun c3 => ?_)
        · skip
          unfold f_partOf_33
          refine ok2.inc (by decide) (show _ ≤ a4.toInt + (-1) ∧ a4.toInt + (-1) ≤ _ from by omega) (fun x5 hx5 => ?_)
          have hx5 : x5.toInt = a4.toInt + (-1) := hx5
          exact ih_f_partOf_10 l1 a4 x5 X Xt rfl rfl (show -1 ≤ a4.toInt ∧ (a4.toInt = -1 ∨ a4.toInt < (X.1 0 18).toInt) ∧ -1 ≤ x5.toInt ∧ x5.toInt < (X.1 0 18).toInt from by exact ⟨(by omega), (by omega), (by omega), (by omega)⟩) (show (x5.toInt + 1).toNat < n from by omega)
        · skip
          unfold f_partOf_33
          refine ok2.inc (by decide) (show _ ≤ a4.toInt + (-1) ∧ a4.toInt + (-1) ≤ _ from by omega) (fun x5 hx5 => ?_)
          have hx5 : x5.toInt = a4.toInt + (-1) := hx5
          exact ih_f_partOf_10 l1 a3 x5 X Xt rfl rfl (show -1 ≤ a3.toInt ∧ (a3.toInt = -1 ∨ a3.toInt < (X.1 0 18).toInt) ∧ -1 ≤ x5.toInt ∧ x5.toInt < (X.1 0 18).toInt from by exact ⟨(by omega), (by omega), (by omega), (by omega)⟩) (show (x5.toInt + 1).toNat < n from by omega)
  exact lp_f_partOf_10 BIG q1 (-1 : Int32) x2 X Xt rfl rfl (show -1 ≤ (-1 : Int) ∧ ((-1 : Int) = -1 ∨ (-1 : Int) < (X.1 0 18).toInt) ∧ -1 ≤ x2.toInt ∧ x2.toInt < (X.1 0 18).toInt from by exact ⟨(by omega), (by omega), (by omega), (by omega)⟩) (ltBIG (show (x2.toInt + 1).toNat < 100000 from by omega))
