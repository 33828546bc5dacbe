set_option maxHeartbeats 4000000 in
set_option maxRecDepth 100000 in
theorem t_f_isBeginning (X Xt : St) (lv : Nat) (P : Int) (hag : AG lv P X Xt) (hlv : 1 ≤ lv) : ok2 (f_isBeginning X) (f_isBeginning Xt) (fun r X1 X1t => X = X1 ∧ Xt = X1t ∧ (0 ≤ r.toInt ∧ r.toInt ≤ 1)) := by
  unfold f_isBeginning
  refine ok2.letE (v1 := (X.1 0 7)) rfl (hag.s1 7 (by decide) (Nat.le_trans (show 1 ≤ 1 from by decide) hlv)) ?_
  refine ok2.ite (fun c1 => ?_) (fun c1 => ?_)
  · skip
    exact ok2.ret ⟨rfl, rfl, (show 0 ≤ (1 : Int) ∧ (1 : Int) ≤ 1 from by exact ⟨(by omega), (by omega)⟩)⟩
  · skip
    refine ok2.letE (v1 := (X.1 0 7)) rfl (hag.s1 7 (by decide) (Nat.le_trans (show 1 ≤ 1 from by decide) hlv)) ?_
    refine ok2.ite (fun c2 => ?_) (fun c2 => ?_)
    · skip
      exact ok2.ret ⟨rfl, rfl, (show 0 ≤ (1 : Int) ∧ (1 : Int) ≤ 1 from by exact ⟨(by omega), (by omega)⟩)⟩
    · skip
      refine ok2.letE (v1 := (X.1 0 7)) rfl (hag.s1 7 (by decide) (Nat.le_trans (show 1 ≤ 1 from by decide) hlv)) ?_
      refine ok2.ite (fun c3 => ?_) (fun c3 => ?_)
      · skip
        refine ok2.anyE (hag.told (Nat.le_trans (show 1 ≤ 1 from by decide) hlv)) (fun y15 => ?_)
        refine ok2.any (fun x16 => ?_)
        refine ok2.ite (fun c4 => ?_) (fun c4 => ?_)
        · skip
          exact ok2.ret ⟨rfl, rfl, (show 0 ≤ (1 : Int) ∧ (1 : Int) ≤ 1 from by exact ⟨(by omega), (by omega)⟩)⟩
        · skip
          refine ok2.anyE (hag.told (Nat.le_trans (show 1 ≤ 1 from by decide) hlv)) (fun y17 => ?_)
          refine ok2.any (fun x18 => ?_)
          refine ok2.ite (fun c5 => ?_) (fun c5 => ?_)
          · skip
            exact ok2.ret ⟨rfl, rfl, (show 0 ≤ (1 : Int) ∧ (1 : Int) ≤ 1 from by exact ⟨(by omega), (by omega)⟩)⟩
          · skip
            refine ok2.anyE (hag.told (Nat.le_trans (show 1 ≤ 1 from by decide) hlv)) (fun y19 => ?_)
            refine ok2.any (fun x20 => ?_)
            refine ok2.ite (fun c6 => ?_) (fun c6 => ?_)
            · skip
              exact ok2.ret ⟨rfl, rfl, (show 0 ≤ (1 : Int) ∧ (1 : Int) ≤ 1 from by exact ⟨(by omega), (by omega)⟩)⟩
            · skip
              refine ok2.anyE (hag.told (Nat.le_trans (show 1 ≤ 1 from by decide) hlv)) (fun y21 => ?_)
              refine ok2.any (fun x22 => ?_)
              refine ok2.ite (fun c7 => ?_) (fun c7 => ?_)
              · skip
                exact ok2.ret ⟨rfl, rfl, (show 0 ≤ (1 : Int) ∧ (1 : Int) ≤ 1 from by exact ⟨(by omega), (by omega)⟩)⟩
              · skip
                refine ok2.anyE (hag.told (Nat.le_trans (show 1 ≤ 1 from by decide) hlv)) (fun y23 => ?_)
                refine ok2.any (fun x24 => ?_)
                refine ok2.ite (fun c8 => ?_) (fun c8 => ?_)
                · skip
                  exact ok2.ret ⟨rfl, rfl, (show 0 ≤ (1 : Int) ∧ (1 : Int) ≤ 1 from by exact ⟨(by omega), (by omega)⟩)⟩
                · skip
                  refine ok2.anyE (hag.told (Nat.le_trans (show 1 ≤ 1 from by decide) hlv)) (fun y25 => ?_)
                  refine ok2.any (fun x26 => ?_)
                  refine ok2.ite (fun c9 => ?_) (fun c9 => ?_)
                  · skip
                    exact ok2.ret ⟨rfl, rfl, (show 0 ≤ (1 : Int) ∧ (1 : Int) ≤ 1 from by exact ⟨(by omega), (by omega)⟩)⟩
                  · skip
                    refine ok2.anyE (hag.told (Nat.le_trans (show 1 ≤ 1 from by decide) hlv)) (fun y27 => ?_)
                    refine ok2.any (fun x28 => ?_)
                    refine ok2.ite (fun c10 => ?_) (fun c10 => ?_)
                    · skip
                      exact ok2.ret ⟨rfl, rfl, (show 0 ≤ (1 : Int) ∧ (1 : Int) ≤ 1 from by exact ⟨(by omega), (by omega)⟩)⟩
                    · skip
                      exact ok2.ret ⟨rfl, rfl, (show 0 ≤ (0 : Int) ∧ (0 : Int) ≤ 1 from by exact ⟨(by omega), (by omega)⟩)⟩
      · skip
        refine ok2.letE (v1 := (X.1 0 7)) rfl (hag.s1 7 (by decide) (Nat.le_trans (show 1 ≤ 1 from by decide) hlv)) ?_
        refine ok2.ite (fun c11 => ?_) (fun c11 => ?_)
        · skip
          refine ok2.anyE (hag.told (Nat.le_trans (show 1 ≤ 1 from by decide) hlv)) (fun y5 => ?_)
          refine ok2.any (fun x6 => ?_)
          refine ok2.ite (fun c12 => ?_) (fun c12 => ?_)
          · skip
            exact ok2.ret ⟨rfl, rfl, (show 0 ≤ (1 : Int) ∧ (1 : Int) ≤ 1 from by exact ⟨(by omega), (by omega)⟩)⟩
          · skip
            refine ok2.anyE (hag.told (Nat.le_trans (show 1 ≤ 1 from by decide) hlv)) (fun y7 => ?_)
            refine ok2.any (fun x8 => ?_)
            refine ok2.ite (fun c13 => ?_) (fun c13 => ?_)
            · skip
              exact ok2.ret ⟨rfl, rfl, (show 0 ≤ (1 : Int) ∧ (1 : Int) ≤ 1 from by exact ⟨(by omega), (by omega)⟩)⟩
            · skip
              refine ok2.anyE (hag.told (Nat.le_trans (show 1 ≤ 1 from by decide) hlv)) (fun y9 => ?_)
              refine ok2.any (fun x10 => ?_)
              refine ok2.ite (fun c14 => ?_) (fun c14 => ?_)
              · skip
                exact ok2.ret ⟨rfl, rfl, (show 0 ≤ (1 : Int) ∧ (1 : Int) ≤ 1 from by exact ⟨(by omega), (by omega)⟩)⟩
              · skip
                refine ok2.anyE (hag.told (Nat.le_trans (show 1 ≤ 1 from by decide) hlv)) (fun y11 => ?_)
                refine ok2.any (fun x12 => ?_)
                refine ok2.ite (fun c15 => ?_) (fun c15 => ?_)
                · skip
                  exact ok2.ret ⟨rfl, rfl, (show 0 ≤ (1 : Int) ∧ (1 : Int) ≤ 1 from by exact ⟨(by omega), (by omega)⟩)⟩
                · skip
                  refine ok2.anyE (hag.told (Nat.le_trans (show 1 ≤ 1 from by decide) hlv)) (fun y13 => ?_)
                  refine ok2.any (fun x14 => ?_)
                  refine ok2.ite (fun c16 => ?_) (fun c16 => ?_)
                  · skip
                    exact ok2.ret ⟨rfl, rfl, (show 0 ≤ (1 : Int) ∧ (1 : Int) ≤ 1 from by exact ⟨(by omega), (by omega)⟩)⟩
                  · skip
                    exact ok2.ret ⟨rfl, rfl, (show 0 ≤ (0 : Int) ∧ (0 : Int) ≤ 1 from by exact ⟨(by omega), (by omega)⟩)⟩
        · skip
          exact ok2.ret ⟨rfl, rfl, (show 0 ≤ (0 : Int) ∧ (0 : Int) ≤ 1 from by exact ⟨(by omega), (by omega)⟩)⟩
set_option maxHeartbeats 4000000 in
set_option maxRecDepth 100000 in
theorem t0_f_levelOf (q0 : Int64) (X Xt : St) : ok2 (f_levelOf q0 X) (f_levelOf q0 Xt) (fun r X1 X1t => X = X1 ∧ Xt = X1t ∧ (0 ≤ r.toInt ∧ r.toInt ≤ 3)) := by
  unfold f_levelOf
  refine ok2.any (fun x1 => ?_)
  refine ok2.ite (fun c1 => ?_) (fun c1 => ?_)
  · skip
    exact ok2.ret ⟨rfl, rfl, (show 0 ≤ (3 : Int) ∧ (3 : Int) ≤ 3 from by exact ⟨(by omega), (by omega)⟩)⟩
  · skip
    refine ok2.any (fun x2 => ?_)
    refine ok2.ite (fun c2 => ?_) (fun c2 => ?_)
    · skip
      exact ok2.ret ⟨rfl, rfl, (show 0 ≤ (3 : Int) ∧ (3 : Int) ≤ 3 from by exact ⟨(by omega), (by omega)⟩)⟩
    · skip
      refine ok2.any (fun x3 => ?_)
      refine ok2.ite (fun c3 => ?_) (fun c3 => ?_)
      · skip
        exact ok2.ret ⟨rfl, rfl, (show 0 ≤ (3 : Int) ∧ (3 : Int) ≤ 3 from by exact ⟨(by omega), (by omega)⟩)⟩
      · skip
        refine ok2.any (fun x4 => ?_)
        refine ok2.ite (fun c4 => ?_) (fun c4 => ?_)
        · skip
          exact ok2.ret ⟨rfl, rfl, (show 0 ≤ (2 : Int) ∧ (2 : Int) ≤ 3 from by exact ⟨(by omega), (by omega)⟩)⟩
        · skip
          refine ok2.any (fun x5 => ?_)
          refine ok2.ite (fun c5 => ?_) (fun c5 => ?_)
          · skip
            exact ok2.ret ⟨rfl, rfl, (show 0 ≤ (2 : Int) ∧ (2 : Int) ≤ 3 from by exact ⟨(by omega), (by omega)⟩)⟩
          · skip
            refine ok2.any (fun x6 => ?_)
            refine ok2.ite (fun c6 => ?_) (fun c6 => ?_)
            · skip
              exact ok2.ret ⟨rfl, rfl, (show 0 ≤ (1 : Int) ∧ (1 : Int) ≤ 3 from by exact ⟨(by omega), (by omega)⟩)⟩
            · skip
              refine ok2.any (fun x7 => ?_)
              refine ok2.ite (fun c7 => ?_) (fun c7 => ?_)
              · skip
                exact ok2.ret ⟨rfl, rfl, (show 0 ≤ (1 : Int) ∧ (1 : Int) ≤ 3 from by exact ⟨(by omega), (by omega)⟩)⟩
              · skip
                exact ok2.ret ⟨rfl, rfl, (show 0 ≤ (0 : Int) ∧ (0 : Int) ≤ 3 from by exact ⟨(by omega), (by omega)⟩)⟩
theorem levF_bd (y : Int64) : 0 ≤ (levF y).toInt ∧ (levF y).toInt ≤ 3 := by
  obtain ⟨r, X1, X1t, e, -, -, -, h⟩ := t0_f_levelOf y ((fun _ _ => 0, fun _ _ => 0, fun _ _ => 0) : St) ((fun _ _ => 0, fun _ _ => 0, fun _ _ => 0) : St)
  rw [levF_eq] at e
  injection e with e
  injection e with e _
  rw [e]
  exact h
theorem t_f_levelOf (q0 : Int64) (X Xt : St) : ok2 (f_levelOf q0 X) (f_levelOf q0 Xt) (fun r X1 X1t => X = X1 ∧ Xt = X1t ∧ (r.toInt = (levF q0).toInt ∧ 0 ≤ r.toInt ∧ r.toInt ≤ 3)) := ⟨_, _, _, levF_eq q0 X, levF_eq q0 Xt, rfl, rfl, rfl, levF_bd q0⟩
set_option maxHeartbeats 4000000 in
set_option maxRecDepth 100000 in
theorem t_f_done (p1 : Int32) (X Xt : St) (lv : Nat) (P : Int) (hag : AG lv P X Xt) : ok2 (f_done p1 X) (f_done p1 Xt) (fun r X1 X1t => Fr YR [23, 24] X X1 ∧ Fr YR [23, 24] Xt X1t ∧ AG lv P X1 X1t ∧ ((X1.1 0 24).toInt = p1.toInt ∧ (X1.1 0 23).toInt = 2)) := by
  unfold f_done
  refine ok2.letV ?_
  refine ok2.letV ?_
  exact ok2.ret ⟨((Fr.rf.wI 0 24 _ (show (24 : Nat) ∈ [23, 24] from by decide)).wI 0 23 _ (show (23 : Nat) ∈ [23, 24] from by decide)), ((Fr.rf.wI 0 24 _ (show (24 : Nat) ∈ [23, 24] from by decide)).wI 0 23 _ (show (23 : Nat) ∈ [23, 24] from by decide)), ((hag.wI 0 24 _ (by decide)).wI 0 23 _ (by decide)), (show p1.toInt = p1.toInt ∧ (2 : Int) = 2 from by exact ⟨(by omega), (by omega)⟩)⟩
set_option maxHeartbeats 4000000 in
set_option maxRecDepth 100000 in
theorem t_f_opened (p1 : Int32) (p2 : Int32) (X Xt : St) (lv : Nat) (P : Int) (hag : AG lv P X Xt) (hlv : 3 ≤ lv) (hy0 : 0 ≤ (X.1 0 22).toInt ∧ (X.1 0 22).toInt ≤ 399) : ok2 (f_opened p1 p2 X) (f_opened p1 p2 Xt) (fun r X1 X1t => Fr YR [22, 23, 7000, 7200, 7400, 7600] X X1 ∧ Fr YR [22, 23, 7000, 7200, 7400, 7600] Xt X1t ∧ AG lv P X1 X1t ∧ (((X.1 0 9).toInt = 0 ∧ (X1.1 0 22).toInt = (X.1 0 22).toInt + 1 ∧ (X1.1 0 23).toInt = 0) ∨ (¬ (X.1 0 9).toInt = 0 ∧ (X1.1 0 22).toInt = (X.1 0 22).toInt ∧ (X1.1 0 23).toInt = (X.1 0 23).toInt)) ∧ ((X.1 0 9).toInt = 0 → ENT X X1 p1 p2)) := by
  unfold f_opened
  refine ok2.bd (t_f_isWell  _ _ lv P hag) ?_
  rintro x1 X_2 X_2t ⟨eX_2, eX_2t, hh1⟩
  subst eX_2
  subst eX_2t
  have hh1 : ((x1.toInt = 1 ∧ (X.1 0 9).toInt = 0) ∨ (x1.toInt = 0 ∧ ¬ (X.1 0 9).toInt = 0)) := hh1
  refine ok2.ite (fun c3 => ?_) (fun c3 => ?_)
  · skip
    exact ok2.ret ⟨Fr.rf, Fr.rf, hag, (show ((X.1 0 9).toInt = 0 ∧ (X.1 0 22).toInt = (X.1 0 22).toInt + 1 ∧ (X.1 0 23).toInt = 0) ∨ (¬ (X.1 0 9).toInt = 0 ∧ (X.1 0 22).toInt = (X.1 0 22).toInt ∧ (X.1 0 23).toInt = (X.1 0 23).toInt) from by exact (by omega)), (fun hq => absurd hq (by omega))⟩
  · skip
    refine ok2.bd (t_f_enter _ _ _ _ lv P hag (Nat.le_trans (show 3 ≤ 3 from by decide) hlv) (show 0 ≤ (X.1 0 22).toInt ∧ (X.1 0 22).toInt ≤ 399 from by exact ⟨(by omega), (by omega)⟩)) ?_
    rintro r_6 X_5 X_5t ⟨hFh4, hGh4, hAh4, hh4⟩
    have hh4 : ((X_5.1 0 22).toInt = (X.1 0 22).toInt + 1) ∧ (ENT X X_5 p1 p2) := hh4
    obtain ⟨hh4, hh4_EN⟩ := hh4
    refine ok2.letV ?_
    exact ok2.ret ⟨((Fr.rf.tr hFh4 (by decide)).wI 0 23 _ (show (23 : Nat) ∈ [22, 23, 7000, 7200, 7400, 7600] from by decide)), ((Fr.rf.tr hGh4 (by decide)).wI 0 23 _ (show (23 : Nat) ∈ [22, 23, 7000, 7200, 7400, 7600] from by decide)), (hAh4.wI 0 23 _ (by decide)), (show ((X.1 0 9).toInt = 0 ∧ (X_5.1 0 22).toInt = (X.1 0 22).toInt + 1 ∧ (0 : Int) = 0) ∨ (¬ (X.1 0 9).toInt = 0 ∧ (X_5.1 0 22).toInt = (X.1 0 22).toInt ∧ (0 : Int) = (X.1 0 23).toInt) from by exact (by omega)), (fun _ => hh4_EN)⟩
set_option maxHeartbeats 4000000 in
set_option maxRecDepth 100000 in
theorem t_f_leaves (p1 : Int32) (X Xt : St) (lv : Nat) (P : Int) (hag : AG lv P X Xt) (hlv : 3 ≤ lv) (hy0 : -100 ≤ (X.1 0 21).toInt ∧ (X.1 0 21).toInt ≤ 100 ∧ 0 ≤ (X.1 0 22).toInt ∧ (X.1 0 22).toInt ≤ 399) : ok2 (f_leaves p1 X) (f_leaves p1 Xt) (fun r X1 X1t => Fr YR [21, 22, 23, 24] X X1 ∧ Fr YR [21, 22, 23, 24] Xt X1t ∧ AG lv P X1 X1t ∧ ((X1.1 0 21).toInt = (X.1 0 21).toInt - 1 ∧ (X1.1 0 22).toInt = (X.1 0 22).toInt - 1 ∧ (X1.1 0 24).toInt = p1.toInt ∧ (X1.1 0 23).toInt = 4)) := by
  unfold f_leaves
  refine ok2.letE (v1 := (X.1 0 21)) rfl (hag.s2 21 (by decide) (Nat.le_trans (show 2 ≤ 3 from by decide) hlv)) ?_
  refine ok2.sub (show _ ≤ (X.1 0 21).toInt - (1 : Int) ∧ (X.1 0 21).toInt - (1 : Int) ≤ _ from by omega) (fun x2 hx2 => ?_)
  have hx2 : x2.toInt = (X.1 0 21).toInt - (1 : Int) := hx2
  refine ok2.letV ?_
  refine ok2.letE (v1 := (X.1 0 22)) rfl (hag.s3 22 (by decide) (Nat.le_trans (show 3 ≤ 3 from by decide) hlv)) ?_
  refine ok2.sub (show _ ≤ (X.1 0 22).toInt - (1 : Int) ∧ (X.1 0 22).toInt - (1 : Int) ≤ _ from by omega) (fun x5 hx5 => ?_)
  have hx5 : x5.toInt = (X.1 0 22).toInt - (1 : Int) := hx5
  refine ok2.letV ?_
  have hc1 : AG lv P (wI (wI X 0 21 x2) 0 22 x5) (wI (wI Xt 0 21 x2) 0 22 x5) := (hag.wI 0 21 _ (by decide)).dec 22 _ (by decide) (show x5.toInt ≤ ((wI X 0 21 x2).1 0 22).toInt from by have ec_ : ((wI X 0 21 x2).1 0 22).toInt = (X.1 0 22).toInt := congrArg Int32.toInt rfl; omega)
  refine ok2.letV ?_
  refine ok2.letV ?_
  exact ok2.ret ⟨((((Fr.rf.wI 0 21 _ (show (21 : Nat) ∈ [21, 22, 23, 24] from by decide)).wI 0 22 _ (show (22 : Nat) ∈ [21, 22, 23, 24] from by decide)).wI 0 24 _ (show (24 : Nat) ∈ [21, 22, 23, 24] from by decide)).wI 0 23 _ (show (23 : Nat) ∈ [21, 22, 23, 24] from by decide)), ((((Fr.rf.wI 0 21 _ (show (21 : Nat) ∈ [21, 22, 23, 24] from by decide)).wI 0 22 _ (show (22 : Nat) ∈ [21, 22, 23, 24] from by decide)).wI 0 24 _ (show (24 : Nat) ∈ [21, 22, 23, 24] from by decide)).wI 0 23 _ (show (23 : Nat) ∈ [21, 22, 23, 24] from by decide)), ((hc1.wI 0 24 _ (by decide)).wI 0 23 _ (by decide)), (show x2.toInt = (X.1 0 21).toInt - 1 ∧ x5.toInt = (X.1 0 22).toInt - 1 ∧ p1.toInt = p1.toInt ∧ (4 : Int) = 4 from by exact ⟨(by omega), (by omega), (by omega), (by omega)⟩)⟩
set_option maxHeartbeats 4000000 in
set_option maxRecDepth 100000 in
theorem t_f_shuts (p1 : Int32) (p2 : Int32) (X Xt : St) (lv : Nat) (P : Int) (hag : AG lv P X Xt) (hlv : 3 ≤ lv) (hy0 : 0 ≤ (X.1 0 6).toInt ∧ (X.1 0 6).toInt ≤ (X.1 0 5).toInt ∧ (X.1 0 5).toInt ≤ (X.1 0 1).toInt ∧ (X.1 0 1).toInt ≤ 3000 ∧ 0 ≤ (X.1 0 7).toInt ∧ (X.1 0 7).toInt ≤ 5 ∧ ((X.1 0 7).toInt = 0 ∨ (X.1 0 6).toInt < (X.1 0 5).toInt)) (hy1 : -100 ≤ (X.1 0 21).toInt ∧ (X.1 0 21).toInt ≤ 100 ∧ 0 ≤ (X.1 0 22).toInt ∧ (X.1 0 22).toInt ≤ 399) : ok2 (f_shuts p1 p2 X) (f_shuts p1 p2 Xt) (fun r X1 X1t => Fr YR [5, 6, 7, 8, 9, 10, 21, 22, 23, 24, 47] X X1 ∧ Fr YR [5, 6, 7, 8, 9, 10, 21, 22, 23, 24, 47] Xt X1t ∧ AG lv P X1 X1t ∧ (0 ≤ (X1.1 0 6).toInt ∧ (X1.1 0 6).toInt ≤ (X1.1 0 5).toInt ∧ (X1.1 0 5).toInt ≤ (X1.1 0 1).toInt ∧ (X1.1 0 1).toInt ≤ 3000 ∧ 0 ≤ (X1.1 0 7).toInt ∧ (X1.1 0 7).toInt ≤ 5 ∧ ((X1.1 0 7).toInt = 0 ∨ (X1.1 0 6).toInt < (X1.1 0 5).toInt) ∧ (X.1 0 6).toInt ≤ (X1.1 0 6).toInt ∧ (X1.1 0 21).toInt = (X.1 0 21).toInt - 1 ∧ (X1.1 0 22).toInt = (X.1 0 22).toInt - 1 ∧ (X1.1 0 24).toInt = p2.toInt ∧ (X1.1 0 23).toInt = 2 ∧ ((X1.1 0 9).toInt = 0 → (X.1 0 9).toInt = 0 ∧ (X.1 0 6).toInt < (X1.1 0 6).toInt))) := by
  unfold f_shuts
  refine ok2.bd (t_f_closes _ _ _ lv P hag (Nat.le_trans (show 2 ≤ 3 from by decide) hlv) (show 0 ≤ (X.1 0 6).toInt ∧ (X.1 0 6).toInt ≤ (X.1 0 5).toInt ∧ (X.1 0 5).toInt ≤ (X.1 0 1).toInt ∧ (X.1 0 1).toInt ≤ 3000 ∧ 0 ≤ (X.1 0 7).toInt ∧ (X.1 0 7).toInt ≤ 5 ∧ ((X.1 0 7).toInt = 0 ∨ (X.1 0 6).toInt < (X.1 0 5).toInt) from by exact ⟨(by omega), (by omega), (by omega), (by omega), (by omega), (by omega), (by omega)⟩) (show -100 ≤ (X.1 0 21).toInt ∧ (X.1 0 21).toInt ≤ 100 from by exact ⟨(by omega), (by omega)⟩)) ?_
  rintro r_3 X_2 X_2t ⟨hFh1, hGh1, hAh1, hh1⟩
  have eh1_0 : (X_2.1 0 1).toInt = (X.1 0 1).toInt := congrArg Int32.toInt (hFh1.1 0 1 (show (1 : Nat) ∉ [5, 6, 7, 8, 9, 10, 21, 47] from by decide))
  have hh1 : (0 ≤ (X_2.1 0 6).toInt ∧ (X_2.1 0 6).toInt ≤ (X_2.1 0 5).toInt ∧ (X_2.1 0 5).toInt ≤ (X_2.1 0 1).toInt ∧ (X_2.1 0 1).toInt ≤ 3000 ∧ 0 ≤ (X_2.1 0 7).toInt ∧ (X_2.1 0 7).toInt ≤ 5 ∧ ((X_2.1 0 7).toInt = 0 ∨ (X_2.1 0 6).toInt < (X_2.1 0 5).toInt) ∧ (X.1 0 6).toInt ≤ (X_2.1 0 6).toInt ∧ (X_2.1 0 21).toInt = (X.1 0 21).toInt - 1 ∧ ((X_2.1 0 9).toInt = 0 → (X.1 0 9).toInt = 0 ∧ (X.1 0 6).toInt < (X_2.1 0 6).toInt)) := hh1
  refine ok2.letE (v1 := (X.1 0 22)) (hFh1.1 0 22 (show (22 : Nat) ∉ [5, 6, 7, 8, 9, 10, 21, 47] from by decide)) ((hAh1.s3 22 (by decide) (Nat.le_trans (show 3 ≤ 3 from by decide) hlv)).trans (hFh1.1 0 22 (show (22 : Nat) ∉ [5, 6, 7, 8, 9, 10, 21, 47] from by decide))) ?_
  refine ok2.sub (show _ ≤ (X.1 0 22).toInt - (1 : Int) ∧ (X.1 0 22).toInt - (1 : Int) ≤ _ from by omega) (fun x3 hx3 => ?_)
  have hx3 : x3.toInt = (X.1 0 22).toInt - (1 : Int) := hx3
  refine ok2.letV ?_
  have hc4 : AG lv P (wI X_2 0 22 x3) (wI X_2t 0 22 x3) := hAh1.dec 22 _ (by decide) (show x3.toInt ≤ (X_2.1 0 22).toInt from by have ec_ : (X_2.1 0 22).toInt = (X.1 0 22).toInt := congrArg Int32.toInt (hFh1.1 0 22 (show (22 : Nat) ∉ [5, 6, 7, 8, 9, 10, 21, 47] from by decide)); omega)
  refine ok2.bd (t_f_done _ _ _ lv P hc4) ?_
  rintro r_7 X_6 X_6t ⟨hFh5, hGh5, hAh5, hh5⟩
  have hh5 : ((X_6.1 0 24).toInt = p2.toInt ∧ (X_6.1 0 23).toInt = 2) := hh5
  exact ok2.ret ⟨(((Fr.rf.tr hFh1 (by decide)).wI 0 22 _ (show (22 : Nat) ∈ [5, 6, 7, 8, 9, 10, 21, 22, 23, 24, 47] from by decide)).tr hFh5 (by decide)), (((Fr.rf.tr hGh1 (by decide)).wI 0 22 _ (show (22 : Nat) ∈ [5, 6, 7, 8, 9, 10, 21, 22, 23, 24, 47] from by decide)).tr hGh5 (by decide)), hAh5, (show 0 ≤ (X_6.1 0 6).toInt ∧ (X_6.1 0 6).toInt ≤ (X_6.1 0 5).toInt ∧ (X_6.1 0 5).toInt ≤ (X_6.1 0 1).toInt ∧ (X_6.1 0 1).toInt ≤ 3000 ∧ 0 ≤ (X_6.1 0 7).toInt ∧ (X_6.1 0 7).toInt ≤ 5 ∧ ((X_6.1 0 7).toInt = 0 ∨ (X_6.1 0 6).toInt < (X_6.1 0 5).toInt) ∧ (X.1 0 6).toInt ≤ (X_6.1 0 6).toInt ∧ (X_6.1 0 21).toInt = (X.1 0 21).toInt - 1 ∧ (X_6.1 0 22).toInt = (X.1 0 22).toInt - 1 ∧ (X_6.1 0 24).toInt = p2.toInt ∧ (X_6.1 0 23).toInt = 2 ∧ ((X_6.1 0 9).toInt = 0 → (X.1 0 9).toInt = 0 ∧ (X.1 0 6).toInt < (X_6.1 0 6).toInt) from by have e0_ : (X_6.1 0 6).toInt = (X_2.1 0 6).toInt := congrArg Int32.toInt (hFh5.1 0 6 (show (6 : Nat) ∉ [23, 24] from by decide)); have e1_ : (X_6.1 0 5).toInt = (X_2.1 0 5).toInt := congrArg Int32.toInt (hFh5.1 0 5 (show (5 : Nat) ∉ [23, 24] from by decide)); have e2_ : (X_6.1 0 1).toInt = (X.1 0 1).toInt := congrArg Int32.toInt ((hFh5.1 0 1 (show (1 : Nat) ∉ [23, 24] from by decide)).trans (hFh1.1 0 1 (show (1 : Nat) ∉ [5, 6, 7, 8, 9, 10, 21, 47] from by decide))); have e3_ : (X_6.1 0 7).toInt = (X_2.1 0 7).toInt := congrArg Int32.toInt (hFh5.1 0 7 (show (7 : Nat) ∉ [23, 24] from by decide)); have e4_ : (X_6.1 0 21).toInt = (X_2.1 0 21).toInt := congrArg Int32.toInt (hFh5.1 0 21 (show (21 : Nat) ∉ [23, 24] from by decide)); have e5_ : (X_6.1 0 22).toInt = x3.toInt := congrArg Int32.toInt (hFh5.1 0 22 (show (22 : Nat) ∉ [23, 24] from by decide)); have e6_ : (X_6.1 0 9).toInt = (X_2.1 0 9).toInt := congrArg Int32.toInt (hFh5.1 0 9 (show (9 : Nat) ∉ [23, 24] from by decide)); exact ⟨(by omega), (by omega), (by omega), (by omega), (by omega), (by omega), (by omega), (by omega), (by omega), (by omega), (by omega), (by omega), (fun hq81 => ⟨(by omega), (by omega)⟩)⟩)⟩
