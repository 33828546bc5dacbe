set_option maxHeartbeats 4000000 in
set_option maxRecDepth 100000 in
theorem t_L_f_sign (p1 : Int32) (X Xt : St) (lv : Nat) (P : Int) (hag : AG lv P X Xt) (hy0 : 0 ≤ (X.1 0 5).toInt ∧ (X.1 0 5).toInt < (X.1 0 1).toInt ∧ (X.1 0 1).toInt ≤ 3000) (h_d6 : (Xt.1 0 6 = X.1 0 6)) : ok2 (f_sign p1 X) (f_sign p1 Xt) (fun r X1 X1t => Fr YR [5, 7, 47] X X1 ∧ Fr YR [5, 7, 47] Xt X1t ∧ AG lv P X1 X1t ∧ ((X.1 0 5).toInt < (X1.1 0 5).toInt ∧ (X1.1 0 5).toInt ≤ (X1.1 0 1).toInt ∧ 4 ≤ (X1.1 0 7).toInt ∧ (X1.1 0 7).toInt ≤ 5) ∧ (X1t.1 0 6 = X1.1 0 6) ∧ (X1t.1 0 7 = X1.1 0 7) ∧ (X1t.2.1 0 47 = X1.2.1 0 47)) := by
  unfold f_sign
  refine ok2.letV ?_
  refine ok2.any (fun y2 => ?_)
  refine ok2.letV ?_
  refine ok2.letE (v1 := (X.1 0 5)) rfl (hag.s0 5 (by decide)) ?_
  refine ok2.add (show _ ≤ (X.1 0 5).toInt + (1 : Int) ∧ (X.1 0 5).toInt + (1 : Int) ≤ _ from by omega) (fun x5 hx5 => ?_)
  have hx5 : x5.toInt = (X.1 0 5).toInt + (1 : Int) := hx5
  refine ok2.letV ?_
  refine ok2.ite (fun c1 => ?_) (fun c1 => ?_)
  · skip
    refine ok2.letE (v1 := x5) rfl rfl ?_
    refine ok2.letE (v1 := (X.1 0 1)) rfl (hag.s0 1 (by decide)) ?_
    refine ok2.ite (fun c2 => ?_) (fun c2 => ?_)
    · skip
      unfold f_sign_70
      refine ok2.ite (fun c3 => ?_) (fun c3 => ?_)
      · skip
        exact ok2.ret ⟨(((Fr.rf.wI 0 7 _ (show (7 : Nat) ∈ [5, 7, 47] from by decide)).wL 0 47 _ (show (47 : Nat) ∈ [5, 7, 47] from by decide)).wI 0 5 _ (show (5 : Nat) ∈ [5, 7, 47] from by decide)), (((Fr.rf.wI 0 7 _ (show (7 : Nat) ∈ [5, 7, 47] from by decide)).wL 0 47 _ (show (47 : Nat) ∈ [5, 7, 47] from by decide)).wI 0 5 _ (show (5 : Nat) ∈ [5, 7, 47] from by decide)), (((hag.wI 0 7 _ (by decide)).wL 0 47 _).wI 0 5 _ (by decide)), (show (X.1 0 5).toInt < x5.toInt ∧ x5.toInt ≤ (X.1 0 1).toInt ∧ 4 ≤ (4 : Int) ∧ (4 : Int) ≤ 5 from by exact ⟨(by omega), (by omega), (by omega), (by omega)⟩), h_d6, rfl, rfl⟩
      · skip
        refine ok2.ite (fun c4 => ?_) (fun c4 => ?_)
        · skip
          exact ok2.ret ⟨(((Fr.rf.wI 0 7 _ (show (7 : Nat) ∈ [5, 7, 47] from by decide)).wL 0 47 _ (show (47 : Nat) ∈ [5, 7, 47] from by decide)).wI 0 5 _ (show (5 : Nat) ∈ [5, 7, 47] from by decide)), (((Fr.rf.wI 0 7 _ (show (7 : Nat) ∈ [5, 7, 47] from by decide)).wL 0 47 _ (show (47 : Nat) ∈ [5, 7, 47] from by decide)).wI 0 5 _ (show (5 : Nat) ∈ [5, 7, 47] from by decide)), (((hag.wI 0 7 _ (by decide)).wL 0 47 _).wI 0 5 _ (by decide)), (show (X.1 0 5).toInt < x5.toInt ∧ x5.toInt ≤ (X.1 0 1).toInt ∧ 4 ≤ (4 : Int) ∧ (4 : Int) ≤ 5 from by exact ⟨(by omega), (by omega), (by omega), (by omega)⟩), h_d6, rfl, rfl⟩
        · skip
          refine ok2.ite (fun c5 => ?_) (fun c5 => ?_)
          · skip
            exact ok2.ret ⟨(((Fr.rf.wI 0 7 _ (show (7 : Nat) ∈ [5, 7, 47] from by decide)).wL 0 47 _ (show (47 : Nat) ∈ [5, 7, 47] from by decide)).wI 0 5 _ (show (5 : Nat) ∈ [5, 7, 47] from by decide)), (((Fr.rf.wI 0 7 _ (show (7 : Nat) ∈ [5, 7, 47] from by decide)).wL 0 47 _ (show (47 : Nat) ∈ [5, 7, 47] from by decide)).wI 0 5 _ (show (5 : Nat) ∈ [5, 7, 47] from by decide)), (((hag.wI 0 7 _ (by decide)).wL 0 47 _).wI 0 5 _ (by decide)), (show (X.1 0 5).toInt < x5.toInt ∧ x5.toInt ≤ (X.1 0 1).toInt ∧ 4 ≤ (4 : Int) ∧ (4 : Int) ≤ 5 from by exact ⟨(by omega), (by omega), (by omega), (by omega)⟩), h_d6, rfl, rfl⟩
          · skip
            refine ok2.ite (fun c6 => ?_) (fun c6 => ?_)
            · skip
              exact ok2.ret ⟨(((Fr.rf.wI 0 7 _ (show (7 : Nat) ∈ [5, 7, 47] from by decide)).wL 0 47 _ (show (47 : Nat) ∈ [5, 7, 47] from by decide)).wI 0 5 _ (show (5 : Nat) ∈ [5, 7, 47] from by decide)), (((Fr.rf.wI 0 7 _ (show (7 : Nat) ∈ [5, 7, 47] from by decide)).wL 0 47 _ (show (47 : Nat) ∈ [5, 7, 47] from by decide)).wI 0 5 _ (show (5 : Nat) ∈ [5, 7, 47] from by decide)), (((hag.wI 0 7 _ (by decide)).wL 0 47 _).wI 0 5 _ (by decide)), (show (X.1 0 5).toInt < x5.toInt ∧ x5.toInt ≤ (X.1 0 1).toInt ∧ 4 ≤ (4 : Int) ∧ (4 : Int) ≤ 5 from by exact ⟨(by omega), (by omega), (by omega), (by omega)⟩), h_d6, rfl, rfl⟩
            · skip
              refine ok2.ite (fun c7 => ?_) (fun c7 => ?_)
              · skip
                exact ok2.ret ⟨(((Fr.rf.wI 0 7 _ (show (7 : Nat) ∈ [5, 7, 47] from by decide)).wL 0 47 _ (show (47 : Nat) ∈ [5, 7, 47] from by decide)).wI 0 5 _ (show (5 : Nat) ∈ [5, 7, 47] from by decide)), (((Fr.rf.wI 0 7 _ (show (7 : Nat) ∈ [5, 7, 47] from by decide)).wL 0 47 _ (show (47 : Nat) ∈ [5, 7, 47] from by decide)).wI 0 5 _ (show (5 : Nat) ∈ [5, 7, 47] from by decide)), (((hag.wI 0 7 _ (by decide)).wL 0 47 _).wI 0 5 _ (by decide)), (show (X.1 0 5).toInt < x5.toInt ∧ x5.toInt ≤ (X.1 0 1).toInt ∧ 4 ≤ (4 : Int) ∧ (4 : Int) ≤ 5 from by exact ⟨(by omega), (by omega), (by omega), (by omega)⟩), h_d6, rfl, rfl⟩
              · skip
                refine ok2.ite (fun c8 => ?_) (fun c8 => ?_)
                · skip
                  exact ok2.ret ⟨(((Fr.rf.wI 0 7 _ (show (7 : Nat) ∈ [5, 7, 47] from by decide)).wL 0 47 _ (show (47 : Nat) ∈ [5, 7, 47] from by decide)).wI 0 5 _ (show (5 : Nat) ∈ [5, 7, 47] from by decide)), (((Fr.rf.wI 0 7 _ (show (7 : Nat) ∈ [5, 7, 47] from by decide)).wL 0 47 _ (show (47 : Nat) ∈ [5, 7, 47] from by decide)).wI 0 5 _ (show (5 : Nat) ∈ [5, 7, 47] from by decide)), (((hag.wI 0 7 _ (by decide)).wL 0 47 _).wI 0 5 _ (by decide)), (show (X.1 0 5).toInt < x5.toInt ∧ x5.toInt ≤ (X.1 0 1).toInt ∧ 4 ≤ (4 : Int) ∧ (4 : Int) ≤ 5 from by exact ⟨(by omega), (by omega), (by omega), (by omega)⟩), h_d6, rfl, rfl⟩
                · skip
                  refine ok2.ite (fun c9 => ?_) (fun c9 => ?_)
                  · skip
                    exact ok2.ret ⟨(((Fr.rf.wI 0 7 _ (show (7 : Nat) ∈ [5, 7, 47] from by decide)).wL 0 47 _ (show (47 : Nat) ∈ [5, 7, 47] from by decide)).wI 0 5 _ (show (5 : Nat) ∈ [5, 7, 47] from by decide)), (((Fr.rf.wI 0 7 _ (show (7 : Nat) ∈ [5, 7, 47] from by decide)).wL 0 47 _ (show (47 : Nat) ∈ [5, 7, 47] from by decide)).wI 0 5 _ (show (5 : Nat) ∈ [5, 7, 47] from by decide)), (((hag.wI 0 7 _ (by decide)).wL 0 47 _).wI 0 5 _ (by decide)), (show (X.1 0 5).toInt < x5.toInt ∧ x5.toInt ≤ (X.1 0 1).toInt ∧ 4 ≤ (4 : Int) ∧ (4 : Int) ≤ 5 from by exact ⟨(by omega), (by omega), (by omega), (by omega)⟩), h_d6, rfl, rfl⟩
                  · skip
                    refine ok2.ite (fun c10 => ?_) (fun c10 => ?_)
                    · skip
                      exact ok2.ret ⟨(((Fr.rf.wI 0 7 _ (show (7 : Nat) ∈ [5, 7, 47] from by decide)).wL 0 47 _ (show (47 : Nat) ∈ [5, 7, 47] from by decide)).wI 0 5 _ (show (5 : Nat) ∈ [5, 7, 47] from by decide)), (((Fr.rf.wI 0 7 _ (show (7 : Nat) ∈ [5, 7, 47] from by decide)).wL 0 47 _ (show (47 : Nat) ∈ [5, 7, 47] from by decide)).wI 0 5 _ (show (5 : Nat) ∈ [5, 7, 47] from by decide)), (((hag.wI 0 7 _ (by decide)).wL 0 47 _).wI 0 5 _ (by decide)), (show (X.1 0 5).toInt < x5.toInt ∧ x5.toInt ≤ (X.1 0 1).toInt ∧ 4 ≤ (4 : Int) ∧ (4 : Int) ≤ 5 from by exact ⟨(by omega), (by omega), (by omega), (by omega)⟩), h_d6, rfl, rfl⟩
                    · skip
                      refine ok2.ite (fun c11 => ?_) (fun c11 => ?_)
                      · skip
                        exact ok2.ret ⟨(((Fr.rf.wI 0 7 _ (show (7 : Nat) ∈ [5, 7, 47] from by decide)).wL 0 47 _ (show (47 : Nat) ∈ [5, 7, 47] from by decide)).wI 0 5 _ (show (5 : Nat) ∈ [5, 7, 47] from by decide)), (((Fr.rf.wI 0 7 _ (show (7 : Nat) ∈ [5, 7, 47] from by decide)).wL 0 47 _ (show (47 : Nat) ∈ [5, 7, 47] from by decide)).wI 0 5 _ (show (5 : Nat) ∈ [5, 7, 47] from by decide)), (((hag.wI 0 7 _ (by decide)).wL 0 47 _).wI 0 5 _ (by decide)), (show (X.1 0 5).toInt < x5.toInt ∧ x5.toInt ≤ (X.1 0 1).toInt ∧ 4 ≤ (4 : Int) ∧ (4 : Int) ≤ 5 from by exact ⟨(by omega), (by omega), (by omega), (by omega)⟩), h_d6, rfl, rfl⟩
                      · skip
                        refine ok2.ite (fun c12 => ?_) (fun c12 => ?_)
                        · skip
                          exact ok2.ret ⟨(((Fr.rf.wI 0 7 _ (show (7 : Nat) ∈ [5, 7, 47] from by decide)).wL 0 47 _ (show (47 : Nat) ∈ [5, 7, 47] from by decide)).wI 0 5 _ (show (5 : Nat) ∈ [5, 7, 47] from by decide)), (((Fr.rf.wI 0 7 _ (show (7 : Nat) ∈ [5, 7, 47] from by decide)).wL 0 47 _ (show (47 : Nat) ∈ [5, 7, 47] from by decide)).wI 0 5 _ (show (5 : Nat) ∈ [5, 7, 47] from by decide)), (((hag.wI 0 7 _ (by decide)).wL 0 47 _).wI 0 5 _ (by decide)), (show (X.1 0 5).toInt < x5.toInt ∧ x5.toInt ≤ (X.1 0 1).toInt ∧ 4 ≤ (4 : Int) ∧ (4 : Int) ≤ 5 from by exact ⟨(by omega), (by omega), (by omega), (by omega)⟩), h_d6, rfl, rfl⟩
                        · skip
                          refine ok2.ite (fun c13 => ?_) (fun c13 => ?_)
                          · skip
                            exact ok2.ret ⟨(((Fr.rf.wI 0 7 _ (show (7 : Nat) ∈ [5, 7, 47] from by decide)).wL 0 47 _ (show (47 : Nat) ∈ [5, 7, 47] from by decide)).wI 0 5 _ (show (5 : Nat) ∈ [5, 7, 47] from by decide)), (((Fr.rf.wI 0 7 _ (show (7 : Nat) ∈ [5, 7, 47] from by decide)).wL 0 47 _ (show (47 : Nat) ∈ [5, 7, 47] from by decide)).wI 0 5 _ (show (5 : Nat) ∈ [5, 7, 47] from by decide)), (((hag.wI 0 7 _ (by decide)).wL 0 47 _).wI 0 5 _ (by decide)), (show (X.1 0 5).toInt < x5.toInt ∧ x5.toInt ≤ (X.1 0 1).toInt ∧ 4 ≤ (4 : Int) ∧ (4 : Int) ≤ 5 from by exact ⟨(by omega), (by omega), (by omega), (by omega)⟩), h_d6, rfl, rfl⟩
                          · skip
                            refine ok2.ite (fun c14 => ?_) (fun c14 => ?_)
                            · skip
                              exact ok2.ret ⟨(((Fr.rf.wI 0 7 _ (show (7 : Nat) ∈ [5, 7, 47] from by decide)).wL 0 47 _ (show (47 : Nat) ∈ [5, 7, 47] from by decide)).wI 0 5 _ (show (5 : Nat) ∈ [5, 7, 47] from by decide)), (((Fr.rf.wI 0 7 _ (show (7 : Nat) ∈ [5, 7, 47] from by decide)).wL 0 47 _ (show (47 : Nat) ∈ [5, 7, 47] from by decide)).wI 0 5 _ (show (5 : Nat) ∈ [5, 7, 47] from by decide)), (((hag.wI 0 7 _ (by decide)).wL 0 47 _).wI 0 5 _ (by decide)), (show (X.1 0 5).toInt < x5.toInt ∧ x5.toInt ≤ (X.1 0 1).toInt ∧ 4 ≤ (4 : Int) ∧ (4 : Int) ≤ 5 from by exact ⟨(by omega), (by omega), (by omega), (by omega)⟩), h_d6, rfl, rfl⟩
                            · skip
                              refine ok2.ite (fun c15 => ?_) (fun c15 => ?_)
                              · skip
                                exact ok2.ret ⟨(((Fr.rf.wI 0 7 _ (show (7 : Nat) ∈ [5, 7, 47] from by decide)).wL 0 47 _ (show (47 : Nat) ∈ [5, 7, 47] from by decide)).wI 0 5 _ (show (5 : Nat) ∈ [5, 7, 47] from by decide)), (((Fr.rf.wI 0 7 _ (show (7 : Nat) ∈ [5, 7, 47] from by decide)).wL 0 47 _ (show (47 : Nat) ∈ [5, 7, 47] from by decide)).wI 0 5 _ (show (5 : Nat) ∈ [5, 7, 47] from by decide)), (((hag.wI 0 7 _ (by decide)).wL 0 47 _).wI 0 5 _ (by decide)), (show (X.1 0 5).toInt < x5.toInt ∧ x5.toInt ≤ (X.1 0 1).toInt ∧ 4 ≤ (4 : Int) ∧ (4 : Int) ≤ 5 from by exact ⟨(by omega), (by omega), (by omega), (by omega)⟩), h_d6, rfl, rfl⟩
                              · skip
                                refine ok2.ite (fun c16 => ?_) (fun c16 => ?_)
                                · skip
                                  exact ok2.ret ⟨(((Fr.rf.wI 0 7 _ (show (7 : Nat) ∈ [5, 7, 47] from by decide)).wL 0 47 _ (show (47 : Nat) ∈ [5, 7, 47] from by decide)).wI 0 5 _ (show (5 : Nat) ∈ [5, 7, 47] from by decide)), (((Fr.rf.wI 0 7 _ (show (7 : Nat) ∈ [5, 7, 47] from by decide)).wL 0 47 _ (show (47 : Nat) ∈ [5, 7, 47] from by decide)).wI 0 5 _ (show (5 : Nat) ∈ [5, 7, 47] from by decide)), (((hag.wI 0 7 _ (by decide)).wL 0 47 _).wI 0 5 _ (by decide)), (show (X.1 0 5).toInt < x5.toInt ∧ x5.toInt ≤ (X.1 0 1).toInt ∧ 4 ≤ (4 : Int) ∧ (4 : Int) ≤ 5 from by exact ⟨(by omega), (by omega), (by omega), (by omega)⟩), h_d6, rfl, rfl⟩
                                · skip
                                  refine ok2.ite (fun c17 => ?_) (fun c17 => ?_)
                                  · skip
                                    exact ok2.ret ⟨(((Fr.rf.wI 0 7 _ (show (7 : Nat) ∈ [5, 7, 47] from by decide)).wL 0 47 _ (show (47 : Nat) ∈ [5, 7, 47] from by decide)).wI 0 5 _ (show (5 : Nat) ∈ [5, 7, 47] from by decide)), (((Fr.rf.wI 0 7 _ (show (7 : Nat) ∈ [5, 7, 47] from by decide)).wL 0 47 _ (show (47 : Nat) ∈ [5, 7, 47] from by decide)).wI 0 5 _ (show (5 : Nat) ∈ [5, 7, 47] from by decide)), (((hag.wI 0 7 _ (by decide)).wL 0 47 _).wI 0 5 _ (by decide)), (show (X.1 0 5).toInt < x5.toInt ∧ x5.toInt ≤ (X.1 0 1).toInt ∧ 4 ≤ (4 : Int) ∧ (4 : Int) ≤ 5 from by exact ⟨(by omega), (by omega), (by omega), (by omega)⟩), h_d6, rfl, rfl⟩
                                  · skip
                                    refine ok2.ite (fun c18 => ?_) (fun c18 => ?_)
                                    · skip
                                      exact ok2.ret ⟨(((Fr.rf.wI 0 7 _ (show (7 : Nat) ∈ [5, 7, 47] from by decide)).wL 0 47 _ (show (47 : Nat) ∈ [5, 7, 47] from by decide)).wI 0 5 _ (show (5 : Nat) ∈ [5, 7, 47] from by decide)), (((Fr.rf.wI 0 7 _ (show (7 : Nat) ∈ [5, 7, 47] from by decide)).wL 0 47 _ (show (47 : Nat) ∈ [5, 7, 47] from by decide)).wI 0 5 _ (show (5 : Nat) ∈ [5, 7, 47] from by decide)), (((hag.wI 0 7 _ (by decide)).wL 0 47 _).wI 0 5 _ (by decide)), (show (X.1 0 5).toInt < x5.toInt ∧ x5.toInt ≤ (X.1 0 1).toInt ∧ 4 ≤ (4 : Int) ∧ (4 : Int) ≤ 5 from by exact ⟨(by omega), (by omega), (by omega), (by omega)⟩), h_d6, rfl, rfl⟩
                                    · skip
                                      refine ok2.ite (fun c19 => ?_) (fun c19 => ?_)
                                      · skip
                                        exact ok2.ret ⟨(((Fr.rf.wI 0 7 _ (show (7 : Nat) ∈ [5, 7, 47] from by decide)).wL 0 47 _ (show (47 : Nat) ∈ [5, 7, 47] from by decide)).wI 0 5 _ (show (5 : Nat) ∈ [5, 7, 47] from by decide)), (((Fr.rf.wI 0 7 _ (show (7 : Nat) ∈ [5, 7, 47] from by decide)).wL 0 47 _ (show (47 : Nat) ∈ [5, 7, 47] from by decide)).wI 0 5 _ (show (5 : Nat) ∈ [5, 7, 47] from by decide)), (((hag.wI 0 7 _ (by decide)).wL 0 47 _).wI 0 5 _ (by decide)), (show (X.1 0 5).toInt < x5.toInt ∧ x5.toInt ≤ (X.1 0 1).toInt ∧ 4 ≤ (4 : Int) ∧ (4 : Int) ≤ 5 from by exact ⟨(by omega), (by omega), (by omega), (by omega)⟩), h_d6, rfl, rfl⟩
                                      · skip
                                        refine ok2.letV ?_
                                        exact ok2.ret ⟨((((Fr.rf.wI 0 7 _ (show (7 : Nat) ∈ [5, 7, 47] from by decide)).wL 0 47 _ (show (47 : Nat) ∈ [5, 7, 47] from by decide)).wI 0 5 _ (show (5 : Nat) ∈ [5, 7, 47] from by decide)).wI 0 7 _ (show (7 : Nat) ∈ [5, 7, 47] from by decide)), ((((Fr.rf.wI 0 7 _ (show (7 : Nat) ∈ [5, 7, 47] from by decide)).wL 0 47 _ (show (47 : Nat) ∈ [5, 7, 47] from by decide)).wI 0 5 _ (show (5 : Nat) ∈ [5, 7, 47] from by decide)).wI 0 7 _ (show (7 : Nat) ∈ [5, 7, 47] from by decide)), ((((hag.wI 0 7 _ (by decide)).wL 0 47 _).wI 0 5 _ (by decide)).wI 0 7 _ (by decide)), (show (X.1 0 5).toInt < x5.toInt ∧ x5.toInt ≤ (X.1 0 1).toInt ∧ 4 ≤ (5 : Int) ∧ (5 : Int) ≤ 5 from by exact ⟨(by omega), (by omega), (by omega), (by omega)⟩), h_d6, rfl, rfl⟩
    · skip
      refine ok2.letE (v1 := x5) rfl rfl ?_
      refine ok2.ck (show 0 ≤ x5.toInt ∧ x5.toInt < ((3000 : Nat) : Int) from by omega) ?_
      refine ok2.letE (v1 := (X.1 2 (ix x5))) rfl (hag.ri 2 1 (by decide) (Nat.zero_le _) x5 (show 0 ≤ x5.toInt ∧ x5.toInt < (X.1 0 1).toInt from by omega)) ?_
      refine ok2.ite (fun c20 => ?_) (fun c20 => ?_)
      · skip
        refine ok2.letV ?_
        refine ok2.letE (v1 := x5) rfl rfl ?_
        refine ok2.add (show _ ≤ x5.toInt + (1 : Int) ∧ x5.toInt + (1 : Int) ≤ _ from by omega) (fun x31 hx31 => ?_)
        have hx31 : x31.toInt = x5.toInt + (1 : Int) := hx31
        refine ok2.letV ?_
        exact ok2.ret ⟨(((((Fr.rf.wI 0 7 _ (show (7 : Nat) ∈ [5, 7, 47] from by decide)).wL 0 47 _ (show (47 : Nat) ∈ [5, 7, 47] from by decide)).wI 0 5 _ (show (5 : Nat) ∈ [5, 7, 47] from by decide)).wL 0 47 _ (show (47 : Nat) ∈ [5, 7, 47] from by decide)).wI 0 5 _ (show (5 : Nat) ∈ [5, 7, 47] from by decide)), (((((Fr.rf.wI 0 7 _ (show (7 : Nat) ∈ [5, 7, 47] from by decide)).wL 0 47 _ (show (47 : Nat) ∈ [5, 7, 47] from by decide)).wI 0 5 _ (show (5 : Nat) ∈ [5, 7, 47] from by decide)).wL 0 47 _ (show (47 : Nat) ∈ [5, 7, 47] from by decide)).wI 0 5 _ (show (5 : Nat) ∈ [5, 7, 47] from by decide)), (((((hag.wI 0 7 _ (by decide)).wL 0 47 _).wI 0 5 _ (by decide)).wL 0 47 _).wI 0 5 _ (by decide)), (show (X.1 0 5).toInt < x31.toInt ∧ x31.toInt ≤ (X.1 0 1).toInt ∧ 4 ≤ (4 : Int) ∧ (4 : Int) ≤ 5 from by exact ⟨(by omega), (by omega), (by omega), (by omega)⟩), h_d6, rfl, rfl⟩
      · skip
        unfold f_sign_70
        refine ok2.ite (fun c21 => ?_) (fun c21 => ?_)
        · skip
          exact ok2.ret ⟨(((Fr.rf.wI 0 7 _ (show (7 : Nat) ∈ [5, 7, 47] from by decide)).wL 0 47 _ (show (47 : Nat) ∈ [5, 7, 47] from by decide)).wI 0 5 _ (show (5 : Nat) ∈ [5, 7, 47] from by decide)), (((Fr.rf.wI 0 7 _ (show (7 : Nat) ∈ [5, 7, 47] from by decide)).wL 0 47 _ (show (47 : Nat) ∈ [5, 7, 47] from by decide)).wI 0 5 _ (show (5 : Nat) ∈ [5, 7, 47] from by decide)), (((hag.wI 0 7 _ (by decide)).wL 0 47 _).wI 0 5 _ (by decide)), (show (X.1 0 5).toInt < x5.toInt ∧ x5.toInt ≤ (X.1 0 1).toInt ∧ 4 ≤ (4 : Int) ∧ (4 : Int) ≤ 5 from by exact ⟨(by omega), (by omega), (by omega), (by omega)⟩), h_d6, rfl, rfl⟩
        · skip
          refine ok2.ite (fun c22 => ?_) (fun c22 => ?_)
          · skip
            exact ok2.ret ⟨(((Fr.rf.wI 0 7 _ (show (7 : Nat) ∈ [5, 7, 47] from by decide)).wL 0 47 _ (show (47 : Nat) ∈ [5, 7, 47] from by decide)).wI 0 5 _ (show (5 : Nat) ∈ [5, 7, 47] from by decide)), (((Fr.rf.wI 0 7 _ (show (7 : Nat) ∈ [5, 7, 47] from by decide)).wL 0 47 _ (show (47 : Nat) ∈ [5, 7, 47] from by decide)).wI 0 5 _ (show (5 : Nat) ∈ [5, 7, 47] from by decide)), (((hag.wI 0 7 _ (by decide)).wL 0 47 _).wI 0 5 _ (by decide)), (show (X.1 0 5).toInt < x5.toInt ∧ x5.toInt ≤ (X.1 0 1).toInt ∧ 4 ≤ (4 : Int) ∧ (4 : Int) ≤ 5 from by exact ⟨(by omega), (by omega), (by omega), (by omega)⟩), h_d6, rfl, rfl⟩
          · skip
            refine ok2.ite (fun c23 => ?_) (fun c23 => ?_)
            · skip
              exact ok2.ret ⟨(((Fr.rf.wI 0 7 _ (show (7 : Nat) ∈ [5, 7, 47] from by decide)).wL 0 47 _ (show (47 : Nat) ∈ [5, 7, 47] from by decide)).wI 0 5 _ (show (5 : Nat) ∈ [5, 7, 47] from by decide)), (((Fr.rf.wI 0 7 _ (show (7 : Nat) ∈ [5, 7, 47] from by decide)).wL 0 47 _ (show (47 : Nat) ∈ [5, 7, 47] from by decide)).wI 0 5 _ (show (5 : Nat) ∈ [5, 7, 47] from by decide)), (((hag.wI 0 7 _ (by decide)).wL 0 47 _).wI 0 5 _ (by decide)), (show (X.1 0 5).toInt < x5.toInt ∧ x5.toInt ≤ (X.1 0 1).toInt ∧ 4 ≤ (4 : Int) ∧ (4 : Int) ≤ 5 from by exact ⟨(by omega), (by omega), (by omega), (by omega)⟩), h_d6, rfl, rfl⟩
            · skip
              refine ok2.ite (fun c24 => ?_) (fun c24 => ?_)
              · skip
                exact ok2.ret ⟨(((Fr.rf.wI 0 7 _ (show (7 : Nat) ∈ [5, 7, 47] from by decide)).wL 0 47 _ (show (47 : Nat) ∈ [5, 7, 47] from by decide)).wI 0 5 _ (show (5 : Nat) ∈ [5, 7, 47] from by decide)), (((Fr.rf.wI 0 7 _ (show (7 : Nat) ∈ [5, 7, 47] from by decide)).wL 0 47 _ (show (47 : Nat) ∈ [5, 7, 47] from by decide)).wI 0 5 _ (show (5 : Nat) ∈ [5, 7, 47] from by decide)), (((hag.wI 0 7 _ (by decide)).wL 0 47 _).wI 0 5 _ (by decide)), (show (X.1 0 5).toInt < x5.toInt ∧ x5.toInt ≤ (X.1 0 1).toInt ∧ 4 ≤ (4 : Int) ∧ (4 : Int) ≤ 5 from by exact ⟨(by omega), (by omega), (by omega), (by omega)⟩), h_d6, rfl, rfl⟩
              · skip
                refine ok2.ite (fun c25 => ?_) (fun c25 => ?_)
                · skip
                  exact ok2.ret ⟨(((Fr.rf.wI 0 7 _ (show (7 : Nat) ∈ [5, 7, 47] from by decide)).wL 0 47 _ (show (47 : Nat) ∈ [5, 7, 47] from by decide)).wI 0 5 _ (show (5 : Nat) ∈ [5, 7, 47] from by decide)), (((Fr.rf.wI 0 7 _ (show (7 : Nat) ∈ [5, 7, 47] from by decide)).wL 0 47 _ (show (47 : Nat) ∈ [5, 7, 47] from by decide)).wI 0 5 _ (show (5 : Nat) ∈ [5, 7, 47] from by decide)), (((hag.wI 0 7 _ (by decide)).wL 0 47 _).wI 0 5 _ (by decide)), (show (X.1 0 5).toInt < x5.toInt ∧ x5.toInt ≤ (X.1 0 1).toInt ∧ 4 ≤ (4 : Int) ∧ (4 : Int) ≤ 5 from by exact ⟨(by omega), (by omega), (by omega), (by omega)⟩), h_d6, rfl, rfl⟩
                · skip
                  refine ok2.ite (fun c26 => ?_) (fun c26 => ?_)
                  · skip
                    exact ok2.ret ⟨(((Fr.rf.wI 0 7 _ (show (7 : Nat) ∈ [5, 7, 47] from by decide)).wL 0 47 _ (show (47 : Nat) ∈ [5, 7, 47] from by decide)).wI 0 5 _ (show (5 : Nat) ∈ [5, 7, 47] from by decide)), (((Fr.rf.wI 0 7 _ (show (7 : Nat) ∈ [5, 7, 47] from by decide)).wL 0 47 _ (show (47 : Nat) ∈ [5, 7, 47] from by decide)).wI 0 5 _ (show (5 : Nat) ∈ [5, 7, 47] from by decide)), (((hag.wI 0 7 _ (by decide)).wL 0 47 _).wI 0 5 _ (by decide)), (show (X.1 0 5).toInt < x5.toInt ∧ x5.toInt ≤ (X.1 0 1).toInt ∧ 4 ≤ (4 : Int) ∧ (4 : Int) ≤ 5 from by exact ⟨(by omega), (by omega), (by omega), (by omega)⟩), h_d6, rfl, rfl⟩
                  · skip
                    refine ok2.ite (fun c27 => ?_) (fun c27 => ?_)
                    · skip
                      exact ok2.ret ⟨(((Fr.rf.wI 0 7 _ (show (7 : Nat) ∈ [5, 7, 47] from by decide)).wL 0 47 _ (show (47 : Nat) ∈ [5, 7, 47] from by decide)).wI 0 5 _ (show (5 : Nat) ∈ [5, 7, 47] from by decide)), (((Fr.rf.wI 0 7 _ (show (7 : Nat) ∈ [5, 7, 47] from by decide)).wL 0 47 _ (show (47 : Nat) ∈ [5, 7, 47] from by decide)).wI 0 5 _ (show (5 : Nat) ∈ [5, 7, 47] from by decide)), (((hag.wI 0 7 _ (by decide)).wL 0 47 _).wI 0 5 _ (by decide)), (show (X.1 0 5).toInt < x5.toInt ∧ x5.toInt ≤ (X.1 0 1).toInt ∧ 4 ≤ (4 : Int) ∧ (4 : Int) ≤ 5 from by exact ⟨(by omega), (by omega), (by omega), (by omega)⟩), h_d6, rfl, rfl⟩
                    · skip
                      refine ok2.ite (fun c28 => ?_) (fun c28 => ?_)
                      · skip
                        exact ok2.ret ⟨(((Fr.rf.wI 0 7 _ (show (7 : Nat) ∈ [5, 7, 47] from by decide)).wL 0 47 _ (show (47 : Nat) ∈ [5, 7, 47] from by decide)).wI 0 5 _ (show (5 : Nat) ∈ [5, 7, 47] from by decide)), (((Fr.rf.wI 0 7 _ (show (7 : Nat) ∈ [5, 7, 47] from by decide)).wL 0 47 _ (show (47 : Nat) ∈ [5, 7, 47] from by decide)).wI 0 5 _ (show (5 : Nat) ∈ [5, 7, 47] from by decide)), (((hag.wI 0 7 _ (by decide)).wL 0 47 _).wI 0 5 _ (by decide)), (show (X.1 0 5).toInt < x5.toInt ∧ x5.toInt ≤ (X.1 0 1).toInt ∧ 4 ≤ (4 : Int) ∧ (4 : Int) ≤ 5 from by exact ⟨(by omega), (by omega), (by omega), (by omega)⟩), h_d6, rfl, rfl⟩
                      · skip
                        refine ok2.ite (fun c29 => ?_) (fun c29 => ?_)
                        · skip
                          exact ok2.ret ⟨(((Fr.rf.wI 0 7 _ (show (7 : Nat) ∈ [5, 7, 47] from by decide)).wL 0 47 _ (show (47 : Nat) ∈ [5, 7, 47] from by decide)).wI 0 5 _ (show (5 : Nat) ∈ [5, 7, 47] from by decide)), (((Fr.rf.wI 0 7 _ (show (7 : Nat) ∈ [5, 7, 47] from by decide)).wL 0 47 _ (show (47 : Nat) ∈ [5, 7, 47] from by decide)).wI 0 5 _ (show (5 : Nat) ∈ [5, 7, 47] from by decide)), (((hag.wI 0 7 _ (by decide)).wL 0 47 _).wI 0 5 _ (by decide)), (show (X.1 0 5).toInt < x5.toInt ∧ x5.toInt ≤ (X.1 0 1).toInt ∧ 4 ≤ (4 : Int) ∧ (4 : Int) ≤ 5 from by exact ⟨(by omega), (by omega), (by omega), (by omega)⟩), h_d6, rfl, rfl⟩
                        · skip
                          refine ok2.ite (fun c30 => ?_) (fun c30 => ?_)
                          · skip
                            exact ok2.ret ⟨(((Fr.rf.wI 0 7 _ (show (7 : Nat) ∈ [5, 7, 47] from by decide)).wL 0 47 _ (show (47 : Nat) ∈ [5, 7, 47] from by decide)).wI 0 5 _ (show (5 : Nat) ∈ [5, 7, 47] from by decide)), (((Fr.rf.wI 0 7 _ (show (7 : Nat) ∈ [5, 7, 47] from by decide)).wL 0 47 _ (show (47 : Nat) ∈ [5, 7, 47] from by decide)).wI 0 5 _ (show (5 : Nat) ∈ [5, 7, 47] from by decide)), (((hag.wI 0 7 _ (by decide)).wL 0 47 _).wI 0 5 _ (by decide)), (show (X.1 0 5).toInt < x5.toInt ∧ x5.toInt ≤ (X.1 0 1).toInt ∧ 4 ≤ (4 : Int) ∧ (4 : Int) ≤ 5 from by exact ⟨(by omega), (by omega), (by omega), (by omega)⟩), h_d6, rfl, rfl⟩
                          · skip
                            refine ok2.ite (fun c31 => ?_) (fun c31 => ?_)
                            · skip
                              exact ok2.ret ⟨(((Fr.rf.wI 0 7 _ (show (7 : Nat) ∈ [5, 7, 47] from by decide)).wL 0 47 _ (show (47 : Nat) ∈ [5, 7, 47] from by decide)).wI 0 5 _ (show (5 : Nat) ∈ [5, 7, 47] from by decide)), (((Fr.rf.wI 0 7 _ (show (7 : Nat) ∈ [5, 7, 47] from by decide)).wL 0 47 _ (show (47 : Nat) ∈ [5, 7, 47] from by decide)).wI 0 5 _ (show (5 : Nat) ∈ [5, 7, 47] from by decide)), (((hag.wI 0 7 _ (by decide)).wL 0 47 _).wI 0 5 _ (by decide)), (show (X.1 0 5).toInt < x5.toInt ∧ x5.toInt ≤ (X.1 0 1).toInt ∧ 4 ≤ (4 : Int) ∧ (4 : Int) ≤ 5 from by exact ⟨(by omega), (by omega), (by omega), (by omega)⟩), h_d6, rfl, rfl⟩
                            · skip
                              refine ok2.ite (fun c32 => ?_) (fun c32 => ?_)
                              · skip
                                exact ok2.ret ⟨(((Fr.rf.wI 0 7 _ (show (7 : Nat) ∈ [5, 7, 47] from by decide)).wL 0 47 _ (show (47 : Nat) ∈ [5, 7, 47] from by decide)).wI 0 5 _ (show (5 : Nat) ∈ [5, 7, 47] from by decide)), (((Fr.rf.wI 0 7 _ (show (7 : Nat) ∈ [5, 7, 47] from by decide)).wL 0 47 _ (show (47 : Nat) ∈ [5, 7, 47] from by decide)).wI 0 5 _ (show (5 : Nat) ∈ [5, 7, 47] from by decide)), (((hag.wI 0 7 _ (by decide)).wL 0 47 _).wI 0 5 _ (by decide)), (show (X.1 0 5).toInt < x5.toInt ∧ x5.toInt ≤ (X.1 0 1).toInt ∧ 4 ≤ (4 : Int) ∧ (4 : Int) ≤ 5 from by exact ⟨(by omega), (by omega), (by omega), (by omega)⟩), h_d6, rfl, rfl⟩
                              · skip
                                refine ok2.ite (fun c33 => ?_) (fun c33 => ?_)
                                · skip
                                  exact ok2.ret ⟨(((Fr.rf.wI 0 7 _ (show (7 : Nat) ∈ [5, 7, 47] from by decide)).wL 0 47 _ (show (47 : Nat) ∈ [5, 7, 47] from by decide)).wI 0 5 _ (show (5 : Nat) ∈ [5, 7, 47] from by decide)), (((Fr.rf.wI 0 7 _ (show (7 : Nat) ∈ [5, 7, 47] from by decide)).wL 0 47 _ (show (47 : Nat) ∈ [5, 7, 47] from by decide)).wI 0 5 _ (show (5 : Nat) ∈ [5, 7, 47] from by decide)), (((hag.wI 0 7 _ (by decide)).wL 0 47 _).wI 0 5 _ (by decide)), (show (X.1 0 5).toInt < x5.toInt ∧ x5.toInt ≤ (X.1 0 1).toInt ∧ 4 ≤ (4 : Int) ∧ (4 : Int) ≤ 5 from by exact ⟨(by omega), (by omega), (by omega), (by omega)⟩), h_d6, rfl, rfl⟩
                                · skip
                                  refine ok2.ite (fun c34 => ?_) (fun c34 => ?_)
                                  · skip
                                    exact ok2.ret ⟨(((Fr.rf.wI 0 7 _ (show (7 : Nat) ∈ [5, 7, 47] from by decide)).wL 0 47 _ (show (47 : Nat) ∈ [5, 7, 47] from by decide)).wI 0 5 _ (show (5 : Nat) ∈ [5, 7, 47] from by decide)), (((Fr.rf.wI 0 7 _ (show (7 : Nat) ∈ [5, 7, 47] from by decide)).wL 0 47 _ (show (47 : Nat) ∈ [5, 7, 47] from by decide)).wI 0 5 _ (show (5 : Nat) ∈ [5, 7, 47] from by decide)), (((hag.wI 0 7 _ (by decide)).wL 0 47 _).wI 0 5 _ (by decide)), (show (X.1 0 5).toInt < x5.toInt ∧ x5.toInt ≤ (X.1 0 1).toInt ∧ 4 ≤ (4 : Int) ∧ (4 : Int) ≤ 5 from by exact ⟨(by omega), (by omega), (by omega), (by omega)⟩), h_d6, rfl, rfl⟩
                                  · skip
                                    refine ok2.ite (fun c35 => ?_) (fun c35 => ?_)
                                    · skip
                                      exact ok2.ret ⟨(((Fr.rf.wI 0 7 _ (show (7 : Nat) ∈ [5, 7, 47] from by decide)).wL 0 47 _ (show (47 : Nat) ∈ [5, 7, 47] from by decide)).wI 0 5 _ (show (5 : Nat) ∈ [5, 7, 47] from by decide)), (((Fr.rf.wI 0 7 _ (show (7 : Nat) ∈ [5, 7, 47] from by decide)).wL 0 47 _ (show (47 : Nat) ∈ [5, 7, 47] from by decide)).wI 0 5 _ (show (5 : Nat) ∈ [5, 7, 47] from by decide)), (((hag.wI 0 7 _ (by decide)).wL 0 47 _).wI 0 5 _ (by decide)), (show (X.1 0 5).toInt < x5.toInt ∧ x5.toInt ≤ (X.1 0 1).toInt ∧ 4 ≤ (4 : Int) ∧ (4 : Int) ≤ 5 from by exact ⟨(by omega), (by omega), (by omega), (by omega)⟩), h_d6, rfl, rfl⟩
                                    · skip
                                      refine ok2.ite (fun c36 => ?_) (fun c36 => ?_)
                                      · skip
                                        exact ok2.ret ⟨(((Fr.rf.wI 0 7 _ (show (7 : Nat) ∈ [5, 7, 47] from by decide)).wL 0 47 _ (show (47 : Nat) ∈ [5, 7, 47] from by decide)).wI 0 5 _ (show (5 : Nat) ∈ [5, 7, 47] from by decide)), (((Fr.rf.wI 0 7 _ (show (7 : Nat) ∈ [5, 7, 47] from by decide)).wL 0 47 _ (show (47 : Nat) ∈ [5, 7, 47] from by decide)).wI 0 5 _ (show (5 : Nat) ∈ [5, 7, 47] from by decide)), (((hag.wI 0 7 _ (by decide)).wL 0 47 _).wI 0 5 _ (by decide)), (show (X.1 0 5).toInt < x5.toInt ∧ x5.toInt ≤ (X.1 0 1).toInt ∧ 4 ≤ (4 : Int) ∧ (4 : Int) ≤ 5 from by exact ⟨(by omega), (by omega), (by omega), (by omega)⟩), h_d6, rfl, rfl⟩
                                      · skip
                                        refine ok2.ite (fun c37 => ?_) (fun c37 => ?_)
                                        · skip
                                          exact ok2.ret ⟨(((Fr.rf.wI 0 7 _ (show (7 : Nat) ∈ [5, 7, 47] from by decide)).wL 0 47 _ (show (47 : Nat) ∈ [5, 7, 47] from by decide)).wI 0 5 _ (show (5 : Nat) ∈ [5, 7, 47] from by decide)), (((Fr.rf.wI 0 7 _ (show (7 : Nat) ∈ [5, 7, 47] from by decide)).wL 0 47 _ (show (47 : Nat) ∈ [5, 7, 47] from by decide)).wI 0 5 _ (show (5 : Nat) ∈ [5, 7, 47] from by decide)), (((hag.wI 0 7 _ (by decide)).wL 0 47 _).wI 0 5 _ (by decide)), (show (X.1 0 5).toInt < x5.toInt ∧ x5.toInt ≤ (X.1 0 1).toInt ∧ 4 ≤ (4 : Int) ∧ (4 : Int) ≤ 5 from by exact ⟨(by omega), (by omega), (by omega), (by omega)⟩), h_d6, rfl, rfl⟩
                                        · skip
                                          refine ok2.letV ?_
                                          exact ok2.ret ⟨((((Fr.rf.wI 0 7 _ (show (7 : Nat) ∈ [5, 7, 47] from by decide)).wL 0 47 _ (show (47 : Nat) ∈ [5, 7, 47] from by decide)).wI 0 5 _ (show (5 : Nat) ∈ [5, 7, 47] from by decide)).wI 0 7 _ (show (7 : Nat) ∈ [5, 7, 47] from by decide)), ((((Fr.rf.wI 0 7 _ (show (7 : Nat) ∈ [5, 7, 47] from by decide)).wL 0 47 _ (show (47 : Nat) ∈ [5, 7, 47] from by decide)).wI 0 5 _ (show (5 : Nat) ∈ [5, 7, 47] from by decide)).wI 0 7 _ (show (7 : Nat) ∈ [5, 7, 47] from by decide)), ((((hag.wI 0 7 _ (by decide)).wL 0 47 _).wI 0 5 _ (by decide)).wI 0 7 _ (by decide)), (show (X.1 0 5).toInt < x5.toInt ∧ x5.toInt ≤ (X.1 0 1).toInt ∧ 4 ≤ (5 : Int) ∧ (5 : Int) ≤ 5 from by exact ⟨(by omega), (by omega), (by omega), (by omega)⟩), h_d6, rfl, rfl⟩
  · skip
    unfold f_sign_70
    refine ok2.ite (fun c38 => ?_) (fun c38 => ?_)
    · skip
      exact ok2.ret ⟨(((Fr.rf.wI 0 7 _ (show (7 : Nat) ∈ [5, 7, 47] from by decide)).wL 0 47 _ (show (47 : Nat) ∈ [5, 7, 47] from by decide)).wI 0 5 _ (show (5 : Nat) ∈ [5, 7, 47] from by decide)), (((Fr.rf.wI 0 7 _ (show (7 : Nat) ∈ [5, 7, 47] from by decide)).wL 0 47 _ (show (47 : Nat) ∈ [5, 7, 47] from by decide)).wI 0 5 _ (show (5 : Nat) ∈ [5, 7, 47] from by decide)), (((hag.wI 0 7 _ (by decide)).wL 0 47 _).wI 0 5 _ (by decide)), (show (X.1 0 5).toInt < x5.toInt ∧ x5.toInt ≤ (X.1 0 1).toInt ∧ 4 ≤ (4 : Int) ∧ (4 : Int) ≤ 5 from by exact ⟨(by omega), (by omega), (by omega), (by omega)⟩), h_d6, rfl, rfl⟩
    · skip
      refine ok2.ite (fun c39 => ?_) (fun c39 => ?_)
      · skip
        exact ok2.ret ⟨(((Fr.rf.wI 0 7 _ (show (7 : Nat) ∈ [5, 7, 47] from by decide)).wL 0 47 _ (show (47 : Nat) ∈ [5, 7, 47] from by decide)).wI 0 5 _ (show (5 : Nat) ∈ [5, 7, 47] from by decide)), (((Fr.rf.wI 0 7 _ (show (7 : Nat) ∈ [5, 7, 47] from by decide)).wL 0 47 _ (show (47 : Nat) ∈ [5, 7, 47] from by decide)).wI 0 5 _ (show (5 : Nat) ∈ [5, 7, 47] from by decide)), (((hag.wI 0 7 _ (by decide)).wL 0 47 _).wI 0 5 _ (by decide)), (show (X.1 0 5).toInt < x5.toInt ∧ x5.toInt ≤ (X.1 0 1).toInt ∧ 4 ≤ (4 : Int) ∧ (4 : Int) ≤ 5 from by exact ⟨(by omega), (by omega), (by omega), (by omega)⟩), h_d6, rfl, rfl⟩
      · skip
        refine ok2.ite (fun c40 => ?_) (fun c40 => ?_)
        · skip
          exact ok2.ret ⟨(((Fr.rf.wI 0 7 _ (show (7 : Nat) ∈ [5, 7, 47] from by decide)).wL 0 47 _ (show (47 : Nat) ∈ [5, 7, 47] from by decide)).wI 0 5 _ (show (5 : Nat) ∈ [5, 7, 47] from by decide)), (((Fr.rf.wI 0 7 _ (show (7 : Nat) ∈ [5, 7, 47] from by decide)).wL 0 47 _ (show (47 : Nat) ∈ [5, 7, 47] from by decide)).wI 0 5 _ (show (5 : Nat) ∈ [5, 7, 47] from by decide)), (((hag.wI 0 7 _ (by decide)).wL 0 47 _).wI 0 5 _ (by decide)), (show (X.1 0 5).toInt < x5.toInt ∧ x5.toInt ≤ (X.1 0 1).toInt ∧ 4 ≤ (4 : Int) ∧ (4 : Int) ≤ 5 from by exact ⟨(by omega), (by omega), (by omega), (by omega)⟩), h_d6, rfl, rfl⟩
        · skip
          refine ok2.ite (fun c41 => ?_) (fun c41 => ?_)
          · skip
            exact ok2.ret ⟨(((Fr.rf.wI 0 7 _ (show (7 : Nat) ∈ [5, 7, 47] from by decide)).wL 0 47 _ (show (47 : Nat) ∈ [5, 7, 47] from by decide)).wI 0 5 _ (show (5 : Nat) ∈ [5, 7, 47] from by decide)), (((Fr.rf.wI 0 7 _ (show (7 : Nat) ∈ [5, 7, 47] from by decide)).wL 0 47 _ (show (47 : Nat) ∈ [5, 7, 47] from by decide)).wI 0 5 _ (show (5 : Nat) ∈ [5, 7, 47] from by decide)), (((hag.wI 0 7 _ (by decide)).wL 0 47 _).wI 0 5 _ (by decide)), (show (X.1 0 5).toInt < x5.toInt ∧ x5.toInt ≤ (X.1 0 1).toInt ∧ 4 ≤ (4 : Int) ∧ (4 : Int) ≤ 5 from by exact ⟨(by omega), (by omega), (by omega), (by omega)⟩), h_d6, rfl, rfl⟩
          · skip
            refine ok2.ite (fun c42 => ?_) (fun c42 => ?_)
            · skip
              exact ok2.ret ⟨(((Fr.rf.wI 0 7 _ (show (7 : Nat) ∈ [5, 7, 47] from by decide)).wL 0 47 _ (show (47 : Nat) ∈ [5, 7, 47] from by decide)).wI 0 5 _ (show (5 : Nat) ∈ [5, 7, 47] from by decide)), (((Fr.rf.wI 0 7 _ (show (7 : Nat) ∈ [5, 7, 47] from by decide)).wL 0 47 _ (show (47 : Nat) ∈ [5, 7, 47] from by decide)).wI 0 5 _ (show (5 : Nat) ∈ [5, 7, 47] from by decide)), (((hag.wI 0 7 _ (by decide)).wL 0 47 _).wI 0 5 _ (by decide)), (show (X.1 0 5).toInt < x5.toInt ∧ x5.toInt ≤ (X.1 0 1).toInt ∧ 4 ≤ (4 : Int) ∧ (4 : Int) ≤ 5 from by exact ⟨(by omega), (by omega), (by omega), (by omega)⟩), h_d6, rfl, rfl⟩
            · skip
              refine ok2.ite (fun c43 => ?_) (fun c43 => ?_)
              · skip
                exact ok2.ret ⟨(((Fr.rf.wI 0 7 _ (show (7 : Nat) ∈ [5, 7, 47] from by decide)).wL 0 47 _ (show (47 : Nat) ∈ [5, 7, 47] from by decide)).wI 0 5 _ (show (5 : Nat) ∈ [5, 7, 47] from by decide)), (((Fr.rf.wI 0 7 _ (show (7 : Nat) ∈ [5, 7, 47] from by decide)).wL 0 47 _ (show (47 : Nat) ∈ [5, 7, 47] from by decide)).wI 0 5 _ (show (5 : Nat) ∈ [5, 7, 47] from by decide)), (((hag.wI 0 7 _ (by decide)).wL 0 47 _).wI 0 5 _ (by decide)), (show (X.1 0 5).toInt < x5.toInt ∧ x5.toInt ≤ (X.1 0 1).toInt ∧ 4 ≤ (4 : Int) ∧ (4 : Int) ≤ 5 from by exact ⟨(by omega), (by omega), (by omega), (by omega)⟩), h_d6, rfl, rfl⟩
              · skip
                refine ok2.ite (fun c44 => ?_) (fun c44 => ?_)
                · skip
                  exact ok2.ret ⟨(((Fr.rf.wI 0 7 _ (show (7 : Nat) ∈ [5, 7, 47] from by decide)).wL 0 47 _ (show (47 : Nat) ∈ [5, 7, 47] from by decide)).wI 0 5 _ (show (5 : Nat) ∈ [5, 7, 47] from by decide)), (((Fr.rf.wI 0 7 _ (show (7 : Nat) ∈ [5, 7, 47] from by decide)).wL 0 47 _ (show (47 : Nat) ∈ [5, 7, 47] from by decide)).wI 0 5 _ (show (5 : Nat) ∈ [5, 7, 47] from by decide)), (((hag.wI 0 7 _ (by decide)).wL 0 47 _).wI 0 5 _ (by decide)), (show (X.1 0 5).toInt < x5.toInt ∧ x5.toInt ≤ (X.1 0 1).toInt ∧ 4 ≤ (4 : Int) ∧ (4 : Int) ≤ 5 from by exact ⟨(by omega), (by omega), (by omega), (by omega)⟩), h_d6, rfl, rfl⟩
                · skip
                  refine ok2.ite (fun c45 => ?_) (fun c45 => ?_)
                  · skip
                    exact ok2.ret ⟨(((Fr.rf.wI 0 7 _ (show (7 : Nat) ∈ [5, 7, 47] from by decide)).wL 0 47 _ (show (47 : Nat) ∈ [5, 7, 47] from by decide)).wI 0 5 _ (show (5 : Nat) ∈ [5, 7, 47] from by decide)), (((Fr.rf.wI 0 7 _ (show (7 : Nat) ∈ [5, 7, 47] from by decide)).wL 0 47 _ (show (47 : Nat) ∈ [5, 7, 47] from by decide)).wI 0 5 _ (show (5 : Nat) ∈ [5, 7, 47] from by decide)), (((hag.wI 0 7 _ (by decide)).wL 0 47 _).wI 0 5 _ (by decide)), (show (X.1 0 5).toInt < x5.toInt ∧ x5.toInt ≤ (X.1 0 1).toInt ∧ 4 ≤ (4 : Int) ∧ (4 : Int) ≤ 5 from by exact ⟨(by omega), (by omega), (by omega), (by omega)⟩), h_d6, rfl, rfl⟩
                  · skip
                    refine ok2.ite (fun c46 => ?_) (fun c46 => ?_)
                    · skip
                      exact ok2.ret ⟨(((Fr.rf.wI 0 7 _ (show (7 : Nat) ∈ [5, 7, 47] from by decide)).wL 0 47 _ (show (47 : Nat) ∈ [5, 7, 47] from by decide)).wI 0 5 _ (show (5 : Nat) ∈ [5, 7, 47] from by decide)), (((Fr.rf.wI 0 7 _ (show (7 : Nat) ∈ [5, 7, 47] from by decide)).wL 0 47 _ (show (47 : Nat) ∈ [5, 7, 47] from by decide)).wI 0 5 _ (show (5 : Nat) ∈ [5, 7, 47] from by decide)), (((hag.wI 0 7 _ (by decide)).wL 0 47 _).wI 0 5 _ (by decide)), (show (X.1 0 5).toInt < x5.toInt ∧ x5.toInt ≤ (X.1 0 1).toInt ∧ 4 ≤ (4 : Int) ∧ (4 : Int) ≤ 5 from by exact ⟨(by omega), (by omega), (by omega), (by omega)⟩), h_d6, rfl, rfl⟩
                    · skip
                      refine ok2.ite (fun c47 => ?_) (fun c47 => ?_)
                      · skip
                        exact ok2.ret ⟨(((Fr.rf.wI 0 7 _ (show (7 : Nat) ∈ [5, 7, 47] from by decide)).wL 0 47 _ (show (47 : Nat) ∈ [5, 7, 47] from by decide)).wI 0 5 _ (show (5 : Nat) ∈ [5, 7, 47] from by decide)), (((Fr.rf.wI 0 7 _ (show (7 : Nat) ∈ [5, 7, 47] from by decide)).wL 0 47 _ (show (47 : Nat) ∈ [5, 7, 47] from by decide)).wI 0 5 _ (show (5 : Nat) ∈ [5, 7, 47] from by decide)), (((hag.wI 0 7 _ (by decide)).wL 0 47 _).wI 0 5 _ (by decide)), (show (X.1 0 5).toInt < x5.toInt ∧ x5.toInt ≤ (X.1 0 1).toInt ∧ 4 ≤ (4 : Int) ∧ (4 : Int) ≤ 5 from by exact ⟨(by omega), (by omega), (by omega), (by omega)⟩), h_d6, rfl, rfl⟩
                      · skip
                        refine ok2.ite (fun c48 => ?_) (fun c48 => ?_)
                        · skip
                          exact ok2.ret ⟨(((Fr.rf.wI 0 7 _ (show (7 : Nat) ∈ [5, 7, 47] from by decide)).wL 0 47 _ (show (47 : Nat) ∈ [5, 7, 47] from by decide)).wI 0 5 _ (show (5 : Nat) ∈ [5, 7, 47] from by decide)), (((Fr.rf.wI 0 7 _ (show (7 : Nat) ∈ [5, 7, 47] from by decide)).wL 0 47 _ (show (47 : Nat) ∈ [5, 7, 47] from by decide)).wI 0 5 _ (show (5 : Nat) ∈ [5, 7, 47] from by decide)), (((hag.wI 0 7 _ (by decide)).wL 0 47 _).wI 0 5 _ (by decide)), (show (X.1 0 5).toInt < x5.toInt ∧ x5.toInt ≤ (X.1 0 1).toInt ∧ 4 ≤ (4 : Int) ∧ (4 : Int) ≤ 5 from by exact ⟨(by omega), (by omega), (by omega), (by omega)⟩), h_d6, rfl, rfl⟩
                        · skip
                          refine ok2.ite (fun c49 => ?_) (fun c49 => ?_)
                          · skip
                            exact ok2.ret ⟨(((Fr.rf.wI 0 7 _ (show (7 : Nat) ∈ [5, 7, 47] from by decide)).wL 0 47 _ (show (47 : Nat) ∈ [5, 7, 47] from by decide)).wI 0 5 _ (show (5 : Nat) ∈ [5, 7, 47] from by decide)), (((Fr.rf.wI 0 7 _ (show (7 : Nat) ∈ [5, 7, 47] from by decide)).wL 0 47 _ (show (47 : Nat) ∈ [5, 7, 47] from by decide)).wI 0 5 _ (show (5 : Nat) ∈ [5, 7, 47] from by decide)), (((hag.wI 0 7 _ (by decide)).wL 0 47 _).wI 0 5 _ (by decide)), (show (X.1 0 5).toInt < x5.toInt ∧ x5.toInt ≤ (X.1 0 1).toInt ∧ 4 ≤ (4 : Int) ∧ (4 : Int) ≤ 5 from by exact ⟨(by omega), (by omega), (by omega), (by omega)⟩), h_d6, rfl, rfl⟩
                          · skip
                            refine ok2.ite (fun c50 => ?_) (fun c50 => ?_)
                            · skip
                              exact ok2.ret ⟨(((Fr.rf.wI 0 7 _ (show (7 : Nat) ∈ [5, 7, 47] from by decide)).wL 0 47 _ (show (47 : Nat) ∈ [5, 7, 47] from by decide)).wI 0 5 _ (show (5 : Nat) ∈ [5, 7, 47] from by decide)), (((Fr.rf.wI 0 7 _ (show (7 : Nat) ∈ [5, 7, 47] from by decide)).wL 0 47 _ (show (47 : Nat) ∈ [5, 7, 47] from by decide)).wI 0 5 _ (show (5 : Nat) ∈ [5, 7, 47] from by decide)), (((hag.wI 0 7 _ (by decide)).wL 0 47 _).wI 0 5 _ (by decide)), (show (X.1 0 5).toInt < x5.toInt ∧ x5.toInt ≤ (X.1 0 1).toInt ∧ 4 ≤ (4 : Int) ∧ (4 : Int) ≤ 5 from by exact ⟨(by omega), (by omega), (by omega), (by omega)⟩), h_d6, rfl, rfl⟩
                            · skip
                              refine ok2.ite (fun c51 => ?_) (fun c51 => ?_)
                              · skip
                                exact ok2.ret ⟨(((Fr.rf.wI 0 7 _ (show (7 : Nat) ∈ [5, 7, 47] from by decide)).wL 0 47 _ (show (47 : Nat) ∈ [5, 7, 47] from by decide)).wI 0 5 _ (show (5 : Nat) ∈ [5, 7, 47] from by decide)), (((Fr.rf.wI 0 7 _ (show (7 : Nat) ∈ [5, 7, 47] from by decide)).wL 0 47 _ (show (47 : Nat) ∈ [5, 7, 47] from by decide)).wI 0 5 _ (show (5 : Nat) ∈ [5, 7, 47] from by decide)), (((hag.wI 0 7 _ (by decide)).wL 0 47 _).wI 0 5 _ (by decide)), (show (X.1 0 5).toInt < x5.toInt ∧ x5.toInt ≤ (X.1 0 1).toInt ∧ 4 ≤ (4 : Int) ∧ (4 : Int) ≤ 5 from by exact ⟨(by omega), (by omega), (by omega), (by omega)⟩), h_d6, rfl, rfl⟩
                              · skip
                                refine ok2.ite (fun c52 => ?_) (fun c52 => ?_)
                                · skip
                                  exact ok2.ret ⟨(((Fr.rf.wI 0 7 _ (show (7 : Nat) ∈ [5, 7, 47] from by decide)).wL 0 47 _ (show (47 : Nat) ∈ [5, 7, 47] from by decide)).wI 0 5 _ (show (5 : Nat) ∈ [5, 7, 47] from by decide)), (((Fr.rf.wI 0 7 _ (show (7 : Nat) ∈ [5, 7, 47] from by decide)).wL 0 47 _ (show (47 : Nat) ∈ [5, 7, 47] from by decide)).wI 0 5 _ (show (5 : Nat) ∈ [5, 7, 47] from by decide)), (((hag.wI 0 7 _ (by decide)).wL 0 47 _).wI 0 5 _ (by decide)), (show (X.1 0 5).toInt < x5.toInt ∧ x5.toInt ≤ (X.1 0 1).toInt ∧ 4 ≤ (4 : Int) ∧ (4 : Int) ≤ 5 from by exact ⟨(by omega), (by omega), (by omega), (by omega)⟩), h_d6, rfl, rfl⟩
                                · skip
                                  refine ok2.ite (fun c53 => ?_) (fun c53 => ?_)
                                  · skip
                                    exact ok2.ret ⟨(((Fr.rf.wI 0 7 _ (show (7 : Nat) ∈ [5, 7, 47] from by decide)).wL 0 47 _ (show (47 : Nat) ∈ [5, 7, 47] from by decide)).wI 0 5 _ (show (5 : Nat) ∈ [5, 7, 47] from by decide)), (((Fr.rf.wI 0 7 _ (show (7 : Nat) ∈ [5, 7, 47] from by decide)).wL 0 47 _ (show (47 : Nat) ∈ [5, 7, 47] from by decide)).wI 0 5 _ (show (5 : Nat) ∈ [5, 7, 47] from by decide)), (((hag.wI 0 7 _ (by decide)).wL 0 47 _).wI 0 5 _ (by decide)), (show (X.1 0 5).toInt < x5.toInt ∧ x5.toInt ≤ (X.1 0 1).toInt ∧ 4 ≤ (4 : Int) ∧ (4 : Int) ≤ 5 from by exact ⟨(by omega), (by omega), (by omega), (by omega)⟩), h_d6, rfl, rfl⟩
                                  · skip
                                    refine ok2.ite (fun c54 => ?_) (fun c54 => ?_)
                                    · skip
                                      exact ok2.ret ⟨(((Fr.rf.wI 0 7 _ (show (7 : Nat) ∈ [5, 7, 47] from by decide)).wL 0 47 _ (show (47 : Nat) ∈ [5, 7, 47] from by decide)).wI 0 5 _ (show (5 : Nat) ∈ [5, 7, 47] from by decide)), (((Fr.rf.wI 0 7 _ (show (7 : Nat) ∈ [5, 7, 47] from by decide)).wL 0 47 _ (show (47 : Nat) ∈ [5, 7, 47] from by decide)).wI 0 5 _ (show (5 : Nat) ∈ [5, 7, 47] from by decide)), (((hag.wI 0 7 _ (by decide)).wL 0 47 _).wI 0 5 _ (by decide)), (show (X.1 0 5).toInt < x5.toInt ∧ x5.toInt ≤ (X.1 0 1).toInt ∧ 4 ≤ (4 : Int) ∧ (4 : Int) ≤ 5 from by exact ⟨(by omega), (by omega), (by omega), (by omega)⟩), h_d6, rfl, rfl⟩
                                    · skip
                                      refine ok2.letV ?_
                                      exact ok2.ret ⟨((((Fr.rf.wI 0 7 _ (show (7 : Nat) ∈ [5, 7, 47] from by decide)).wL 0 47 _ (show (47 : Nat) ∈ [5, 7, 47] from by decide)).wI 0 5 _ (show (5 : Nat) ∈ [5, 7, 47] from by decide)).wI 0 7 _ (show (7 : Nat) ∈ [5, 7, 47] from by decide)), ((((Fr.rf.wI 0 7 _ (show (7 : Nat) ∈ [5, 7, 47] from by decide)).wL 0 47 _ (show (47 : Nat) ∈ [5, 7, 47] from by decide)).wI 0 5 _ (show (5 : Nat) ∈ [5, 7, 47] from by decide)).wI 0 7 _ (show (7 : Nat) ∈ [5, 7, 47] from by decide)), ((((hag.wI 0 7 _ (by decide)).wL 0 47 _).wI 0 5 _ (by decide)).wI 0 7 _ (by decide)), (show (X.1 0 5).toInt < x5.toInt ∧ x5.toInt ≤ (X.1 0 1).toInt ∧ 4 ≤ (5 : Int) ∧ (5 : Int) ≤ 5 from by exact ⟨(by omega), (by omega), (by omega), (by omega)⟩), h_d6, rfl, rfl⟩
set_option maxHeartbeats 4000000 in
set_option maxRecDepth 100000 in
theorem t_L_f_name (X Xt : St) (lv : Nat) (P : Int) (hag : AG lv P X Xt) (hy0 : 0 ≤ (X.1 0 5).toInt ∧ (X.1 0 5).toInt < (X.1 0 1).toInt ∧ (X.1 0 1).toInt ≤ 3000 ∧ 0 < (letF (X.1 2 (ix (X.1 0 5)))).toInt) (h_d6 : (Xt.1 0 6 = X.1 0 6)) (h_dT : (Xt.2.1 0 47 = X.2.1 0 47)) : ok2 (f_name X) (f_name Xt) (fun r X1 X1t => Fr YR [5, 7, 8, 47] X X1 ∧ Fr YR [5, 7, 8, 47] Xt X1t ∧ AG lv P X1 X1t ∧ ((X.1 0 5).toInt < (X1.1 0 5).toInt ∧ (X1.1 0 5).toInt ≤ (X1.1 0 1).toInt ∧ 1 ≤ (X1.1 0 7).toInt ∧ (X1.1 0 7).toInt ≤ 5 ∧ 0 ≤ (X1.1 0 8).toInt ∧ (X1.1 0 8).toInt ≤ (X1.1 0 5).toInt - (X.1 0 5).toInt) ∧ (X1t.1 0 6 = X1.1 0 6) ∧ (X1t.1 0 7 = X1.1 0 7) ∧ (X1t.2.1 0 47 = X1.2.1 0 47)) := by
  unfold f_name
  refine ok2.letV ?_
  have lp_f_name_5 : ∀ (n : Nat), ∀ (Z1 Z1t : St), Fr YR [5, 7, 8, 47] X Z1 → Fr YR [5, 7, 8, 47] Xt Z1t → AG lv P Z1 Z1t → ((X.1 0 5).toInt ≤ (Z1.1 0 5).toInt ∧ (Z1.1 0 5).toInt ≤ (X.1 0 1).toInt ∧ 0 ≤ (Z1.1 0 8).toInt ∧ (Z1.1 0 8).toInt ≤ (Z1.1 0 5).toInt ∧ ((X.1 0 5).toInt < (Z1.1 0 5).toInt ∨ ((Z1.1 0 5).toInt < (X.1 0 1).toInt ∧ 0 < (letF (X.1 2 (ix (Z1.1 0 5)))).toInt)) ∧ (Z1.1 0 8).toInt ≤ (Z1.1 0 5).toInt - (X.1 0 5).toInt) → (Z1t.1 0 6 = Z1.1 0 6) → (Z1t.2.1 0 47 = Z1.2.1 0 47) → (Z1t.1 0 8 = Z1.1 0 8) → (3001 - (Z1.1 0 5).toInt).toNat < n → ok2 (f_name_5 n Z1) (f_name_5 n Z1t) (fun r X1 X1t => Fr YR [5, 7, 8, 47] X X1 ∧ Fr YR [5, 7, 8, 47] Xt X1t ∧ AG lv P X1 X1t ∧ ((X.1 0 5).toInt < (X1.1 0 5).toInt ∧ (X1.1 0 5).toInt ≤ (X1.1 0 1).toInt ∧ 1 ≤ (X1.1 0 7).toInt ∧ (X1.1 0 7).toInt ≤ 5 ∧ 0 ≤ (X1.1 0 8).toInt ∧ (X1.1 0 8).toInt ≤ (X1.1 0 5).toInt - (X.1 0 5).toInt) ∧ (X1t.1 0 6 = X1.1 0 6) ∧ (X1t.1 0 7 = X1.1 0 7) ∧ (X1t.2.1 0 47 = X1.2.1 0 47)) := by
    intro n
    unfold f_name_5
    refine lp_indN (P := fun (n : Nat) (r_f_name_5 : St → Option (Int32 × St)) => ∀ (Z1 Z1t : St), Fr YR [5, 7, 8, 47] X Z1 → Fr YR [5, 7, 8, 47] Xt Z1t → AG lv P Z1 Z1t → ((X.1 0 5).toInt ≤ (Z1.1 0 5).toInt ∧ (Z1.1 0 5).toInt ≤ (X.1 0 1).toInt ∧ 0 ≤ (Z1.1 0 8).toInt ∧ (Z1.1 0 8).toInt ≤ (Z1.1 0 5).toInt ∧ ((X.1 0 5).toInt < (Z1.1 0 5).toInt ∨ ((Z1.1 0 5).toInt < (X.1 0 1).toInt ∧ 0 < (letF (X.1 2 (ix (Z1.1 0 5)))).toInt)) ∧ (Z1.1 0 8).toInt ≤ (Z1.1 0 5).toInt - (X.1 0 5).toInt) → (Z1t.1 0 6 = Z1.1 0 6) → (Z1t.2.1 0 47 = Z1.2.1 0 47) → (Z1t.1 0 8 = Z1.1 0 8) → (3001 - (Z1.1 0 5).toInt).toNat < n → ok2 (r_f_name_5 Z1) (r_f_name_5 Z1t) (fun r X1 X1t => Fr YR [5, 7, 8, 47] X X1 ∧ Fr YR [5, 7, 8, 47] Xt X1t ∧ AG lv P X1 X1t ∧ ((X.1 0 5).toInt < (X1.1 0 5).toInt ∧ (X1.1 0 5).toInt ≤ (X1.1 0 1).toInt ∧ 1 ≤ (X1.1 0 7).toInt ∧ (X1.1 0 7).toInt ≤ 5 ∧ 0 ≤ (X1.1 0 8).toInt ∧ (X1.1 0 8).toInt ≤ (X1.1 0 5).toInt - (X.1 0 5).toInt) ∧ (X1t.1 0 6 = X1.1 0 6) ∧ (X1t.1 0 7 = X1.1 0 7) ∧ (X1t.2.1 0 47 = X1.2.1 0 47))) ?_ ?_ n
    · intro Z1 Z1t hF hG hA hI hZ1_d6 hZ1_dT hZ1_d8 hm; exact absurd hm (Nat.not_lt_zero _)
    · intro n r_f_name_5 ih_f_name_5 Z1 Z1t hFZ1 hGZ1 hAZ1 hIZ1 hZ1_d6 hZ1_dT hZ1_d8 hmZ1
      unfold f_name_5_s
      refine ok2.letE (v1 := (Z1.1 0 5)) rfl (hAZ1.s0 5 (by decide)) ?_
      refine ok2.letE (v1 := (X.1 0 1)) (hFZ1.1 0 1 (show (1 : Nat) ∉ [5, 7, 8, 47] from by decide)) ((hAZ1.s0 1 (by decide)).trans (hFZ1.1 0 1 (show (1 : Nat) ∉ [5, 7, 8, 47] from by decide))) ?_
      refine ok2.ite (fun c2 => ?_) (fun c2 => ?_)
      · skip
        unfold f_name_96
        refine ok2.letE (v1 := (Z1.1 0 8)) rfl hZ1_d8 ?_
        refine ok2.ite (fun c3 => ?_) (fun c3 => ?_)
        · skip
          refine ok2.anyE hZ1_dT (fun y5 => ?_)
          refine ok2.bd (t_f_wordOf _ _ _) ?_
          rintro x6 X_5 X_5t ⟨eX_5, eX_5t, hh4⟩
          subst eX_5
          subst eX_5t
          have hh4 : (-1 ≤ x6.toInt ∧ x6.toInt ≤ 14) := hh4
          unfold f_name_115
          refine ok2.ite (fun c6 => ?_) (fun c6 => ?_)
          · skip
            refine ok2.letE (v1 := (Z1.1 0 8)) rfl hZ1_d8 ?_
            refine ok2.ite (fun c7 => ?_) (fun c7 => ?_)
            · skip
              unfold f_name_139
              refine ok2.letV ?_
              refine ok2.ite (fun c8 => ?_) (fun c8 => ?_)
              · skip
                refine ok2.anyE hZ1_dT (fun y10 => ?_)
                unfold f_name_156
                refine ok2.letV ?_
                exact ok2.ret ⟨(((Fr.rf.tr hFZ1 (by decide)).wI 0 7 _ (show (7 : Nat) ∈ [5, 7, 8, 47] from by decide)).wL 0 47 _ (show (47 : Nat) ∈ [5, 7, 8, 47] from by decide)), (((Fr.rf.tr hGZ1 (by decide)).wI 0 7 _ (show (7 : Nat) ∈ [5, 7, 8, 47] from by decide)).wL 0 47 _ (show (47 : Nat) ∈ [5, 7, 8, 47] from by decide)), ((hAZ1.wI 0 7 _ (by decide)).wL 0 47 _), (show (X.1 0 5).toInt < (Z1.1 0 5).toInt ∧ (Z1.1 0 5).toInt ≤ (Z1.1 0 1).toInt ∧ 1 ≤ (1 : Int) ∧ (1 : Int) ≤ 5 ∧ 0 ≤ (Z1.1 0 8).toInt ∧ (Z1.1 0 8).toInt ≤ (Z1.1 0 5).toInt - (X.1 0 5).toInt from by have e0_ : (Z1.1 0 1).toInt = (X.1 0 1).toInt := congrArg Int32.toInt (hFZ1.1 0 1 (show (1 : Nat) ∉ [5, 7, 8, 47] from by decide)); exact ⟨(by omega), (by omega), (by omega), (by omega), (by omega), (by omega)⟩), ((hZ1_d6.trans (hFZ1.1 0 6 (show (6 : Nat) ∉ [5, 7, 8, 47] from by decide))).trans (hFZ1.1 0 6 (show (6 : Nat) ∉ [5, 7, 8, 47] from by decide)).symm), rfl, rfl⟩
              · skip
                refine ok2.any (fun y12 => ?_)
                unfold f_name_156
                refine ok2.letV ?_
                exact ok2.ret ⟨(((Fr.rf.tr hFZ1 (by decide)).wI 0 7 _ (show (7 : Nat) ∈ [5, 7, 8, 47] from by decide)).wL 0 47 _ (show (47 : Nat) ∈ [5, 7, 8, 47] from by decide)), (((Fr.rf.tr hGZ1 (by decide)).wI 0 7 _ (show (7 : Nat) ∈ [5, 7, 8, 47] from by decide)).wL 0 47 _ (show (47 : Nat) ∈ [5, 7, 8, 47] from by decide)), ((hAZ1.wI 0 7 _ (by decide)).wL 0 47 _), (show (X.1 0 5).toInt < (Z1.1 0 5).toInt ∧ (Z1.1 0 5).toInt ≤ (Z1.1 0 1).toInt ∧ 1 ≤ (1 : Int) ∧ (1 : Int) ≤ 5 ∧ 0 ≤ (Z1.1 0 8).toInt ∧ (Z1.1 0 8).toInt ≤ (Z1.1 0 5).toInt - (X.1 0 5).toInt from by have e0_ : (Z1.1 0 1).toInt = (X.1 0 1).toInt := congrArg Int32.toInt (hFZ1.1 0 1 (show (1 : Nat) ∉ [5, 7, 8, 47] from by decide)); exact ⟨(by omega), (by omega), (by omega), (by omega), (by omega), (by omega)⟩), ((hZ1_d6.trans (hFZ1.1 0 6 (show (6 : Nat) ∉ [5, 7, 8, 47] from by decide))).trans (hFZ1.1 0 6 (show (6 : Nat) ∉ [5, 7, 8, 47] from by decide)).symm), rfl, rfl⟩
            · skip
              unfold f_name_139
              refine ok2.letV ?_
              refine ok2.ite (fun c9 => ?_) (fun c9 => ?_)
              · skip
                refine ok2.anyE hZ1_dT (fun y10 => ?_)
                unfold f_name_156
                refine ok2.letV ?_
                exact ok2.ret ⟨(((Fr.rf.tr hFZ1 (by decide)).wI 0 7 _ (show (7 : Nat) ∈ [5, 7, 8, 47] from by decide)).wL 0 47 _ (show (47 : Nat) ∈ [5, 7, 8, 47] from by decide)), (((Fr.rf.tr hGZ1 (by decide)).wI 0 7 _ (show (7 : Nat) ∈ [5, 7, 8, 47] from by decide)).wL 0 47 _ (show (47 : Nat) ∈ [5, 7, 8, 47] from by decide)), ((hAZ1.wI 0 7 _ (by decide)).wL 0 47 _), (show (X.1 0 5).toInt < (Z1.1 0 5).toInt ∧ (Z1.1 0 5).toInt ≤ (Z1.1 0 1).toInt ∧ 1 ≤ (5 : Int) ∧ (5 : Int) ≤ 5 ∧ 0 ≤ (Z1.1 0 8).toInt ∧ (Z1.1 0 8).toInt ≤ (Z1.1 0 5).toInt - (X.1 0 5).toInt from by have e0_ : (Z1.1 0 1).toInt = (X.1 0 1).toInt := congrArg Int32.toInt (hFZ1.1 0 1 (show (1 : Nat) ∉ [5, 7, 8, 47] from by decide)); exact ⟨(by omega), (by omega), (by omega), (by omega), (by omega), (by omega)⟩), ((hZ1_d6.trans (hFZ1.1 0 6 (show (6 : Nat) ∉ [5, 7, 8, 47] from by decide))).trans (hFZ1.1 0 6 (show (6 : Nat) ∉ [5, 7, 8, 47] from by decide)).symm), rfl, rfl⟩
              · skip
                refine ok2.any (fun y12 => ?_)
                unfold f_name_156
                refine ok2.letV ?_
                exact ok2.ret ⟨(((Fr.rf.tr hFZ1 (by decide)).wI 0 7 _ (show (7 : Nat) ∈ [5, 7, 8, 47] from by decide)).wL 0 47 _ (show (47 : Nat) ∈ [5, 7, 8, 47] from by decide)), (((Fr.rf.tr hGZ1 (by decide)).wI 0 7 _ (show (7 : Nat) ∈ [5, 7, 8, 47] from by decide)).wL 0 47 _ (show (47 : Nat) ∈ [5, 7, 8, 47] from by decide)), ((hAZ1.wI 0 7 _ (by decide)).wL 0 47 _), (show (X.1 0 5).toInt < (Z1.1 0 5).toInt ∧ (Z1.1 0 5).toInt ≤ (Z1.1 0 1).toInt ∧ 1 ≤ (5 : Int) ∧ (5 : Int) ≤ 5 ∧ 0 ≤ (Z1.1 0 8).toInt ∧ (Z1.1 0 8).toInt ≤ (Z1.1 0 5).toInt - (X.1 0 5).toInt from by have e0_ : (Z1.1 0 1).toInt = (X.1 0 1).toInt := congrArg Int32.toInt (hFZ1.1 0 1 (show (1 : Nat) ∉ [5, 7, 8, 47] from by decide)); exact ⟨(by omega), (by omega), (by omega), (by omega), (by omega), (by omega)⟩), ((hZ1_d6.trans (hFZ1.1 0 6 (show (6 : Nat) ∉ [5, 7, 8, 47] from by decide))).trans (hFZ1.1 0 6 (show (6 : Nat) ∉ [5, 7, 8, 47] from by decide)).symm), rfl, rfl⟩
          · skip
            unfold f_name_139
            refine ok2.letV ?_
            refine ok2.ite (fun c10 => ?_) (fun c10 => ?_)
            · skip
              refine ok2.anyE hZ1_dT (fun y10 => ?_)
              unfold f_name_156
              refine ok2.letV ?_
              exact ok2.ret ⟨(((Fr.rf.tr hFZ1 (by decide)).wI 0 7 _ (show (7 : Nat) ∈ [5, 7, 8, 47] from by decide)).wL 0 47 _ (show (47 : Nat) ∈ [5, 7, 8, 47] from by decide)), (((Fr.rf.tr hGZ1 (by decide)).wI 0 7 _ (show (7 : Nat) ∈ [5, 7, 8, 47] from by decide)).wL 0 47 _ (show (47 : Nat) ∈ [5, 7, 8, 47] from by decide)), ((hAZ1.wI 0 7 _ (by decide)).wL 0 47 _), (show (X.1 0 5).toInt < (Z1.1 0 5).toInt ∧ (Z1.1 0 5).toInt ≤ (Z1.1 0 1).toInt ∧ 1 ≤ (2 : Int) ∧ (2 : Int) ≤ 5 ∧ 0 ≤ (Z1.1 0 8).toInt ∧ (Z1.1 0 8).toInt ≤ (Z1.1 0 5).toInt - (X.1 0 5).toInt from by have e0_ : (Z1.1 0 1).toInt = (X.1 0 1).toInt := congrArg Int32.toInt (hFZ1.1 0 1 (show (1 : Nat) ∉ [5, 7, 8, 47] from by decide)); exact ⟨(by omega), (by omega), (by omega), (by omega), (by omega), (by omega)⟩), ((hZ1_d6.trans (hFZ1.1 0 6 (show (6 : Nat) ∉ [5, 7, 8, 47] from by decide))).trans (hFZ1.1 0 6 (show (6 : Nat) ∉ [5, 7, 8, 47] from by decide)).symm), rfl, rfl⟩
            · skip
              refine ok2.any (fun y12 => ?_)
              unfold f_name_156
              refine ok2.letV ?_
              exact ok2.ret ⟨(((Fr.rf.tr hFZ1 (by decide)).wI 0 7 _ (show (7 : Nat) ∈ [5, 7, 8, 47] from by decide)).wL 0 47 _ (show (47 : Nat) ∈ [5, 7, 8, 47] from by decide)), (((Fr.rf.tr hGZ1 (by decide)).wI 0 7 _ (show (7 : Nat) ∈ [5, 7, 8, 47] from by decide)).wL 0 47 _ (show (47 : Nat) ∈ [5, 7, 8, 47] from by decide)), ((hAZ1.wI 0 7 _ (by decide)).wL 0 47 _), (show (X.1 0 5).toInt < (Z1.1 0 5).toInt ∧ (Z1.1 0 5).toInt ≤ (Z1.1 0 1).toInt ∧ 1 ≤ (2 : Int) ∧ (2 : Int) ≤ 5 ∧ 0 ≤ (Z1.1 0 8).toInt ∧ (Z1.1 0 8).toInt ≤ (Z1.1 0 5).toInt - (X.1 0 5).toInt from by have e0_ : (Z1.1 0 1).toInt = (X.1 0 1).toInt := congrArg Int32.toInt (hFZ1.1 0 1 (show (1 : Nat) ∉ [5, 7, 8, 47] from by decide)); exact ⟨(by omega), (by omega), (by omega), (by omega), (by omega), (by omega)⟩), ((hZ1_d6.trans (hFZ1.1 0 6 (show (6 : Nat) ∉ [5, 7, 8, 47] from by decide))).trans (hFZ1.1 0 6 (show (6 : Nat) ∉ [5, 7, 8, 47] from by decide)).symm), rfl, rfl⟩
        · skip
          unfold f_name_115
          refine ok2.ite (fun c11 => ?_) (fun c11 => ?_)
          · skip
            have l12 : ((-1) : Int32).toInt = (-1) := by decide
            refine ok2.letE (v1 := (Z1.1 0 8)) rfl hZ1_d8 ?_
            refine ok2.ite (fun c13 => ?_) (fun c13 => ?_)
            · skip
              unfold f_name_139
              refine ok2.letV ?_
              refine ok2.ite (fun c14 => ?_) (fun c14 => ?_)
              · skip
                have l15 : ((-1) : Int32).toInt = (-1) := by decide
                refine ok2.anyE hZ1_dT (fun y10 => ?_)
                unfold f_name_156
                refine ok2.letV ?_
                exact ok2.ret ⟨(((Fr.rf.tr hFZ1 (by decide)).wI 0 7 _ (show (7 : Nat) ∈ [5, 7, 8, 47] from by decide)).wL 0 47 _ (show (47 : Nat) ∈ [5, 7, 8, 47] from by decide)), (((Fr.rf.tr hGZ1 (by decide)).wI 0 7 _ (show (7 : Nat) ∈ [5, 7, 8, 47] from by decide)).wL 0 47 _ (show (47 : Nat) ∈ [5, 7, 8, 47] from by decide)), ((hAZ1.wI 0 7 _ (by decide)).wL 0 47 _), (show (X.1 0 5).toInt < (Z1.1 0 5).toInt ∧ (Z1.1 0 5).toInt ≤ (Z1.1 0 1).toInt ∧ 1 ≤ (1 : Int) ∧ (1 : Int) ≤ 5 ∧ 0 ≤ (Z1.1 0 8).toInt ∧ (Z1.1 0 8).toInt ≤ (Z1.1 0 5).toInt - (X.1 0 5).toInt from by have e0_ : (Z1.1 0 1).toInt = (X.1 0 1).toInt := congrArg Int32.toInt (hFZ1.1 0 1 (show (1 : Nat) ∉ [5, 7, 8, 47] from by decide)); exact ⟨(by omega), (by omega), (by omega), (by omega), (by omega), (by omega)⟩), ((hZ1_d6.trans (hFZ1.1 0 6 (show (6 : Nat) ∉ [5, 7, 8, 47] from by decide))).trans (hFZ1.1 0 6 (show (6 : Nat) ∉ [5, 7, 8, 47] from by decide)).symm), rfl, rfl⟩
              · skip
                have l16 : ((-1) : Int32).toInt = (-1) := by decide
                refine ok2.any (fun y12 => ?_)
                unfold f_name_156
                refine ok2.letV ?_
                exact ok2.ret ⟨(((Fr.rf.tr hFZ1 (by decide)).wI 0 7 _ (show (7 : Nat) ∈ [5, 7, 8, 47] from by decide)).wL 0 47 _ (show (47 : Nat) ∈ [5, 7, 8, 47] from by decide)), (((Fr.rf.tr hGZ1 (by decide)).wI 0 7 _ (show (7 : Nat) ∈ [5, 7, 8, 47] from by decide)).wL 0 47 _ (show (47 : Nat) ∈ [5, 7, 8, 47] from by decide)), ((hAZ1.wI 0 7 _ (by decide)).wL 0 47 _), (show (X.1 0 5).toInt < (Z1.1 0 5).toInt ∧ (Z1.1 0 5).toInt ≤ (Z1.1 0 1).toInt ∧ 1 ≤ (1 : Int) ∧ (1 : Int) ≤ 5 ∧ 0 ≤ (Z1.1 0 8).toInt ∧ (Z1.1 0 8).toInt ≤ (Z1.1 0 5).toInt - (X.1 0 5).toInt from by have e0_ : (Z1.1 0 1).toInt = (X.1 0 1).toInt := congrArg Int32.toInt (hFZ1.1 0 1 (show (1 : Nat) ∉ [5, 7, 8, 47] from by decide)); exact ⟨(by omega), (by omega), (by omega), (by omega), (by omega), (by omega)⟩), ((hZ1_d6.trans (hFZ1.1 0 6 (show (6 : Nat) ∉ [5, 7, 8, 47] from by decide))).trans (hFZ1.1 0 6 (show (6 : Nat) ∉ [5, 7, 8, 47] from by decide)).symm), rfl, rfl⟩
            · skip
              unfold f_name_139
              refine ok2.letV ?_
              refine ok2.ite (fun c17 => ?_) (fun c17 => ?_)
              · skip
                have l18 : ((-1) : Int32).toInt = (-1) := by decide
                refine ok2.anyE hZ1_dT (fun y10 => ?_)
                unfold f_name_156
                refine ok2.letV ?_
                exact ok2.ret ⟨(((Fr.rf.tr hFZ1 (by decide)).wI 0 7 _ (show (7 : Nat) ∈ [5, 7, 8, 47] from by decide)).wL 0 47 _ (show (47 : Nat) ∈ [5, 7, 8, 47] from by decide)), (((Fr.rf.tr hGZ1 (by decide)).wI 0 7 _ (show (7 : Nat) ∈ [5, 7, 8, 47] from by decide)).wL 0 47 _ (show (47 : Nat) ∈ [5, 7, 8, 47] from by decide)), ((hAZ1.wI 0 7 _ (by decide)).wL 0 47 _), (show (X.1 0 5).toInt < (Z1.1 0 5).toInt ∧ (Z1.1 0 5).toInt ≤ (Z1.1 0 1).toInt ∧ 1 ≤ (5 : Int) ∧ (5 : Int) ≤ 5 ∧ 0 ≤ (Z1.1 0 8).toInt ∧ (Z1.1 0 8).toInt ≤ (Z1.1 0 5).toInt - (X.1 0 5).toInt from by have e0_ : (Z1.1 0 1).toInt = (X.1 0 1).toInt := congrArg Int32.toInt (hFZ1.1 0 1 (show (1 : Nat) ∉ [5, 7, 8, 47] from by decide)); exact ⟨(by omega), (by omega), (by omega), (by omega), (by omega), (by omega)⟩), ((hZ1_d6.trans (hFZ1.1 0 6 (show (6 : Nat) ∉ [5, 7, 8, 47] from by decide))).trans (hFZ1.1 0 6 (show (6 : Nat) ∉ [5, 7, 8, 47] from by decide)).symm), rfl, rfl⟩
              · skip
                have l19 : ((-1) : Int32).toInt = (-1) := by decide
                refine ok2.any (fun y12 => ?_)
                unfold f_name_156
                refine ok2.letV ?_
                exact ok2.ret ⟨(((Fr.rf.tr hFZ1 (by decide)).wI 0 7 _ (show (7 : Nat) ∈ [5, 7, 8, 47] from by decide)).wL 0 47 _ (show (47 : Nat) ∈ [5, 7, 8, 47] from by decide)), (((Fr.rf.tr hGZ1 (by decide)).wI 0 7 _ (show (7 : Nat) ∈ [5, 7, 8, 47] from by decide)).wL 0 47 _ (show (47 : Nat) ∈ [5, 7, 8, 47] from by decide)), ((hAZ1.wI 0 7 _ (by decide)).wL 0 47 _), (show (X.1 0 5).toInt < (Z1.1 0 5).toInt ∧ (Z1.1 0 5).toInt ≤ (Z1.1 0 1).toInt ∧ 1 ≤ (5 : Int) ∧ (5 : Int) ≤ 5 ∧ 0 ≤ (Z1.1 0 8).toInt ∧ (Z1.1 0 8).toInt ≤ (Z1.1 0 5).toInt - (X.1 0 5).toInt from by have e0_ : (Z1.1 0 1).toInt = (X.1 0 1).toInt := congrArg Int32.toInt (hFZ1.1 0 1 (show (1 : Nat) ∉ [5, 7, 8, 47] from by decide)); exact ⟨(by omega), (by omega), (by omega), (by omega), (by omega), (by omega)⟩), ((hZ1_d6.trans (hFZ1.1 0 6 (show (6 : Nat) ∉ [5, 7, 8, 47] from by decide))).trans (hFZ1.1 0 6 (show (6 : Nat) ∉ [5, 7, 8, 47] from by decide)).symm), rfl, rfl⟩
          · skip
            have l20 : ((-1) : Int32).toInt = (-1) := by decide
            unfold f_name_139
            refine ok2.letV ?_
            refine ok2.ite (fun c21 => ?_) (fun c21 => ?_)
            · skip
              have l22 : ((-1) : Int32).toInt = (-1) := by decide
              refine ok2.anyE hZ1_dT (fun y10 => ?_)
              unfold f_name_156
              refine ok2.letV ?_
              exact ok2.ret ⟨(((Fr.rf.tr hFZ1 (by decide)).wI 0 7 _ (show (7 : Nat) ∈ [5, 7, 8, 47] from by decide)).wL 0 47 _ (show (47 : Nat) ∈ [5, 7, 8, 47] from by decide)), (((Fr.rf.tr hGZ1 (by decide)).wI 0 7 _ (show (7 : Nat) ∈ [5, 7, 8, 47] from by decide)).wL 0 47 _ (show (47 : Nat) ∈ [5, 7, 8, 47] from by decide)), ((hAZ1.wI 0 7 _ (by decide)).wL 0 47 _), (show (X.1 0 5).toInt < (Z1.1 0 5).toInt ∧ (Z1.1 0 5).toInt ≤ (Z1.1 0 1).toInt ∧ 1 ≤ (2 : Int) ∧ (2 : Int) ≤ 5 ∧ 0 ≤ (Z1.1 0 8).toInt ∧ (Z1.1 0 8).toInt ≤ (Z1.1 0 5).toInt - (X.1 0 5).toInt from by have e0_ : (Z1.1 0 1).toInt = (X.1 0 1).toInt := congrArg Int32.toInt (hFZ1.1 0 1 (show (1 : Nat) ∉ [5, 7, 8, 47] from by decide)); exact ⟨(by omega), (by omega), (by omega), (by omega), (by omega), (by omega)⟩), ((hZ1_d6.trans (hFZ1.1 0 6 (show (6 : Nat) ∉ [5, 7, 8, 47] from by decide))).trans (hFZ1.1 0 6 (show (6 : Nat) ∉ [5, 7, 8, 47] from by decide)).symm), rfl, rfl⟩
            · skip
              have l23 : ((-1) : Int32).toInt = (-1) := by decide
              refine ok2.any (fun y12 => ?_)
              unfold f_name_156
              refine ok2.letV ?_
              exact ok2.ret ⟨(((Fr.rf.tr hFZ1 (by decide)).wI 0 7 _ (show (7 : Nat) ∈ [5, 7, 8, 47] from by decide)).wL 0 47 _ (show (47 : Nat) ∈ [5, 7, 8, 47] from by decide)), (((Fr.rf.tr hGZ1 (by decide)).wI 0 7 _ (show (7 : Nat) ∈ [5, 7, 8, 47] from by decide)).wL 0 47 _ (show (47 : Nat) ∈ [5, 7, 8, 47] from by decide)), ((hAZ1.wI 0 7 _ (by decide)).wL 0 47 _), (show (X.1 0 5).toInt < (Z1.1 0 5).toInt ∧ (Z1.1 0 5).toInt ≤ (Z1.1 0 1).toInt ∧ 1 ≤ (2 : Int) ∧ (2 : Int) ≤ 5 ∧ 0 ≤ (Z1.1 0 8).toInt ∧ (Z1.1 0 8).toInt ≤ (Z1.1 0 5).toInt - (X.1 0 5).toInt from by have e0_ : (Z1.1 0 1).toInt = (X.1 0 1).toInt := congrArg Int32.toInt (hFZ1.1 0 1 (show (1 : Nat) ∉ [5, 7, 8, 47] from by decide)); exact ⟨(by omega), (by omega), (by omega), (by omega), (by omega), (by omega)⟩), ((hZ1_d6.trans (hFZ1.1 0 6 (show (6 : Nat) ∉ [5, 7, 8, 47] from by decide))).trans (hFZ1.1 0 6 (show (6 : Nat) ∉ [5, 7, 8, 47] from by decide)).symm), rfl, rfl⟩
      · skip
        refine ok2.letE (v1 := (Z1.1 0 5)) rfl (hAZ1.s0 5 (by decide)) ?_
        refine ok2.ck (show 0 ≤ (Z1.1 0 5).toInt ∧ (Z1.1 0 5).toInt < ((3000 : Nat) : Int) from by omega) ?_
        refine ok2.letE (v1 := (X.1 2 (ix (Z1.1 0 5)))) (hFZ1.1 2 (ix (Z1.1 0 5)) (show (400 : Nat) ∉ [5, 7, 8, 47] from by decide)) ((hAZ1.ri 2 1 (by decide) (Nat.zero_le _) (Z1.1 0 5) (show 0 ≤ (Z1.1 0 5).toInt ∧ (Z1.1 0 5).toInt < (Z1.1 0 1).toInt from by have ec_ : (Z1.1 0 1).toInt = (X.1 0 1).toInt := congrArg Int32.toInt (hFZ1.1 0 1 (show (1 : Nat) ∉ [5, 7, 8, 47] from by decide)); omega)).trans (hFZ1.1 2 (ix (Z1.1 0 5)) (show (400 : Nat) ∉ [5, 7, 8, 47] from by decide))) ?_
        refine ok2.bd (t_f_letterOf _ _ _) ?_
        rintro x15 X_25 X_25t ⟨eX_25, eX_25t, hh24⟩
        subst eX_25
        subst eX_25t
        have hh24 : (x15.toInt = (letF (X.1 2 (ix (Z1.1 0 5)))).toInt ∧ 0 ≤ x15.toInt ∧ x15.toInt ≤ 52 ∧ (x15.toInt = 0 ∨ 65 ≤ (X.1 2 (ix (Z1.1 0 5))).toInt)) := hh24
        refine ok2.ite (fun c26 => ?_) (fun c26 => ?_)
        · skip
          unfold f_name_96
          refine ok2.letE (v1 := (Z1.1 0 8)) rfl hZ1_d8 ?_
          refine ok2.ite (fun c27 => ?_) (fun c27 => ?_)
          · skip
            refine ok2.anyE hZ1_dT (fun y5 => ?_)
            refine ok2.bd (t_f_wordOf _ _ _) ?_
            rintro x6 X_29 X_29t ⟨eX_29, eX_29t, hh28⟩
            subst eX_29
            subst eX_29t
            have hh28 : (-1 ≤ x6.toInt ∧ x6.toInt ≤ 14) := hh28
            unfold f_name_115
            refine ok2.ite (fun c30 => ?_) (fun c30 => ?_)
            · skip
              refine ok2.letE (v1 := (Z1.1 0 8)) rfl hZ1_d8 ?_
              refine ok2.ite (fun c31 => ?_) (fun c31 => ?_)
              · skip
                unfold f_name_139
                refine ok2.letV ?_
                refine ok2.ite (fun c32 => ?_) (fun c32 => ?_)
                · skip
                  refine ok2.anyE hZ1_dT (fun y10 => ?_)
                  unfold f_name_156
                  refine ok2.letV ?_
                  exact ok2.ret ⟨(((Fr.rf.tr hFZ1 (by decide)).wI 0 7 _ (show (7 : Nat) ∈ [5, 7, 8, 47] from by decide)).wL 0 47 _ (show (47 : Nat) ∈ [5, 7, 8, 47] from by decide)), (((Fr.rf.tr hGZ1 (by decide)).wI 0 7 _ (show (7 : Nat) ∈ [5, 7, 8, 47] from by decide)).wL 0 47 _ (show (47 : Nat) ∈ [5, 7, 8, 47] from by decide)), ((hAZ1.wI 0 7 _ (by decide)).wL 0 47 _), (show (X.1 0 5).toInt < (Z1.1 0 5).toInt ∧ (Z1.1 0 5).toInt ≤ (Z1.1 0 1).toInt ∧ 1 ≤ (1 : Int) ∧ (1 : Int) ≤ 5 ∧ 0 ≤ (Z1.1 0 8).toInt ∧ (Z1.1 0 8).toInt ≤ (Z1.1 0 5).toInt - (X.1 0 5).toInt from by have e0_ : (Z1.1 0 1).toInt = (X.1 0 1).toInt := congrArg Int32.toInt (hFZ1.1 0 1 (show (1 : Nat) ∉ [5, 7, 8, 47] from by decide)); exact ⟨(by omega), (by omega), (by omega), (by omega), (by omega), (by omega)⟩), ((hZ1_d6.trans (hFZ1.1 0 6 (show (6 : Nat) ∉ [5, 7, 8, 47] from by decide))).trans (hFZ1.1 0 6 (show (6 : Nat) ∉ [5, 7, 8, 47] from by decide)).symm), rfl, rfl⟩
                · skip
                  refine ok2.any (fun y12 => ?_)
                  unfold f_name_156
                  refine ok2.letV ?_
                  exact ok2.ret ⟨(((Fr.rf.tr hFZ1 (by decide)).wI 0 7 _ (show (7 : Nat) ∈ [5, 7, 8, 47] from by decide)).wL 0 47 _ (show (47 : Nat) ∈ [5, 7, 8, 47] from by decide)), (((Fr.rf.tr hGZ1 (by decide)).wI 0 7 _ (show (7 : Nat) ∈ [5, 7, 8, 47] from by decide)).wL 0 47 _ (show (47 : Nat) ∈ [5, 7, 8, 47] from by decide)), ((hAZ1.wI 0 7 _ (by decide)).wL 0 47 _), (show (X.1 0 5).toInt < (Z1.1 0 5).toInt ∧ (Z1.1 0 5).toInt ≤ (Z1.1 0 1).toInt ∧ 1 ≤ (1 : Int) ∧ (1 : Int) ≤ 5 ∧ 0 ≤ (Z1.1 0 8).toInt ∧ (Z1.1 0 8).toInt ≤ (Z1.1 0 5).toInt - (X.1 0 5).toInt from by have e0_ : (Z1.1 0 1).toInt = (X.1 0 1).toInt := congrArg Int32.toInt (hFZ1.1 0 1 (show (1 : Nat) ∉ [5, 7, 8, 47] from by decide)); exact ⟨(by omega), (by omega), (by omega), (by omega), (by omega), (by omega)⟩), ((hZ1_d6.trans (hFZ1.1 0 6 (show (6 : Nat) ∉ [5, 7, 8, 47] from by decide))).trans (hFZ1.1 0 6 (show (6 : Nat) ∉ [5, 7, 8, 47] from by decide)).symm), rfl, rfl⟩
              · skip
                unfold f_name_139
                refine ok2.letV ?_
                refine ok2.ite (fun c33 => ?_) (fun c33 => ?_)
                · skip
                  refine ok2.anyE hZ1_dT (fun y10 => ?_)
                  unfold f_name_156
                  refine ok2.letV ?_
                  exact ok2.ret ⟨(((Fr.rf.tr hFZ1 (by decide)).wI 0 7 _ (show (7 : Nat) ∈ [5, 7, 8, 47] from by decide)).wL 0 47 _ (show (47 : Nat) ∈ [5, 7, 8, 47] from by decide)), (((Fr.rf.tr hGZ1 (by decide)).wI 0 7 _ (show (7 : Nat) ∈ [5, 7, 8, 47] from by decide)).wL 0 47 _ (show (47 : Nat) ∈ [5, 7, 8, 47] from by decide)), ((hAZ1.wI 0 7 _ (by decide)).wL 0 47 _), (show (X.1 0 5).toInt < (Z1.1 0 5).toInt ∧ (Z1.1 0 5).toInt ≤ (Z1.1 0 1).toInt ∧ 1 ≤ (5 : Int) ∧ (5 : Int) ≤ 5 ∧ 0 ≤ (Z1.1 0 8).toInt ∧ (Z1.1 0 8).toInt ≤ (Z1.1 0 5).toInt - (X.1 0 5).toInt from by have e0_ : (Z1.1 0 1).toInt = (X.1 0 1).toInt := congrArg Int32.toInt (hFZ1.1 0 1 (show (1 : Nat) ∉ [5, 7, 8, 47] from by decide)); exact ⟨(by omega), (by omega), (by omega), (by omega), (by omega), (by omega)⟩), ((hZ1_d6.trans (hFZ1.1 0 6 (show (6 : Nat) ∉ [5, 7, 8, 47] from by decide))).trans (hFZ1.1 0 6 (show (6 : Nat) ∉ [5, 7, 8, 47] from by decide)).symm), rfl, rfl⟩
                · skip
                  refine ok2.any (fun y12 => ?_)
                  unfold f_name_156
                  refine ok2.letV ?_
                  exact ok2.ret ⟨(((Fr.rf.tr hFZ1 (by decide)).wI 0 7 _ (show (7 : Nat) ∈ [5, 7, 8, 47] from by decide)).wL 0 47 _ (show (47 : Nat) ∈ [5, 7, 8, 47] from by decide)), (((Fr.rf.tr hGZ1 (by decide)).wI 0 7 _ (show (7 : Nat) ∈ [5, 7, 8, 47] from by decide)).wL 0 47 _ (show (47 : Nat) ∈ [5, 7, 8, 47] from by decide)), ((hAZ1.wI 0 7 _ (by decide)).wL 0 47 _), (show (X.1 0 5).toInt < (Z1.1 0 5).toInt ∧ (Z1.1 0 5).toInt ≤ (Z1.1 0 1).toInt ∧ 1 ≤ (5 : Int) ∧ (5 : Int) ≤ 5 ∧ 0 ≤ (Z1.1 0 8).toInt ∧ (Z1.1 0 8).toInt ≤ (Z1.1 0 5).toInt - (X.1 0 5).toInt from by have e0_ : (Z1.1 0 1).toInt = (X.1 0 1).toInt := congrArg Int32.toInt (hFZ1.1 0 1 (show (1 : Nat) ∉ [5, 7, 8, 47] from by decide)); exact ⟨(by omega), (by omega), (by omega), (by omega), (by omega), (by omega)⟩), ((hZ1_d6.trans (hFZ1.1 0 6 (show (6 : Nat) ∉ [5, 7, 8, 47] from by decide))).trans (hFZ1.1 0 6 (show (6 : Nat) ∉ [5, 7, 8, 47] from by decide)).symm), rfl, rfl⟩
            · skip
              unfold f_name_139
              refine ok2.letV ?_
              refine ok2.ite (fun c34 => ?_) (fun c34 => ?_)
              · skip
                refine ok2.anyE hZ1_dT (fun y10 => ?_)
                unfold f_name_156
                refine ok2.letV ?_
                exact ok2.ret ⟨(((Fr.rf.tr hFZ1 (by decide)).wI 0 7 _ (show (7 : Nat) ∈ [5, 7, 8, 47] from by decide)).wL 0 47 _ (show (47 : Nat) ∈ [5, 7, 8, 47] from by decide)), (((Fr.rf.tr hGZ1 (by decide)).wI 0 7 _ (show (7 : Nat) ∈ [5, 7, 8, 47] from by decide)).wL 0 47 _ (show (47 : Nat) ∈ [5, 7, 8, 47] from by decide)), ((hAZ1.wI 0 7 _ (by decide)).wL 0 47 _), (show (X.1 0 5).toInt < (Z1.1 0 5).toInt ∧ (Z1.1 0 5).toInt ≤ (Z1.1 0 1).toInt ∧ 1 ≤ (2 : Int) ∧ (2 : Int) ≤ 5 ∧ 0 ≤ (Z1.1 0 8).toInt ∧ (Z1.1 0 8).toInt ≤ (Z1.1 0 5).toInt - (X.1 0 5).toInt from by have e0_ : (Z1.1 0 1).toInt = (X.1 0 1).toInt := congrArg Int32.toInt (hFZ1.1 0 1 (show (1 : Nat) ∉ [5, 7, 8, 47] from by decide)); exact ⟨(by omega), (by omega), (by omega), (by omega), (by omega), (by omega)⟩), ((hZ1_d6.trans (hFZ1.1 0 6 (show (6 : Nat) ∉ [5, 7, 8, 47] from by decide))).trans (hFZ1.1 0 6 (show (6 : Nat) ∉ [5, 7, 8, 47] from by decide)).symm), rfl, rfl⟩
              · skip
                refine ok2.any (fun y12 => ?_)
                unfold f_name_156
                refine ok2.letV ?_
                exact ok2.ret ⟨(((Fr.rf.tr hFZ1 (by decide)).wI 0 7 _ (show (7 : Nat) ∈ [5, 7, 8, 47] from by decide)).wL 0 47 _ (show (47 : Nat) ∈ [5, 7, 8, 47] from by decide)), (((Fr.rf.tr hGZ1 (by decide)).wI 0 7 _ (show (7 : Nat) ∈ [5, 7, 8, 47] from by decide)).wL 0 47 _ (show (47 : Nat) ∈ [5, 7, 8, 47] from by decide)), ((hAZ1.wI 0 7 _ (by decide)).wL 0 47 _), (show (X.1 0 5).toInt < (Z1.1 0 5).toInt ∧ (Z1.1 0 5).toInt ≤ (Z1.1 0 1).toInt ∧ 1 ≤ (2 : Int) ∧ (2 : Int) ≤ 5 ∧ 0 ≤ (Z1.1 0 8).toInt ∧ (Z1.1 0 8).toInt ≤ (Z1.1 0 5).toInt - (X.1 0 5).toInt from by have e0_ : (Z1.1 0 1).toInt = (X.1 0 1).toInt := congrArg Int32.toInt (hFZ1.1 0 1 (show (1 : Nat) ∉ [5, 7, 8, 47] from by decide)); exact ⟨(by omega), (by omega), (by omega), (by omega), (by omega), (by omega)⟩), ((hZ1_d6.trans (hFZ1.1 0 6 (show (6 : Nat) ∉ [5, 7, 8, 47] from by decide))).trans (hFZ1.1 0 6 (show (6 : Nat) ∉ [5, 7, 8, 47] from by decide)).symm), rfl, rfl⟩
          · skip
            unfold f_name_115
            refine ok2.ite (fun c35 => ?_) (fun c35 => ?_)
            · skip
              have l36 : ((-1) : Int32).toInt = (-1) := by decide
              refine ok2.letE (v1 := (Z1.1 0 8)) rfl hZ1_d8 ?_
              refine ok2.ite (fun c37 => ?_) (fun c37 => ?_)
              · skip
                unfold f_name_139
                refine ok2.letV ?_
                refine ok2.ite (fun c38 => ?_) (fun c38 => ?_)
                · skip
                  have l39 : ((-1) : Int32).toInt = (-1) := by decide
                  refine ok2.anyE hZ1_dT (fun y10 => ?_)
                  unfold f_name_156
                  refine ok2.letV ?_
                  exact ok2.ret ⟨(((Fr.rf.tr hFZ1 (by decide)).wI 0 7 _ (show (7 : Nat) ∈ [5, 7, 8, 47] from by decide)).wL 0 47 _ (show (47 : Nat) ∈ [5, 7, 8, 47] from by decide)), (((Fr.rf.tr hGZ1 (by decide)).wI 0 7 _ (show (7 : Nat) ∈ [5, 7, 8, 47] from by decide)).wL 0 47 _ (show (47 : Nat) ∈ [5, 7, 8, 47] from by decide)), ((hAZ1.wI 0 7 _ (by decide)).wL 0 47 _), (show (X.1 0 5).toInt < (Z1.1 0 5).toInt ∧ (Z1.1 0 5).toInt ≤ (Z1.1 0 1).toInt ∧ 1 ≤ (1 : Int) ∧ (1 : Int) ≤ 5 ∧ 0 ≤ (Z1.1 0 8).toInt ∧ (Z1.1 0 8).toInt ≤ (Z1.1 0 5).toInt - (X.1 0 5).toInt from by have e0_ : (Z1.1 0 1).toInt = (X.1 0 1).toInt := congrArg Int32.toInt (hFZ1.1 0 1 (show (1 : Nat) ∉ [5, 7, 8, 47] from by decide)); exact ⟨(by omega), (by omega), (by omega), (by omega), (by omega), (by omega)⟩), ((hZ1_d6.trans (hFZ1.1 0 6 (show (6 : Nat) ∉ [5, 7, 8, 47] from by decide))).trans (hFZ1.1 0 6 (show (6 : Nat) ∉ [5, 7, 8, 47] from by decide)).symm), rfl, rfl⟩
                · skip
                  have l40 : ((-1) : Int32).toInt = (-1) := by decide
                  refine ok2.any (fun y12 => ?_)
                  unfold f_name_156
                  refine ok2.letV ?_
                  exact ok2.ret ⟨(((Fr.rf.tr hFZ1 (by decide)).wI 0 7 _ (show (7 : Nat) ∈ [5, 7, 8, 47] from by decide)).wL 0 47 _ (show (47 : Nat) ∈ [5, 7, 8, 47] from by decide)), (((Fr.rf.tr hGZ1 (by decide)).wI 0 7 _ (show (7 : Nat) ∈ [5, 7, 8, 47] from by decide)).wL 0 47 _ (show (47 : Nat) ∈ [5, 7, 8, 47] from by decide)), ((hAZ1.wI 0 7 _ (by decide)).wL 0 47 _), (show (X.1 0 5).toInt < (Z1.1 0 5).toInt ∧ (Z1.1 0 5).toInt ≤ (Z1.1 0 1).toInt ∧ 1 ≤ (1 : Int) ∧ (1 : Int) ≤ 5 ∧ 0 ≤ (Z1.1 0 8).toInt ∧ (Z1.1 0 8).toInt ≤ (Z1.1 0 5).toInt - (X.1 0 5).toInt from by have e0_ : (Z1.1 0 1).toInt = (X.1 0 1).toInt := congrArg Int32.toInt (hFZ1.1 0 1 (show (1 : Nat) ∉ [5, 7, 8, 47] from by decide)); exact ⟨(by omega), (by omega), (by omega), (by omega), (by omega), (by omega)⟩), ((hZ1_d6.trans (hFZ1.1 0 6 (show (6 : Nat) ∉ [5, 7, 8, 47] from by decide))).trans (hFZ1.1 0 6 (show (6 : Nat) ∉ [5, 7, 8, 47] from by decide)).symm), rfl, rfl⟩
              · skip
                unfold f_name_139
                refine ok2.letV ?_
                refine ok2.ite (fun c41 => ?_) (fun c41 => ?_)
                · skip
                  have l42 : ((-1) : Int32).toInt = (-1) := by decide
                  refine ok2.anyE hZ1_dT (fun y10 => ?_)
                  unfold f_name_156
                  refine ok2.letV ?_
                  exact ok2.ret ⟨(((Fr.rf.tr hFZ1 (by decide)).wI 0 7 _ (show (7 : Nat) ∈ [5, 7, 8, 47] from by decide)).wL 0 47 _ (show (47 : Nat) ∈ [5, 7, 8, 47] from by decide)), (((Fr.rf.tr hGZ1 (by decide)).wI 0 7 _ (show (7 : Nat) ∈ [5, 7, 8, 47] from by decide)).wL 0 47 _ (show (47 : Nat) ∈ [5, 7, 8, 47] from by decide)), ((hAZ1.wI 0 7 _ (by decide)).wL 0 47 _), (show (X.1 0 5).toInt < (Z1.1 0 5).toInt ∧ (Z1.1 0 5).toInt ≤ (Z1.1 0 1).toInt ∧ 1 ≤ (5 : Int) ∧ (5 : Int) ≤ 5 ∧ 0 ≤ (Z1.1 0 8).toInt ∧ (Z1.1 0 8).toInt ≤ (Z1.1 0 5).toInt - (X.1 0 5).toInt from by have e0_ : (Z1.1 0 1).toInt = (X.1 0 1).toInt := congrArg Int32.toInt (hFZ1.1 0 1 (show (1 : Nat) ∉ [5, 7, 8, 47] from by decide)); exact ⟨(by omega), (by omega), (by omega), (by omega), (by omega), (by omega)⟩), ((hZ1_d6.trans (hFZ1.1 0 6 (show (6 : Nat) ∉ [5, 7, 8, 47] from by decide))).trans (hFZ1.1 0 6 (show (6 : Nat) ∉ [5, 7, 8, 47] from by decide)).symm), rfl, rfl⟩
                · skip
                  have l43 : ((-1) : Int32).toInt = (-1) := by decide
                  refine ok2.any (fun y12 => ?_)
                  unfold f_name_156
                  refine ok2.letV ?_
                  exact ok2.ret ⟨(((Fr.rf.tr hFZ1 (by decide)).wI 0 7 _ (show (7 : Nat) ∈ [5, 7, 8, 47] from by decide)).wL 0 47 _ (show (47 : Nat) ∈ [5, 7, 8, 47] from by decide)), (((Fr.rf.tr hGZ1 (by decide)).wI 0 7 _ (show (7 : Nat) ∈ [5, 7, 8, 47] from by decide)).wL 0 47 _ (show (47 : Nat) ∈ [5, 7, 8, 47] from by decide)), ((hAZ1.wI 0 7 _ (by decide)).wL 0 47 _), (show (X.1 0 5).toInt < (Z1.1 0 5).toInt ∧ (Z1.1 0 5).toInt ≤ (Z1.1 0 1).toInt ∧ 1 ≤ (5 : Int) ∧ (5 : Int) ≤ 5 ∧ 0 ≤ (Z1.1 0 8).toInt ∧ (Z1.1 0 8).toInt ≤ (Z1.1 0 5).toInt - (X.1 0 5).toInt from by have e0_ : (Z1.1 0 1).toInt = (X.1 0 1).toInt := congrArg Int32.toInt (hFZ1.1 0 1 (show (1 : Nat) ∉ [5, 7, 8, 47] from by decide)); exact ⟨(by omega), (by omega), (by omega), (by omega), (by omega), (by omega)⟩), ((hZ1_d6.trans (hFZ1.1 0 6 (show (6 : Nat) ∉ [5, 7, 8, 47] from by decide))).trans (hFZ1.1 0 6 (show (6 : Nat) ∉ [5, 7, 8, 47] from by decide)).symm), rfl, rfl⟩
            · skip
              have l44 : ((-1) : Int32).toInt = (-1) := by decide
              unfold f_name_139
              refine ok2.letV ?_
              refine ok2.ite (fun c45 => ?_) (fun c45 => ?_)
              · skip
                have l46 : ((-1) : Int32).toInt = (-1) := by decide
                refine ok2.anyE hZ1_dT (fun y10 => ?_)
                unfold f_name_156
                refine ok2.letV ?_
                exact ok2.ret ⟨(((Fr.rf.tr hFZ1 (by decide)).wI 0 7 _ (show (7 : Nat) ∈ [5, 7, 8, 47] from by decide)).wL 0 47 _ (show (47 : Nat) ∈ [5, 7, 8, 47] from by decide)), (((Fr.rf.tr hGZ1 (by decide)).wI 0 7 _ (show (7 : Nat) ∈ [5, 7, 8, 47] from by decide)).wL 0 47 _ (show (47 : Nat) ∈ [5, 7, 8, 47] from by decide)), ((hAZ1.wI 0 7 _ (by decide)).wL 0 47 _), (show (X.1 0 5).toInt < (Z1.1 0 5).toInt ∧ (Z1.1 0 5).toInt ≤ (Z1.1 0 1).toInt ∧ 1 ≤ (2 : Int) ∧ (2 : Int) ≤ 5 ∧ 0 ≤ (Z1.1 0 8).toInt ∧ (Z1.1 0 8).toInt ≤ (Z1.1 0 5).toInt - (X.1 0 5).toInt from by have e0_ : (Z1.1 0 1).toInt = (X.1 0 1).toInt := congrArg Int32.toInt (hFZ1.1 0 1 (show (1 : Nat) ∉ [5, 7, 8, 47] from by decide)); exact ⟨(by omega), (by omega), (by omega), (by omega), (by omega), (by omega)⟩), ((hZ1_d6.trans (hFZ1.1 0 6 (show (6 : Nat) ∉ [5, 7, 8, 47] from by decide))).trans (hFZ1.1 0 6 (show (6 : Nat) ∉ [5, 7, 8, 47] from by decide)).symm), rfl, rfl⟩
              · skip
                have l47 : ((-1) : Int32).toInt = (-1) := by decide
                refine ok2.any (fun y12 => ?_)
                unfold f_name_156
                refine ok2.letV ?_
                exact ok2.ret ⟨(((Fr.rf.tr hFZ1 (by decide)).wI 0 7 _ (show (7 : Nat) ∈ [5, 7, 8, 47] from by decide)).wL 0 47 _ (show (47 : Nat) ∈ [5, 7, 8, 47] from by decide)), (((Fr.rf.tr hGZ1 (by decide)).wI 0 7 _ (show (7 : Nat) ∈ [5, 7, 8, 47] from by decide)).wL 0 47 _ (show (47 : Nat) ∈ [5, 7, 8, 47] from by decide)), ((hAZ1.wI 0 7 _ (by decide)).wL 0 47 _), (show (X.1 0 5).toInt < (Z1.1 0 5).toInt ∧ (Z1.1 0 5).toInt ≤ (Z1.1 0 1).toInt ∧ 1 ≤ (2 : Int) ∧ (2 : Int) ≤ 5 ∧ 0 ≤ (Z1.1 0 8).toInt ∧ (Z1.1 0 8).toInt ≤ (Z1.1 0 5).toInt - (X.1 0 5).toInt from by have e0_ : (Z1.1 0 1).toInt = (X.1 0 1).toInt := congrArg Int32.toInt (hFZ1.1 0 1 (show (1 : Nat) ∉ [5, 7, 8, 47] from by decide)); exact ⟨(by omega), (by omega), (by omega), (by omega), (by omega), (by omega)⟩), ((hZ1_d6.trans (hFZ1.1 0 6 (show (6 : Nat) ∉ [5, 7, 8, 47] from by decide))).trans (hFZ1.1 0 6 (show (6 : Nat) ∉ [5, 7, 8, 47] from by decide)).symm), rfl, rfl⟩
        · skip
          refine ok2.letE (v1 := (Z1.1 0 8)) rfl hZ1_d8 ?_
          refine ok2.ite (fun c48 => ?_) (fun c48 => ?_)
          · skip
            refine ok2.anyE hZ1_dT (fun y18 => ?_)
            unfold f_name_70
            refine ok2.letV ?_
            refine ok2.letE (v1 := (Z1.1 0 8)) rfl hZ1_d8 ?_
            refine ok2.add (show _ ≤ (Z1.1 0 8).toInt + (1 : Int) ∧ (Z1.1 0 8).toInt + (1 : Int) ≤ _ from by omega) (fun x21 hx21 => ?_)
            have hx21 : x21.toInt = (Z1.1 0 8).toInt + (1 : Int) := hx21
            refine ok2.letV ?_
            refine ok2.letE (v1 := (Z1.1 0 5)) rfl (hAZ1.s0 5 (by decide)) ?_
            refine ok2.add (show _ ≤ (Z1.1 0 5).toInt + (1 : Int) ∧ (Z1.1 0 5).toInt + (1 : Int) ≤ _ from by omega) (fun x24 hx24 => ?_)
            have hx24 : x24.toInt = (Z1.1 0 5).toInt + (1 : Int) := hx24
            refine ok2.letV ?_
            exact ih_f_name_5 (wI (wI (wL Z1 0 47 y18) 0 8 x21) 0 5 x24) (wI (wI (wL Z1t 0 47 y18) 0 8 x21) 0 5 x24) ((((Fr.rf.tr hFZ1 (by decide)).wL 0 47 _ (show (47 : Nat) ∈ [5, 7, 8, 47] from by decide)).wI 0 8 _ (show (8 : Nat) ∈ [5, 7, 8, 47] from by decide)).wI 0 5 _ (show (5 : Nat) ∈ [5, 7, 8, 47] from by decide)) ((((Fr.rf.tr hGZ1 (by decide)).wL 0 47 _ (show (47 : Nat) ∈ [5, 7, 8, 47] from by decide)).wI 0 8 _ (show (8 : Nat) ∈ [5, 7, 8, 47] from by decide)).wI 0 5 _ (show (5 : Nat) ∈ [5, 7, 8, 47] from by decide)) (((hAZ1.wL 0 47 _).wI 0 8 _ (by decide)).wI 0 5 _ (by decide)) (show (X.1 0 5).toInt ≤ x24.toInt ∧ x24.toInt ≤ (X.1 0 1).toInt ∧ 0 ≤ x21.toInt ∧ x21.toInt ≤ x24.toInt ∧ ((X.1 0 5).toInt < x24.toInt ∨ (x24.toInt < (X.1 0 1).toInt ∧ 0 < (letF (X.1 2 (ix x24))).toInt)) ∧ x21.toInt ≤ x24.toInt - (X.1 0 5).toInt from by exact ⟨(by omega), (by omega), (by omega), (by omega), (by omega), (by omega)⟩) ((hZ1_d6.trans (hFZ1.1 0 6 (show (6 : Nat) ∉ [5, 7, 8, 47] from by decide))).trans (hFZ1.1 0 6 (show (6 : Nat) ∉ [5, 7, 8, 47] from by decide)).symm) rfl rfl (show (3001 - x24.toInt).toNat < n from by omega)
          · skip
            refine ok2.anyE hZ1_dT (fun y26 => ?_)
            refine ok2.any (fun y27 => ?_)
            refine ok2.letE (v1 := (Z1.1 0 5)) rfl (hAZ1.s0 5 (by decide)) ?_
            refine ok2.ck (show 0 ≤ (Z1.1 0 5).toInt ∧ (Z1.1 0 5).toInt < ((3000 : Nat) : Int) from by omega) ?_
            refine ok2.letE (v1 := (X.1 2 (ix (Z1.1 0 5)))) (hFZ1.1 2 (ix (Z1.1 0 5)) (show (400 : Nat) ∉ [5, 7, 8, 47] from by decide)) ((hAZ1.ri 2 1 (by decide) (Nat.zero_le _) (Z1.1 0 5) (show 0 ≤ (Z1.1 0 5).toInt ∧ (Z1.1 0 5).toInt < (Z1.1 0 1).toInt from by have ec_ : (Z1.1 0 1).toInt = (X.1 0 1).toInt := congrArg Int32.toInt (hFZ1.1 0 1 (show (1 : Nat) ∉ [5, 7, 8, 47] from by decide)); omega)).trans (hFZ1.1 2 (ix (Z1.1 0 5)) (show (400 : Nat) ∉ [5, 7, 8, 47] from by decide))) ?_
            refine ok2.bd (t_f_letterOf _ _ _) ?_
            rintro x30 X_50 X_50t ⟨eX_50, eX_50t, hh49⟩
            subst eX_50
            subst eX_50t
            have hh49 : (x30.toInt = (letF (X.1 2 (ix (Z1.1 0 5)))).toInt ∧ 0 ≤ x30.toInt ∧ x30.toInt ≤ 52 ∧ (x30.toInt = 0 ∨ 65 ≤ (X.1 2 (ix (Z1.1 0 5))).toInt)) := hh49
            refine ok2.any (fun y32 => ?_)
            refine ok2.any (fun y33 => ?_)
            unfold f_name_70
            refine ok2.letV ?_
            refine ok2.letE (v1 := (Z1.1 0 8)) rfl hZ1_d8 ?_
            refine ok2.add (show _ ≤ (Z1.1 0 8).toInt + (1 : Int) ∧ (Z1.1 0 8).toInt + (1 : Int) ≤ _ from by omega) (fun x21 hx21 => ?_)
            have hx21 : x21.toInt = (Z1.1 0 8).toInt + (1 : Int) := hx21
            refine ok2.letV ?_
            refine ok2.letE (v1 := (Z1.1 0 5)) rfl (hAZ1.s0 5 (by decide)) ?_
            refine ok2.add (show _ ≤ (Z1.1 0 5).toInt + (1 : Int) ∧ (Z1.1 0 5).toInt + (1 : Int) ≤ _ from by omega) (fun x24 hx24 => ?_)
            have hx24 : x24.toInt = (Z1.1 0 5).toInt + (1 : Int) := hx24
            refine ok2.letV ?_
            exact ih_f_name_5 (wI (wI (wL Z1 0 47 y33) 0 8 x21) 0 5 x24) (wI (wI (wL Z1t 0 47 y33) 0 8 x21) 0 5 x24) ((((Fr.rf.tr hFZ1 (by decide)).wL 0 47 _ (show (47 : Nat) ∈ [5, 7, 8, 47] from by decide)).wI 0 8 _ (show (8 : Nat) ∈ [5, 7, 8, 47] from by decide)).wI 0 5 _ (show (5 : Nat) ∈ [5, 7, 8, 47] from by decide)) ((((Fr.rf.tr hGZ1 (by decide)).wL 0 47 _ (show (47 : Nat) ∈ [5, 7, 8, 47] from by decide)).wI 0 8 _ (show (8 : Nat) ∈ [5, 7, 8, 47] from by decide)).wI 0 5 _ (show (5 : Nat) ∈ [5, 7, 8, 47] from by decide)) (((hAZ1.wL 0 47 _).wI 0 8 _ (by decide)).wI 0 5 _ (by decide)) (show (X.1 0 5).toInt ≤ x24.toInt ∧ x24.toInt ≤ (X.1 0 1).toInt ∧ 0 ≤ x21.toInt ∧ x21.toInt ≤ x24.toInt ∧ ((X.1 0 5).toInt < x24.toInt ∨ (x24.toInt < (X.1 0 1).toInt ∧ 0 < (letF (X.1 2 (ix x24))).toInt)) ∧ x21.toInt ≤ x24.toInt - (X.1 0 5).toInt from by exact ⟨(by omega), (by omega), (by omega), (by omega), (by omega), (by omega)⟩) ((hZ1_d6.trans (hFZ1.1 0 6 (show (6 : Nat) ∉ [5, 7, 8, 47] from by decide))).trans (hFZ1.1 0 6 (show (6 : Nat) ∉ [5, 7, 8, 47] from by decide)).symm) rfl rfl (show (3001 - x24.toInt).toNat < n from by omega)
  exact lp_f_name_5 BIG (wI X 0 8 ((0 : Int32))) (wI Xt 0 8 ((0 : Int32))) (Fr.rf.wI 0 8 _ (show (8 : Nat) ∈ [5, 7, 8, 47] from by decide)) (Fr.rf.wI 0 8 _ (show (8 : Nat) ∈ [5, 7, 8, 47] from by decide)) (hag.wI 0 8 _ (by decide)) (show (X.1 0 5).toInt ≤ (X.1 0 5).toInt ∧ (X.1 0 5).toInt ≤ (X.1 0 1).toInt ∧ 0 ≤ (0 : Int) ∧ (0 : Int) ≤ (X.1 0 5).toInt ∧ ((X.1 0 5).toInt < (X.1 0 5).toInt ∨ ((X.1 0 5).toInt < (X.1 0 1).toInt ∧ 0 < (letF (X.1 2 (ix (X.1 0 5)))).toInt)) ∧ (0 : Int) ≤ (X.1 0 5).toInt - (X.1 0 5).toInt from by exact ⟨(by omega), (by omega), (by omega), (by omega), (by omega), (by omega)⟩) h_d6 h_dT rfl (ltBIG (show (3001 - (X.1 0 5).toInt).toNat < 100000 from by omega))
set_option maxHeartbeats 4000000 in
set_option maxRecDepth 100000 in
theorem t_L_f_next (X Xt : St) (lv : Nat) (P : Int) (hag : AG lv P X Xt) (hy0 : 0 ≤ (X.1 0 5).toInt ∧ (X.1 0 5).toInt ≤ (X.1 0 1).toInt ∧ (X.1 0 1).toInt ≤ 3000) : ok2 (f_next X) (f_next Xt) (fun r X1 X1t => Fr YR [5, 6, 7, 8, 47] X X1 ∧ Fr YR [5, 6, 7, 8, 47] Xt X1t ∧ AG lv P X1 X1t ∧ (0 ≤ (X1.1 0 6).toInt ∧ (X1.1 0 6).toInt ≤ (X1.1 0 5).toInt ∧ (X1.1 0 5).toInt ≤ (X1.1 0 1).toInt ∧ (X1.1 0 1).toInt ≤ 3000 ∧ 0 ≤ (X1.1 0 7).toInt ∧ (X1.1 0 7).toInt ≤ 5 ∧ ((X1.1 0 7).toInt = 0 ∨ (X1.1 0 6).toInt < (X1.1 0 5).toInt) ∧ (X.1 0 5).toInt ≤ (X1.1 0 6).toInt ∧ ((X1.1 0 7).toInt = 1 → 0 ≤ (X1.1 0 8).toInt ∧ (X1.1 0 6).toInt + (X1.1 0 8).toInt ≤ (X1.1 0 5).toInt)) ∧ (X1t.1 0 6 = X1.1 0 6) ∧ (X1t.1 0 7 = X1.1 0 7) ∧ (X1t.2.1 0 47 = X1.2.1 0 47)) := by
  unfold f_next
  have lp_f_next_0 : ∀ (n : Nat), ∀ (Z1 Z1t : St), Fr YR [5, 6, 7, 8, 47] X Z1 → Fr YR [5, 6, 7, 8, 47] Xt Z1t → AG lv P Z1 Z1t → ((X.1 0 5).toInt ≤ (Z1.1 0 5).toInt ∧ (Z1.1 0 5).toInt ≤ (X.1 0 1).toInt) → (3001 - (Z1.1 0 5).toInt).toNat < n → ok2 (f_next_0 n Z1) (f_next_0 n Z1t) (fun r X1 X1t => Fr YR [5, 6, 7, 8, 47] X X1 ∧ Fr YR [5, 6, 7, 8, 47] Xt X1t ∧ AG lv P X1 X1t ∧ (0 ≤ (X1.1 0 6).toInt ∧ (X1.1 0 6).toInt ≤ (X1.1 0 5).toInt ∧ (X1.1 0 5).toInt ≤ (X1.1 0 1).toInt ∧ (X1.1 0 1).toInt ≤ 3000 ∧ 0 ≤ (X1.1 0 7).toInt ∧ (X1.1 0 7).toInt ≤ 5 ∧ ((X1.1 0 7).toInt = 0 ∨ (X1.1 0 6).toInt < (X1.1 0 5).toInt) ∧ (X.1 0 5).toInt ≤ (X1.1 0 6).toInt ∧ ((X1.1 0 7).toInt = 1 → 0 ≤ (X1.1 0 8).toInt ∧ (X1.1 0 6).toInt + (X1.1 0 8).toInt ≤ (X1.1 0 5).toInt)) ∧ (X1t.1 0 6 = X1.1 0 6) ∧ (X1t.1 0 7 = X1.1 0 7) ∧ (X1t.2.1 0 47 = X1.2.1 0 47)) := by
    intro n
    unfold f_next_0
    refine lp_indN (P := fun (n : Nat) (r_f_next_0 : St → Option (Int32 × St)) => ∀ (Z1 Z1t : St), Fr YR [5, 6, 7, 8, 47] X Z1 → Fr YR [5, 6, 7, 8, 47] Xt Z1t → AG lv P Z1 Z1t → ((X.1 0 5).toInt ≤ (Z1.1 0 5).toInt ∧ (Z1.1 0 5).toInt ≤ (X.1 0 1).toInt) → (3001 - (Z1.1 0 5).toInt).toNat < n → ok2 (r_f_next_0 Z1) (r_f_next_0 Z1t) (fun r X1 X1t => Fr YR [5, 6, 7, 8, 47] X X1 ∧ Fr YR [5, 6, 7, 8, 47] Xt X1t ∧ AG lv P X1 X1t ∧ (0 ≤ (X1.1 0 6).toInt ∧ (X1.1 0 6).toInt ≤ (X1.1 0 5).toInt ∧ (X1.1 0 5).toInt ≤ (X1.1 0 1).toInt ∧ (X1.1 0 1).toInt ≤ 3000 ∧ 0 ≤ (X1.1 0 7).toInt ∧ (X1.1 0 7).toInt ≤ 5 ∧ ((X1.1 0 7).toInt = 0 ∨ (X1.1 0 6).toInt < (X1.1 0 5).toInt) ∧ (X.1 0 5).toInt ≤ (X1.1 0 6).toInt ∧ ((X1.1 0 7).toInt = 1 → 0 ≤ (X1.1 0 8).toInt ∧ (X1.1 0 6).toInt + (X1.1 0 8).toInt ≤ (X1.1 0 5).toInt)) ∧ (X1t.1 0 6 = X1.1 0 6) ∧ (X1t.1 0 7 = X1.1 0 7) ∧ (X1t.2.1 0 47 = X1.2.1 0 47))) ?_ ?_ n
    · intro Z1 Z1t hF hG hA hI hm; exact absurd hm (Nat.not_lt_zero _)
    · intro n r_f_next_0 ih_f_next_0 Z1 Z1t hFZ1 hGZ1 hAZ1 hIZ1 hmZ1
      unfold f_next_0_s
      refine ok2.letE (v1 := (Z1.1 0 5)) rfl (hAZ1.s0 5 (by decide)) ?_
      refine ok2.letE (v1 := (X.1 0 1)) (hFZ1.1 0 1 (show (1 : Nat) ∉ [5, 6, 7, 8, 47] from by decide)) ((hAZ1.s0 1 (by decide)).trans (hFZ1.1 0 1 (show (1 : Nat) ∉ [5, 6, 7, 8, 47] from by decide))) ?_
      refine ok2.ite (fun c2 => ?_) (fun c2 => ?_)
      · skip
        unfold f_next_52
        refine ok2.letE (v1 := (Z1.1 0 5)) rfl (hAZ1.s0 5 (by decide)) ?_
        refine ok2.letV ?_
        refine ok2.letV ?_
        refine ok2.letE (v1 := (Z1.1 0 5)) rfl (hAZ1.s0 5 (by decide)) ?_
        refine ok2.letE (v1 := (X.1 0 1)) (hFZ1.1 0 1 (show (1 : Nat) ∉ [5, 6, 7, 8, 47] from by decide)) ((hAZ1.s0 1 (by decide)).trans (hFZ1.1 0 1 (show (1 : Nat) ∉ [5, 6, 7, 8, 47] from by decide))) ?_
        refine ok2.ite (fun c3 => ?_) (fun c3 => ?_)
        · skip
          refine ok2.letV ?_
          exact ok2.ret ⟨((((Fr.rf.tr hFZ1 (by decide)).wI 0 6 _ (show (6 : Nat) ∈ [5, 6, 7, 8, 47] from by decide)).wL 0 47 _ (show (47 : Nat) ∈ [5, 6, 7, 8, 47] from by decide)).wI 0 7 _ (show (7 : Nat) ∈ [5, 6, 7, 8, 47] from by decide)), ((((Fr.rf.tr hGZ1 (by decide)).wI 0 6 _ (show (6 : Nat) ∈ [5, 6, 7, 8, 47] from by decide)).wL 0 47 _ (show (47 : Nat) ∈ [5, 6, 7, 8, 47] from by decide)).wI 0 7 _ (show (7 : Nat) ∈ [5, 6, 7, 8, 47] from by decide)), (((hAZ1.wI 0 6 _ (by decide)).wL 0 47 _).wI 0 7 _ (by decide)), (show 0 ≤ (Z1.1 0 5).toInt ∧ (Z1.1 0 5).toInt ≤ (Z1.1 0 5).toInt ∧ (Z1.1 0 5).toInt ≤ (Z1.1 0 1).toInt ∧ (Z1.1 0 1).toInt ≤ 3000 ∧ 0 ≤ (0 : Int) ∧ (0 : Int) ≤ 5 ∧ ((0 : Int) = 0 ∨ (Z1.1 0 5).toInt < (Z1.1 0 5).toInt) ∧ (X.1 0 5).toInt ≤ (Z1.1 0 5).toInt ∧ ((0 : Int) = 1 → 0 ≤ (Z1.1 0 8).toInt ∧ (Z1.1 0 5).toInt + (Z1.1 0 8).toInt ≤ (Z1.1 0 5).toInt) from by have e0_ : (Z1.1 0 1).toInt = (X.1 0 1).toInt := congrArg Int32.toInt (hFZ1.1 0 1 (show (1 : Nat) ∉ [5, 6, 7, 8, 47] from by decide)); exact ⟨(by omega), (by omega), (by omega), (by omega), (by omega), (by omega), (by omega), (by omega), (fun hq93 => ⟨(by omega), (by omega)⟩)⟩), rfl, rfl, rfl⟩
        · skip
          refine ok2.letE (v1 := (Z1.1 0 5)) rfl (hAZ1.s0 5 (by decide)) ?_
          refine ok2.ck (show 0 ≤ (Z1.1 0 5).toInt ∧ (Z1.1 0 5).toInt < ((3000 : Nat) : Int) from by omega) ?_
          refine ok2.letE (v1 := (X.1 2 (ix (Z1.1 0 5)))) (hFZ1.1 2 (ix (Z1.1 0 5)) (show (400 : Nat) ∉ [5, 6, 7, 8, 47] from by decide)) ((hAZ1.ri 2 1 (by decide) (Nat.zero_le _) (Z1.1 0 5) (show 0 ≤ (Z1.1 0 5).toInt ∧ (Z1.1 0 5).toInt < (Z1.1 0 1).toInt from by have ec_ : (Z1.1 0 1).toInt = (X.1 0 1).toInt := congrArg Int32.toInt (hFZ1.1 0 1 (show (1 : Nat) ∉ [5, 6, 7, 8, 47] from by decide)); omega)).trans (hFZ1.1 2 (ix (Z1.1 0 5)) (show (400 : Nat) ∉ [5, 6, 7, 8, 47] from by decide))) ?_
          refine ok2.bd (t_f_letterOf _ _ _) ?_
          rintro x10 X_5 X_5t ⟨eX_5, eX_5t, hh4⟩
          subst eX_5
          subst eX_5t
          have hh4 : (x10.toInt = (letF (X.1 2 (ix (Z1.1 0 5)))).toInt ∧ 0 ≤ x10.toInt ∧ x10.toInt ≤ 52 ∧ (x10.toInt = 0 ∨ 65 ≤ (X.1 2 (ix (Z1.1 0 5))).toInt)) := hh4
          refine ok2.ite (fun c6 => ?_) (fun c6 => ?_)
          · skip
            refine ok2.bd (t_f_in _ _ _ _ _) ?_
            rintro x12 X_8 X_8t ⟨eX_8, eX_8t, hh7⟩
            subst eX_8
            subst eX_8t
            have hh7 : ((x12.toInt = 1 ∧ (48 : Int) ≤ (X.1 2 (ix (Z1.1 0 5))).toInt ∧ (X.1 2 (ix (Z1.1 0 5))).toInt ≤ (57 : Int)) ∨ (x12.toInt = 0 ∧ ((X.1 2 (ix (Z1.1 0 5))).toInt < (48 : Int) ∨ (57 : Int) < (X.1 2 (ix (Z1.1 0 5))).toInt))) := hh7
            refine ok2.ite (fun c9 => ?_) (fun c9 => ?_)
            · skip
              refine ok2.bd (t_L_f_sign _ _ _ lv P ((hAZ1.wI 0 6 _ (by decide)).wL 0 47 _) (show 0 ≤ (Z1.1 0 5).toInt ∧ (Z1.1 0 5).toInt < (Z1.1 0 1).toInt ∧ (Z1.1 0 1).toInt ≤ 3000 from by have e0_ : (Z1.1 0 1).toInt = (X.1 0 1).toInt := congrArg Int32.toInt (hFZ1.1 0 1 (show (1 : Nat) ∉ [5, 6, 7, 8, 47] from by decide)); exact ⟨(by omega), (by omega), (by omega)⟩) rfl) ?_
              rintro r_12 X_11 X_11t ⟨hFh10, hGh10, hAh10, hh10⟩
              have eh10_0 : (X_11.1 0 1).toInt = (X.1 0 1).toInt := congrArg Int32.toInt ((hFh10.1 0 1 (show (1 : Nat) ∉ [5, 7, 47] from by decide)).trans (hFZ1.1 0 1 (show (1 : Nat) ∉ [5, 6, 7, 8, 47] from by decide)))
              have hh10 : ((Z1.1 0 5).toInt < (X_11.1 0 5).toInt ∧ (X_11.1 0 5).toInt ≤ (X_11.1 0 1).toInt ∧ 4 ≤ (X_11.1 0 7).toInt ∧ (X_11.1 0 7).toInt ≤ 5) ∧ (X_11t.1 0 6 = X_11.1 0 6) ∧ (X_11t.1 0 7 = X_11.1 0 7) ∧ (X_11t.2.1 0 47 = X_11.2.1 0 47) := hh10
              obtain ⟨hh10, hh10_d6, hh10_d7, hh10_dT⟩ := hh10
              exact ok2.ret ⟨((((Fr.rf.tr hFZ1 (by decide)).wI 0 6 _ (show (6 : Nat) ∈ [5, 6, 7, 8, 47] from by decide)).wL 0 47 _ (show (47 : Nat) ∈ [5, 6, 7, 8, 47] from by decide)).tr hFh10 (by decide)), ((((Fr.rf.tr hGZ1 (by decide)).wI 0 6 _ (show (6 : Nat) ∈ [5, 6, 7, 8, 47] from by decide)).wL 0 47 _ (show (47 : Nat) ∈ [5, 6, 7, 8, 47] from by decide)).tr hGh10 (by decide)), hAh10, (show 0 ≤ (X_11.1 0 6).toInt ∧ (X_11.1 0 6).toInt ≤ (X_11.1 0 5).toInt ∧ (X_11.1 0 5).toInt ≤ (X_11.1 0 1).toInt ∧ (X_11.1 0 1).toInt ≤ 3000 ∧ 0 ≤ (X_11.1 0 7).toInt ∧ (X_11.1 0 7).toInt ≤ 5 ∧ ((X_11.1 0 7).toInt = 0 ∨ (X_11.1 0 6).toInt < (X_11.1 0 5).toInt) ∧ (X.1 0 5).toInt ≤ (X_11.1 0 6).toInt ∧ ((X_11.1 0 7).toInt = 1 → 0 ≤ (X_11.1 0 8).toInt ∧ (X_11.1 0 6).toInt + (X_11.1 0 8).toInt ≤ (X_11.1 0 5).toInt) from by have e0_ : (X_11.1 0 6).toInt = (Z1.1 0 5).toInt := congrArg Int32.toInt (hFh10.1 0 6 (show (6 : Nat) ∉ [5, 7, 47] from by decide)); have e1_ : (X_11.1 0 1).toInt = (X.1 0 1).toInt := congrArg Int32.toInt ((hFh10.1 0 1 (show (1 : Nat) ∉ [5, 7, 47] from by decide)).trans (hFZ1.1 0 1 (show (1 : Nat) ∉ [5, 6, 7, 8, 47] from by decide))); have e2_ : (X_11.1 0 8).toInt = (Z1.1 0 8).toInt := congrArg Int32.toInt (hFh10.1 0 8 (show (8 : Nat) ∉ [5, 7, 47] from by decide)); exact ⟨(by omega), (by omega), (by omega), (by omega), (by omega), (by omega), (by omega), (by omega), (fun hq110 => ⟨(by omega), (by omega)⟩)⟩), hh10_d6, hh10_d7, hh10_dT⟩
            · skip
              refine ok2.letV ?_
              have lp_f_next_122 : ∀ (n : Nat), ∀ (Z13 Z13t : St), Fr YR [5, 6, 7, 8, 47] X Z13 → Fr YR [5, 6, 7, 8, 47] Xt Z13t → AG lv P Z13 Z13t → ((X.1 0 5).toInt ≤ (Z13.1 0 6).toInt ∧ (Z13.1 0 6).toInt ≤ (Z13.1 0 5).toInt ∧ (Z13.1 0 5).toInt ≤ (X.1 0 1).toInt ∧ (Z13.1 0 7).toInt = 3 ∧ ((Z13.1 0 6).toInt < (Z13.1 0 5).toInt ∨ ((Z13.1 0 5).toInt < (X.1 0 1).toInt ∧ 48 ≤ (X.1 2 (ix (Z13.1 0 5))).toInt ∧ (X.1 2 (ix (Z13.1 0 5))).toInt ≤ 57))) → (Z13t.1 0 6 = Z13.1 0 6) → (Z13t.1 0 7 = Z13.1 0 7) → (Z13t.2.1 0 47 = Z13.2.1 0 47) → (3001 - (Z13.1 0 5).toInt).toNat < n → ok2 (f_next_122 n Z13) (f_next_122 n Z13t) (fun r X1 X1t => Fr YR [5, 6, 7, 8, 47] X X1 ∧ Fr YR [5, 6, 7, 8, 47] Xt X1t ∧ AG lv P X1 X1t ∧ (0 ≤ (X1.1 0 6).toInt ∧ (X1.1 0 6).toInt ≤ (X1.1 0 5).toInt ∧ (X1.1 0 5).toInt ≤ (X1.1 0 1).toInt ∧ (X1.1 0 1).toInt ≤ 3000 ∧ 0 ≤ (X1.1 0 7).toInt ∧ (X1.1 0 7).toInt ≤ 5 ∧ ((X1.1 0 7).toInt = 0 ∨ (X1.1 0 6).toInt < (X1.1 0 5).toInt) ∧ (X.1 0 5).toInt ≤ (X1.1 0 6).toInt ∧ ((X1.1 0 7).toInt = 1 → 0 ≤ (X1.1 0 8).toInt ∧ (X1.1 0 6).toInt + (X1.1 0 8).toInt ≤ (X1.1 0 5).toInt)) ∧ (X1t.1 0 6 = X1.1 0 6) ∧ (X1t.1 0 7 = X1.1 0 7) ∧ (X1t.2.1 0 47 = X1.2.1 0 47)) := by
                intro n
                unfold f_next_122
                refine lp_indN (P := fun (n : Nat) (r_f_next_122 : St → Option (Int32 × St)) => ∀ (Z13 Z13t : St), Fr YR [5, 6, 7, 8, 47] X Z13 → Fr YR [5, 6, 7, 8, 47] Xt Z13t → AG lv P Z13 Z13t → ((X.1 0 5).toInt ≤ (Z13.1 0 6).toInt ∧ (Z13.1 0 6).toInt ≤ (Z13.1 0 5).toInt ∧ (Z13.1 0 5).toInt ≤ (X.1 0 1).toInt ∧ (Z13.1 0 7).toInt = 3 ∧ ((Z13.1 0 6).toInt < (Z13.1 0 5).toInt ∨ ((Z13.1 0 5).toInt < (X.1 0 1).toInt ∧ 48 ≤ (X.1 2 (ix (Z13.1 0 5))).toInt ∧ (X.1 2 (ix (Z13.1 0 5))).toInt ≤ 57))) → (Z13t.1 0 6 = Z13.1 0 6) → (Z13t.1 0 7 = Z13.1 0 7) → (Z13t.2.1 0 47 = Z13.2.1 0 47) → (3001 - (Z13.1 0 5).toInt).toNat < n → ok2 (r_f_next_122 Z13) (r_f_next_122 Z13t) (fun r X1 X1t => Fr YR [5, 6, 7, 8, 47] X X1 ∧ Fr YR [5, 6, 7, 8, 47] Xt X1t ∧ AG lv P X1 X1t ∧ (0 ≤ (X1.1 0 6).toInt ∧ (X1.1 0 6).toInt ≤ (X1.1 0 5).toInt ∧ (X1.1 0 5).toInt ≤ (X1.1 0 1).toInt ∧ (X1.1 0 1).toInt ≤ 3000 ∧ 0 ≤ (X1.1 0 7).toInt ∧ (X1.1 0 7).toInt ≤ 5 ∧ ((X1.1 0 7).toInt = 0 ∨ (X1.1 0 6).toInt < (X1.1 0 5).toInt) ∧ (X.1 0 5).toInt ≤ (X1.1 0 6).toInt ∧ ((X1.1 0 7).toInt = 1 → 0 ≤ (X1.1 0 8).toInt ∧ (X1.1 0 6).toInt + (X1.1 0 8).toInt ≤ (X1.1 0 5).toInt)) ∧ (X1t.1 0 6 = X1.1 0 6) ∧ (X1t.1 0 7 = X1.1 0 7) ∧ (X1t.2.1 0 47 = X1.2.1 0 47))) ?_ ?_ n
                · intro Z13 Z13t hF hG hA hI hZ13_d6 hZ13_d7 hZ13_dT hm; exact absurd hm (Nat.not_lt_zero _)
                · intro n r_f_next_122 ih_f_next_122 Z13 Z13t hFZ13 hGZ13 hAZ13 hIZ13 hZ13_d6 hZ13_d7 hZ13_dT hmZ13
                  unfold f_next_122_s
                  refine ok2.letE (v1 := (Z13.1 0 5)) rfl (hAZ13.s0 5 (by decide)) ?_
                  refine ok2.letE (v1 := (X.1 0 1)) (hFZ13.1 0 1 (show (1 : Nat) ∉ [5, 6, 7, 8, 47] from by decide)) ((hAZ13.s0 1 (by decide)).trans (hFZ13.1 0 1 (show (1 : Nat) ∉ [5, 6, 7, 8, 47] from by decide))) ?_
                  refine ok2.ite (fun c14 => ?_) (fun c14 => ?_)
                  · skip
                    exact ok2.ret ⟨(Fr.rf.tr hFZ13 (by decide)), (Fr.rf.tr hGZ13 (by decide)), hAZ13, (show 0 ≤ (Z13.1 0 6).toInt ∧ (Z13.1 0 6).toInt ≤ (Z13.1 0 5).toInt ∧ (Z13.1 0 5).toInt ≤ (Z13.1 0 1).toInt ∧ (Z13.1 0 1).toInt ≤ 3000 ∧ 0 ≤ (Z13.1 0 7).toInt ∧ (Z13.1 0 7).toInt ≤ 5 ∧ ((Z13.1 0 7).toInt = 0 ∨ (Z13.1 0 6).toInt < (Z13.1 0 5).toInt) ∧ (X.1 0 5).toInt ≤ (Z13.1 0 6).toInt ∧ ((Z13.1 0 7).toInt = 1 → 0 ≤ (Z13.1 0 8).toInt ∧ (Z13.1 0 6).toInt + (Z13.1 0 8).toInt ≤ (Z13.1 0 5).toInt) from by have e0_ : (Z13.1 0 1).toInt = (X.1 0 1).toInt := congrArg Int32.toInt (hFZ13.1 0 1 (show (1 : Nat) ∉ [5, 6, 7, 8, 47] from by decide)); exact ⟨(by omega), (by omega), (by omega), (by omega), (by omega), (by omega), (by omega), (by omega), (fun hq105 => ⟨(by omega), (by omega)⟩)⟩), hZ13_d6, hZ13_d7, hZ13_dT⟩
                  · skip
                    refine ok2.letE (v1 := (Z13.1 0 5)) rfl (hAZ13.s0 5 (by decide)) ?_
                    refine ok2.ck (show 0 ≤ (Z13.1 0 5).toInt ∧ (Z13.1 0 5).toInt < ((3000 : Nat) : Int) from by omega) ?_
                    refine ok2.letE (v1 := (X.1 2 (ix (Z13.1 0 5)))) (hFZ13.1 2 (ix (Z13.1 0 5)) (show (400 : Nat) ∉ [5, 6, 7, 8, 47] from by decide)) ((hAZ13.ri 2 1 (by decide) (Nat.zero_le _) (Z13.1 0 5) (show 0 ≤ (Z13.1 0 5).toInt ∧ (Z13.1 0 5).toInt < (Z13.1 0 1).toInt from by have ec_ : (Z13.1 0 1).toInt = (X.1 0 1).toInt := congrArg Int32.toInt (hFZ13.1 0 1 (show (1 : Nat) ∉ [5, 6, 7, 8, 47] from by decide)); omega)).trans (hFZ13.1 2 (ix (Z13.1 0 5)) (show (400 : Nat) ∉ [5, 6, 7, 8, 47] from by decide))) ?_
                    refine ok2.bd (t_f_in _ _ _ _ _) ?_
                    rintro x20 X_16 X_16t ⟨eX_16, eX_16t, hh15⟩
                    subst eX_16
                    subst eX_16t
                    have hh15 : ((x20.toInt = 1 ∧ (48 : Int) ≤ (X.1 2 (ix (Z13.1 0 5))).toInt ∧ (X.1 2 (ix (Z13.1 0 5))).toInt ≤ (57 : Int)) ∨ (x20.toInt = 0 ∧ ((X.1 2 (ix (Z13.1 0 5))).toInt < (48 : Int) ∨ (57 : Int) < (X.1 2 (ix (Z13.1 0 5))).toInt))) := hh15
                    refine ok2.ite (fun c17 => ?_) (fun c17 => ?_)
                    · skip
                      exact ok2.ret ⟨(Fr.rf.tr hFZ13 (by decide)), (Fr.rf.tr hGZ13 (by decide)), hAZ13, (show 0 ≤ (Z13.1 0 6).toInt ∧ (Z13.1 0 6).toInt ≤ (Z13.1 0 5).toInt ∧ (Z13.1 0 5).toInt ≤ (Z13.1 0 1).toInt ∧ (Z13.1 0 1).toInt ≤ 3000 ∧ 0 ≤ (Z13.1 0 7).toInt ∧ (Z13.1 0 7).toInt ≤ 5 ∧ ((Z13.1 0 7).toInt = 0 ∨ (Z13.1 0 6).toInt < (Z13.1 0 5).toInt) ∧ (X.1 0 5).toInt ≤ (Z13.1 0 6).toInt ∧ ((Z13.1 0 7).toInt = 1 → 0 ≤ (Z13.1 0 8).toInt ∧ (Z13.1 0 6).toInt + (Z13.1 0 8).toInt ≤ (Z13.1 0 5).toInt) from by have e0_ : (Z13.1 0 1).toInt = (X.1 0 1).toInt := congrArg Int32.toInt (hFZ13.1 0 1 (show (1 : Nat) ∉ [5, 6, 7, 8, 47] from by decide)); exact ⟨(by omega), (by omega), (by omega), (by omega), (by omega), (by omega), (by omega), (by omega), (fun hq105 => ⟨(by omega), (by omega)⟩)⟩), hZ13_d6, hZ13_d7, hZ13_dT⟩
                    · skip
                      refine ok2.anyE hZ13_dT (fun y22 => ?_)
                      refine ok2.any (fun x23 => ?_)
                      refine ok2.ite (fun c18 => ?_) (fun c18 => ?_)
                      · skip
                        refine ok2.anyE hZ13_dT (fun y24 => ?_)
                        refine ok2.any (fun y25 => ?_)
                        refine ok2.letE (v1 := (Z13.1 0 5)) rfl (hAZ13.s0 5 (by decide)) ?_
                        refine ok2.ck (show 0 ≤ (Z13.1 0 5).toInt ∧ (Z13.1 0 5).toInt < ((3000 : Nat) : Int) from by omega) ?_
                        refine ok2.letE (v1 := (X.1 2 (ix (Z13.1 0 5)))) (hFZ13.1 2 (ix (Z13.1 0 5)) (show (400 : Nat) ∉ [5, 6, 7, 8, 47] from by decide)) ((hAZ13.ri 2 1 (by decide) (Nat.zero_le _) (Z13.1 0 5) (show 0 ≤ (Z13.1 0 5).toInt ∧ (Z13.1 0 5).toInt < (Z13.1 0 1).toInt from by have ec_ : (Z13.1 0 1).toInt = (X.1 0 1).toInt := congrArg Int32.toInt (hFZ13.1 0 1 (show (1 : Nat) ∉ [5, 6, 7, 8, 47] from by decide)); omega)).trans (hFZ13.1 2 (ix (Z13.1 0 5)) (show (400 : Nat) ∉ [5, 6, 7, 8, 47] from by decide))) ?_
                        refine ok2.any (fun y28 => ?_)
                        refine ok2.any (fun y29 => ?_)
                        refine ok2.any (fun y30 => ?_)
                        unfold f_next_194
                        refine ok2.letV ?_
                        refine ok2.letE (v1 := (Z13.1 0 5)) rfl (hAZ13.s0 5 (by decide)) ?_
                        refine ok2.add (show _ ≤ (Z13.1 0 5).toInt + (1 : Int) ∧ (Z13.1 0 5).toInt + (1 : Int) ≤ _ from by omega) (fun x33 hx33 => ?_)
                        have hx33 : x33.toInt = (Z13.1 0 5).toInt + (1 : Int) := hx33
                        refine ok2.letV ?_
                        exact ih_f_next_122 (wI (wL Z13 0 47 y30) 0 5 x33) (wI (wL Z13t 0 47 y30) 0 5 x33) (((Fr.rf.tr hFZ13 (by decide)).wL 0 47 _ (show (47 : Nat) ∈ [5, 6, 7, 8, 47] from by decide)).wI 0 5 _ (show (5 : Nat) ∈ [5, 6, 7, 8, 47] from by decide)) (((Fr.rf.tr hGZ13 (by decide)).wL 0 47 _ (show (47 : Nat) ∈ [5, 6, 7, 8, 47] from by decide)).wI 0 5 _ (show (5 : Nat) ∈ [5, 6, 7, 8, 47] from by decide)) ((hAZ13.wL 0 47 _).wI 0 5 _ (by decide)) (show (X.1 0 5).toInt ≤ (Z13.1 0 6).toInt ∧ (Z13.1 0 6).toInt ≤ x33.toInt ∧ x33.toInt ≤ (X.1 0 1).toInt ∧ (Z13.1 0 7).toInt = 3 ∧ ((Z13.1 0 6).toInt < x33.toInt ∨ (x33.toInt < (X.1 0 1).toInt ∧ 48 ≤ (X.1 2 (ix x33)).toInt ∧ (X.1 2 (ix x33)).toInt ≤ 57)) from by exact ⟨(by omega), (by omega), (by omega), (by omega), (by omega)⟩) hZ13_d6 hZ13_d7 rfl (show (3001 - x33.toInt).toNat < n from by omega)
                      · skip
                        refine ok2.anyE hZ13_dT (fun y35 => ?_)
                        unfold f_next_194
                        refine ok2.letV ?_
                        refine ok2.letE (v1 := (Z13.1 0 5)) rfl (hAZ13.s0 5 (by decide)) ?_
                        refine ok2.add (show _ ≤ (Z13.1 0 5).toInt + (1 : Int) ∧ (Z13.1 0 5).toInt + (1 : Int) ≤ _ from by omega) (fun x33 hx33 => ?_)
                        have hx33 : x33.toInt = (Z13.1 0 5).toInt + (1 : Int) := hx33
                        refine ok2.letV ?_
                        exact ih_f_next_122 (wI (wL Z13 0 47 y35) 0 5 x33) (wI (wL Z13t 0 47 y35) 0 5 x33) (((Fr.rf.tr hFZ13 (by decide)).wL 0 47 _ (show (47 : Nat) ∈ [5, 6, 7, 8, 47] from by decide)).wI 0 5 _ (show (5 : Nat) ∈ [5, 6, 7, 8, 47] from by decide)) (((Fr.rf.tr hGZ13 (by decide)).wL 0 47 _ (show (47 : Nat) ∈ [5, 6, 7, 8, 47] from by decide)).wI 0 5 _ (show (5 : Nat) ∈ [5, 6, 7, 8, 47] from by decide)) ((hAZ13.wL 0 47 _).wI 0 5 _ (by decide)) (show (X.1 0 5).toInt ≤ (Z13.1 0 6).toInt ∧ (Z13.1 0 6).toInt ≤ x33.toInt ∧ x33.toInt ≤ (X.1 0 1).toInt ∧ (Z13.1 0 7).toInt = 3 ∧ ((Z13.1 0 6).toInt < x33.toInt ∨ (x33.toInt < (X.1 0 1).toInt ∧ 48 ≤ (X.1 2 (ix x33)).toInt ∧ (X.1 2 (ix x33)).toInt ≤ 57)) from by exact ⟨(by omega), (by omega), (by omega), (by omega), (by omega)⟩) hZ13_d6 hZ13_d7 rfl (show (3001 - x33.toInt).toNat < n from by omega)
              exact lp_f_next_122 BIG (wI (wL (wI Z1 0 6 (Z1.1 0 5)) 0 47 ((0 : Int64))) 0 7 ((3 : Int32))) (wI (wL (wI Z1t 0 6 (Z1.1 0 5)) 0 47 ((0 : Int64))) 0 7 ((3 : Int32))) ((((Fr.rf.tr hFZ1 (by decide)).wI 0 6 _ (show (6 : Nat) ∈ [5, 6, 7, 8, 47] from by decide)).wL 0 47 _ (show (47 : Nat) ∈ [5, 6, 7, 8, 47] from by decide)).wI 0 7 _ (show (7 : Nat) ∈ [5, 6, 7, 8, 47] from by decide)) ((((Fr.rf.tr hGZ1 (by decide)).wI 0 6 _ (show (6 : Nat) ∈ [5, 6, 7, 8, 47] from by decide)).wL 0 47 _ (show (47 : Nat) ∈ [5, 6, 7, 8, 47] from by decide)).wI 0 7 _ (show (7 : Nat) ∈ [5, 6, 7, 8, 47] from by decide)) (((hAZ1.wI 0 6 _ (by decide)).wL 0 47 _).wI 0 7 _ (by decide)) (show (X.1 0 5).toInt ≤ (Z1.1 0 5).toInt ∧ (Z1.1 0 5).toInt ≤ (Z1.1 0 5).toInt ∧ (Z1.1 0 5).toInt ≤ (X.1 0 1).toInt ∧ (3 : Int) = 3 ∧ ((Z1.1 0 5).toInt < (Z1.1 0 5).toInt ∨ ((Z1.1 0 5).toInt < (X.1 0 1).toInt ∧ 48 ≤ (X.1 2 (ix (Z1.1 0 5))).toInt ∧ (X.1 2 (ix (Z1.1 0 5))).toInt ≤ 57)) from by exact ⟨(by omega), (by omega), (by omega), (by omega), (by omega)⟩) rfl rfl rfl (ltBIG (show (3001 - (Z1.1 0 5).toInt).toNat < 100000 from by omega))
          · skip
            refine ok2.bd (t_L_f_name  _ _ lv P ((hAZ1.wI 0 6 _ (by decide)).wL 0 47 _) (show 0 ≤ (Z1.1 0 5).toInt ∧ (Z1.1 0 5).toInt < (Z1.1 0 1).toInt ∧ (Z1.1 0 1).toInt ≤ 3000 ∧ 0 < (letF (Z1.1 2 (ix (Z1.1 0 5)))).toInt from by have e0_ : (Z1.1 0 1).toInt = (X.1 0 1).toInt := congrArg Int32.toInt (hFZ1.1 0 1 (show (1 : Nat) ∉ [5, 6, 7, 8, 47] from by decide)); rw [show (Z1.1 2 (ix (Z1.1 0 5))) = (X.1 2 (ix (Z1.1 0 5))) from (hFZ1.1 2 (ix (Z1.1 0 5)) (show (400 : Nat) ∉ [5, 6, 7, 8, 47] from by decide))]; exact ⟨(by omega), (by omega), (by omega), (by omega)⟩) rfl rfl) ?_
            rintro r_21 X_20 X_20t ⟨hFh19, hGh19, hAh19, hh19⟩
            have eh19_0 : (X_20.1 0 1).toInt = (X.1 0 1).toInt := congrArg Int32.toInt ((hFh19.1 0 1 (show (1 : Nat) ∉ [5, 7, 8, 47] from by decide)).trans (hFZ1.1 0 1 (show (1 : Nat) ∉ [5, 6, 7, 8, 47] from by decide)))
            have hh19 : ((Z1.1 0 5).toInt < (X_20.1 0 5).toInt ∧ (X_20.1 0 5).toInt ≤ (X_20.1 0 1).toInt ∧ 1 ≤ (X_20.1 0 7).toInt ∧ (X_20.1 0 7).toInt ≤ 5 ∧ 0 ≤ (X_20.1 0 8).toInt ∧ (X_20.1 0 8).toInt ≤ (X_20.1 0 5).toInt - (Z1.1 0 5).toInt) ∧ (X_20t.1 0 6 = X_20.1 0 6) ∧ (X_20t.1 0 7 = X_20.1 0 7) ∧ (X_20t.2.1 0 47 = X_20.2.1 0 47) := hh19
            obtain ⟨hh19, hh19_d6, hh19_d7, hh19_dT⟩ := hh19
            exact ok2.ret ⟨((((Fr.rf.tr hFZ1 (by decide)).wI 0 6 _ (show (6 : Nat) ∈ [5, 6, 7, 8, 47] from by decide)).wL 0 47 _ (show (47 : Nat) ∈ [5, 6, 7, 8, 47] from by decide)).tr hFh19 (by decide)), ((((Fr.rf.tr hGZ1 (by decide)).wI 0 6 _ (show (6 : Nat) ∈ [5, 6, 7, 8, 47] from by decide)).wL 0 47 _ (show (47 : Nat) ∈ [5, 6, 7, 8, 47] from by decide)).tr hGh19 (by decide)), hAh19, (show 0 ≤ (X_20.1 0 6).toInt ∧ (X_20.1 0 6).toInt ≤ (X_20.1 0 5).toInt ∧ (X_20.1 0 5).toInt ≤ (X_20.1 0 1).toInt ∧ (X_20.1 0 1).toInt ≤ 3000 ∧ 0 ≤ (X_20.1 0 7).toInt ∧ (X_20.1 0 7).toInt ≤ 5 ∧ ((X_20.1 0 7).toInt = 0 ∨ (X_20.1 0 6).toInt < (X_20.1 0 5).toInt) ∧ (X.1 0 5).toInt ≤ (X_20.1 0 6).toInt ∧ ((X_20.1 0 7).toInt = 1 → 0 ≤ (X_20.1 0 8).toInt ∧ (X_20.1 0 6).toInt + (X_20.1 0 8).toInt ≤ (X_20.1 0 5).toInt) from by have e0_ : (X_20.1 0 6).toInt = (Z1.1 0 5).toInt := congrArg Int32.toInt (hFh19.1 0 6 (show (6 : Nat) ∉ [5, 7, 8, 47] from by decide)); have e1_ : (X_20.1 0 1).toInt = (X.1 0 1).toInt := congrArg Int32.toInt ((hFh19.1 0 1 (show (1 : Nat) ∉ [5, 7, 8, 47] from by decide)).trans (hFZ1.1 0 1 (show (1 : Nat) ∉ [5, 6, 7, 8, 47] from by decide))); exact ⟨(by omega), (by omega), (by omega), (by omega), (by omega), (by omega), (by omega), (by omega), (fun hq110 => ⟨(by omega), (by omega)⟩)⟩), hh19_d6, hh19_d7, hh19_dT⟩
      · skip
        refine ok2.letE (v1 := (Z1.1 0 5)) rfl (hAZ1.s0 5 (by decide)) ?_
        refine ok2.ck (show 0 ≤ (Z1.1 0 5).toInt ∧ (Z1.1 0 5).toInt < ((3000 : Nat) : Int) from by omega) ?_
        refine ok2.letE (v1 := (X.1 2 (ix (Z1.1 0 5)))) (hFZ1.1 2 (ix (Z1.1 0 5)) (show (400 : Nat) ∉ [5, 6, 7, 8, 47] from by decide)) ((hAZ1.ri 2 1 (by decide) (Nat.zero_le _) (Z1.1 0 5) (show 0 ≤ (Z1.1 0 5).toInt ∧ (Z1.1 0 5).toInt < (Z1.1 0 1).toInt from by have ec_ : (Z1.1 0 1).toInt = (X.1 0 1).toInt := congrArg Int32.toInt (hFZ1.1 0 1 (show (1 : Nat) ∉ [5, 6, 7, 8, 47] from by decide)); omega)).trans (hFZ1.1 2 (ix (Z1.1 0 5)) (show (400 : Nat) ∉ [5, 6, 7, 8, 47] from by decide))) ?_
        refine ok2.ite (fun c22 => ?_) (fun c22 => ?_)
        · skip
          unfold f_next_39
          refine ok2.letE (v1 := (Z1.1 0 5)) rfl (hAZ1.s0 5 (by decide)) ?_
          refine ok2.add (show _ ≤ (Z1.1 0 5).toInt + (1 : Int) ∧ (Z1.1 0 5).toInt + (1 : Int) ≤ _ from by omega) (fun x41 hx41 => ?_)
          have hx41 : x41.toInt = (Z1.1 0 5).toInt + (1 : Int) := hx41
          refine ok2.letV ?_
          exact ih_f_next_0 (wI Z1 0 5 x41) (wI Z1t 0 5 x41) ((Fr.rf.tr hFZ1 (by decide)).wI 0 5 _ (show (5 : Nat) ∈ [5, 6, 7, 8, 47] from by decide)) ((Fr.rf.tr hGZ1 (by decide)).wI 0 5 _ (show (5 : Nat) ∈ [5, 6, 7, 8, 47] from by decide)) (hAZ1.wI 0 5 _ (by decide)) (show (X.1 0 5).toInt ≤ x41.toInt ∧ x41.toInt ≤ (X.1 0 1).toInt from by exact ⟨(by omega), (by omega)⟩) (show (3001 - x41.toInt).toNat < n from by omega)
        · skip
          refine ok2.letE (v1 := (Z1.1 0 5)) rfl (hAZ1.s0 5 (by decide)) ?_
          refine ok2.ck (show 0 ≤ (Z1.1 0 5).toInt ∧ (Z1.1 0 5).toInt < ((3000 : Nat) : Int) from by omega) ?_
          refine ok2.letE (v1 := (X.1 2 (ix (Z1.1 0 5)))) (hFZ1.1 2 (ix (Z1.1 0 5)) (show (400 : Nat) ∉ [5, 6, 7, 8, 47] from by decide)) ((hAZ1.ri 2 1 (by decide) (Nat.zero_le _) (Z1.1 0 5) (show 0 ≤ (Z1.1 0 5).toInt ∧ (Z1.1 0 5).toInt < (Z1.1 0 1).toInt from by have ec_ : (Z1.1 0 1).toInt = (X.1 0 1).toInt := congrArg Int32.toInt (hFZ1.1 0 1 (show (1 : Nat) ∉ [5, 6, 7, 8, 47] from by decide)); omega)).trans (hFZ1.1 2 (ix (Z1.1 0 5)) (show (400 : Nat) ∉ [5, 6, 7, 8, 47] from by decide))) ?_
          refine ok2.ite (fun c23 => ?_) (fun c23 => ?_)
          · skip
            unfold f_next_39
            refine ok2.letE (v1 := (Z1.1 0 5)) rfl (hAZ1.s0 5 (by decide)) ?_
            refine ok2.add (show _ ≤ (Z1.1 0 5).toInt + (1 : Int) ∧ (Z1.1 0 5).toInt + (1 : Int) ≤ _ from by omega) (fun x41 hx41 => ?_)
            have hx41 : x41.toInt = (Z1.1 0 5).toInt + (1 : Int) := hx41
            refine ok2.letV ?_
            exact ih_f_next_0 (wI Z1 0 5 x41) (wI Z1t 0 5 x41) ((Fr.rf.tr hFZ1 (by decide)).wI 0 5 _ (show (5 : Nat) ∈ [5, 6, 7, 8, 47] from by decide)) ((Fr.rf.tr hGZ1 (by decide)).wI 0 5 _ (show (5 : Nat) ∈ [5, 6, 7, 8, 47] from by decide)) (hAZ1.wI 0 5 _ (by decide)) (show (X.1 0 5).toInt ≤ x41.toInt ∧ x41.toInt ≤ (X.1 0 1).toInt from by exact ⟨(by omega), (by omega)⟩) (show (3001 - x41.toInt).toNat < n from by omega)
          · skip
            unfold f_next_52
            refine ok2.letE (v1 := (Z1.1 0 5)) rfl (hAZ1.s0 5 (by decide)) ?_
            refine ok2.letV ?_
            refine ok2.letV ?_
            refine ok2.letE (v1 := (Z1.1 0 5)) rfl (hAZ1.s0 5 (by decide)) ?_
            refine ok2.letE (v1 := (X.1 0 1)) (hFZ1.1 0 1 (show (1 : Nat) ∉ [5, 6, 7, 8, 47] from by decide)) ((hAZ1.s0 1 (by decide)).trans (hFZ1.1 0 1 (show (1 : Nat) ∉ [5, 6, 7, 8, 47] from by decide))) ?_
            refine ok2.ite (fun c24 => ?_) (fun c24 => ?_)
            · skip
              refine ok2.letV ?_
              exact ok2.ret ⟨((((Fr.rf.tr hFZ1 (by decide)).wI 0 6 _ (show (6 : Nat) ∈ [5, 6, 7, 8, 47] from by decide)).wL 0 47 _ (show (47 : Nat) ∈ [5, 6, 7, 8, 47] from by decide)).wI 0 7 _ (show (7 : Nat) ∈ [5, 6, 7, 8, 47] from by decide)), ((((Fr.rf.tr hGZ1 (by decide)).wI 0 6 _ (show (6 : Nat) ∈ [5, 6, 7, 8, 47] from by decide)).wL 0 47 _ (show (47 : Nat) ∈ [5, 6, 7, 8, 47] from by decide)).wI 0 7 _ (show (7 : Nat) ∈ [5, 6, 7, 8, 47] from by decide)), (((hAZ1.wI 0 6 _ (by decide)).wL 0 47 _).wI 0 7 _ (by decide)), (show 0 ≤ (Z1.1 0 5).toInt ∧ (Z1.1 0 5).toInt ≤ (Z1.1 0 5).toInt ∧ (Z1.1 0 5).toInt ≤ (Z1.1 0 1).toInt ∧ (Z1.1 0 1).toInt ≤ 3000 ∧ 0 ≤ (0 : Int) ∧ (0 : Int) ≤ 5 ∧ ((0 : Int) = 0 ∨ (Z1.1 0 5).toInt < (Z1.1 0 5).toInt) ∧ (X.1 0 5).toInt ≤ (Z1.1 0 5).toInt ∧ ((0 : Int) = 1 → 0 ≤ (Z1.1 0 8).toInt ∧ (Z1.1 0 5).toInt + (Z1.1 0 8).toInt ≤ (Z1.1 0 5).toInt) from by have e0_ : (Z1.1 0 1).toInt = (X.1 0 1).toInt := congrArg Int32.toInt (hFZ1.1 0 1 (show (1 : Nat) ∉ [5, 6, 7, 8, 47] from by decide)); exact ⟨(by omega), (by omega), (by omega), (by omega), (by omega), (by omega), (by omega), (by omega), (fun hq93 => ⟨(by omega), (by omega)⟩)⟩), rfl, rfl, rfl⟩
            · skip
              refine ok2.letE (v1 := (Z1.1 0 5)) rfl (hAZ1.s0 5 (by decide)) ?_
              refine ok2.ck (show 0 ≤ (Z1.1 0 5).toInt ∧ (Z1.1 0 5).toInt < ((3000 : Nat) : Int) from by omega) ?_
              refine ok2.letE (v1 := (X.1 2 (ix (Z1.1 0 5)))) (hFZ1.1 2 (ix (Z1.1 0 5)) (show (400 : Nat) ∉ [5, 6, 7, 8, 47] from by decide)) ((hAZ1.ri 2 1 (by decide) (Nat.zero_le _) (Z1.1 0 5) (show 0 ≤ (Z1.1 0 5).toInt ∧ (Z1.1 0 5).toInt < (Z1.1 0 1).toInt from by have ec_ : (Z1.1 0 1).toInt = (X.1 0 1).toInt := congrArg Int32.toInt (hFZ1.1 0 1 (show (1 : Nat) ∉ [5, 6, 7, 8, 47] from by decide)); omega)).trans (hFZ1.1 2 (ix (Z1.1 0 5)) (show (400 : Nat) ∉ [5, 6, 7, 8, 47] from by decide))) ?_
              refine ok2.bd (t_f_letterOf _ _ _) ?_
              rintro x10 X_26 X_26t ⟨eX_26, eX_26t, hh25⟩
              subst eX_26
              subst eX_26t
              have hh25 : (x10.toInt = (letF (X.1 2 (ix (Z1.1 0 5)))).toInt ∧ 0 ≤ x10.toInt ∧ x10.toInt ≤ 52 ∧ (x10.toInt = 0 ∨ 65 ≤ (X.1 2 (ix (Z1.1 0 5))).toInt)) := hh25
              refine ok2.ite (fun c27 => ?_) (fun c27 => ?_)
              · skip
                refine ok2.bd (t_f_in _ _ _ _ _) ?_
                rintro x12 X_29 X_29t ⟨eX_29, eX_29t, hh28⟩
                subst eX_29
                subst eX_29t
                have hh28 : ((x12.toInt = 1 ∧ (48 : Int) ≤ (X.1 2 (ix (Z1.1 0 5))).toInt ∧ (X.1 2 (ix (Z1.1 0 5))).toInt ≤ (57 : Int)) ∨ (x12.toInt = 0 ∧ ((X.1 2 (ix (Z1.1 0 5))).toInt < (48 : Int) ∨ (57 : Int) < (X.1 2 (ix (Z1.1 0 5))).toInt))) := hh28
                refine ok2.ite (fun c30 => ?_) (fun c30 => ?_)
                · skip
                  refine ok2.bd (t_L_f_sign _ _ _ lv P ((hAZ1.wI 0 6 _ (by decide)).wL 0 47 _) (show 0 ≤ (Z1.1 0 5).toInt ∧ (Z1.1 0 5).toInt < (Z1.1 0 1).toInt ∧ (Z1.1 0 1).toInt ≤ 3000 from by have e0_ : (Z1.1 0 1).toInt = (X.1 0 1).toInt := congrArg Int32.toInt (hFZ1.1 0 1 (show (1 : Nat) ∉ [5, 6, 7, 8, 47] from by decide)); exact ⟨(by omega), (by omega), (by omega)⟩) rfl) ?_
                  rintro r_33 X_32 X_32t ⟨hFh31, hGh31, hAh31, hh31⟩
                  have eh31_0 : (X_32.1 0 1).toInt = (X.1 0 1).toInt := congrArg Int32.toInt ((hFh31.1 0 1 (show (1 : Nat) ∉ [5, 7, 47] from by decide)).trans (hFZ1.1 0 1 (show (1 : Nat) ∉ [5, 6, 7, 8, 47] from by decide)))
                  have hh31 : ((Z1.1 0 5).toInt < (X_32.1 0 5).toInt ∧ (X_32.1 0 5).toInt ≤ (X_32.1 0 1).toInt ∧ 4 ≤ (X_32.1 0 7).toInt ∧ (X_32.1 0 7).toInt ≤ 5) ∧ (X_32t.1 0 6 = X_32.1 0 6) ∧ (X_32t.1 0 7 = X_32.1 0 7) ∧ (X_32t.2.1 0 47 = X_32.2.1 0 47) := hh31
                  obtain ⟨hh31, hh31_d6, hh31_d7, hh31_dT⟩ := hh31
                  exact ok2.ret ⟨((((Fr.rf.tr hFZ1 (by decide)).wI 0 6 _ (show (6 : Nat) ∈ [5, 6, 7, 8, 47] from by decide)).wL 0 47 _ (show (47 : Nat) ∈ [5, 6, 7, 8, 47] from by decide)).tr hFh31 (by decide)), ((((Fr.rf.tr hGZ1 (by decide)).wI 0 6 _ (show (6 : Nat) ∈ [5, 6, 7, 8, 47] from by decide)).wL 0 47 _ (show (47 : Nat) ∈ [5, 6, 7, 8, 47] from by decide)).tr hGh31 (by decide)), hAh31, (show 0 ≤ (X_32.1 0 6).toInt ∧ (X_32.1 0 6).toInt ≤ (X_32.1 0 5).toInt ∧ (X_32.1 0 5).toInt ≤ (X_32.1 0 1).toInt ∧ (X_32.1 0 1).toInt ≤ 3000 ∧ 0 ≤ (X_32.1 0 7).toInt ∧ (X_32.1 0 7).toInt ≤ 5 ∧ ((X_32.1 0 7).toInt = 0 ∨ (X_32.1 0 6).toInt < (X_32.1 0 5).toInt) ∧ (X.1 0 5).toInt ≤ (X_32.1 0 6).toInt ∧ ((X_32.1 0 7).toInt = 1 → 0 ≤ (X_32.1 0 8).toInt ∧ (X_32.1 0 6).toInt + (X_32.1 0 8).toInt ≤ (X_32.1 0 5).toInt) from by have e0_ : (X_32.1 0 6).toInt = (Z1.1 0 5).toInt := congrArg Int32.toInt (hFh31.1 0 6 (show (6 : Nat) ∉ [5, 7, 47] from by decide)); have e1_ : (X_32.1 0 1).toInt = (X.1 0 1).toInt := congrArg Int32.toInt ((hFh31.1 0 1 (show (1 : Nat) ∉ [5, 7, 47] from by decide)).trans (hFZ1.1 0 1 (show (1 : Nat) ∉ [5, 6, 7, 8, 47] from by decide))); have e2_ : (X_32.1 0 8).toInt = (Z1.1 0 8).toInt := congrArg Int32.toInt (hFh31.1 0 8 (show (8 : Nat) ∉ [5, 7, 47] from by decide)); exact ⟨(by omega), (by omega), (by omega), (by omega), (by omega), (by omega), (by omega), (by omega), (fun hq110 => ⟨(by omega), (by omega)⟩)⟩), hh31_d6, hh31_d7, hh31_dT⟩
                · skip
                  refine ok2.letV ?_
                  have lp_f_next_122 : ∀ (n : Nat), ∀ (Z34 Z34t : St), Fr YR [5, 6, 7, 8, 47] X Z34 → Fr YR [5, 6, 7, 8, 47] Xt Z34t → AG lv P Z34 Z34t → ((X.1 0 5).toInt ≤ (Z34.1 0 6).toInt ∧ (Z34.1 0 6).toInt ≤ (Z34.1 0 5).toInt ∧ (Z34.1 0 5).toInt ≤ (X.1 0 1).toInt ∧ (Z34.1 0 7).toInt = 3 ∧ ((Z34.1 0 6).toInt < (Z34.1 0 5).toInt ∨ ((Z34.1 0 5).toInt < (X.1 0 1).toInt ∧ 48 ≤ (X.1 2 (ix (Z34.1 0 5))).toInt ∧ (X.1 2 (ix (Z34.1 0 5))).toInt ≤ 57))) → (Z34t.1 0 6 = Z34.1 0 6) → (Z34t.1 0 7 = Z34.1 0 7) → (Z34t.2.1 0 47 = Z34.2.1 0 47) → (3001 - (Z34.1 0 5).toInt).toNat < n → ok2 (f_next_122 n Z34) (f_next_122 n Z34t) (fun r X1 X1t => Fr YR [5, 6, 7, 8, 47] X X1 ∧ Fr YR [5, 6, 7, 8, 47] Xt X1t ∧ AG lv P X1 X1t ∧ (0 ≤ (X1.1 0 6).toInt ∧ (X1.1 0 6).toInt ≤ (X1.1 0 5).toInt ∧ (X1.1 0 5).toInt ≤ (X1.1 0 1).toInt ∧ (X1.1 0 1).toInt ≤ 3000 ∧ 0 ≤ (X1.1 0 7).toInt ∧ (X1.1 0 7).toInt ≤ 5 ∧ ((X1.1 0 7).toInt = 0 ∨ (X1.1 0 6).toInt < (X1.1 0 5).toInt) ∧ (X.1 0 5).toInt ≤ (X1.1 0 6).toInt ∧ ((X1.1 0 7).toInt = 1 → 0 ≤ (X1.1 0 8).toInt ∧ (X1.1 0 6).toInt + (X1.1 0 8).toInt ≤ (X1.1 0 5).toInt)) ∧ (X1t.1 0 6 = X1.1 0 6) ∧ (X1t.1 0 7 = X1.1 0 7) ∧ (X1t.2.1 0 47 = X1.2.1 0 47)) := by
                    intro n
                    unfold f_next_122
                    refine lp_indN (P := fun (n : Nat) (r_f_next_122 : St → Option (Int32 × St)) => ∀ (Z34 Z34t : St), Fr YR [5, 6, 7, 8, 47] X Z34 → Fr YR [5, 6, 7, 8, 47] Xt Z34t → AG lv P Z34 Z34t → ((X.1 0 5).toInt ≤ (Z34.1 0 6).toInt ∧ (Z34.1 0 6).toInt ≤ (Z34.1 0 5).toInt ∧ (Z34.1 0 5).toInt ≤ (X.1 0 1).toInt ∧ (Z34.1 0 7).toInt = 3 ∧ ((Z34.1 0 6).toInt < (Z34.1 0 5).toInt ∨ ((Z34.1 0 5).toInt < (X.1 0 1).toInt ∧ 48 ≤ (X.1 2 (ix (Z34.1 0 5))).toInt ∧ (X.1 2 (ix (Z34.1 0 5))).toInt ≤ 57))) → (Z34t.1 0 6 = Z34.1 0 6) → (Z34t.1 0 7 = Z34.1 0 7) → (Z34t.2.1 0 47 = Z34.2.1 0 47) → (3001 - (Z34.1 0 5).toInt).toNat < n → ok2 (r_f_next_122 Z34) (r_f_next_122 Z34t) (fun r X1 X1t => Fr YR [5, 6, 7, 8, 47] X X1 ∧ Fr YR [5, 6, 7, 8, 47] Xt X1t ∧ AG lv P X1 X1t ∧ (0 ≤ (X1.1 0 6).toInt ∧ (X1.1 0 6).toInt ≤ (X1.1 0 5).toInt ∧ (X1.1 0 5).toInt ≤ (X1.1 0 1).toInt ∧ (X1.1 0 1).toInt ≤ 3000 ∧ 0 ≤ (X1.1 0 7).toInt ∧ (X1.1 0 7).toInt ≤ 5 ∧ ((X1.1 0 7).toInt = 0 ∨ (X1.1 0 6).toInt < (X1.1 0 5).toInt) ∧ (X.1 0 5).toInt ≤ (X1.1 0 6).toInt ∧ ((X1.1 0 7).toInt = 1 → 0 ≤ (X1.1 0 8).toInt ∧ (X1.1 0 6).toInt + (X1.1 0 8).toInt ≤ (X1.1 0 5).toInt)) ∧ (X1t.1 0 6 = X1.1 0 6) ∧ (X1t.1 0 7 = X1.1 0 7) ∧ (X1t.2.1 0 47 = X1.2.1 0 47))) ?_ ?_ n
                    · intro Z34 Z34t hF hG hA hI hZ34_d6 hZ34_d7 hZ34_dT hm; exact absurd hm (Nat.not_lt_zero _)
                    · intro n r_f_next_122 ih_f_next_122 Z34 Z34t hFZ34 hGZ34 hAZ34 hIZ34 hZ34_d6 hZ34_d7 hZ34_dT hmZ34
                      unfold f_next_122_s
                      refine ok2.letE (v1 := (Z34.1 0 5)) rfl (hAZ34.s0 5 (by decide)) ?_
                      refine ok2.letE (v1 := (X.1 0 1)) (hFZ34.1 0 1 (show (1 : Nat) ∉ [5, 6, 7, 8, 47] from by decide)) ((hAZ34.s0 1 (by decide)).trans (hFZ34.1 0 1 (show (1 : Nat) ∉ [5, 6, 7, 8, 47] from by decide))) ?_
                      refine ok2.ite (fun c35 => ?_) (fun c35 => ?_)
                      · skip
                        exact ok2.ret ⟨(Fr.rf.tr hFZ34 (by decide)), (Fr.rf.tr hGZ34 (by decide)), hAZ34, (show 0 ≤ (Z34.1 0 6).toInt ∧ (Z34.1 0 6).toInt ≤ (Z34.1 0 5).toInt ∧ (Z34.1 0 5).toInt ≤ (Z34.1 0 1).toInt ∧ (Z34.1 0 1).toInt ≤ 3000 ∧ 0 ≤ (Z34.1 0 7).toInt ∧ (Z34.1 0 7).toInt ≤ 5 ∧ ((Z34.1 0 7).toInt = 0 ∨ (Z34.1 0 6).toInt < (Z34.1 0 5).toInt) ∧ (X.1 0 5).toInt ≤ (Z34.1 0 6).toInt ∧ ((Z34.1 0 7).toInt = 1 → 0 ≤ (Z34.1 0 8).toInt ∧ (Z34.1 0 6).toInt + (Z34.1 0 8).toInt ≤ (Z34.1 0 5).toInt) from by have e0_ : (Z34.1 0 1).toInt = (X.1 0 1).toInt := congrArg Int32.toInt (hFZ34.1 0 1 (show (1 : Nat) ∉ [5, 6, 7, 8, 47] from by decide)); exact ⟨(by omega), (by omega), (by omega), (by omega), (by omega), (by omega), (by omega), (by omega), (fun hq105 => ⟨(by omega), (by omega)⟩)⟩), hZ34_d6, hZ34_d7, hZ34_dT⟩
                      · skip
                        refine ok2.letE (v1 := (Z34.1 0 5)) rfl (hAZ34.s0 5 (by decide)) ?_
                        refine ok2.ck (show 0 ≤ (Z34.1 0 5).toInt ∧ (Z34.1 0 5).toInt < ((3000 : Nat) : Int) from by omega) ?_
                        refine ok2.letE (v1 := (X.1 2 (ix (Z34.1 0 5)))) (hFZ34.1 2 (ix (Z34.1 0 5)) (show (400 : Nat) ∉ [5, 6, 7, 8, 47] from by decide)) ((hAZ34.ri 2 1 (by decide) (Nat.zero_le _) (Z34.1 0 5) (show 0 ≤ (Z34.1 0 5).toInt ∧ (Z34.1 0 5).toInt < (Z34.1 0 1).toInt from by have ec_ : (Z34.1 0 1).toInt = (X.1 0 1).toInt := congrArg Int32.toInt (hFZ34.1 0 1 (show (1 : Nat) ∉ [5, 6, 7, 8, 47] from by decide)); omega)).trans (hFZ34.1 2 (ix (Z34.1 0 5)) (show (400 : Nat) ∉ [5, 6, 7, 8, 47] from by decide))) ?_
                        refine ok2.bd (t_f_in _ _ _ _ _) ?_
                        rintro x20 X_37 X_37t ⟨eX_37, eX_37t, hh36⟩
                        subst eX_37
                        subst eX_37t
                        have hh36 : ((x20.toInt = 1 ∧ (48 : Int) ≤ (X.1 2 (ix (Z34.1 0 5))).toInt ∧ (X.1 2 (ix (Z34.1 0 5))).toInt ≤ (57 : Int)) ∨ (x20.toInt = 0 ∧ ((X.1 2 (ix (Z34.1 0 5))).toInt < (48 : Int) ∨ (57 : Int) < (X.1 2 (ix (Z34.1 0 5))).toInt))) := hh36
                        refine ok2.ite (fun c38 => ?_) (fun c38 => ?_)
                        · skip
                          exact ok2.ret ⟨(Fr.rf.tr hFZ34 (by decide)), (Fr.rf.tr hGZ34 (by decide)), hAZ34, (show 0 ≤ (Z34.1 0 6).toInt ∧ (Z34.1 0 6).toInt ≤ (Z34.1 0 5).toInt ∧ (Z34.1 0 5).toInt ≤ (Z34.1 0 1).toInt ∧ (Z34.1 0 1).toInt ≤ 3000 ∧ 0 ≤ (Z34.1 0 7).toInt ∧ (Z34.1 0 7).toInt ≤ 5 ∧ ((Z34.1 0 7).toInt = 0 ∨ (Z34.1 0 6).toInt < (Z34.1 0 5).toInt) ∧ (X.1 0 5).toInt ≤ (Z34.1 0 6).toInt ∧ ((Z34.1 0 7).toInt = 1 → 0 ≤ (Z34.1 0 8).toInt ∧ (Z34.1 0 6).toInt + (Z34.1 0 8).toInt ≤ (Z34.1 0 5).toInt) from by have e0_ : (Z34.1 0 1).toInt = (X.1 0 1).toInt := congrArg Int32.toInt (hFZ34.1 0 1 (show (1 : Nat) ∉ [5, 6, 7, 8, 47] from by decide)); exact ⟨(by omega), (by omega), (by omega), (by omega), (by omega), (by omega), (by omega), (by omega), (fun hq105 => ⟨(by omega), (by omega)⟩)⟩), hZ34_d6, hZ34_d7, hZ34_dT⟩
                        · skip
                          refine ok2.anyE hZ34_dT (fun y22 => ?_)
                          refine ok2.any (fun x23 => ?_)
                          refine ok2.ite (fun c39 => ?_) (fun c39 => ?_)
                          · skip
                            refine ok2.anyE hZ34_dT (fun y24 => ?_)
                            refine ok2.any (fun y25 => ?_)
                            refine ok2.letE (v1 := (Z34.1 0 5)) rfl (hAZ34.s0 5 (by decide)) ?_
                            refine ok2.ck (show 0 ≤ (Z34.1 0 5).toInt ∧ (Z34.1 0 5).toInt < ((3000 : Nat) : Int) from by omega) ?_
                            refine ok2.letE (v1 := (X.1 2 (ix (Z34.1 0 5)))) (hFZ34.1 2 (ix (Z34.1 0 5)) (show (400 : Nat) ∉ [5, 6, 7, 8, 47] from by decide)) ((hAZ34.ri 2 1 (by decide) (Nat.zero_le _) (Z34.1 0 5) (show 0 ≤ (Z34.1 0 5).toInt ∧ (Z34.1 0 5).toInt < (Z34.1 0 1).toInt from by have ec_ : (Z34.1 0 1).toInt = (X.1 0 1).toInt := congrArg Int32.toInt (hFZ34.1 0 1 (show (1 : Nat) ∉ [5, 6, 7, 8, 47] from by decide)); omega)).trans (hFZ34.1 2 (ix (Z34.1 0 5)) (show (400 : Nat) ∉ [5, 6, 7, 8, 47] from by decide))) ?_
                            refine ok2.any (fun y28 => ?_)
                            refine ok2.any (fun y29 => ?_)
                            refine ok2.any (fun y30 => ?_)
                            unfold f_next_194
                            refine ok2.letV ?_
                            refine ok2.letE (v1 := (Z34.1 0 5)) rfl (hAZ34.s0 5 (by decide)) ?_
                            refine ok2.add (show _ ≤ (Z34.1 0 5).toInt + (1 : Int) ∧ (Z34.1 0 5).toInt + (1 : Int) ≤ _ from by omega) (fun x33 hx33 => ?_)
                            have hx33 : x33.toInt = (Z34.1 0 5).toInt + (1 : Int) := hx33
                            refine ok2.letV ?_
                            exact ih_f_next_122 (wI (wL Z34 0 47 y30) 0 5 x33) (wI (wL Z34t 0 47 y30) 0 5 x33) (((Fr.rf.tr hFZ34 (by decide)).wL 0 47 _ (show (47 : Nat) ∈ [5, 6, 7, 8, 47] from by decide)).wI 0 5 _ (show (5 : Nat) ∈ [5, 6, 7, 8, 47] from by decide)) (((Fr.rf.tr hGZ34 (by decide)).wL 0 47 _ (show (47 : Nat) ∈ [5, 6, 7, 8, 47] from by decide)).wI 0 5 _ (show (5 : Nat) ∈ [5, 6, 7, 8, 47] from by decide)) ((hAZ34.wL 0 47 _).wI 0 5 _ (by decide)) (show (X.1 0 5).toInt ≤ (Z34.1 0 6).toInt ∧ (Z34.1 0 6).toInt ≤ x33.toInt ∧ x33.toInt ≤ (X.1 0 1).toInt ∧ (Z34.1 0 7).toInt = 3 ∧ ((Z34.1 0 6).toInt < x33.toInt ∨ (x33.toInt < (X.1 0 1).toInt ∧ 48 ≤ (X.1 2 (ix x33)).toInt ∧ (X.1 2 (ix x33)).toInt ≤ 57)) from by exact ⟨(by omega), (by omega), (by omega), (by omega), (by omega)⟩) hZ34_d6 hZ34_d7 rfl (show (3001 - x33.toInt).toNat < n from by omega)
                          · skip
                            refine ok2.anyE hZ34_dT (fun y35 => ?_)
                            unfold f_next_194
                            refine ok2.letV ?_
                            refine ok2.letE (v1 := (Z34.1 0 5)) rfl (hAZ34.s0 5 (by decide)) ?_
                            refine ok2.add (show _ ≤ (Z34.1 0 5).toInt + (1 : Int) ∧ (Z34.1 0 5).toInt + (1 : Int) ≤ _ from by omega) (fun x33 hx33 => ?_)
                            have hx33 : x33.toInt = (Z34.1 0 5).toInt + (1 : Int) := hx33
                            refine ok2.letV ?_
                            exact ih_f_next_122 (wI (wL Z34 0 47 y35) 0 5 x33) (wI (wL Z34t 0 47 y35) 0 5 x33) (((Fr.rf.tr hFZ34 (by decide)).wL 0 47 _ (show (47 : Nat) ∈ [5, 6, 7, 8, 47] from by decide)).wI 0 5 _ (show (5 : Nat) ∈ [5, 6, 7, 8, 47] from by decide)) (((Fr.rf.tr hGZ34 (by decide)).wL 0 47 _ (show (47 : Nat) ∈ [5, 6, 7, 8, 47] from by decide)).wI 0 5 _ (show (5 : Nat) ∈ [5, 6, 7, 8, 47] from by decide)) ((hAZ34.wL 0 47 _).wI 0 5 _ (by decide)) (show (X.1 0 5).toInt ≤ (Z34.1 0 6).toInt ∧ (Z34.1 0 6).toInt ≤ x33.toInt ∧ x33.toInt ≤ (X.1 0 1).toInt ∧ (Z34.1 0 7).toInt = 3 ∧ ((Z34.1 0 6).toInt < x33.toInt ∨ (x33.toInt < (X.1 0 1).toInt ∧ 48 ≤ (X.1 2 (ix x33)).toInt ∧ (X.1 2 (ix x33)).toInt ≤ 57)) from by exact ⟨(by omega), (by omega), (by omega), (by omega), (by omega)⟩) hZ34_d6 hZ34_d7 rfl (show (3001 - x33.toInt).toNat < n from by omega)
                  exact lp_f_next_122 BIG (wI (wL (wI Z1 0 6 (Z1.1 0 5)) 0 47 ((0 : Int64))) 0 7 ((3 : Int32))) (wI (wL (wI Z1t 0 6 (Z1.1 0 5)) 0 47 ((0 : Int64))) 0 7 ((3 : Int32))) ((((Fr.rf.tr hFZ1 (by decide)).wI 0 6 _ (show (6 : Nat) ∈ [5, 6, 7, 8, 47] from by decide)).wL 0 47 _ (show (47 : Nat) ∈ [5, 6, 7, 8, 47] from by decide)).wI 0 7 _ (show (7 : Nat) ∈ [5, 6, 7, 8, 47] from by decide)) ((((Fr.rf.tr hGZ1 (by decide)).wI 0 6 _ (show (6 : Nat) ∈ [5, 6, 7, 8, 47] from by decide)).wL 0 47 _ (show (47 : Nat) ∈ [5, 6, 7, 8, 47] from by decide)).wI 0 7 _ (show (7 : Nat) ∈ [5, 6, 7, 8, 47] from by decide)) (((hAZ1.wI 0 6 _ (by decide)).wL 0 47 _).wI 0 7 _ (by decide)) (show (X.1 0 5).toInt ≤ (Z1.1 0 5).toInt ∧ (Z1.1 0 5).toInt ≤ (Z1.1 0 5).toInt ∧ (Z1.1 0 5).toInt ≤ (X.1 0 1).toInt ∧ (3 : Int) = 3 ∧ ((Z1.1 0 5).toInt < (Z1.1 0 5).toInt ∨ ((Z1.1 0 5).toInt < (X.1 0 1).toInt ∧ 48 ≤ (X.1 2 (ix (Z1.1 0 5))).toInt ∧ (X.1 2 (ix (Z1.1 0 5))).toInt ≤ 57)) from by exact ⟨(by omega), (by omega), (by omega), (by omega), (by omega)⟩) rfl rfl rfl (ltBIG (show (3001 - (Z1.1 0 5).toInt).toNat < 100000 from by omega))
              · skip
                refine ok2.bd (t_L_f_name  _ _ lv P ((hAZ1.wI 0 6 _ (by decide)).wL 0 47 _) (show 0 ≤ (Z1.1 0 5).toInt ∧ (Z1.1 0 5).toInt < (Z1.1 0 1).toInt ∧ (Z1.1 0 1).toInt ≤ 3000 ∧ 0 < (letF (Z1.1 2 (ix (Z1.1 0 5)))).toInt from by have e0_ : (Z1.1 0 1).toInt = (X.1 0 1).toInt := congrArg Int32.toInt (hFZ1.1 0 1 (show (1 : Nat) ∉ [5, 6, 7, 8, 47] from by decide)); rw [show (Z1.1 2 (ix (Z1.1 0 5))) = (X.1 2 (ix (Z1.1 0 5))) from (hFZ1.1 2 (ix (Z1.1 0 5)) (show (400 : Nat) ∉ [5, 6, 7, 8, 47] from by decide))]; exact ⟨(by omega), (by omega), (by omega), (by omega)⟩) rfl rfl) ?_
                rintro r_42 X_41 X_41t ⟨hFh40, hGh40, hAh40, hh40⟩
                have eh40_0 : (X_41.1 0 1).toInt = (X.1 0 1).toInt := congrArg Int32.toInt ((hFh40.1 0 1 (show (1 : Nat) ∉ [5, 7, 8, 47] from by decide)).trans (hFZ1.1 0 1 (show (1 : Nat) ∉ [5, 6, 7, 8, 47] from by decide)))
                have hh40 : ((Z1.1 0 5).toInt < (X_41.1 0 5).toInt ∧ (X_41.1 0 5).toInt ≤ (X_41.1 0 1).toInt ∧ 1 ≤ (X_41.1 0 7).toInt ∧ (X_41.1 0 7).toInt ≤ 5 ∧ 0 ≤ (X_41.1 0 8).toInt ∧ (X_41.1 0 8).toInt ≤ (X_41.1 0 5).toInt - (Z1.1 0 5).toInt) ∧ (X_41t.1 0 6 = X_41.1 0 6) ∧ (X_41t.1 0 7 = X_41.1 0 7) ∧ (X_41t.2.1 0 47 = X_41.2.1 0 47) := hh40
                obtain ⟨hh40, hh40_d6, hh40_d7, hh40_dT⟩ := hh40
                exact ok2.ret ⟨((((Fr.rf.tr hFZ1 (by decide)).wI 0 6 _ (show (6 : Nat) ∈ [5, 6, 7, 8, 47] from by decide)).wL 0 47 _ (show (47 : Nat) ∈ [5, 6, 7, 8, 47] from by decide)).tr hFh40 (by decide)), ((((Fr.rf.tr hGZ1 (by decide)).wI 0 6 _ (show (6 : Nat) ∈ [5, 6, 7, 8, 47] from by decide)).wL 0 47 _ (show (47 : Nat) ∈ [5, 6, 7, 8, 47] from by decide)).tr hGh40 (by decide)), hAh40, (show 0 ≤ (X_41.1 0 6).toInt ∧ (X_41.1 0 6).toInt ≤ (X_41.1 0 5).toInt ∧ (X_41.1 0 5).toInt ≤ (X_41.1 0 1).toInt ∧ (X_41.1 0 1).toInt ≤ 3000 ∧ 0 ≤ (X_41.1 0 7).toInt ∧ (X_41.1 0 7).toInt ≤ 5 ∧ ((X_41.1 0 7).toInt = 0 ∨ (X_41.1 0 6).toInt < (X_41.1 0 5).toInt) ∧ (X.1 0 5).toInt ≤ (X_41.1 0 6).toInt ∧ ((X_41.1 0 7).toInt = 1 → 0 ≤ (X_41.1 0 8).toInt ∧ (X_41.1 0 6).toInt + (X_41.1 0 8).toInt ≤ (X_41.1 0 5).toInt) from by have e0_ : (X_41.1 0 6).toInt = (Z1.1 0 5).toInt := congrArg Int32.toInt (hFh40.1 0 6 (show (6 : Nat) ∉ [5, 7, 8, 47] from by decide)); have e1_ : (X_41.1 0 1).toInt = (X.1 0 1).toInt := congrArg Int32.toInt ((hFh40.1 0 1 (show (1 : Nat) ∉ [5, 7, 8, 47] from by decide)).trans (hFZ1.1 0 1 (show (1 : Nat) ∉ [5, 6, 7, 8, 47] from by decide))); exact ⟨(by omega), (by omega), (by omega), (by omega), (by omega), (by omega), (by omega), (by omega), (fun hq110 => ⟨(by omega), (by omega)⟩)⟩), hh40_d6, hh40_d7, hh40_dT⟩
  exact lp_f_next_0 BIG X Xt Fr.rf Fr.rf hag (show (X.1 0 5).toInt ≤ (X.1 0 5).toInt ∧ (X.1 0 5).toInt ≤ (X.1 0 1).toInt from by exact ⟨(by omega), (by omega)⟩) (ltBIG (show (3001 - (X.1 0 5).toInt).toNat < 100000 from by omega))
