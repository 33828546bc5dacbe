set_option maxHeartbeats 4000000 in
set_option maxRecDepth 100000 in
theorem s_f_wordOf (q0 : Int64) (X : St) : ok (f_wordOf q0 X) (fun r X1 => Fr YR [] X X1 ∧ (-1 ≤ r.toInt ∧ r.toInt ≤ 14)) := by
  unfold f_wordOf
  refine ok.any (fun x1 => ?_)
  refine ok.ite (fun c1 => ?_) (fun c1 => ?_)
  · skip
    refine ok.any (fun x2 => ?_)
    refine ok.ite (fun c2 => ?_) (fun c2 => ?_)
    · skip
      exact ok.ret ⟨Fr.rf, (show -1 ≤ (14 : Int) ∧ (14 : Int) ≤ 14 from by omega)⟩
    · skip
      refine ok.ite (fun c3 => ?_) (fun c3 => ?_)
      · skip
        exact ok.ret ⟨Fr.rf, (show -1 ≤ (3 : Int) ∧ (3 : Int) ≤ 14 from by omega)⟩
      · skip
        refine ok.ite (fun c4 => ?_) (fun c4 => ?_)
        · skip
          exact ok.ret ⟨Fr.rf, (show -1 ≤ (2 : Int) ∧ (2 : Int) ≤ 14 from by omega)⟩
        · skip
          refine ok.ite (fun c5 => ?_) (fun c5 => ?_)
          · skip
            exact ok.ret ⟨Fr.rf, (show -1 ≤ (13 : Int) ∧ (13 : Int) ≤ 14 from by omega)⟩
          · skip
            refine ok.ite (fun c6 => ?_) (fun c6 => ?_)
            · skip
              exact ok.ret ⟨Fr.rf, (show -1 ≤ (11 : Int) ∧ (11 : Int) ≤ 14 from by omega)⟩
            · skip
              refine ok.ite (fun c7 => ?_) (fun c7 => ?_)
              · skip
                exact ok.ret ⟨Fr.rf, (show -1 ≤ (1 : Int) ∧ (1 : Int) ≤ 14 from by omega)⟩
              · skip
                refine ok.ite (fun c8 => ?_) (fun c8 => ?_)
                · skip
                  exact ok.ret ⟨Fr.rf, (show -1 ≤ (8 : Int) ∧ (8 : Int) ≤ 14 from by omega)⟩
                · skip
                  refine ok.ite (fun c9 => ?_) (fun c9 => ?_)
                  · skip
                    exact ok.ret ⟨Fr.rf, (show -1 ≤ (5 : Int) ∧ (5 : Int) ≤ 14 from by omega)⟩
                  · skip
                    refine ok.ite (fun c10 => ?_) (fun c10 => ?_)
                    · skip
                      exact ok.ret ⟨Fr.rf, (show -1 ≤ (12 : Int) ∧ (12 : Int) ≤ 14 from by omega)⟩
                    · skip
                      refine ok.ite (fun c11 => ?_) (fun c11 => ?_)
                      · skip
                        exact ok.ret ⟨Fr.rf, (show -1 ≤ (0 : Int) ∧ (0 : Int) ≤ 14 from by omega)⟩
                      · skip
                        refine ok.ite (fun c12 => ?_) (fun c12 => ?_)
                        · skip
                          exact ok.ret ⟨Fr.rf, (show -1 ≤ (9 : Int) ∧ (9 : Int) ≤ 14 from by omega)⟩
                        · skip
                          refine ok.ite (fun c13 => ?_) (fun c13 => ?_)
                          · skip
                            exact ok.ret ⟨Fr.rf, (show -1 ≤ (4 : Int) ∧ (4 : Int) ≤ 14 from by omega)⟩
                          · skip
                            refine ok.ite (fun c14 => ?_) (fun c14 => ?_)
                            · skip
                              exact ok.ret ⟨Fr.rf, (show -1 ≤ (6 : Int) ∧ (6 : Int) ≤ 14 from by omega)⟩
                            · skip
                              refine ok.ite (fun c15 => ?_) (fun c15 => ?_)
                              · skip
                                exact ok.ret ⟨Fr.rf, (show -1 ≤ (7 : Int) ∧ (7 : Int) ≤ 14 from by omega)⟩
                              · skip
                                refine ok.ite (fun c16 => ?_) (fun c16 => ?_)
                                · skip
                                  exact ok.ret ⟨Fr.rf, (show -1 ≤ (10 : Int) ∧ (10 : Int) ≤ 14 from by omega)⟩
                                · skip
                                  exact ok.ret ⟨Fr.rf, (show -1 ≤ (-1 : Int) ∧ (-1 : Int) ≤ 14 from by omega)⟩
  · skip
    exact ok.ret ⟨Fr.rf, (show -1 ≤ (-1 : Int) ∧ (-1 : Int) ≤ 14 from by omega)⟩
set_option maxHeartbeats 4000000 in
set_option maxRecDepth 100000 in
theorem s_f_sign (p1 : Int32) (X : St) (hy0 : 0 ≤ (X.1 0 5).toInt ∧ (X.1 0 5).toInt < (X.1 0 1).toInt ∧ (X.1 0 1).toInt ≤ 3000) : ok (f_sign p1 X) (fun r X1 => Fr YR [5, 7, 47] X X1 ∧ ((X.1 0 5).toInt < (X1.1 0 5).toInt ∧ (X1.1 0 5).toInt ≤ (X1.1 0 1).toInt ∧ 1 ≤ (X1.1 0 7).toInt ∧ (X1.1 0 7).toInt ≤ 5)) := by
  unfold f_sign
  refine ok.letV ?_
  refine ok.any (fun y2 => ?_)
  refine ok.letV ?_
  refine ok.letE (v1 := (X.1 0 5)) rfl ?_
  refine ok.add (show _ ≤ (X.1 0 5).toInt + (1 : Int) ∧ (X.1 0 5).toInt + (1 : Int) ≤ _ from by omega) (fun x5 hx5 => ?_)
  have hx5 : x5.toInt = (X.1 0 5).toInt + (1 : Int) := hx5
  refine ok.letV ?_
  refine ok.ite (fun c1 => ?_) (fun c1 => ?_)
  · skip
    refine ok.letE (v1 := x5) rfl ?_
    refine ok.letE (v1 := (X.1 0 1)) rfl ?_
    refine ok.ite (fun c2 => ?_) (fun c2 => ?_)
    · skip
      unfold f_sign_70
      refine ok.ite (fun c3 => ?_) (fun c3 => ?_)
      · skip
        exact ok.ret ⟨(((Fr.rf.wI 0 7 _ (show (7 : Nat) ∈ [5, 7, 47] from by decide)).wL 0 47 _ (show (47 : Nat) ∈ [5, 7, 47] from by decide)).wI 0 5 _ (show (5 : Nat) ∈ [5, 7, 47] from by decide)), (show (X.1 0 5).toInt < x5.toInt ∧ x5.toInt ≤ (X.1 0 1).toInt ∧ 1 ≤ (4 : Int) ∧ (4 : Int) ≤ 5 from by omega)⟩
      · skip
        refine ok.ite (fun c4 => ?_) (fun c4 => ?_)
        · skip
          exact ok.ret ⟨(((Fr.rf.wI 0 7 _ (show (7 : Nat) ∈ [5, 7, 47] from by decide)).wL 0 47 _ (show (47 : Nat) ∈ [5, 7, 47] from by decide)).wI 0 5 _ (show (5 : Nat) ∈ [5, 7, 47] from by decide)), (show (X.1 0 5).toInt < x5.toInt ∧ x5.toInt ≤ (X.1 0 1).toInt ∧ 1 ≤ (4 : Int) ∧ (4 : Int) ≤ 5 from by omega)⟩
        · skip
          refine ok.ite (fun c5 => ?_) (fun c5 => ?_)
          · skip
            exact ok.ret ⟨(((Fr.rf.wI 0 7 _ (show (7 : Nat) ∈ [5, 7, 47] from by decide)).wL 0 47 _ (show (47 : Nat) ∈ [5, 7, 47] from by decide)).wI 0 5 _ (show (5 : Nat) ∈ [5, 7, 47] from by decide)), (show (X.1 0 5).toInt < x5.toInt ∧ x5.toInt ≤ (X.1 0 1).toInt ∧ 1 ≤ (4 : Int) ∧ (4 : Int) ≤ 5 from by omega)⟩
          · skip
            refine ok.ite (fun c6 => ?_) (fun c6 => ?_)
            · skip
              exact ok.ret ⟨(((Fr.rf.wI 0 7 _ (show (7 : Nat) ∈ [5, 7, 47] from by decide)).wL 0 47 _ (show (47 : Nat) ∈ [5, 7, 47] from by decide)).wI 0 5 _ (show (5 : Nat) ∈ [5, 7, 47] from by decide)), (show (X.1 0 5).toInt < x5.toInt ∧ x5.toInt ≤ (X.1 0 1).toInt ∧ 1 ≤ (4 : Int) ∧ (4 : Int) ≤ 5 from by omega)⟩
            · skip
              refine ok.ite (fun c7 => ?_) (fun c7 => ?_)
              · skip
                exact ok.ret ⟨(((Fr.rf.wI 0 7 _ (show (7 : Nat) ∈ [5, 7, 47] from by decide)).wL 0 47 _ (show (47 : Nat) ∈ [5, 7, 47] from by decide)).wI 0 5 _ (show (5 : Nat) ∈ [5, 7, 47] from by decide)), (show (X.1 0 5).toInt < x5.toInt ∧ x5.toInt ≤ (X.1 0 1).toInt ∧ 1 ≤ (4 : Int) ∧ (4 : Int) ≤ 5 from by omega)⟩
              · skip
                refine ok.ite (fun c8 => ?_) (fun c8 => ?_)
                · skip
                  exact ok.ret ⟨(((Fr.rf.wI 0 7 _ (show (7 : Nat) ∈ [5, 7, 47] from by decide)).wL 0 47 _ (show (47 : Nat) ∈ [5, 7, 47] from by decide)).wI 0 5 _ (show (5 : Nat) ∈ [5, 7, 47] from by decide)), (show (X.1 0 5).toInt < x5.toInt ∧ x5.toInt ≤ (X.1 0 1).toInt ∧ 1 ≤ (4 : Int) ∧ (4 : Int) ≤ 5 from by omega)⟩
                · skip
                  refine ok.ite (fun c9 => ?_) (fun c9 => ?_)
                  · skip
                    exact ok.ret ⟨(((Fr.rf.wI 0 7 _ (show (7 : Nat) ∈ [5, 7, 47] from by decide)).wL 0 47 _ (show (47 : Nat) ∈ [5, 7, 47] from by decide)).wI 0 5 _ (show (5 : Nat) ∈ [5, 7, 47] from by decide)), (show (X.1 0 5).toInt < x5.toInt ∧ x5.toInt ≤ (X.1 0 1).toInt ∧ 1 ≤ (4 : Int) ∧ (4 : Int) ≤ 5 from by omega)⟩
                  · skip
                    refine ok.ite (fun c10 => ?_) (fun c10 => ?_)
                    · skip
                      exact ok.ret ⟨(((Fr.rf.wI 0 7 _ (show (7 : Nat) ∈ [5, 7, 47] from by decide)).wL 0 47 _ (show (47 : Nat) ∈ [5, 7, 47] from by decide)).wI 0 5 _ (show (5 : Nat) ∈ [5, 7, 47] from by decide)), (show (X.1 0 5).toInt < x5.toInt ∧ x5.toInt ≤ (X.1 0 1).toInt ∧ 1 ≤ (4 : Int) ∧ (4 : Int) ≤ 5 from by omega)⟩
                    · skip
                      refine ok.ite (fun c11 => ?_) (fun c11 => ?_)
                      · skip
                        exact ok.ret ⟨(((Fr.rf.wI 0 7 _ (show (7 : Nat) ∈ [5, 7, 47] from by decide)).wL 0 47 _ (show (47 : Nat) ∈ [5, 7, 47] from by decide)).wI 0 5 _ (show (5 : Nat) ∈ [5, 7, 47] from by decide)), (show (X.1 0 5).toInt < x5.toInt ∧ x5.toInt ≤ (X.1 0 1).toInt ∧ 1 ≤ (4 : Int) ∧ (4 : Int) ≤ 5 from by omega)⟩
                      · skip
                        refine ok.ite (fun c12 => ?_) (fun c12 => ?_)
                        · skip
                          exact ok.ret ⟨(((Fr.rf.wI 0 7 _ (show (7 : Nat) ∈ [5, 7, 47] from by decide)).wL 0 47 _ (show (47 : Nat) ∈ [5, 7, 47] from by decide)).wI 0 5 _ (show (5 : Nat) ∈ [5, 7, 47] from by decide)), (show (X.1 0 5).toInt < x5.toInt ∧ x5.toInt ≤ (X.1 0 1).toInt ∧ 1 ≤ (4 : Int) ∧ (4 : Int) ≤ 5 from by omega)⟩
                        · skip
                          refine ok.ite (fun c13 => ?_) (fun c13 => ?_)
                          · skip
                            exact ok.ret ⟨(((Fr.rf.wI 0 7 _ (show (7 : Nat) ∈ [5, 7, 47] from by decide)).wL 0 47 _ (show (47 : Nat) ∈ [5, 7, 47] from by decide)).wI 0 5 _ (show (5 : Nat) ∈ [5, 7, 47] from by decide)), (show (X.1 0 5).toInt < x5.toInt ∧ x5.toInt ≤ (X.1 0 1).toInt ∧ 1 ≤ (4 : Int) ∧ (4 : Int) ≤ 5 from by omega)⟩
                          · skip
                            refine ok.ite (fun c14 => ?_) (fun c14 => ?_)
                            · skip
                              exact ok.ret ⟨(((Fr.rf.wI 0 7 _ (show (7 : Nat) ∈ [5, 7, 47] from by decide)).wL 0 47 _ (show (47 : Nat) ∈ [5, 7, 47] from by decide)).wI 0 5 _ (show (5 : Nat) ∈ [5, 7, 47] from by decide)), (show (X.1 0 5).toInt < x5.toInt ∧ x5.toInt ≤ (X.1 0 1).toInt ∧ 1 ≤ (4 : Int) ∧ (4 : Int) ≤ 5 from by omega)⟩
                            · skip
                              refine ok.ite (fun c15 => ?_) (fun c15 => ?_)
                              · skip
                                exact ok.ret ⟨(((Fr.rf.wI 0 7 _ (show (7 : Nat) ∈ [5, 7, 47] from by decide)).wL 0 47 _ (show (47 : Nat) ∈ [5, 7, 47] from by decide)).wI 0 5 _ (show (5 : Nat) ∈ [5, 7, 47] from by decide)), (show (X.1 0 5).toInt < x5.toInt ∧ x5.toInt ≤ (X.1 0 1).toInt ∧ 1 ≤ (4 : Int) ∧ (4 : Int) ≤ 5 from by omega)⟩
                              · skip
                                refine ok.ite (fun c16 => ?_) (fun c16 => ?_)
                                · skip
                                  exact ok.ret ⟨(((Fr.rf.wI 0 7 _ (show (7 : Nat) ∈ [5, 7, 47] from by decide)).wL 0 47 _ (show (47 : Nat) ∈ [5, 7, 47] from by decide)).wI 0 5 _ (show (5 : Nat) ∈ [5, 7, 47] from by decide)), (show (X.1 0 5).toInt < x5.toInt ∧ x5.toInt ≤ (X.1 0 1).toInt ∧ 1 ≤ (4 : Int) ∧ (4 : Int) ≤ 5 from by omega)⟩
                                · skip
                                  refine ok.ite (fun c17 => ?_) (fun c17 => ?_)
                                  · skip
                                    exact ok.ret ⟨(((Fr.rf.wI 0 7 _ (show (7 : Nat) ∈ [5, 7, 47] from by decide)).wL 0 47 _ (show (47 : Nat) ∈ [5, 7, 47] from by decide)).wI 0 5 _ (show (5 : Nat) ∈ [5, 7, 47] from by decide)), (show (X.1 0 5).toInt < x5.toInt ∧ x5.toInt ≤ (X.1 0 1).toInt ∧ 1 ≤ (4 : Int) ∧ (4 : Int) ≤ 5 from by omega)⟩
                                  · skip
                                    refine ok.ite (fun c18 => ?_) (fun c18 => ?_)
                                    · skip
                                      exact ok.ret ⟨(((Fr.rf.wI 0 7 _ (show (7 : Nat) ∈ [5, 7, 47] from by decide)).wL 0 47 _ (show (47 : Nat) ∈ [5, 7, 47] from by decide)).wI 0 5 _ (show (5 : Nat) ∈ [5, 7, 47] from by decide)), (show (X.1 0 5).toInt < x5.toInt ∧ x5.toInt ≤ (X.1 0 1).toInt ∧ 1 ≤ (4 : Int) ∧ (4 : Int) ≤ 5 from by omega)⟩
                                    · skip
                                      refine ok.ite (fun c19 => ?_) (fun c19 => ?_)
                                      · skip
                                        exact ok.ret ⟨(((Fr.rf.wI 0 7 _ (show (7 : Nat) ∈ [5, 7, 47] from by decide)).wL 0 47 _ (show (47 : Nat) ∈ [5, 7, 47] from by decide)).wI 0 5 _ (show (5 : Nat) ∈ [5, 7, 47] from by decide)), (show (X.1 0 5).toInt < x5.toInt ∧ x5.toInt ≤ (X.1 0 1).toInt ∧ 1 ≤ (4 : Int) ∧ (4 : Int) ≤ 5 from by omega)⟩
                                      · skip
                                        refine ok.letV ?_
                                        exact ok.ret ⟨((((Fr.rf.wI 0 7 _ (show (7 : Nat) ∈ [5, 7, 47] from by decide)).wL 0 47 _ (show (47 : Nat) ∈ [5, 7, 47] from by decide)).wI 0 5 _ (show (5 : Nat) ∈ [5, 7, 47] from by decide)).wI 0 7 _ (show (7 : Nat) ∈ [5, 7, 47] from by decide)), (show (X.1 0 5).toInt < x5.toInt ∧ x5.toInt ≤ (X.1 0 1).toInt ∧ 1 ≤ (5 : Int) ∧ (5 : Int) ≤ 5 from by omega)⟩
    · skip
      refine ok.letE (v1 := x5) rfl ?_
      refine ok.ck (show 0 ≤ x5.toInt ∧ x5.toInt < ((3000 : Nat) : Int) from by omega) ?_
      refine ok.letE (v1 := (X.1 2 (ix x5))) rfl ?_
      refine ok.ite (fun c20 => ?_) (fun c20 => ?_)
      · skip
        refine ok.letV ?_
        refine ok.letE (v1 := x5) rfl ?_
        refine ok.add (show _ ≤ x5.toInt + (1 : Int) ∧ x5.toInt + (1 : Int) ≤ _ from by omega) (fun x31 hx31 => ?_)
        have hx31 : x31.toInt = x5.toInt + (1 : Int) := hx31
        refine ok.letV ?_
        exact ok.ret ⟨(((((Fr.rf.wI 0 7 _ (show (7 : Nat) ∈ [5, 7, 47] from by decide)).wL 0 47 _ (show (47 : Nat) ∈ [5, 7, 47] from by decide)).wI 0 5 _ (show (5 : Nat) ∈ [5, 7, 47] from by decide)).wL 0 47 _ (show (47 : Nat) ∈ [5, 7, 47] from by decide)).wI 0 5 _ (show (5 : Nat) ∈ [5, 7, 47] from by decide)), (show (X.1 0 5).toInt < x31.toInt ∧ x31.toInt ≤ (X.1 0 1).toInt ∧ 1 ≤ (4 : Int) ∧ (4 : Int) ≤ 5 from by omega)⟩
      · skip
        unfold f_sign_70
        refine ok.ite (fun c21 => ?_) (fun c21 => ?_)
        · skip
          exact ok.ret ⟨(((Fr.rf.wI 0 7 _ (show (7 : Nat) ∈ [5, 7, 47] from by decide)).wL 0 47 _ (show (47 : Nat) ∈ [5, 7, 47] from by decide)).wI 0 5 _ (show (5 : Nat) ∈ [5, 7, 47] from by decide)), (show (X.1 0 5).toInt < x5.toInt ∧ x5.toInt ≤ (X.1 0 1).toInt ∧ 1 ≤ (4 : Int) ∧ (4 : Int) ≤ 5 from by omega)⟩
        · skip
          refine ok.ite (fun c22 => ?_) (fun c22 => ?_)
          · skip
            exact ok.ret ⟨(((Fr.rf.wI 0 7 _ (show (7 : Nat) ∈ [5, 7, 47] from by decide)).wL 0 47 _ (show (47 : Nat) ∈ [5, 7, 47] from by decide)).wI 0 5 _ (show (5 : Nat) ∈ [5, 7, 47] from by decide)), (show (X.1 0 5).toInt < x5.toInt ∧ x5.toInt ≤ (X.1 0 1).toInt ∧ 1 ≤ (4 : Int) ∧ (4 : Int) ≤ 5 from by omega)⟩
          · skip
            refine ok.ite (fun c23 => ?_) (fun c23 => ?_)
            · skip
              exact ok.ret ⟨(((Fr.rf.wI 0 7 _ (show (7 : Nat) ∈ [5, 7, 47] from by decide)).wL 0 47 _ (show (47 : Nat) ∈ [5, 7, 47] from by decide)).wI 0 5 _ (show (5 : Nat) ∈ [5, 7, 47] from by decide)), (show (X.1 0 5).toInt < x5.toInt ∧ x5.toInt ≤ (X.1 0 1).toInt ∧ 1 ≤ (4 : Int) ∧ (4 : Int) ≤ 5 from by omega)⟩
            · skip
              refine ok.ite (fun c24 => ?_) (fun c24 => ?_)
              · skip
                exact ok.ret ⟨(((Fr.rf.wI 0 7 _ (show (7 : Nat) ∈ [5, 7, 47] from by decide)).wL 0 47 _ (show (47 : Nat) ∈ [5, 7, 47] from by decide)).wI 0 5 _ (show (5 : Nat) ∈ [5, 7, 47] from by decide)), (show (X.1 0 5).toInt < x5.toInt ∧ x5.toInt ≤ (X.1 0 1).toInt ∧ 1 ≤ (4 : Int) ∧ (4 : Int) ≤ 5 from by omega)⟩
              · skip
                refine ok.ite (fun c25 => ?_) (fun c25 => ?_)
                · skip
                  exact ok.ret ⟨(((Fr.rf.wI 0 7 _ (show (7 : Nat) ∈ [5, 7, 47] from by decide)).wL 0 47 _ (show (47 : Nat) ∈ [5, 7, 47] from by decide)).wI 0 5 _ (show (5 : Nat) ∈ [5, 7, 47] from by decide)), (show (X.1 0 5).toInt < x5.toInt ∧ x5.toInt ≤ (X.1 0 1).toInt ∧ 1 ≤ (4 : Int) ∧ (4 : Int) ≤ 5 from by omega)⟩
                · skip
                  refine ok.ite (fun c26 => ?_) (fun c26 => ?_)
                  · skip
                    exact ok.ret ⟨(((Fr.rf.wI 0 7 _ (show (7 : Nat) ∈ [5, 7, 47] from by decide)).wL 0 47 _ (show (47 : Nat) ∈ [5, 7, 47] from by decide)).wI 0 5 _ (show (5 : Nat) ∈ [5, 7, 47] from by decide)), (show (X.1 0 5).toInt < x5.toInt ∧ x5.toInt ≤ (X.1 0 1).toInt ∧ 1 ≤ (4 : Int) ∧ (4 : Int) ≤ 5 from by omega)⟩
                  · skip
                    refine ok.ite (fun c27 => ?_) (fun c27 => ?_)
                    · skip
                      exact ok.ret ⟨(((Fr.rf.wI 0 7 _ (show (7 : Nat) ∈ [5, 7, 47] from by decide)).wL 0 47 _ (show (47 : Nat) ∈ [5, 7, 47] from by decide)).wI 0 5 _ (show (5 : Nat) ∈ [5, 7, 47] from by decide)), (show (X.1 0 5).toInt < x5.toInt ∧ x5.toInt ≤ (X.1 0 1).toInt ∧ 1 ≤ (4 : Int) ∧ (4 : Int) ≤ 5 from by omega)⟩
                    · skip
                      refine ok.ite (fun c28 => ?_) (fun c28 => ?_)
                      · skip
                        exact ok.ret ⟨(((Fr.rf.wI 0 7 _ (show (7 : Nat) ∈ [5, 7, 47] from by decide)).wL 0 47 _ (show (47 : Nat) ∈ [5, 7, 47] from by decide)).wI 0 5 _ (show (5 : Nat) ∈ [5, 7, 47] from by decide)), (show (X.1 0 5).toInt < x5.toInt ∧ x5.toInt ≤ (X.1 0 1).toInt ∧ 1 ≤ (4 : Int) ∧ (4 : Int) ≤ 5 from by omega)⟩
                      · skip
                        refine ok.ite (fun c29 => ?_) (fun c29 => ?_)
                        · skip
                          exact ok.ret ⟨(((Fr.rf.wI 0 7 _ (show (7 : Nat) ∈ [5, 7, 47] from by decide)).wL 0 47 _ (show (47 : Nat) ∈ [5, 7, 47] from by decide)).wI 0 5 _ (show (5 : Nat) ∈ [5, 7, 47] from by decide)), (show (X.1 0 5).toInt < x5.toInt ∧ x5.toInt ≤ (X.1 0 1).toInt ∧ 1 ≤ (4 : Int) ∧ (4 : Int) ≤ 5 from by omega)⟩
                        · skip
                          refine ok.ite (fun c30 => ?_) (fun c30 => ?_)
                          · skip
                            exact ok.ret ⟨(((Fr.rf.wI 0 7 _ (show (7 : Nat) ∈ [5, 7, 47] from by decide)).wL 0 47 _ (show (47 : Nat) ∈ [5, 7, 47] from by decide)).wI 0 5 _ (show (5 : Nat) ∈ [5, 7, 47] from by decide)), (show (X.1 0 5).toInt < x5.toInt ∧ x5.toInt ≤ (X.1 0 1).toInt ∧ 1 ≤ (4 : Int) ∧ (4 : Int) ≤ 5 from by omega)⟩
                          · skip
                            refine ok.ite (fun c31 => ?_) (fun c31 => ?_)
                            · skip
                              exact ok.ret ⟨(((Fr.rf.wI 0 7 _ (show (7 : Nat) ∈ [5, 7, 47] from by decide)).wL 0 47 _ (show (47 : Nat) ∈ [5, 7, 47] from by decide)).wI 0 5 _ (show (5 : Nat) ∈ [5, 7, 47] from by decide)), (show (X.1 0 5).toInt < x5.toInt ∧ x5.toInt ≤ (X.1 0 1).toInt ∧ 1 ≤ (4 : Int) ∧ (4 : Int) ≤ 5 from by omega)⟩
                            · skip
                              refine ok.ite (fun c32 => ?_) (fun c32 => ?_)
                              · skip
                                exact ok.ret ⟨(((Fr.rf.wI 0 7 _ (show (7 : Nat) ∈ [5, 7, 47] from by decide)).wL 0 47 _ (show (47 : Nat) ∈ [5, 7, 47] from by decide)).wI 0 5 _ (show (5 : Nat) ∈ [5, 7, 47] from by decide)), (show (X.1 0 5).toInt < x5.toInt ∧ x5.toInt ≤ (X.1 0 1).toInt ∧ 1 ≤ (4 : Int) ∧ (4 : Int) ≤ 5 from by omega)⟩
                              · skip
                                refine ok.ite (fun c33 => ?_) (fun c33 => ?_)
                                · skip
                                  exact ok.ret ⟨(((Fr.rf.wI 0 7 _ (show (7 : Nat) ∈ [5, 7, 47] from by decide)).wL 0 47 _ (show (47 : Nat) ∈ [5, 7, 47] from by decide)).wI 0 5 _ (show (5 : Nat) ∈ [5, 7, 47] from by decide)), (show (X.1 0 5).toInt < x5.toInt ∧ x5.toInt ≤ (X.1 0 1).toInt ∧ 1 ≤ (4 : Int) ∧ (4 : Int) ≤ 5 from by omega)⟩
                                · skip
                                  refine ok.ite (fun c34 => ?_) (fun c34 => ?_)
                                  · skip
                                    exact ok.ret ⟨(((Fr.rf.wI 0 7 _ (show (7 : Nat) ∈ [5, 7, 47] from by decide)).wL 0 47 _ (show (47 : Nat) ∈ [5, 7, 47] from by decide)).wI 0 5 _ (show (5 : Nat) ∈ [5, 7, 47] from by decide)), (show (X.1 0 5).toInt < x5.toInt ∧ x5.toInt ≤ (X.1 0 1).toInt ∧ 1 ≤ (4 : Int) ∧ (4 : Int) ≤ 5 from by omega)⟩
                                  · skip
                                    refine ok.ite (fun c35 => ?_) (fun c35 => ?_)
                                    · skip
                                      exact ok.ret ⟨(((Fr.rf.wI 0 7 _ (show (7 : Nat) ∈ [5, 7, 47] from by decide)).wL 0 47 _ (show (47 : Nat) ∈ [5, 7, 47] from by decide)).wI 0 5 _ (show (5 : Nat) ∈ [5, 7, 47] from by decide)), (show (X.1 0 5).toInt < x5.toInt ∧ x5.toInt ≤ (X.1 0 1).toInt ∧ 1 ≤ (4 : Int) ∧ (4 : Int) ≤ 5 from by omega)⟩
                                    · skip
                                      refine ok.ite (fun c36 => ?_) (fun c36 => ?_)
                                      · skip
                                        exact ok.ret ⟨(((Fr.rf.wI 0 7 _ (show (7 : Nat) ∈ [5, 7, 47] from by decide)).wL 0 47 _ (show (47 : Nat) ∈ [5, 7, 47] from by decide)).wI 0 5 _ (show (5 : Nat) ∈ [5, 7, 47] from by decide)), (show (X.1 0 5).toInt < x5.toInt ∧ x5.toInt ≤ (X.1 0 1).toInt ∧ 1 ≤ (4 : Int) ∧ (4 : Int) ≤ 5 from by omega)⟩
                                      · skip
                                        refine ok.ite (fun c37 => ?_) (fun c37 => ?_)
                                        · skip
                                          exact ok.ret ⟨(((Fr.rf.wI 0 7 _ (show (7 : Nat) ∈ [5, 7, 47] from by decide)).wL 0 47 _ (show (47 : Nat) ∈ [5, 7, 47] from by decide)).wI 0 5 _ (show (5 : Nat) ∈ [5, 7, 47] from by decide)), (show (X.1 0 5).toInt < x5.toInt ∧ x5.toInt ≤ (X.1 0 1).toInt ∧ 1 ≤ (4 : Int) ∧ (4 : Int) ≤ 5 from by omega)⟩
                                        · skip
                                          refine ok.letV ?_
                                          exact ok.ret ⟨((((Fr.rf.wI 0 7 _ (show (7 : Nat) ∈ [5, 7, 47] from by decide)).wL 0 47 _ (show (47 : Nat) ∈ [5, 7, 47] from by decide)).wI 0 5 _ (show (5 : Nat) ∈ [5, 7, 47] from by decide)).wI 0 7 _ (show (7 : Nat) ∈ [5, 7, 47] from by decide)), (show (X.1 0 5).toInt < x5.toInt ∧ x5.toInt ≤ (X.1 0 1).toInt ∧ 1 ≤ (5 : Int) ∧ (5 : Int) ≤ 5 from by omega)⟩
  · skip
    unfold f_sign_70
    refine ok.ite (fun c38 => ?_) (fun c38 => ?_)
    · skip
      exact ok.ret ⟨(((Fr.rf.wI 0 7 _ (show (7 : Nat) ∈ [5, 7, 47] from by decide)).wL 0 47 _ (show (47 : Nat) ∈ [5, 7, 47] from by decide)).wI 0 5 _ (show (5 : Nat) ∈ [5, 7, 47] from by decide)), (show (X.1 0 5).toInt < x5.toInt ∧ x5.toInt ≤ (X.1 0 1).toInt ∧ 1 ≤ (4 : Int) ∧ (4 : Int) ≤ 5 from by omega)⟩
    · skip
      refine ok.ite (fun c39 => ?_) (fun c39 => ?_)
      · skip
        exact ok.ret ⟨(((Fr.rf.wI 0 7 _ (show (7 : Nat) ∈ [5, 7, 47] from by decide)).wL 0 47 _ (show (47 : Nat) ∈ [5, 7, 47] from by decide)).wI 0 5 _ (show (5 : Nat) ∈ [5, 7, 47] from by decide)), (show (X.1 0 5).toInt < x5.toInt ∧ x5.toInt ≤ (X.1 0 1).toInt ∧ 1 ≤ (4 : Int) ∧ (4 : Int) ≤ 5 from by omega)⟩
      · skip
        refine ok.ite (fun c40 => ?_) (fun c40 => ?_)
        · skip
          exact ok.ret ⟨(((Fr.rf.wI 0 7 _ (show (7 : Nat) ∈ [5, 7, 47] from by decide)).wL 0 47 _ (show (47 : Nat) ∈ [5, 7, 47] from by decide)).wI 0 5 _ (show (5 : Nat) ∈ [5, 7, 47] from by decide)), (show (X.1 0 5).toInt < x5.toInt ∧ x5.toInt ≤ (X.1 0 1).toInt ∧ 1 ≤ (4 : Int) ∧ (4 : Int) ≤ 5 from by omega)⟩
        · skip
          refine ok.ite (fun c41 => ?_) (fun c41 => ?_)
          · skip
            exact ok.ret ⟨(((Fr.rf.wI 0 7 _ (show (7 : Nat) ∈ [5, 7, 47] from by decide)).wL 0 47 _ (show (47 : Nat) ∈ [5, 7, 47] from by decide)).wI 0 5 _ (show (5 : Nat) ∈ [5, 7, 47] from by decide)), (show (X.1 0 5).toInt < x5.toInt ∧ x5.toInt ≤ (X.1 0 1).toInt ∧ 1 ≤ (4 : Int) ∧ (4 : Int) ≤ 5 from by omega)⟩
          · skip
            refine ok.ite (fun c42 => ?_) (fun c42 => ?_)
            · skip
              exact ok.ret ⟨(((Fr.rf.wI 0 7 _ (show (7 : Nat) ∈ [5, 7, 47] from by decide)).wL 0 47 _ (show (47 : Nat) ∈ [5, 7, 47] from by decide)).wI 0 5 _ (show (5 : Nat) ∈ [5, 7, 47] from by decide)), (show (X.1 0 5).toInt < x5.toInt ∧ x5.toInt ≤ (X.1 0 1).toInt ∧ 1 ≤ (4 : Int) ∧ (4 : Int) ≤ 5 from by omega)⟩
            · skip
              refine ok.ite (fun c43 => ?_) (fun c43 => ?_)
              · skip
                exact ok.ret ⟨(((Fr.rf.wI 0 7 _ (show (7 : Nat) ∈ [5, 7, 47] from by decide)).wL 0 47 _ (show (47 : Nat) ∈ [5, 7, 47] from by decide)).wI 0 5 _ (show (5 : Nat) ∈ [5, 7, 47] from by decide)), (show (X.1 0 5).toInt < x5.toInt ∧ x5.toInt ≤ (X.1 0 1).toInt ∧ 1 ≤ (4 : Int) ∧ (4 : Int) ≤ 5 from by omega)⟩
              · skip
                refine ok.ite (fun c44 => ?_) (fun c44 => ?_)
                · skip
                  exact ok.ret ⟨(((Fr.rf.wI 0 7 _ (show (7 : Nat) ∈ [5, 7, 47] from by decide)).wL 0 47 _ (show (47 : Nat) ∈ [5, 7, 47] from by decide)).wI 0 5 _ (show (5 : Nat) ∈ [5, 7, 47] from by decide)), (show (X.1 0 5).toInt < x5.toInt ∧ x5.toInt ≤ (X.1 0 1).toInt ∧ 1 ≤ (4 : Int) ∧ (4 : Int) ≤ 5 from by omega)⟩
                · skip
                  refine ok.ite (fun c45 => ?_) (fun c45 => ?_)
                  · skip
                    exact ok.ret ⟨(((Fr.rf.wI 0 7 _ (show (7 : Nat) ∈ [5, 7, 47] from by decide)).wL 0 47 _ (show (47 : Nat) ∈ [5, 7, 47] from by decide)).wI 0 5 _ (show (5 : Nat) ∈ [5, 7, 47] from by decide)), (show (X.1 0 5).toInt < x5.toInt ∧ x5.toInt ≤ (X.1 0 1).toInt ∧ 1 ≤ (4 : Int) ∧ (4 : Int) ≤ 5 from by omega)⟩
                  · skip
                    refine ok.ite (fun c46 => ?_) (fun c46 => ?_)
                    · skip
                      exact ok.ret ⟨(((Fr.rf.wI 0 7 _ (show (7 : Nat) ∈ [5, 7, 47] from by decide)).wL 0 47 _ (show (47 : Nat) ∈ [5, 7, 47] from by decide)).wI 0 5 _ (show (5 : Nat) ∈ [5, 7, 47] from by decide)), (show (X.1 0 5).toInt < x5.toInt ∧ x5.toInt ≤ (X.1 0 1).toInt ∧ 1 ≤ (4 : Int) ∧ (4 : Int) ≤ 5 from by omega)⟩
                    · skip
                      refine ok.ite (fun c47 => ?_) (fun c47 => ?_)
                      · skip
                        exact ok.ret ⟨(((Fr.rf.wI 0 7 _ (show (7 : Nat) ∈ [5, 7, 47] from by decide)).wL 0 47 _ (show (47 : Nat) ∈ [5, 7, 47] from by decide)).wI 0 5 _ (show (5 : Nat) ∈ [5, 7, 47] from by decide)), (show (X.1 0 5).toInt < x5.toInt ∧ x5.toInt ≤ (X.1 0 1).toInt ∧ 1 ≤ (4 : Int) ∧ (4 : Int) ≤ 5 from by omega)⟩
                      · skip
                        refine ok.ite (fun c48 => ?_) (fun c48 => ?_)
                        · skip
                          exact ok.ret ⟨(((Fr.rf.wI 0 7 _ (show (7 : Nat) ∈ [5, 7, 47] from by decide)).wL 0 47 _ (show (47 : Nat) ∈ [5, 7, 47] from by decide)).wI 0 5 _ (show (5 : Nat) ∈ [5, 7, 47] from by decide)), (show (X.1 0 5).toInt < x5.toInt ∧ x5.toInt ≤ (X.1 0 1).toInt ∧ 1 ≤ (4 : Int) ∧ (4 : Int) ≤ 5 from by omega)⟩
                        · skip
                          refine ok.ite (fun c49 => ?_) (fun c49 => ?_)
                          · skip
                            exact ok.ret ⟨(((Fr.rf.wI 0 7 _ (show (7 : Nat) ∈ [5, 7, 47] from by decide)).wL 0 47 _ (show (47 : Nat) ∈ [5, 7, 47] from by decide)).wI 0 5 _ (show (5 : Nat) ∈ [5, 7, 47] from by decide)), (show (X.1 0 5).toInt < x5.toInt ∧ x5.toInt ≤ (X.1 0 1).toInt ∧ 1 ≤ (4 : Int) ∧ (4 : Int) ≤ 5 from by omega)⟩
                          · skip
                            refine ok.ite (fun c50 => ?_) (fun c50 => ?_)
                            · skip
                              exact ok.ret ⟨(((Fr.rf.wI 0 7 _ (show (7 : Nat) ∈ [5, 7, 47] from by decide)).wL 0 47 _ (show (47 : Nat) ∈ [5, 7, 47] from by decide)).wI 0 5 _ (show (5 : Nat) ∈ [5, 7, 47] from by decide)), (show (X.1 0 5).toInt < x5.toInt ∧ x5.toInt ≤ (X.1 0 1).toInt ∧ 1 ≤ (4 : Int) ∧ (4 : Int) ≤ 5 from by omega)⟩
                            · skip
                              refine ok.ite (fun c51 => ?_) (fun c51 => ?_)
                              · skip
                                exact ok.ret ⟨(((Fr.rf.wI 0 7 _ (show (7 : Nat) ∈ [5, 7, 47] from by decide)).wL 0 47 _ (show (47 : Nat) ∈ [5, 7, 47] from by decide)).wI 0 5 _ (show (5 : Nat) ∈ [5, 7, 47] from by decide)), (show (X.1 0 5).toInt < x5.toInt ∧ x5.toInt ≤ (X.1 0 1).toInt ∧ 1 ≤ (4 : Int) ∧ (4 : Int) ≤ 5 from by omega)⟩
                              · skip
                                refine ok.ite (fun c52 => ?_) (fun c52 => ?_)
                                · skip
                                  exact ok.ret ⟨(((Fr.rf.wI 0 7 _ (show (7 : Nat) ∈ [5, 7, 47] from by decide)).wL 0 47 _ (show (47 : Nat) ∈ [5, 7, 47] from by decide)).wI 0 5 _ (show (5 : Nat) ∈ [5, 7, 47] from by decide)), (show (X.1 0 5).toInt < x5.toInt ∧ x5.toInt ≤ (X.1 0 1).toInt ∧ 1 ≤ (4 : Int) ∧ (4 : Int) ≤ 5 from by omega)⟩
                                · skip
                                  refine ok.ite (fun c53 => ?_) (fun c53 => ?_)
                                  · skip
                                    exact ok.ret ⟨(((Fr.rf.wI 0 7 _ (show (7 : Nat) ∈ [5, 7, 47] from by decide)).wL 0 47 _ (show (47 : Nat) ∈ [5, 7, 47] from by decide)).wI 0 5 _ (show (5 : Nat) ∈ [5, 7, 47] from by decide)), (show (X.1 0 5).toInt < x5.toInt ∧ x5.toInt ≤ (X.1 0 1).toInt ∧ 1 ≤ (4 : Int) ∧ (4 : Int) ≤ 5 from by omega)⟩
                                  · skip
                                    refine ok.ite (fun c54 => ?_) (fun c54 => ?_)
                                    · skip
                                      exact ok.ret ⟨(((Fr.rf.wI 0 7 _ (show (7 : Nat) ∈ [5, 7, 47] from by decide)).wL 0 47 _ (show (47 : Nat) ∈ [5, 7, 47] from by decide)).wI 0 5 _ (show (5 : Nat) ∈ [5, 7, 47] from by decide)), (show (X.1 0 5).toInt < x5.toInt ∧ x5.toInt ≤ (X.1 0 1).toInt ∧ 1 ≤ (4 : Int) ∧ (4 : Int) ≤ 5 from by omega)⟩
                                    · skip
                                      refine ok.letV ?_
                                      exact ok.ret ⟨((((Fr.rf.wI 0 7 _ (show (7 : Nat) ∈ [5, 7, 47] from by decide)).wL 0 47 _ (show (47 : Nat) ∈ [5, 7, 47] from by decide)).wI 0 5 _ (show (5 : Nat) ∈ [5, 7, 47] from by decide)).wI 0 7 _ (show (7 : Nat) ∈ [5, 7, 47] from by decide)), (show (X.1 0 5).toInt < x5.toInt ∧ x5.toInt ≤ (X.1 0 1).toInt ∧ 1 ≤ (5 : Int) ∧ (5 : Int) ≤ 5 from by omega)⟩
set_option maxHeartbeats 4000000 in
set_option maxRecDepth 100000 in
theorem s_f_name (X : St) (hy0 : 0 ≤ (X.1 0 5).toInt ∧ (X.1 0 5).toInt ≤ (X.1 0 1).toInt ∧ (X.1 0 1).toInt ≤ 3000) : ok (f_name X) (fun r X1 => Fr YR [5, 7, 8, 47] X X1 ∧ ((X.1 0 5).toInt ≤ (X1.1 0 5).toInt ∧ (X1.1 0 5).toInt ≤ (X1.1 0 1).toInt ∧ 1 ≤ (X1.1 0 7).toInt ∧ (X1.1 0 7).toInt ≤ 5)) := by
  unfold f_name
  refine ok.letV ?_
  have lp_f_name_5 : ∀ (n : Nat), ∀ (Z1 : St), Fr YR [5, 7, 8, 47] X Z1 → ((X.1 0 5).toInt ≤ (Z1.1 0 5).toInt ∧ (Z1.1 0 5).toInt ≤ (X.1 0 1).toInt ∧ 0 ≤ (Z1.1 0 8).toInt ∧ (Z1.1 0 8).toInt ≤ (Z1.1 0 5).toInt) → (3001 - (Z1.1 0 5).toInt).toNat < n → ok (f_name_5 n Z1) (fun r X1 => Fr YR [5, 7, 8, 47] X X1 ∧ ((X.1 0 5).toInt ≤ (X1.1 0 5).toInt ∧ (X1.1 0 5).toInt ≤ (X1.1 0 1).toInt ∧ 1 ≤ (X1.1 0 7).toInt ∧ (X1.1 0 7).toInt ≤ 5)) := by
    intro n
    unfold f_name_5
    refine lp_indN (P := fun (n : Nat) (r_f_name_5 : St → Option (Int32 × St)) => ∀ (Z1 : St), Fr YR [5, 7, 8, 47] X Z1 → ((X.1 0 5).toInt ≤ (Z1.1 0 5).toInt ∧ (Z1.1 0 5).toInt ≤ (X.1 0 1).toInt ∧ 0 ≤ (Z1.1 0 8).toInt ∧ (Z1.1 0 8).toInt ≤ (Z1.1 0 5).toInt) → (3001 - (Z1.1 0 5).toInt).toNat < n → ok (r_f_name_5 Z1) (fun r X1 => Fr YR [5, 7, 8, 47] X X1 ∧ ((X.1 0 5).toInt ≤ (X1.1 0 5).toInt ∧ (X1.1 0 5).toInt ≤ (X1.1 0 1).toInt ∧ 1 ≤ (X1.1 0 7).toInt ∧ (X1.1 0 7).toInt ≤ 5))) ?_ ?_ n
    · intro Z1 hF hI hm; exact absurd hm (Nat.not_lt_zero _)
    · intro n r_f_name_5 ih_f_name_5 Z1 hFZ1 hIZ1 hmZ1
      unfold f_name_5_s
      refine ok.letE (v1 := (Z1.1 0 5)) rfl ?_
      refine ok.letE (v1 := (X.1 0 1)) (hFZ1.1 0 1 (show (1 : Nat) ∉ [5, 7, 8, 47] from by decide)) ?_
      refine ok.ite (fun c2 => ?_) (fun c2 => ?_)
      · skip
        unfold f_name_96
        refine ok.letE (v1 := (Z1.1 0 8)) rfl ?_
        refine ok.ite (fun c3 => ?_) (fun c3 => ?_)
        · skip
          refine ok.any (fun y5 => ?_)
          refine ok.bd (s_f_wordOf _ _) ?_
          rintro x6 X_5 ⟨hFh4, hh4⟩
          obtain rfl : Z1 = X_5 := (Fr.nil hFh4).symm
          have hh4 : (-1 ≤ x6.toInt ∧ x6.toInt ≤ 14) := hh4
          unfold f_name_115
          refine ok.ite (fun c6 => ?_) (fun c6 => ?_)
          · skip
            refine ok.letE (v1 := (Z1.1 0 8)) rfl ?_
            refine ok.ite (fun c7 => ?_) (fun c7 => ?_)
            · skip
              unfold f_name_139
              refine ok.letV ?_
              refine ok.ite (fun c8 => ?_) (fun c8 => ?_)
              · skip
                refine ok.any (fun y10 => ?_)
                unfold f_name_156
                refine ok.letV ?_
                exact ok.ret ⟨(((Fr.rf.tr hFZ1 (by decide)).wI 0 7 _ (show (7 : Nat) ∈ [5, 7, 8, 47] from by decide)).wL 0 47 _ (show (47 : Nat) ∈ [5, 7, 8, 47] from by decide)), (show (X.1 0 5).toInt ≤ (Z1.1 0 5).toInt ∧ (Z1.1 0 5).toInt ≤ (Z1.1 0 1).toInt ∧ 1 ≤ (1 : Int) ∧ (1 : Int) ≤ 5 from by have e0_ : (Z1.1 0 1).toInt = (X.1 0 1).toInt := congrArg Int32.toInt (hFZ1.1 0 1 (show (1 : Nat) ∉ [5, 7, 8, 47] from by decide)); omega)⟩
              · skip
                refine ok.any (fun y12 => ?_)
                unfold f_name_156
                refine ok.letV ?_
                exact ok.ret ⟨(((Fr.rf.tr hFZ1 (by decide)).wI 0 7 _ (show (7 : Nat) ∈ [5, 7, 8, 47] from by decide)).wL 0 47 _ (show (47 : Nat) ∈ [5, 7, 8, 47] from by decide)), (show (X.1 0 5).toInt ≤ (Z1.1 0 5).toInt ∧ (Z1.1 0 5).toInt ≤ (Z1.1 0 1).toInt ∧ 1 ≤ (1 : Int) ∧ (1 : Int) ≤ 5 from by have e0_ : (Z1.1 0 1).toInt = (X.1 0 1).toInt := congrArg Int32.toInt (hFZ1.1 0 1 (show (1 : Nat) ∉ [5, 7, 8, 47] from by decide)); omega)⟩
            · skip
              unfold f_name_139
              refine ok.letV ?_
              refine ok.ite (fun c9 => ?_) (fun c9 => ?_)
              · skip
                refine ok.any (fun y10 => ?_)
                unfold f_name_156
                refine ok.letV ?_
                exact ok.ret ⟨(((Fr.rf.tr hFZ1 (by decide)).wI 0 7 _ (show (7 : Nat) ∈ [5, 7, 8, 47] from by decide)).wL 0 47 _ (show (47 : Nat) ∈ [5, 7, 8, 47] from by decide)), (show (X.1 0 5).toInt ≤ (Z1.1 0 5).toInt ∧ (Z1.1 0 5).toInt ≤ (Z1.1 0 1).toInt ∧ 1 ≤ (5 : Int) ∧ (5 : Int) ≤ 5 from by have e0_ : (Z1.1 0 1).toInt = (X.1 0 1).toInt := congrArg Int32.toInt (hFZ1.1 0 1 (show (1 : Nat) ∉ [5, 7, 8, 47] from by decide)); omega)⟩
              · skip
                refine ok.any (fun y12 => ?_)
                unfold f_name_156
                refine ok.letV ?_
                exact ok.ret ⟨(((Fr.rf.tr hFZ1 (by decide)).wI 0 7 _ (show (7 : Nat) ∈ [5, 7, 8, 47] from by decide)).wL 0 47 _ (show (47 : Nat) ∈ [5, 7, 8, 47] from by decide)), (show (X.1 0 5).toInt ≤ (Z1.1 0 5).toInt ∧ (Z1.1 0 5).toInt ≤ (Z1.1 0 1).toInt ∧ 1 ≤ (5 : Int) ∧ (5 : Int) ≤ 5 from by have e0_ : (Z1.1 0 1).toInt = (X.1 0 1).toInt := congrArg Int32.toInt (hFZ1.1 0 1 (show (1 : Nat) ∉ [5, 7, 8, 47] from by decide)); omega)⟩
          · skip
            unfold f_name_139
            refine ok.letV ?_
            refine ok.ite (fun c10 => ?_) (fun c10 => ?_)
            · skip
              refine ok.any (fun y10 => ?_)
              unfold f_name_156
              refine ok.letV ?_
              exact ok.ret ⟨(((Fr.rf.tr hFZ1 (by decide)).wI 0 7 _ (show (7 : Nat) ∈ [5, 7, 8, 47] from by decide)).wL 0 47 _ (show (47 : Nat) ∈ [5, 7, 8, 47] from by decide)), (show (X.1 0 5).toInt ≤ (Z1.1 0 5).toInt ∧ (Z1.1 0 5).toInt ≤ (Z1.1 0 1).toInt ∧ 1 ≤ (2 : Int) ∧ (2 : Int) ≤ 5 from by have e0_ : (Z1.1 0 1).toInt = (X.1 0 1).toInt := congrArg Int32.toInt (hFZ1.1 0 1 (show (1 : Nat) ∉ [5, 7, 8, 47] from by decide)); omega)⟩
            · skip
              refine ok.any (fun y12 => ?_)
              unfold f_name_156
              refine ok.letV ?_
              exact ok.ret ⟨(((Fr.rf.tr hFZ1 (by decide)).wI 0 7 _ (show (7 : Nat) ∈ [5, 7, 8, 47] from by decide)).wL 0 47 _ (show (47 : Nat) ∈ [5, 7, 8, 47] from by decide)), (show (X.1 0 5).toInt ≤ (Z1.1 0 5).toInt ∧ (Z1.1 0 5).toInt ≤ (Z1.1 0 1).toInt ∧ 1 ≤ (2 : Int) ∧ (2 : Int) ≤ 5 from by have e0_ : (Z1.1 0 1).toInt = (X.1 0 1).toInt := congrArg Int32.toInt (hFZ1.1 0 1 (show (1 : Nat) ∉ [5, 7, 8, 47] from by decide)); omega)⟩
        · skip
          unfold f_name_115
          refine ok.ite (fun c11 => ?_) (fun c11 => ?_)
          · skip
            refine ok.letE (v1 := (Z1.1 0 8)) rfl ?_
            refine ok.ite (fun c12 => ?_) (fun c12 => ?_)
            · skip
              unfold f_name_139
              refine ok.letV ?_
              refine ok.ite (fun c13 => ?_) (fun c13 => ?_)
              · skip
                refine ok.any (fun y10 => ?_)
                unfold f_name_156
                refine ok.letV ?_
                exact ok.ret ⟨(((Fr.rf.tr hFZ1 (by decide)).wI 0 7 _ (show (7 : Nat) ∈ [5, 7, 8, 47] from by decide)).wL 0 47 _ (show (47 : Nat) ∈ [5, 7, 8, 47] from by decide)), (show (X.1 0 5).toInt ≤ (Z1.1 0 5).toInt ∧ (Z1.1 0 5).toInt ≤ (Z1.1 0 1).toInt ∧ 1 ≤ (1 : Int) ∧ (1 : Int) ≤ 5 from by have e0_ : (Z1.1 0 1).toInt = (X.1 0 1).toInt := congrArg Int32.toInt (hFZ1.1 0 1 (show (1 : Nat) ∉ [5, 7, 8, 47] from by decide)); omega)⟩
              · skip
                refine ok.any (fun y12 => ?_)
                unfold f_name_156
                refine ok.letV ?_
                exact ok.ret ⟨(((Fr.rf.tr hFZ1 (by decide)).wI 0 7 _ (show (7 : Nat) ∈ [5, 7, 8, 47] from by decide)).wL 0 47 _ (show (47 : Nat) ∈ [5, 7, 8, 47] from by decide)), (show (X.1 0 5).toInt ≤ (Z1.1 0 5).toInt ∧ (Z1.1 0 5).toInt ≤ (Z1.1 0 1).toInt ∧ 1 ≤ (1 : Int) ∧ (1 : Int) ≤ 5 from by have e0_ : (Z1.1 0 1).toInt = (X.1 0 1).toInt := congrArg Int32.toInt (hFZ1.1 0 1 (show (1 : Nat) ∉ [5, 7, 8, 47] from by decide)); omega)⟩
            · skip
              unfold f_name_139
              refine ok.letV ?_
              refine ok.ite (fun c14 => ?_) (fun c14 => ?_)
              · skip
                refine ok.any (fun y10 => ?_)
                unfold f_name_156
                refine ok.letV ?_
                exact ok.ret ⟨(((Fr.rf.tr hFZ1 (by decide)).wI 0 7 _ (show (7 : Nat) ∈ [5, 7, 8, 47] from by decide)).wL 0 47 _ (show (47 : Nat) ∈ [5, 7, 8, 47] from by decide)), (show (X.1 0 5).toInt ≤ (Z1.1 0 5).toInt ∧ (Z1.1 0 5).toInt ≤ (Z1.1 0 1).toInt ∧ 1 ≤ (5 : Int) ∧ (5 : Int) ≤ 5 from by have e0_ : (Z1.1 0 1).toInt = (X.1 0 1).toInt := congrArg Int32.toInt (hFZ1.1 0 1 (show (1 : Nat) ∉ [5, 7, 8, 47] from by decide)); omega)⟩
              · skip
                refine ok.any (fun y12 => ?_)
                unfold f_name_156
                refine ok.letV ?_
                exact ok.ret ⟨(((Fr.rf.tr hFZ1 (by decide)).wI 0 7 _ (show (7 : Nat) ∈ [5, 7, 8, 47] from by decide)).wL 0 47 _ (show (47 : Nat) ∈ [5, 7, 8, 47] from by decide)), (show (X.1 0 5).toInt ≤ (Z1.1 0 5).toInt ∧ (Z1.1 0 5).toInt ≤ (Z1.1 0 1).toInt ∧ 1 ≤ (5 : Int) ∧ (5 : Int) ≤ 5 from by have e0_ : (Z1.1 0 1).toInt = (X.1 0 1).toInt := congrArg Int32.toInt (hFZ1.1 0 1 (show (1 : Nat) ∉ [5, 7, 8, 47] from by decide)); omega)⟩
          · skip
            unfold f_name_139
            refine ok.letV ?_
            refine ok.ite (fun c15 => ?_) (fun c15 => ?_)
            · skip
              refine ok.any (fun y10 => ?_)
              unfold f_name_156
              refine ok.letV ?_
              exact ok.ret ⟨(((Fr.rf.tr hFZ1 (by decide)).wI 0 7 _ (show (7 : Nat) ∈ [5, 7, 8, 47] from by decide)).wL 0 47 _ (show (47 : Nat) ∈ [5, 7, 8, 47] from by decide)), (show (X.1 0 5).toInt ≤ (Z1.1 0 5).toInt ∧ (Z1.1 0 5).toInt ≤ (Z1.1 0 1).toInt ∧ 1 ≤ (2 : Int) ∧ (2 : Int) ≤ 5 from by have e0_ : (Z1.1 0 1).toInt = (X.1 0 1).toInt := congrArg Int32.toInt (hFZ1.1 0 1 (show (1 : Nat) ∉ [5, 7, 8, 47] from by decide)); omega)⟩
            · skip
              refine ok.any (fun y12 => ?_)
              unfold f_name_156
              refine ok.letV ?_
              exact ok.ret ⟨(((Fr.rf.tr hFZ1 (by decide)).wI 0 7 _ (show (7 : Nat) ∈ [5, 7, 8, 47] from by decide)).wL 0 47 _ (show (47 : Nat) ∈ [5, 7, 8, 47] from by decide)), (show (X.1 0 5).toInt ≤ (Z1.1 0 5).toInt ∧ (Z1.1 0 5).toInt ≤ (Z1.1 0 1).toInt ∧ 1 ≤ (2 : Int) ∧ (2 : Int) ≤ 5 from by have e0_ : (Z1.1 0 1).toInt = (X.1 0 1).toInt := congrArg Int32.toInt (hFZ1.1 0 1 (show (1 : Nat) ∉ [5, 7, 8, 47] from by decide)); omega)⟩
      · skip
        refine ok.letE (v1 := (Z1.1 0 5)) rfl ?_
        refine ok.ck (show 0 ≤ (Z1.1 0 5).toInt ∧ (Z1.1 0 5).toInt < ((3000 : Nat) : Int) from by omega) ?_
        refine ok.letE (v1 := (X.1 2 (ix (Z1.1 0 5)))) (hFZ1.1 2 (ix (Z1.1 0 5)) (show (400 : Nat) ∉ [5, 7, 8, 47] from by decide)) ?_
        refine ok.bd (s_f_letterOf _ _) ?_
        rintro x15 X_17 ⟨hFh16, hh16⟩
        obtain rfl : Z1 = X_17 := (Fr.nil hFh16).symm
        have hh16 : (0 ≤ x15.toInt ∧ x15.toInt ≤ 52 ∧ (x15.toInt = 0 ∨ 65 ≤ (X.1 2 (ix (Z1.1 0 5))).toInt)) := hh16
        refine ok.ite (fun c18 => ?_) (fun c18 => ?_)
        · skip
          unfold f_name_96
          refine ok.letE (v1 := (Z1.1 0 8)) rfl ?_
          refine ok.ite (fun c19 => ?_) (fun c19 => ?_)
          · skip
            refine ok.any (fun y5 => ?_)
            refine ok.bd (s_f_wordOf _ _) ?_
            rintro x6 X_21 ⟨hFh20, hh20⟩
            obtain rfl : Z1 = X_21 := (Fr.nil hFh20).symm
            have hh20 : (-1 ≤ x6.toInt ∧ x6.toInt ≤ 14) := hh20
            unfold f_name_115
            refine ok.ite (fun c22 => ?_) (fun c22 => ?_)
            · skip
              refine ok.letE (v1 := (Z1.1 0 8)) rfl ?_
              refine ok.ite (fun c23 => ?_) (fun c23 => ?_)
              · skip
                unfold f_name_139
                refine ok.letV ?_
                refine ok.ite (fun c24 => ?_) (fun c24 => ?_)
                · skip
                  refine ok.any (fun y10 => ?_)
                  unfold f_name_156
                  refine ok.letV ?_
                  exact ok.ret ⟨(((Fr.rf.tr hFZ1 (by decide)).wI 0 7 _ (show (7 : Nat) ∈ [5, 7, 8, 47] from by decide)).wL 0 47 _ (show (47 : Nat) ∈ [5, 7, 8, 47] from by decide)), (show (X.1 0 5).toInt ≤ (Z1.1 0 5).toInt ∧ (Z1.1 0 5).toInt ≤ (Z1.1 0 1).toInt ∧ 1 ≤ (1 : Int) ∧ (1 : Int) ≤ 5 from by have e0_ : (Z1.1 0 1).toInt = (X.1 0 1).toInt := congrArg Int32.toInt (hFZ1.1 0 1 (show (1 : Nat) ∉ [5, 7, 8, 47] from by decide)); omega)⟩
                · skip
                  refine ok.any (fun y12 => ?_)
                  unfold f_name_156
                  refine ok.letV ?_
                  exact ok.ret ⟨(((Fr.rf.tr hFZ1 (by decide)).wI 0 7 _ (show (7 : Nat) ∈ [5, 7, 8, 47] from by decide)).wL 0 47 _ (show (47 : Nat) ∈ [5, 7, 8, 47] from by decide)), (show (X.1 0 5).toInt ≤ (Z1.1 0 5).toInt ∧ (Z1.1 0 5).toInt ≤ (Z1.1 0 1).toInt ∧ 1 ≤ (1 : Int) ∧ (1 : Int) ≤ 5 from by have e0_ : (Z1.1 0 1).toInt = (X.1 0 1).toInt := congrArg Int32.toInt (hFZ1.1 0 1 (show (1 : Nat) ∉ [5, 7, 8, 47] from by decide)); omega)⟩
              · skip
                unfold f_name_139
                refine ok.letV ?_
                refine ok.ite (fun c25 => ?_) (fun c25 => ?_)
                · skip
                  refine ok.any (fun y10 => ?_)
                  unfold f_name_156
                  refine ok.letV ?_
                  exact ok.ret ⟨(((Fr.rf.tr hFZ1 (by decide)).wI 0 7 _ (show (7 : Nat) ∈ [5, 7, 8, 47] from by decide)).wL 0 47 _ (show (47 : Nat) ∈ [5, 7, 8, 47] from by decide)), (show (X.1 0 5).toInt ≤ (Z1.1 0 5).toInt ∧ (Z1.1 0 5).toInt ≤ (Z1.1 0 1).toInt ∧ 1 ≤ (5 : Int) ∧ (5 : Int) ≤ 5 from by have e0_ : (Z1.1 0 1).toInt = (X.1 0 1).toInt := congrArg Int32.toInt (hFZ1.1 0 1 (show (1 : Nat) ∉ [5, 7, 8, 47] from by decide)); omega)⟩
                · skip
                  refine ok.any (fun y12 => ?_)
                  unfold f_name_156
                  refine ok.letV ?_
                  exact ok.ret ⟨(((Fr.rf.tr hFZ1 (by decide)).wI 0 7 _ (show (7 : Nat) ∈ [5, 7, 8, 47] from by decide)).wL 0 47 _ (show (47 : Nat) ∈ [5, 7, 8, 47] from by decide)), (show (X.1 0 5).toInt ≤ (Z1.1 0 5).toInt ∧ (Z1.1 0 5).toInt ≤ (Z1.1 0 1).toInt ∧ 1 ≤ (5 : Int) ∧ (5 : Int) ≤ 5 from by have e0_ : (Z1.1 0 1).toInt = (X.1 0 1).toInt := congrArg Int32.toInt (hFZ1.1 0 1 (show (1 : Nat) ∉ [5, 7, 8, 47] from by decide)); omega)⟩
            · skip
              unfold f_name_139
              refine ok.letV ?_
              refine ok.ite (fun c26 => ?_) (fun c26 => ?_)
              · skip
                refine ok.any (fun y10 => ?_)
                unfold f_name_156
                refine ok.letV ?_
                exact ok.ret ⟨(((Fr.rf.tr hFZ1 (by decide)).wI 0 7 _ (show (7 : Nat) ∈ [5, 7, 8, 47] from by decide)).wL 0 47 _ (show (47 : Nat) ∈ [5, 7, 8, 47] from by decide)), (show (X.1 0 5).toInt ≤ (Z1.1 0 5).toInt ∧ (Z1.1 0 5).toInt ≤ (Z1.1 0 1).toInt ∧ 1 ≤ (2 : Int) ∧ (2 : Int) ≤ 5 from by have e0_ : (Z1.1 0 1).toInt = (X.1 0 1).toInt := congrArg Int32.toInt (hFZ1.1 0 1 (show (1 : Nat) ∉ [5, 7, 8, 47] from by decide)); omega)⟩
              · skip
                refine ok.any (fun y12 => ?_)
                unfold f_name_156
                refine ok.letV ?_
                exact ok.ret ⟨(((Fr.rf.tr hFZ1 (by decide)).wI 0 7 _ (show (7 : Nat) ∈ [5, 7, 8, 47] from by decide)).wL 0 47 _ (show (47 : Nat) ∈ [5, 7, 8, 47] from by decide)), (show (X.1 0 5).toInt ≤ (Z1.1 0 5).toInt ∧ (Z1.1 0 5).toInt ≤ (Z1.1 0 1).toInt ∧ 1 ≤ (2 : Int) ∧ (2 : Int) ≤ 5 from by have e0_ : (Z1.1 0 1).toInt = (X.1 0 1).toInt := congrArg Int32.toInt (hFZ1.1 0 1 (show (1 : Nat) ∉ [5, 7, 8, 47] from by decide)); omega)⟩
          · skip
            unfold f_name_115
            refine ok.ite (fun c27 => ?_) (fun c27 => ?_)
            · skip
              refine ok.letE (v1 := (Z1.1 0 8)) rfl ?_
              refine ok.ite (fun c28 => ?_) (fun c28 => ?_)
              · skip
                unfold f_name_139
                refine ok.letV ?_
                refine ok.ite (fun c29 => ?_) (fun c29 => ?_)
                · skip
                  refine ok.any (fun y10 => ?_)
                  unfold f_name_156
                  refine ok.letV ?_
                  exact ok.ret ⟨(((Fr.rf.tr hFZ1 (by decide)).wI 0 7 _ (show (7 : Nat) ∈ [5, 7, 8, 47] from by decide)).wL 0 47 _ (show (47 : Nat) ∈ [5, 7, 8, 47] from by decide)), (show (X.1 0 5).toInt ≤ (Z1.1 0 5).toInt ∧ (Z1.1 0 5).toInt ≤ (Z1.1 0 1).toInt ∧ 1 ≤ (1 : Int) ∧ (1 : Int) ≤ 5 from by have e0_ : (Z1.1 0 1).toInt = (X.1 0 1).toInt := congrArg Int32.toInt (hFZ1.1 0 1 (show (1 : Nat) ∉ [5, 7, 8, 47] from by decide)); omega)⟩
                · skip
                  refine ok.any (fun y12 => ?_)
                  unfold f_name_156
                  refine ok.letV ?_
                  exact ok.ret ⟨(((Fr.rf.tr hFZ1 (by decide)).wI 0 7 _ (show (7 : Nat) ∈ [5, 7, 8, 47] from by decide)).wL 0 47 _ (show (47 : Nat) ∈ [5, 7, 8, 47] from by decide)), (show (X.1 0 5).toInt ≤ (Z1.1 0 5).toInt ∧ (Z1.1 0 5).toInt ≤ (Z1.1 0 1).toInt ∧ 1 ≤ (1 : Int) ∧ (1 : Int) ≤ 5 from by have e0_ : (Z1.1 0 1).toInt = (X.1 0 1).toInt := congrArg Int32.toInt (hFZ1.1 0 1 (show (1 : Nat) ∉ [5, 7, 8, 47] from by decide)); omega)⟩
              · skip
                unfold f_name_139
                refine ok.letV ?_
                refine ok.ite (fun c30 => ?_) (fun c30 => ?_)
                · skip
                  refine ok.any (fun y10 => ?_)
                  unfold f_name_156
                  refine ok.letV ?_
                  exact ok.ret ⟨(((Fr.rf.tr hFZ1 (by decide)).wI 0 7 _ (show (7 : Nat) ∈ [5, 7, 8, 47] from by decide)).wL 0 47 _ (show (47 : Nat) ∈ [5, 7, 8, 47] from by decide)), (show (X.1 0 5).toInt ≤ (Z1.1 0 5).toInt ∧ (Z1.1 0 5).toInt ≤ (Z1.1 0 1).toInt ∧ 1 ≤ (5 : Int) ∧ (5 : Int) ≤ 5 from by have e0_ : (Z1.1 0 1).toInt = (X.1 0 1).toInt := congrArg Int32.toInt (hFZ1.1 0 1 (show (1 : Nat) ∉ [5, 7, 8, 47] from by decide)); omega)⟩
                · skip
                  refine ok.any (fun y12 => ?_)
                  unfold f_name_156
                  refine ok.letV ?_
                  exact ok.ret ⟨(((Fr.rf.tr hFZ1 (by decide)).wI 0 7 _ (show (7 : Nat) ∈ [5, 7, 8, 47] from by decide)).wL 0 47 _ (show (47 : Nat) ∈ [5, 7, 8, 47] from by decide)), (show (X.1 0 5).toInt ≤ (Z1.1 0 5).toInt ∧ (Z1.1 0 5).toInt ≤ (Z1.1 0 1).toInt ∧ 1 ≤ (5 : Int) ∧ (5 : Int) ≤ 5 from by have e0_ : (Z1.1 0 1).toInt = (X.1 0 1).toInt := congrArg Int32.toInt (hFZ1.1 0 1 (show (1 : Nat) ∉ [5, 7, 8, 47] from by decide)); omega)⟩
            · skip
              unfold f_name_139
              refine ok.letV ?_
              refine ok.ite (fun c31 => ?_) (fun c31 => ?_)
              · skip
                refine ok.any (fun y10 => ?_)
                unfold f_name_156
                refine ok.letV ?_
                exact ok.ret ⟨(((Fr.rf.tr hFZ1 (by decide)).wI 0 7 _ (show (7 : Nat) ∈ [5, 7, 8, 47] from by decide)).wL 0 47 _ (show (47 : Nat) ∈ [5, 7, 8, 47] from by decide)), (show (X.1 0 5).toInt ≤ (Z1.1 0 5).toInt ∧ (Z1.1 0 5).toInt ≤ (Z1.1 0 1).toInt ∧ 1 ≤ (2 : Int) ∧ (2 : Int) ≤ 5 from by have e0_ : (Z1.1 0 1).toInt = (X.1 0 1).toInt := congrArg Int32.toInt (hFZ1.1 0 1 (show (1 : Nat) ∉ [5, 7, 8, 47] from by decide)); omega)⟩
              · skip
                refine ok.any (fun y12 => ?_)
                unfold f_name_156
                refine ok.letV ?_
                exact ok.ret ⟨(((Fr.rf.tr hFZ1 (by decide)).wI 0 7 _ (show (7 : Nat) ∈ [5, 7, 8, 47] from by decide)).wL 0 47 _ (show (47 : Nat) ∈ [5, 7, 8, 47] from by decide)), (show (X.1 0 5).toInt ≤ (Z1.1 0 5).toInt ∧ (Z1.1 0 5).toInt ≤ (Z1.1 0 1).toInt ∧ 1 ≤ (2 : Int) ∧ (2 : Int) ≤ 5 from by have e0_ : (Z1.1 0 1).toInt = (X.1 0 1).toInt := congrArg Int32.toInt (hFZ1.1 0 1 (show (1 : Nat) ∉ [5, 7, 8, 47] from by decide)); omega)⟩
        · skip
          refine ok.letE (v1 := (Z1.1 0 8)) rfl ?_
          refine ok.ite (fun c32 => ?_) (fun c32 => ?_)
          · skip
            refine ok.any (fun y18 => ?_)
            unfold f_name_70
            refine ok.letV ?_
            refine ok.letE (v1 := (Z1.1 0 8)) rfl ?_
            refine ok.add (show _ ≤ (Z1.1 0 8).toInt + (1 : Int) ∧ (Z1.1 0 8).toInt + (1 : Int) ≤ _ from by omega) (fun x21 hx21 => ?_)
            have hx21 : x21.toInt = (Z1.1 0 8).toInt + (1 : Int) := hx21
            refine ok.letV ?_
            refine ok.letE (v1 := (Z1.1 0 5)) rfl ?_
            refine ok.add (show _ ≤ (Z1.1 0 5).toInt + (1 : Int) ∧ (Z1.1 0 5).toInt + (1 : Int) ≤ _ from by omega) (fun x24 hx24 => ?_)
            have hx24 : x24.toInt = (Z1.1 0 5).toInt + (1 : Int) := hx24
            refine ok.letV ?_
            exact ih_f_name_5 (wI (wI (wL Z1 0 47 y18) 0 8 x21) 0 5 x24) ((((Fr.rf.tr hFZ1 (by decide)).wL 0 47 _ (show (47 : Nat) ∈ [5, 7, 8, 47] from by decide)).wI 0 8 _ (show (8 : Nat) ∈ [5, 7, 8, 47] from by decide)).wI 0 5 _ (show (5 : Nat) ∈ [5, 7, 8, 47] from by decide)) (show (X.1 0 5).toInt ≤ x24.toInt ∧ x24.toInt ≤ (X.1 0 1).toInt ∧ 0 ≤ x21.toInt ∧ x21.toInt ≤ x24.toInt from by omega) (show (3001 - x24.toInt).toNat < _ from by omega)
          · skip
            refine ok.any (fun y26 => ?_)
            refine ok.any (fun y27 => ?_)
            refine ok.letE (v1 := (Z1.1 0 5)) rfl ?_
            refine ok.ck (show 0 ≤ (Z1.1 0 5).toInt ∧ (Z1.1 0 5).toInt < ((3000 : Nat) : Int) from by omega) ?_
            refine ok.letE (v1 := (X.1 2 (ix (Z1.1 0 5)))) (hFZ1.1 2 (ix (Z1.1 0 5)) (show (400 : Nat) ∉ [5, 7, 8, 47] from by decide)) ?_
            refine ok.bd (s_f_letterOf _ _) ?_
            rintro x30 X_34 ⟨hFh33, hh33⟩
            obtain rfl : Z1 = X_34 := (Fr.nil hFh33).symm
            have hh33 : (0 ≤ x30.toInt ∧ x30.toInt ≤ 52 ∧ (x30.toInt = 0 ∨ 65 ≤ (X.1 2 (ix (Z1.1 0 5))).toInt)) := hh33
            refine ok.any (fun y32 => ?_)
            refine ok.any (fun y33 => ?_)
            unfold f_name_70
            refine ok.letV ?_
            refine ok.letE (v1 := (Z1.1 0 8)) rfl ?_
            refine ok.add (show _ ≤ (Z1.1 0 8).toInt + (1 : Int) ∧ (Z1.1 0 8).toInt + (1 : Int) ≤ _ from by omega) (fun x21 hx21 => ?_)
            have hx21 : x21.toInt = (Z1.1 0 8).toInt + (1 : Int) := hx21
            refine ok.letV ?_
            refine ok.letE (v1 := (Z1.1 0 5)) rfl ?_
            refine ok.add (show _ ≤ (Z1.1 0 5).toInt + (1 : Int) ∧ (Z1.1 0 5).toInt + (1 : Int) ≤ _ from by omega) (fun x24 hx24 => ?_)
            have hx24 : x24.toInt = (Z1.1 0 5).toInt + (1 : Int) := hx24
            refine ok.letV ?_
            exact ih_f_name_5 (wI (wI (wL Z1 0 47 y33) 0 8 x21) 0 5 x24) ((((Fr.rf.tr hFZ1 (by decide)).wL 0 47 _ (show (47 : Nat) ∈ [5, 7, 8, 47] from by decide)).wI 0 8 _ (show (8 : Nat) ∈ [5, 7, 8, 47] from by decide)).wI 0 5 _ (show (5 : Nat) ∈ [5, 7, 8, 47] from by decide)) (show (X.1 0 5).toInt ≤ x24.toInt ∧ x24.toInt ≤ (X.1 0 1).toInt ∧ 0 ≤ x21.toInt ∧ x21.toInt ≤ x24.toInt from by omega) (show (3001 - x24.toInt).toNat < _ from by omega)
  exact lp_f_name_5 BIG (wI X 0 8 ((0 : Int32))) (Fr.rf.wI 0 8 _ (show (8 : Nat) ∈ [5, 7, 8, 47] from by decide)) (show (X.1 0 5).toInt ≤ (X.1 0 5).toInt ∧ (X.1 0 5).toInt ≤ (X.1 0 1).toInt ∧ 0 ≤ (0 : Int) ∧ (0 : Int) ≤ (X.1 0 5).toInt from by omega) (ltBIG (show (3001 - (X.1 0 5).toInt).toNat < 100000 from by omega))
