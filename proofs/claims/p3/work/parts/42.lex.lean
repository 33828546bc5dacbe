set_option maxHeartbeats 4000000 in
set_option maxRecDepth 100000 in
theorem s_f_wordOf (q0 : Int64) (X : St) : ok (f_wordOf q0 X) (fun r X1 => Fr YR [] X X1 ∧ (-1 ≤ r.toInt ∧ r.toInt ≤ 14)) := by
  unfold f_wordOf
  refine ok.any (fun x1 => ?_)
  refine ok.ite (fun c1 => ?_) (fun c1 => ?_)
  · skip
    refine ok.any (fun x2 => ?_)
    refine ok.ite (fun c2 => ?_) (fun c2 => ?_)
    · skip
      exact ok.ret ⟨Fr.rf, (show -1 ≤ (14 : Int) ∧ (14 : Int) ≤ 14 from by omega)⟩
    · skip
      refine ok.ite (fun c3 => ?_) (fun c3 => ?_)
      · skip
        exact ok.ret ⟨Fr.rf, (show -1 ≤ (3 : Int) ∧ (3 : Int) ≤ 14 from by omega)⟩
      · skip
        refine ok.ite (fun c4 => ?_) (fun c4 => ?_)
        · skip
          exact ok.ret ⟨Fr.rf, (show -1 ≤ (2 : Int) ∧ (2 : Int) ≤ 14 from by omega)⟩
        · skip
          refine ok.ite (fun c5 => ?_) (fun c5 => ?_)
          · skip
            exact ok.ret ⟨Fr.rf, (show -1 ≤ (13 : Int) ∧ (13 : Int) ≤ 14 from by omega)⟩
          · skip
            refine ok.ite (fun c6 => ?_) (fun c6 => ?_)
            · skip
              exact ok.ret ⟨Fr.rf, (show -1 ≤ (11 : Int) ∧ (11 : Int) ≤ 14 from by omega)⟩
            · skip
              refine ok.ite (fun c7 => ?_) (fun c7 => ?_)
              · skip
                exact ok.ret ⟨Fr.rf, (show -1 ≤ (1 : Int) ∧ (1 : Int) ≤ 14 from by omega)⟩
              · skip
                refine ok.ite (fun c8 => ?_) (fun c8 => ?_)
                · skip
                  exact ok.ret ⟨Fr.rf, (show -1 ≤ (8 : Int) ∧ (8 : Int) ≤ 14 from by omega)⟩
                · skip
                  refine ok.ite (fun c9 => ?_) (fun c9 => ?_)
                  · skip
                    exact ok.ret ⟨Fr.rf, (show -1 ≤ (5 : Int) ∧ (5 : Int) ≤ 14 from by omega)⟩
                  · skip
                    refine ok.ite (fun c10 => ?_) (fun c10 => ?_)
                    · skip
                      exact ok.ret ⟨Fr.rf, (show -1 ≤ (12 : Int) ∧ (12 : Int) ≤ 14 from by omega)⟩
                    · skip
                      refine ok.ite (fun c11 => ?_) (fun c11 => ?_)
                      · skip
                        exact ok.ret ⟨Fr.rf, (show -1 ≤ (0 : Int) ∧ (0 : Int) ≤ 14 from by omega)⟩
                      · skip
                        refine ok.ite (fun c12 => ?_) (fun c12 => ?_)
                        · skip
                          exact ok.ret ⟨Fr.rf, (show -1 ≤ (9 : Int) ∧ (9 : Int) ≤ 14 from by omega)⟩
                        · skip
                          refine ok.ite (fun c13 => ?_) (fun c13 => ?_)
                          · skip
                            exact ok.ret ⟨Fr.rf, (show -1 ≤ (4 : Int) ∧ (4 : Int) ≤ 14 from by omega)⟩
                          · skip
                            refine ok.ite (fun c14 => ?_) (fun c14 => ?_)
                            · skip
                              exact ok.ret ⟨Fr.rf, (show -1 ≤ (6 : Int) ∧ (6 : Int) ≤ 14 from by omega)⟩
                            · skip
                              refine ok.ite (fun c15 => ?_) (fun c15 => ?_)
                              · skip
                                exact ok.ret ⟨Fr.rf, (show -1 ≤ (7 : Int) ∧ (7 : Int) ≤ 14 from by omega)⟩
                              · skip
                                refine ok.ite (fun c16 => ?_) (fun c16 => ?_)
                                · skip
                                  exact ok.ret ⟨Fr.rf, (show -1 ≤ (10 : Int) ∧ (10 : Int) ≤ 14 from by omega)⟩
                                · skip
                                  exact ok.ret ⟨Fr.rf, (show -1 ≤ (-1 : Int) ∧ (-1 : Int) ≤ 14 from by omega)⟩
  · skip
    exact ok.ret ⟨Fr.rf, (show -1 ≤ (-1 : Int) ∧ (-1 : Int) ≤ 14 from by omega)⟩
set_option maxHeartbeats 4000000 in
set_option maxRecDepth 100000 in
theorem s_f_sign (p1 : Int32) (X : St) (hy0 : 0 ≤ (X.1 0 5).toInt ∧ (X.1 0 5).toInt < (X.1 0 1).toInt ∧ (X.1 0 1).toInt ≤ 3000) : ok (f_sign p1 X) (fun r X1 => Fr YR [5, 7, 47] X X1 ∧ ((X.1 0 5).toInt < (X1.1 0 5).toInt ∧ (X1.1 0 5).toInt ≤ (X1.1 0 1).toInt ∧ 1 ≤ (X1.1 0 7).toInt ∧ (X1.1 0 7).toInt ≤ 5)) := by
  unfold f_sign
  refine ok.letV ?_
  refine ok.any (fun y2 => ?_)
  refine ok.letV ?_
  refine ok.letE (v1 := (X.1 0 5)) rfl ?_
  refine ok.add (show _ ≤ (X.1 0 5).toInt + (1 : Int) ∧ (X.1 0 5).toInt + (1 : Int) ≤ _ from by omega) (fun x5 hx5 => ?_)
  have hx5 : x5.toInt = (X.1 0 5).toInt + (1 : Int) := hx5
  refine ok.letV ?_
  refine ok.ite (fun c1 => ?_) (fun c1 => ?_)
  · skip
    refine ok.letE (v1 := x5) rfl ?_
    refine ok.letE (v1 := (X.1 0 1)) rfl ?_
    refine ok.ite (fun c2 => ?_) (fun c2 => ?_)
    · skip
      unfold f_sign_70
      refine ok.ite (fun c3 => ?_) (fun c3 => ?_)
      · skip
        exact ok.ret ⟨(((Fr.rf.wI 0 7 _ (show (7 : Nat) ∈ [5, 7, 47] from by decide)).wL 0 47 _ (show (47 : Nat) ∈ [5, 7, 47] from by decide)).wI 0 5 _ (show (5 : Nat) ∈ [5, 7, 47] from by decide)), (show (X.1 0 5).toInt < x5.toInt ∧ x5.toInt ≤ (X.1 0 1).toInt ∧ 1 ≤ (4 : Int) ∧ (4 : Int) ≤ 5 from by omega)⟩
      · skip
        refine ok.ite (fun c4 => ?_) (fun c4 => ?_)
        · skip
          exact ok.ret ⟨(((Fr.rf.wI 0 7 _ (show (7 : Nat) ∈ [5, 7, 47] from by decide)).wL 0 47 _ (show (47 : Nat) ∈ [5, 7, 47] from by decide)).wI 0 5 _ (show (5 : Nat) ∈ [5, 7, 47] from by decide)), (show (X.1 0 5).toInt < x5.toInt ∧ x5.toInt ≤ (X.1 0 1).toInt ∧ 1 ≤ (4 : Int) ∧ (4 : Int) ≤ 5 from by omega)⟩
        · skip
          refine ok.ite (fun c5 => ?_) (fun c5 => ?_)
          · skip
            exact ok.ret ⟨(((Fr.rf.wI 0 7 _ (show (7 : Nat) ∈ [5, 7, 47] from by decide)).wL 0 47 _ (show (47 : Nat) ∈ [5, 7, 47] from by decide)).wI 0 5 _ (show (5 : Nat) ∈ [5, 7, 47] from by decide)), (show (X.1 0 5).toInt < x5.toInt ∧ x5.toInt ≤ (X.1 0 1).toInt ∧ 1 ≤ (4 : Int) ∧ (4 : Int) ≤ 5 from by omega)⟩
          · skip
            refine ok.ite (fun c6 => ?_) (fun c6 => ?_)
            · skip
              exact ok.ret ⟨(((Fr.rf.wI 0 7 _ (show (7 : Nat) ∈ [5, 7, 47] from by decide)).wL 0 47 _ (show (47 : Nat) ∈ [5, 7, 47] from by decide)).wI 0 5 _ (show (5 : Nat) ∈ [5, 7, 47] from by decide)), (show (X.1 0 5).toInt < x5.toInt ∧ x5.toInt ≤ (X.1 0 1).toInt ∧ 1 ≤ (4 : Int) ∧ (4 : Int) ≤ 5 from by omega)⟩
            · skip
              refine ok.ite (fun c7 => ?_) (fun c7 => ?_)
              · skip
                exact ok.ret ⟨(((Fr.rf.wI 0 7 _ (show (7 : Nat) ∈ [5, 7, 47] from by decide)).wL 0 47 _ (show (47 : Nat) ∈ [5, 7, 47] from by decide)).wI 0 5 _ (show (5 : Nat) ∈ [5, 7, 47] from by decide)), (show (X.1 0 5).toInt < x5.toInt ∧ x5.toInt ≤ (X.1 0 1).toInt ∧ 1 ≤ (4 : Int) ∧ (4 : Int) ≤ 5 from by omega)⟩
              · skip
                refine ok.ite (fun c8 => ?_) (fun c8 => ?_)
                · skip
                  exact ok.ret ⟨(((Fr.rf.wI 0 7 _ (show (7 : Nat) ∈ [5, 7, 47] from by decide)).wL 0 47 _ (show (47 : Nat) ∈ [5, 7, 47] from by decide)).wI 0 5 _ (show (5 : Nat) ∈ [5, 7, 47] from by decide)), (show (X.1 0 5).toInt < x5.toInt ∧ x5.toInt ≤ (X.1 0 1).toInt ∧ 1 ≤ (4 : Int) ∧ (4 : Int) ≤ 5 from by omega)⟩
                · skip
                  refine ok.ite (fun c9 => ?_) (fun c9 => ?_)
                  · skip
                    exact ok.ret ⟨(((Fr.rf.wI 0 7 _ (show (7 : Nat) ∈ [5, 7, 47] from by decide)).wL 0 47 _ (show (47 : Nat) ∈ [5, 7, 47] from by decide)).wI 0 5 _ (show (5 : Nat) ∈ [5, 7, 47] from by decide)), (show (X.1 0 5).toInt < x5.toInt ∧ x5.toInt ≤ (X.1 0 1).toInt ∧ 1 ≤ (4 : Int) ∧ (4 : Int) ≤ 5 from by omega)⟩
                  · skip
                    refine ok.ite (fun c10 => ?_) (fun c10 => ?_)
                    · skip
                      exact ok.ret ⟨(((Fr.rf.wI 0 7 _ (show (7 : Nat) ∈ [5, 7, 47] from by decide)).wL 0 47 _ (show (47 : Nat) ∈ [5, 7, 47] from by decide)).wI 0 5 _ (show (5 : Nat) ∈ [5, 7, 47] from by decide)), (show (X.1 0 5).toInt < x5.toInt ∧ x5.toInt ≤ (X.1 0 1).toInt ∧ 1 ≤ (4 : Int) ∧ (4 : Int) ≤ 5 from by omega)⟩
                    · skip
                      refine ok.ite (fun c11 => ?_) (fun c11 => ?_)
                      · skip
                        exact ok.ret ⟨(((Fr.rf.wI 0 7 _ (show (7 : Nat) ∈ [5, 7, 47] from by decide)).wL 0 47 _ (show (47 : Nat) ∈ [5, 7, 47] from by decide)).wI 0 5 _ (show (5 : Nat) ∈ [5, 7, 47] from by decide)), (show (X.1 0 5).toInt < x5.toInt ∧ x5.toInt ≤ (X.1 0 1).toInt ∧ 1 ≤ (4 : Int) ∧ (4 : Int) ≤ 5 from by omega)⟩
                      · skip
                        refine ok.ite (fun c12 => ?_) (fun c12 => ?_)
                        · skip
                          exact ok.ret ⟨(((Fr.rf.wI 0 7 _ (show (7 : Nat) ∈ [5, 7, 47] from by decide)).wL 0 47 _ (show (47 : Nat) ∈ [5, 7, 47] from by decide)).wI 0 5 _ (show (5 : Nat) ∈ [5, 7, 47] from by decide)), (show (X.1 0 5).toInt < x5.toInt ∧ x5.toInt ≤ (X.1 0 1).toInt ∧ 1 ≤ (4 : Int) ∧ (4 : Int) ≤ 5 from by omega)⟩
                        · skip
                          refine ok.ite (fun c13 => ?_) (fun c13 => ?_)
                          · skip
                            exact ok.ret ⟨(((Fr.rf.wI 0 7 _ (show (7 : Nat) ∈ [5, 7, 47] from by decide)).wL 0 47 _ (show (47 : Nat) ∈ [5, 7, 47] from by decide)).wI 0 5 _ (show (5 : Nat) ∈ [5, 7, 47] from by decide)), (show (X.1 0 5).toInt < x5.toInt ∧ x5.toInt ≤ (X.1 0 1).toInt ∧ 1 ≤ (4 : Int) ∧ (4 : Int) ≤ 5 from by omega)⟩
                          · skip
                            refine ok.ite (fun c14 => ?_) (fun c14 => ?_)
                            · skip
                              exact ok.ret ⟨(((Fr.rf.wI 0 7 _ (show (7 : Nat) ∈ [5, 7, 47] from by decide)).wL 0 47 _ (show (47 : Nat) ∈ [5, 7, 47] from by decide)).wI 0 5 _ (show (5 : Nat) ∈ [5, 7, 47] from by decide)), (show (X.1 0 5).toInt < x5.toInt ∧ x5.toInt ≤ (X.1 0 1).toInt ∧ 1 ≤ (4 : Int) ∧ (4 : Int) ≤ 5 from by omega)⟩
                            · skip
                              refine ok.ite (fun c15 => ?_) (fun c15 => ?_)
                              · skip
                                exact ok.ret ⟨(((Fr.rf.wI 0 7 _ (show (7 : Nat) ∈ [5, 7, 47] from by decide)).wL 0 47 _ (show (47 : Nat) ∈ [5, 7, 47] from by decide)).wI 0 5 _ (show (5 : Nat) ∈ [5, 7, 47] from by decide)), (show (X.1 0 5).toInt < x5.toInt ∧ x5.toInt ≤ (X.1 0 1).toInt ∧ 1 ≤ (4 : Int) ∧ (4 : Int) ≤ 5 from by omega)⟩
                              · skip
                                refine ok.ite (fun c16 => ?_) (fun c16 => ?_)
                                · skip
                                  exact ok.ret ⟨(((Fr.rf.wI 0 7 _ (show (7 : Nat) ∈ [5, 7, 47] from by decide)).wL 0 47 _ (show (47 : Nat) ∈ [5, 7, 47] from by decide)).wI 0 5 _ (show (5 : Nat) ∈ [5, 7, 47] from by decide)), (show (X.1 0 5).toInt < x5.toInt ∧ x5.toInt ≤ (X.1 0 1).toInt ∧ 1 ≤ (4 : Int) ∧ (4 : Int) ≤ 5 from by omega)⟩
                                · skip
                                  refine ok.ite (fun c17 => ?_) (fun c17 => ?_)
                                  · skip
                                    exact ok.ret ⟨(((Fr.rf.wI 0 7 _ (show (7 : Nat) ∈ [5, 7, 47] from by decide)).wL 0 47 _ (show (47 : Nat) ∈ [5, 7, 47] from by decide)).wI 0 5 _ (show (5 : Nat) ∈ [5, 7, 47] from by decide)), (show (X.1 0 5).toInt < x5.toInt ∧ x5.toInt ≤ (X.1 0 1).toInt ∧ 1 ≤ (4 : Int) ∧ (4 : Int) ≤ 5 from by omega)⟩
                                  · skip
                                    refine ok.ite (fun c18 => ?_) (fun c18 => ?_)
                                    · skip
                                      exact ok.ret ⟨(((Fr.rf.wI 0 7 _ (show (7 : Nat) ∈ [5, 7, 47] from by decide)).wL 0 47 _ (show (47 : Nat) ∈ [5, 7, 47] from by decide)).wI 0 5 _ (show (5 : Nat) ∈ [5, 7, 47] from by decide)), (show (X.1 0 5).toInt < x5.toInt ∧ x5.toInt ≤ (X.1 0 1).toInt ∧ 1 ≤ (4 : Int) ∧ (4 : Int) ≤ 5 from by omega)⟩
                                    · skip
                                      refine ok.ite (fun c19 => ?_) (fun c19 => ?_)
                                      · skip
                                        exact ok.ret ⟨(((Fr.rf.wI 0 7 _ (show (7 : Nat) ∈ [5, 7, 47] from by decide)).wL 0 47 _ (show (47 : Nat) ∈ [5, 7, 47] from by decide)).wI 0 5 _ (show (5 : Nat) ∈ [5, 7, 47] from by decide)), (show (X.1 0 5).toInt < x5.toInt ∧ x5.toInt ≤ (X.1 0 1).toInt ∧ 1 ≤ (4 : Int) ∧ (4 : Int) ≤ 5 from by omega)⟩
                                      · skip
                                        refine ok.letV ?_
                                        exact ok.ret ⟨((((Fr.rf.wI 0 7 _ (show (7 : Nat) ∈ [5, 7, 47] from by decide)).wL 0 47 _ (show (47 : Nat) ∈ [5, 7, 47] from by decide)).wI 0 5 _ (show (5 : Nat) ∈ [5, 7, 47] from by decide)).wI 0 7 _ (show (7 : Nat) ∈ [5, 7, 47] from by decide)), (show (X.1 0 5).toInt < x5.toInt ∧ x5.toInt ≤ (X.1 0 1).toInt ∧ 1 ≤ (5 : Int) ∧ (5 : Int) ≤ 5 from by omega)⟩
    · skip
      refine ok.letE (v1 := x5) rfl ?_
      refine ok.ck (show 0 ≤ x5.toInt ∧ x5.toInt < ((3000 : Nat) : Int) from by omega) ?_
      refine ok.letE (v1 := (X.1 2 (ix x5))) rfl ?_
      refine ok.ite (fun c20 => ?_) (fun c20 => ?_)
      · skip
        refine ok.letV ?_
        refine ok.letE (v1 := x5) rfl ?_
        refine ok.add (show _ ≤ x5.toInt + (1 : Int) ∧ x5.toInt + (1 : Int) ≤ _ from by omega) (fun x31 hx31 => ?_)
        have hx31 : x31.toInt = x5.toInt + (1 : Int) := hx31
        refine ok.letV ?_
        exact ok.ret ⟨(((((Fr.rf.wI 0 7 _ (show (7 : Nat) ∈ [5, 7, 47] from by decide)).wL 0 47 _ (show (47 : Nat) ∈ [5, 7, 47] from by decide)).wI 0 5 _ (show (5 : Nat) ∈ [5, 7, 47] from by decide)).wL 0 47 _ (show (47 : Nat) ∈ [5, 7, 47] from by decide)).wI 0 5 _ (show (5 : Nat) ∈ [5, 7, 47] from by decide)), (show (X.1 0 5).toInt < x31.toInt ∧ x31.toInt ≤ (X.1 0 1).toInt ∧ 1 ≤ (4 : Int) ∧ (4 : Int) ≤ 5 from by omega)⟩
      · skip
        unfold f_sign_70
        refine ok.ite (fun c21 => ?_) (fun c21 => ?_)
        · skip
          exact ok.ret ⟨(((Fr.rf.wI 0 7 _ (show (7 : Nat) ∈ [5, 7, 47] from by decide)).wL 0 47 _ (show (47 : Nat) ∈ [5, 7, 47] from by decide)).wI 0 5 _ (show (5 : Nat) ∈ [5, 7, 47] from by decide)), (show (X.1 0 5).toInt < x5.toInt ∧ x5.toInt ≤ (X.1 0 1).toInt ∧ 1 ≤ (4 : Int) ∧ (4 : Int) ≤ 5 from by omega)⟩
        · skip
          refine ok.ite (fun c22 => ?_) (fun c22 => ?_)
          · skip
            exact ok.ret ⟨(((Fr.rf.wI 0 7 _ (show (7 : Nat) ∈ [5, 7, 47] from by decide)).wL 0 47 _ (show (47 : Nat) ∈ [5, 7, 47] from by decide)).wI 0 5 _ (show (5 : Nat) ∈ [5, 7, 47] from by decide)), (show (X.1 0 5).toInt < x5.toInt ∧ x5.toInt ≤ (X.1 0 1).toInt ∧ 1 ≤ (4 : Int) ∧ (4 : Int) ≤ 5 from by omega)⟩
          · skip
            refine ok.ite (fun c23 => ?_) (fun c23 => ?_)
            · skip
              exact ok.ret ⟨(((Fr.rf.wI 0 7 _ (show (7 : Nat) ∈ [5, 7, 47] from by decide)).wL 0 47 _ (show (47 : Nat) ∈ [5, 7, 47] from by decide)).wI 0 5 _ (show (5 : Nat) ∈ [5, 7, 47] from by decide)), (show (X.1 0 5).toInt < x5.toInt ∧ x5.toInt ≤ (X.1 0 1).toInt ∧ 1 ≤ (4 : Int) ∧ (4 : Int) ≤ 5 from by omega)⟩
            · skip
              refine ok.ite (fun c24 => ?_) (fun c24 => ?_)
              · skip
                exact ok.ret ⟨(((Fr.rf.wI 0 7 _ (show (7 : Nat) ∈ [5, 7, 47] from by decide)).wL 0 47 _ (show (47 : Nat) ∈ [5, 7, 47] from by decide)).wI 0 5 _ (show (5 : Nat) ∈ [5, 7, 47] from by decide)), (show (X.1 0 5).toInt < x5.toInt ∧ x5.toInt ≤ (X.1 0 1).toInt ∧ 1 ≤ (4 : Int) ∧ (4 : Int) ≤ 5 from by omega)⟩
              · skip
                refine ok.ite (fun c25 => ?_) (fun c25 => ?_)
                · skip
                  exact ok.ret ⟨(((Fr.rf.wI 0 7 _ (show (7 : Nat) ∈ [5, 7, 47] from by decide)).wL 0 47 _ (show (47 : Nat) ∈ [5, 7, 47] from by decide)).wI 0 5 _ (show (5 : Nat) ∈ [5, 7, 47] from by decide)), (show (X.1 0 5).toInt < x5.toInt ∧ x5.toInt ≤ (X.1 0 1).toInt ∧ 1 ≤ (4 : Int) ∧ (4 : Int) ≤ 5 from by omega)⟩
                · skip
                  refine ok.ite (fun c26 => ?_) (fun c26 => ?_)
                  · skip
                    exact ok.ret ⟨(((Fr.rf.wI 0 7 _ (show (7 : Nat) ∈ [5, 7, 47] from by decide)).wL 0 47 _ (show (47 : Nat) ∈ [5, 7, 47] from by decide)).wI 0 5 _ (show (5 : Nat) ∈ [5, 7, 47] from by decide)), (show (X.1 0 5).toInt < x5.toInt ∧ x5.toInt ≤ (X.1 0 1).toInt ∧ 1 ≤ (4 : Int) ∧ (4 : Int) ≤ 5 from by omega)⟩
                  · skip
                    refine ok.ite (fun c27 => ?_) (fun c27 => ?_)
                    · skip
                      exact ok.ret ⟨(((Fr.rf.wI 0 7 _ (show (7 : Nat) ∈ [5, 7, 47] from by decide)).wL 0 47 _ (show (47 : Nat) ∈ [5, 7, 47] from by decide)).wI 0 5 _ (show (5 : Nat) ∈ [5, 7, 47] from by decide)), (show (X.1 0 5).toInt < x5.toInt ∧ x5.toInt ≤ (X.1 0 1).toInt ∧ 1 ≤ (4 : Int) ∧ (4 : Int) ≤ 5 from by omega)⟩
                    · skip
                      refine ok.ite (fun c28 => ?_) (fun c28 => ?_)
                      · skip
                        exact ok.ret ⟨(((Fr.rf.wI 0 7 _ (show (7 : Nat) ∈ [5, 7, 47] from by decide)).wL 0 47 _ (show (47 : Nat) ∈ [5, 7, 47] from by decide)).wI 0 5 _ (show (5 : Nat) ∈ [5, 7, 47] from by decide)), (show (X.1 0 5).toInt < x5.toInt ∧ x5.toInt ≤ (X.1 0 1).toInt ∧ 1 ≤ (4 : Int) ∧ (4 : Int) ≤ 5 from by omega)⟩
                      · skip
                        refine ok.ite (fun c29 => ?_) (fun c29 => ?_)
                        · skip
                          exact ok.ret ⟨(((Fr.rf.wI 0 7 _ (show (7 : Nat) ∈ [5, 7, 47] from by decide)).wL 0 47 _ (show (47 : Nat) ∈ [5, 7, 47] from by decide)).wI 0 5 _ (show (5 : Nat) ∈ [5, 7, 47] from by decide)), (show (X.1 0 5).toInt < x5.toInt ∧ x5.toInt ≤ (X.1 0 1).toInt ∧ 1 ≤ (4 : Int) ∧ (4 : Int) ≤ 5 from by omega)⟩
                        · skip
                          refine ok.ite (fun c30 => ?_) (fun c30 => ?_)
                          · skip
                            exact ok.ret ⟨(((Fr.rf.wI 0 7 _ (show (7 : Nat) ∈ [5, 7, 47] from by decide)).wL 0 47 _ (show (47 : Nat) ∈ [5, 7, 47] from by decide)).wI 0 5 _ (show (5 : Nat) ∈ [5, 7, 47] from by decide)), (show (X.1 0 5).toInt < x5.toInt ∧ x5.toInt ≤ (X.1 0 1).toInt ∧ 1 ≤ (4 : Int) ∧ (4 : Int) ≤ 5 from by omega)⟩
                          · skip
                            refine ok.ite (fun c31 => ?_) (fun c31 => ?_)
                            · skip
                              exact ok.ret ⟨(((Fr.rf.wI 0 7 _ (show (7 : Nat) ∈ [5, 7, 47] from by decide)).wL 0 47 _ (show (47 : Nat) ∈ [5, 7, 47] from by decide)).wI 0 5 _ (show (5 : Nat) ∈ [5, 7, 47] from by decide)), (show (X.1 0 5).toInt < x5.toInt ∧ x5.toInt ≤ (X.1 0 1).toInt ∧ 1 ≤ (4 : Int) ∧ (4 : Int) ≤ 5 from by omega)⟩
                            · skip
                              refine ok.ite (fun c32 => ?_) (fun c32 => ?_)
                              · skip
                                exact ok.ret ⟨(((Fr.rf.wI 0 7 _ (show (7 : Nat) ∈ [5, 7, 47] from by decide)).wL 0 47 _ (show (47 : Nat) ∈ [5, 7, 47] from by decide)).wI 0 5 _ (show (5 : Nat) ∈ [5, 7, 47] from by decide)), (show (X.1 0 5).toInt < x5.toInt ∧ x5.toInt ≤ (X.1 0 1).toInt ∧ 1 ≤ (4 : Int) ∧ (4 : Int) ≤ 5 from by omega)⟩
                              · skip
                                refine ok.ite (fun c33 => ?_) (fun c33 => ?_)
                                · skip
                                  exact ok.ret ⟨(((Fr.rf.wI 0 7 _ (show (7 : Nat) ∈ [5, 7, 47] from by decide)).wL 0 47 _ (show (47 : Nat) ∈ [5, 7, 47] from by decide)).wI 0 5 _ (show (5 : Nat) ∈ [5, 7, 47] from by decide)), (show (X.1 0 5).toInt < x5.toInt ∧ x5.toInt ≤ (X.1 0 1).toInt ∧ 1 ≤ (4 : Int) ∧ (4 : Int) ≤ 5 from by omega)⟩
                                · skip
                                  refine ok.ite (fun c34 => ?_) (fun c34 => ?_)
                                  · skip
                                    exact ok.ret ⟨(((Fr.rf.wI 0 7 _ (show (7 : Nat) ∈ [5, 7, 47] from by decide)).wL 0 47 _ (show (47 : Nat) ∈ [5, 7, 47] from by decide)).wI 0 5 _ (show (5 : Nat) ∈ [5, 7, 47] from by decide)), (show (X.1 0 5).toInt < x5.toInt ∧ x5.toInt ≤ (X.1 0 1).toInt ∧ 1 ≤ (4 : Int) ∧ (4 : Int) ≤ 5 from by omega)⟩
                                  · skip
                                    refine ok.ite (fun c35 => ?_) (fun c35 => ?_)
                                    · skip
                                      exact ok.ret ⟨(((Fr.rf.wI 0 7 _ (show (7 : Nat) ∈ [5, 7, 47] from by decide)).wL 0 47 _ (show (47 : Nat) ∈ [5, 7, 47] from by decide)).wI 0 5 _ (show (5 : Nat) ∈ [5, 7, 47] from by decide)), (show (X.1 0 5).toInt < x5.toInt ∧ x5.toInt ≤ (X.1 0 1).toInt ∧ 1 ≤ (4 : Int) ∧ (4 : Int) ≤ 5 from by omega)⟩
                                    · skip
                                      refine ok.ite (fun c36 => ?_) (fun c36 => ?_)
                                      · skip
                                        exact ok.ret ⟨(((Fr.rf.wI 0 7 _ (show (7 : Nat) ∈ [5, 7, 47] from by decide)).wL 0 47 _ (show (47 : Nat) ∈ [5, 7, 47] from by decide)).wI 0 5 _ (show (5 : Nat) ∈ [5, 7, 47] from by decide)), (show (X.1 0 5).toInt < x5.toInt ∧ x5.toInt ≤ (X.1 0 1).toInt ∧ 1 ≤ (4 : Int) ∧ (4 : Int) ≤ 5 from by omega)⟩
                                      · skip
                                        refine ok.ite (fun c37 => ?_) (fun c37 => ?_)
                                        · skip
                                          exact ok.ret ⟨(((Fr.rf.wI 0 7 _ (show (7 : Nat) ∈ [5, 7, 47] from by decide)).wL 0 47 _ (show (47 : Nat) ∈ [5, 7, 47] from by decide)).wI 0 5 _ (show (5 : Nat) ∈ [5, 7, 47] from by decide)), (show (X.1 0 5).toInt < x5.toInt ∧ x5.toInt ≤ (X.1 0 1).toInt ∧ 1 ≤ (4 : Int) ∧ (4 : Int) ≤ 5 from by omega)⟩
                                        · skip
                                          refine ok.letV ?_
                                          exact ok.ret ⟨((((Fr.rf.wI 0 7 _ (show (7 : Nat) ∈ [5, 7, 47] from by decide)).wL 0 47 _ (show (47 : Nat) ∈ [5, 7, 47] from by decide)).wI 0 5 _ (show (5 : Nat) ∈ [5, 7, 47] from by decide)).wI 0 7 _ (show (7 : Nat) ∈ [5, 7, 47] from by decide)), (show (X.1 0 5).toInt < x5.toInt ∧ x5.toInt ≤ (X.1 0 1).toInt ∧ 1 ≤ (5 : Int) ∧ (5 : Int) ≤ 5 from by omega)⟩
  · skip
    unfold f_sign_70
    refine ok.ite (fun c38 => ?_) (fun c38 => ?_)
    · skip
      exact ok.ret ⟨(((Fr.rf.wI 0 7 _ (show (7 : Nat) ∈ [5, 7, 47] from by decide)).wL 0 47 _ (show (47 : Nat) ∈ [5, 7, 47] from by decide)).wI 0 5 _ (show (5 : Nat) ∈ [5, 7, 47] from by decide)), (show (X.1 0 5).toInt < x5.toInt ∧ x5.toInt ≤ (X.1 0 1).toInt ∧ 1 ≤ (4 : Int) ∧ (4 : Int) ≤ 5 from by omega)⟩
    · skip
      refine ok.ite (fun c39 => ?_) (fun c39 => ?_)
      · skip
        exact ok.ret ⟨(((Fr.rf.wI 0 7 _ (show (7 : Nat) ∈ [5, 7, 47] from by decide)).wL 0 47 _ (show (47 : Nat) ∈ [5, 7, 47] from by decide)).wI 0 5 _ (show (5 : Nat) ∈ [5, 7, 47] from by decide)), (show (X.1 0 5).toInt < x5.toInt ∧ x5.toInt ≤ (X.1 0 1).toInt ∧ 1 ≤ (4 : Int) ∧ (4 : Int) ≤ 5 from by omega)⟩
      · skip
        refine ok.ite (fun c40 => ?_) (fun c40 => ?_)
        · skip
          exact ok.ret ⟨(((Fr.rf.wI 0 7 _ (show (7 : Nat) ∈ [5, 7, 47] from by decide)).wL 0 47 _ (show (47 : Nat) ∈ [5, 7, 47] from by decide)).wI 0 5 _ (show (5 : Nat) ∈ [5, 7, 47] from by decide)), (show (X.1 0 5).toInt < x5.toInt ∧ x5.toInt ≤ (X.1 0 1).toInt ∧ 1 ≤ (4 : Int) ∧ (4 : Int) ≤ 5 from by omega)⟩
        · skip
          refine ok.ite (fun c41 => ?_) (fun c41 => ?_)
          · skip
            exact ok.ret ⟨(((Fr.rf.wI 0 7 _ (show (7 : Nat) ∈ [5, 7, 47] from by decide)).wL 0 47 _ (show (47 : Nat) ∈ [5, 7, 47] from by decide)).wI 0 5 _ (show (5 : Nat) ∈ [5, 7, 47] from by decide)), (show (X.1 0 5).toInt < x5.toInt ∧ x5.toInt ≤ (X.1 0 1).toInt ∧ 1 ≤ (4 : Int) ∧ (4 : Int) ≤ 5 from by omega)⟩
          · skip
            refine ok.ite (fun c42 => ?_) (fun c42 => ?_)
            · skip
              exact ok.ret ⟨(((Fr.rf.wI 0 7 _ (show (7 : Nat) ∈ [5, 7, 47] from by decide)).wL 0 47 _ (show (47 : Nat) ∈ [5, 7, 47] from by decide)).wI 0 5 _ (show (5 : Nat) ∈ [5, 7, 47] from by decide)), (show (X.1 0 5).toInt < x5.toInt ∧ x5.toInt ≤ (X.1 0 1).toInt ∧ 1 ≤ (4 : Int) ∧ (4 : Int) ≤ 5 from by omega)⟩
            · skip
              refine ok.ite (fun c43 => ?_) (fun c43 => ?_)
              · skip
                exact ok.ret ⟨(((Fr.rf.wI 0 7 _ (show (7 : Nat) ∈ [5, 7, 47] from by decide)).wL 0 47 _ (show (47 : Nat) ∈ [5, 7, 47] from by decide)).wI 0 5 _ (show (5 : Nat) ∈ [5, 7, 47] from by decide)), (show (X.1 0 5).toInt < x5.toInt ∧ x5.toInt ≤ (X.1 0 1).toInt ∧ 1 ≤ (4 : Int) ∧ (4 : Int) ≤ 5 from by omega)⟩
              · skip
                refine ok.ite (fun c44 => ?_) (fun c44 => ?_)
                · skip
                  exact ok.ret ⟨(((Fr.rf.wI 0 7 _ (show (7 : Nat) ∈ [5, 7, 47] from by decide)).wL 0 47 _ (show (47 : Nat) ∈ [5, 7, 47] from by decide)).wI 0 5 _ (show (5 : Nat) ∈ [5, 7, 47] from by decide)), (show (X.1 0 5).toInt < x5.toInt ∧ x5.toInt ≤ (X.1 0 1).toInt ∧ 1 ≤ (4 : Int) ∧ (4 : Int) ≤ 5 from by omega)⟩
                · skip
                  refine ok.ite (fun c45 => ?_) (fun c45 => ?_)
                  · skip
                    exact ok.ret ⟨(((Fr.rf.wI 0 7 _ (show (7 : Nat) ∈ [5, 7, 47] from by decide)).wL 0 47 _ (show (47 : Nat) ∈ [5, 7, 47] from by decide)).wI 0 5 _ (show (5 : Nat) ∈ [5, 7, 47] from by decide)), (show (X.1 0 5).toInt < x5.toInt ∧ x5.toInt ≤ (X.1 0 1).toInt ∧ 1 ≤ (4 : Int) ∧ (4 : Int) ≤ 5 from by omega)⟩
                  · skip
                    refine ok.ite (fun c46 => ?_) (fun c46 => ?_)
                    · skip
                      exact ok.ret ⟨(((Fr.rf.wI 0 7 _ (show (7 : Nat) ∈ [5, 7, 47] from by decide)).wL 0 47 _ (show (47 : Nat) ∈ [5, 7, 47] from by decide)).wI 0 5 _ (show (5 : Nat) ∈ [5, 7, 47] from by decide)), (show (X.1 0 5).toInt < x5.toInt ∧ x5.toInt ≤ (X.1 0 1).toInt ∧ 1 ≤ (4 : Int) ∧ (4 : Int) ≤ 5 from by omega)⟩
                    · skip
                      refine ok.ite (fun c47 => ?_) (fun c47 => ?_)
                      · skip
                        exact ok.ret ⟨(((Fr.rf.wI 0 7 _ (show (7 : Nat) ∈ [5, 7, 47] from by decide)).wL 0 47 _ (show (47 : Nat) ∈ [5, 7, 47] from by decide)).wI 0 5 _ (show (5 : Nat) ∈ [5, 7, 47] from by decide)), (show (X.1 0 5).toInt < x5.toInt ∧ x5.toInt ≤ (X.1 0 1).toInt ∧ 1 ≤ (4 : Int) ∧ (4 : Int) ≤ 5 from by omega)⟩
                      · skip
                        refine ok.ite (fun c48 => ?_) (fun c48 => ?_)
                        · skip
                          exact ok.ret ⟨(((Fr.rf.wI 0 7 _ (show (7 : Nat) ∈ [5, 7, 47] from by decide)).wL 0 47 _ (show (47 : Nat) ∈ [5, 7, 47] from by decide)).wI 0 5 _ (show (5 : Nat) ∈ [5, 7, 47] from by decide)), (show (X.1 0 5).toInt < x5.toInt ∧ x5.toInt ≤ (X.1 0 1).toInt ∧ 1 ≤ (4 : Int) ∧ (4 : Int) ≤ 5 from by omega)⟩
                        · skip
                          refine ok.ite (fun c49 => ?_) (fun c49 => ?_)
                          · skip
                            exact ok.ret ⟨(((Fr.rf.wI 0 7 _ (show (7 : Nat) ∈ [5, 7, 47] from by decide)).wL 0 47 _ (show (47 : Nat) ∈ [5, 7, 47] from by decide)).wI 0 5 _ (show (5 : Nat) ∈ [5, 7, 47] from by decide)), (show (X.1 0 5).toInt < x5.toInt ∧ x5.toInt ≤ (X.1 0 1).toInt ∧ 1 ≤ (4 : Int) ∧ (4 : Int) ≤ 5 from by omega)⟩
                          · skip
                            refine ok.ite (fun c50 => ?_) (fun c50 => ?_)
                            · skip
                              exact ok.ret ⟨(((Fr.rf.wI 0 7 _ (show (7 : Nat) ∈ [5, 7, 47] from by decide)).wL 0 47 _ (show (47 : Nat) ∈ [5, 7, 47] from by decide)).wI 0 5 _ (show (5 : Nat) ∈ [5, 7, 47] from by decide)), (show (X.1 0 5).toInt < x5.toInt ∧ x5.toInt ≤ (X.1 0 1).toInt ∧ 1 ≤ (4 : Int) ∧ (4 : Int) ≤ 5 from by omega)⟩
                            · skip
                              refine ok.ite (fun c51 => ?_) (fun c51 => ?_)
                              · skip
                                exact ok.ret ⟨(((Fr.rf.wI 0 7 _ (show (7 : Nat) ∈ [5, 7, 47] from by decide)).wL 0 47 _ (show (47 : Nat) ∈ [5, 7, 47] from by decide)).wI 0 5 _ (show (5 : Nat) ∈ [5, 7, 47] from by decide)), (show (X.1 0 5).toInt < x5.toInt ∧ x5.toInt ≤ (X.1 0 1).toInt ∧ 1 ≤ (4 : Int) ∧ (4 : Int) ≤ 5 from by omega)⟩
                              · skip
                                refine ok.ite (fun c52 => ?_) (fun c52 => ?_)
                                · skip
                                  exact ok.ret ⟨(((Fr.rf.wI 0 7 _ (show (7 : Nat) ∈ [5, 7, 47] from by decide)).wL 0 47 _ (show (47 : Nat) ∈ [5, 7, 47] from by decide)).wI 0 5 _ (show (5 : Nat) ∈ [5, 7, 47] from by decide)), (show (X.1 0 5).toInt < x5.toInt ∧ x5.toInt ≤ (X.1 0 1).toInt ∧ 1 ≤ (4 : Int) ∧ (4 : Int) ≤ 5 from by omega)⟩
                                · skip
                                  refine ok.ite (fun c53 => ?_) (fun c53 => ?_)
                                  · skip
                                    exact ok.ret ⟨(((Fr.rf.wI 0 7 _ (show (7 : Nat) ∈ [5, 7, 47] from by decide)).wL 0 47 _ (show (47 : Nat) ∈ [5, 7, 47] from by decide)).wI 0 5 _ (show (5 : Nat) ∈ [5, 7, 47] from by decide)), (show (X.1 0 5).toInt < x5.toInt ∧ x5.toInt ≤ (X.1 0 1).toInt ∧ 1 ≤ (4 : Int) ∧ (4 : Int) ≤ 5 from by omega)⟩
                                  · skip
                                    refine ok.ite (fun c54 => ?_) (fun c54 => ?_)
                                    · skip
                                      exact ok.ret ⟨(((Fr.rf.wI 0 7 _ (show (7 : Nat) ∈ [5, 7, 47] from by decide)).wL 0 47 _ (show (47 : Nat) ∈ [5, 7, 47] from by decide)).wI 0 5 _ (show (5 : Nat) ∈ [5, 7, 47] from by decide)), (show (X.1 0 5).toInt < x5.toInt ∧ x5.toInt ≤ (X.1 0 1).toInt ∧ 1 ≤ (4 : Int) ∧ (4 : Int) ≤ 5 from by omega)⟩
                                    · skip
                                      refine ok.letV ?_
                                      exact ok.ret ⟨((((Fr.rf.wI 0 7 _ (show (7 : Nat) ∈ [5, 7, 47] from by decide)).wL 0 47 _ (show (47 : Nat) ∈ [5, 7, 47] from by decide)).wI 0 5 _ (show (5 : Nat) ∈ [5, 7, 47] from by decide)).wI 0 7 _ (show (7 : Nat) ∈ [5, 7, 47] from by decide)), (show (X.1 0 5).toInt < x5.toInt ∧ x5.toInt ≤ (X.1 0 1).toInt ∧ 1 ≤ (5 : Int) ∧ (5 : Int) ≤ 5 from by omega)⟩
set_option maxHeartbeats 4000000 in
set_option maxRecDepth 100000 in
theorem s_f_name (X : St) (hy0 : 0 ≤ (X.1 0 5).toInt ∧ (X.1 0 5).toInt < (X.1 0 1).toInt ∧ (X.1 0 1).toInt ≤ 3000 ∧ 0 < (letF (X.1 2 (ix (X.1 0 5)))).toInt) : ok (f_name X) (fun r X1 => Fr YR [5, 7, 8, 47] X X1 ∧ ((X.1 0 5).toInt < (X1.1 0 5).toInt ∧ (X1.1 0 5).toInt ≤ (X1.1 0 1).toInt ∧ 1 ≤ (X1.1 0 7).toInt ∧ (X1.1 0 7).toInt ≤ 5)) := by
  unfold f_name
  refine ok.letV ?_
  have lp_f_name_5 : ∀ (n : Nat), ∀ (Z1 : St), Fr YR [5, 7, 8, 47] X Z1 → ((X.1 0 5).toInt ≤ (Z1.1 0 5).toInt ∧ (Z1.1 0 5).toInt ≤ (X.1 0 1).toInt ∧ 0 ≤ (Z1.1 0 8).toInt ∧ (Z1.1 0 8).toInt ≤ (Z1.1 0 5).toInt ∧ ((X.1 0 5).toInt < (Z1.1 0 5).toInt ∨ ((Z1.1 0 5).toInt < (X.1 0 1).toInt ∧ 0 < (letF (X.1 2 (ix (Z1.1 0 5)))).toInt))) → (3001 - (Z1.1 0 5).toInt).toNat < n → ok (f_name_5 n Z1) (fun r X1 => Fr YR [5, 7, 8, 47] X X1 ∧ ((X.1 0 5).toInt < (X1.1 0 5).toInt ∧ (X1.1 0 5).toInt ≤ (X1.1 0 1).toInt ∧ 1 ≤ (X1.1 0 7).toInt ∧ (X1.1 0 7).toInt ≤ 5)) := by
    intro n
    unfold f_name_5
    refine lp_indN (P := fun (n : Nat) (r_f_name_5 : St → Option (Int32 × St)) => ∀ (Z1 : St), Fr YR [5, 7, 8, 47] X Z1 → ((X.1 0 5).toInt ≤ (Z1.1 0 5).toInt ∧ (Z1.1 0 5).toInt ≤ (X.1 0 1).toInt ∧ 0 ≤ (Z1.1 0 8).toInt ∧ (Z1.1 0 8).toInt ≤ (Z1.1 0 5).toInt ∧ ((X.1 0 5).toInt < (Z1.1 0 5).toInt ∨ ((Z1.1 0 5).toInt < (X.1 0 1).toInt ∧ 0 < (letF (X.1 2 (ix (Z1.1 0 5)))).toInt))) → (3001 - (Z1.1 0 5).toInt).toNat < n → ok (r_f_name_5 Z1) (fun r X1 => Fr YR [5, 7, 8, 47] X X1 ∧ ((X.1 0 5).toInt < (X1.1 0 5).toInt ∧ (X1.1 0 5).toInt ≤ (X1.1 0 1).toInt ∧ 1 ≤ (X1.1 0 7).toInt ∧ (X1.1 0 7).toInt ≤ 5))) ?_ ?_ n
    · intro Z1 hF hI hm; exact absurd hm (Nat.not_lt_zero _)
    · intro n r_f_name_5 ih_f_name_5 Z1 hFZ1 hIZ1 hmZ1
      unfold f_name_5_s
      refine ok.letE (v1 := (Z1.1 0 5)) rfl ?_
      refine ok.letE (v1 := (X.1 0 1)) (hFZ1.1 0 1 (show (1 : Nat) ∉ [5, 7, 8, 47] from by decide)) ?_
      refine ok.ite (fun c2 => ?_) (fun c2 => ?_)
      · skip
        unfold f_name_96
        refine ok.letE (v1 := (Z1.1 0 8)) rfl ?_
        refine ok.ite (fun c3 => ?_) (fun c3 => ?_)
        · skip
          refine ok.any (fun y5 => ?_)
          refine ok.bd (s_f_wordOf _ _) ?_
          rintro x6 X_5 ⟨hFh4, hh4⟩
          obtain rfl : Z1 = X_5 := (Fr.nil hFh4).symm
          have hh4 : (-1 ≤ x6.toInt ∧ x6.toInt ≤ 14) := hh4
          unfold f_name_115
          refine ok.ite (fun c6 => ?_) (fun c6 => ?_)
          · skip
            refine ok.letE (v1 := (Z1.1 0 8)) rfl ?_
            refine ok.ite (fun c7 => ?_) (fun c7 => ?_)
            · skip
              unfold f_name_139
              refine ok.letV ?_
              refine ok.ite (fun c8 => ?_) (fun c8 => ?_)
              · skip
                refine ok.any (fun y10 => ?_)
                unfold f_name_156
                refine ok.letV ?_
                exact ok.ret ⟨(((Fr.rf.tr hFZ1 (by decide)).wI 0 7 _ (show (7 : Nat) ∈ [5, 7, 8, 47] from by decide)).wL 0 47 _ (show (47 : Nat) ∈ [5, 7, 8, 47] from by decide)), (show (X.1 0 5).toInt < (Z1.1 0 5).toInt ∧ (Z1.1 0 5).toInt ≤ (Z1.1 0 1).toInt ∧ 1 ≤ (1 : Int) ∧ (1 : Int) ≤ 5 from by have e0_ : (Z1.1 0 1).toInt = (X.1 0 1).toInt := congrArg Int32.toInt (hFZ1.1 0 1 (show (1 : Nat) ∉ [5, 7, 8, 47] from by decide)); omega)⟩
              · skip
                refine ok.any (fun y12 => ?_)
                unfold f_name_156
                refine ok.letV ?_
                exact ok.ret ⟨(((Fr.rf.tr hFZ1 (by decide)).wI 0 7 _ (show (7 : Nat) ∈ [5, 7, 8, 47] from by decide)).wL 0 47 _ (show (47 : Nat) ∈ [5, 7, 8, 47] from by decide)), (show (X.1 0 5).toInt < (Z1.1 0 5).toInt ∧ (Z1.1 0 5).toInt ≤ (Z1.1 0 1).toInt ∧ 1 ≤ (1 : Int) ∧ (1 : Int) ≤ 5 from by have e0_ : (Z1.1 0 1).toInt = (X.1 0 1).toInt := congrArg Int32.toInt (hFZ1.1 0 1 (show (1 : Nat) ∉ [5, 7, 8, 47] from by decide)); omega)⟩
            · skip
              unfold f_name_139
              refine ok.letV ?_
              refine ok.ite (fun c9 => ?_) (fun c9 => ?_)
              · skip
                refine ok.any (fun y10 => ?_)
                unfold f_name_156
                refine ok.letV ?_
                exact ok.ret ⟨(((Fr.rf.tr hFZ1 (by decide)).wI 0 7 _ (show (7 : Nat) ∈ [5, 7, 8, 47] from by decide)).wL 0 47 _ (show (47 : Nat) ∈ [5, 7, 8, 47] from by decide)), (show (X.1 0 5).toInt < (Z1.1 0 5).toInt ∧ (Z1.1 0 5).toInt ≤ (Z1.1 0 1).toInt ∧ 1 ≤ (5 : Int) ∧ (5 : Int) ≤ 5 from by have e0_ : (Z1.1 0 1).toInt = (X.1 0 1).toInt := congrArg Int32.toInt (hFZ1.1 0 1 (show (1 : Nat) ∉ [5, 7, 8, 47] from by decide)); omega)⟩
              · skip
                refine ok.any (fun y12 => ?_)
                unfold f_name_156
                refine ok.letV ?_
                exact ok.ret ⟨(((Fr.rf.tr hFZ1 (by decide)).wI 0 7 _ (show (7 : Nat) ∈ [5, 7, 8, 47] from by decide)).wL 0 47 _ (show (47 : Nat) ∈ [5, 7, 8, 47] from by decide)), (show (X.1 0 5).toInt < (Z1.1 0 5).toInt ∧ (Z1.1 0 5).toInt ≤ (Z1.1 0 1).toInt ∧ 1 ≤ (5 : Int) ∧ (5 : Int) ≤ 5 from by have e0_ : (Z1.1 0 1).toInt = (X.1 0 1).toInt := congrArg Int32.toInt (hFZ1.1 0 1 (show (1 : Nat) ∉ [5, 7, 8, 47] from by decide)); omega)⟩
          · skip
            unfold f_name_139
            refine ok.letV ?_
            refine ok.ite (fun c10 => ?_) (fun c10 => ?_)
            · skip
              refine ok.any (fun y10 => ?_)
              unfold f_name_156
              refine ok.letV ?_
              exact ok.ret ⟨(((Fr.rf.tr hFZ1 (by decide)).wI 0 7 _ (show (7 : Nat) ∈ [5, 7, 8, 47] from by decide)).wL 0 47 _ (show (47 : Nat) ∈ [5, 7, 8, 47] from by decide)), (show (X.1 0 5).toInt < (Z1.1 0 5).toInt ∧ (Z1.1 0 5).toInt ≤ (Z1.1 0 1).toInt ∧ 1 ≤ (2 : Int) ∧ (2 : Int) ≤ 5 from by have e0_ : (Z1.1 0 1).toInt = (X.1 0 1).toInt := congrArg Int32.toInt (hFZ1.1 0 1 (show (1 : Nat) ∉ [5, 7, 8, 47] from by decide)); omega)⟩
            · skip
              refine ok.any (fun y12 => ?_)
              unfold f_name_156
              refine ok.letV ?_
              exact ok.ret ⟨(((Fr.rf.tr hFZ1 (by decide)).wI 0 7 _ (show (7 : Nat) ∈ [5, 7, 8, 47] from by decide)).wL 0 47 _ (show (47 : Nat) ∈ [5, 7, 8, 47] from by decide)), (show (X.1 0 5).toInt < (Z1.1 0 5).toInt ∧ (Z1.1 0 5).toInt ≤ (Z1.1 0 1).toInt ∧ 1 ≤ (2 : Int) ∧ (2 : Int) ≤ 5 from by have e0_ : (Z1.1 0 1).toInt = (X.1 0 1).toInt := congrArg Int32.toInt (hFZ1.1 0 1 (show (1 : Nat) ∉ [5, 7, 8, 47] from by decide)); omega)⟩
        · skip
          unfold f_name_115
          refine ok.ite (fun c11 => ?_) (fun c11 => ?_)
          · skip
            have l12 : ((-1) : Int32).toInt = (-1) := by decide
            refine ok.letE (v1 := (Z1.1 0 8)) rfl ?_
            refine ok.ite (fun c13 => ?_) (fun c13 => ?_)
            · skip
              unfold f_name_139
              refine ok.letV ?_
              refine ok.ite (fun c14 => ?_) (fun c14 => ?_)
              · skip
                have l15 : ((-1) : Int32).toInt = (-1) := by decide
                refine ok.any (fun y10 => ?_)
                unfold f_name_156
                refine ok.letV ?_
                exact ok.ret ⟨(((Fr.rf.tr hFZ1 (by decide)).wI 0 7 _ (show (7 : Nat) ∈ [5, 7, 8, 47] from by decide)).wL 0 47 _ (show (47 : Nat) ∈ [5, 7, 8, 47] from by decide)), (show (X.1 0 5).toInt < (Z1.1 0 5).toInt ∧ (Z1.1 0 5).toInt ≤ (Z1.1 0 1).toInt ∧ 1 ≤ (1 : Int) ∧ (1 : Int) ≤ 5 from by have e0_ : (Z1.1 0 1).toInt = (X.1 0 1).toInt := congrArg Int32.toInt (hFZ1.1 0 1 (show (1 : Nat) ∉ [5, 7, 8, 47] from by decide)); omega)⟩
              · skip
                have l16 : ((-1) : Int32).toInt = (-1) := by decide
                refine ok.any (fun y12 => ?_)
                unfold f_name_156
                refine ok.letV ?_
                exact ok.ret ⟨(((Fr.rf.tr hFZ1 (by decide)).wI 0 7 _ (show (7 : Nat) ∈ [5, 7, 8, 47] from by decide)).wL 0 47 _ (show (47 : Nat) ∈ [5, 7, 8, 47] from by decide)), (show (X.1 0 5).toInt < (Z1.1 0 5).toInt ∧ (Z1.1 0 5).toInt ≤ (Z1.1 0 1).toInt ∧ 1 ≤ (1 : Int) ∧ (1 : Int) ≤ 5 from by have e0_ : (Z1.1 0 1).toInt = (X.1 0 1).toInt := congrArg Int32.toInt (hFZ1.1 0 1 (show (1 : Nat) ∉ [5, 7, 8, 47] from by decide)); omega)⟩
            · skip
              unfold f_name_139
              refine ok.letV ?_
              refine ok.ite (fun c17 => ?_) (fun c17 => ?_)
              · skip
                have l18 : ((-1) : Int32).toInt = (-1) := by decide
                refine ok.any (fun y10 => ?_)
                unfold f_name_156
                refine ok.letV ?_
                exact ok.ret ⟨(((Fr.rf.tr hFZ1 (by decide)).wI 0 7 _ (show (7 : Nat) ∈ [5, 7, 8, 47] from by decide)).wL 0 47 _ (show (47 : Nat) ∈ [5, 7, 8, 47] from by decide)), (show (X.1 0 5).toInt < (Z1.1 0 5).toInt ∧ (Z1.1 0 5).toInt ≤ (Z1.1 0 1).toInt ∧ 1 ≤ (5 : Int) ∧ (5 : Int) ≤ 5 from by have e0_ : (Z1.1 0 1).toInt = (X.1 0 1).toInt := congrArg Int32.toInt (hFZ1.1 0 1 (show (1 : Nat) ∉ [5, 7, 8, 47] from by decide)); omega)⟩
              · skip
                have l19 : ((-1) : Int32).toInt = (-1) := by decide
                refine ok.any (fun y12 => ?_)
                unfold f_name_156
                refine ok.letV ?_
                exact ok.ret ⟨(((Fr.rf.tr hFZ1 (by decide)).wI 0 7 _ (show (7 : Nat) ∈ [5, 7, 8, 47] from by decide)).wL 0 47 _ (show (47 : Nat) ∈ [5, 7, 8, 47] from by decide)), (show (X.1 0 5).toInt < (Z1.1 0 5).toInt ∧ (Z1.1 0 5).toInt ≤ (Z1.1 0 1).toInt ∧ 1 ≤ (5 : Int) ∧ (5 : Int) ≤ 5 from by have e0_ : (Z1.1 0 1).toInt = (X.1 0 1).toInt := congrArg Int32.toInt (hFZ1.1 0 1 (show (1 : Nat) ∉ [5, 7, 8, 47] from by decide)); omega)⟩
          · skip
            have l20 : ((-1) : Int32).toInt = (-1) := by decide
            unfold f_name_139
            refine ok.letV ?_
            refine ok.ite (fun c21 => ?_) (fun c21 => ?_)
            · skip
              have l22 : ((-1) : Int32).toInt = (-1) := by decide
              refine ok.any (fun y10 => ?_)
              unfold f_name_156
              refine ok.letV ?_
              exact ok.ret ⟨(((Fr.rf.tr hFZ1 (by decide)).wI 0 7 _ (show (7 : Nat) ∈ [5, 7, 8, 47] from by decide)).wL 0 47 _ (show (47 : Nat) ∈ [5, 7, 8, 47] from by decide)), (show (X.1 0 5).toInt < (Z1.1 0 5).toInt ∧ (Z1.1 0 5).toInt ≤ (Z1.1 0 1).toInt ∧ 1 ≤ (2 : Int) ∧ (2 : Int) ≤ 5 from by have e0_ : (Z1.1 0 1).toInt = (X.1 0 1).toInt := congrArg Int32.toInt (hFZ1.1 0 1 (show (1 : Nat) ∉ [5, 7, 8, 47] from by decide)); omega)⟩
            · skip
              have l23 : ((-1) : Int32).toInt = (-1) := by decide
              refine ok.any (fun y12 => ?_)
              unfold f_name_156
              refine ok.letV ?_
              exact ok.ret ⟨(((Fr.rf.tr hFZ1 (by decide)).wI 0 7 _ (show (7 : Nat) ∈ [5, 7, 8, 47] from by decide)).wL 0 47 _ (show (47 : Nat) ∈ [5, 7, 8, 47] from by decide)), (show (X.1 0 5).toInt < (Z1.1 0 5).toInt ∧ (Z1.1 0 5).toInt ≤ (Z1.1 0 1).toInt ∧ 1 ≤ (2 : Int) ∧ (2 : Int) ≤ 5 from by have e0_ : (Z1.1 0 1).toInt = (X.1 0 1).toInt := congrArg Int32.toInt (hFZ1.1 0 1 (show (1 : Nat) ∉ [5, 7, 8, 47] from by decide)); omega)⟩
      · skip
        refine ok.letE (v1 := (Z1.1 0 5)) rfl ?_
        refine ok.ck (show 0 ≤ (Z1.1 0 5).toInt ∧ (Z1.1 0 5).toInt < ((3000 : Nat) : Int) from by omega) ?_
        refine ok.letE (v1 := (X.1 2 (ix (Z1.1 0 5)))) (hFZ1.1 2 (ix (Z1.1 0 5)) (show (400 : Nat) ∉ [5, 7, 8, 47] from by decide)) ?_
        refine ok.bd (s_f_letterOf _ _) ?_
        rintro x15 X_25 ⟨hFh24, hh24⟩
        obtain rfl : Z1 = X_25 := (Fr.nil hFh24).symm
        have hh24 : (x15.toInt = (letF (X.1 2 (ix (Z1.1 0 5)))).toInt ∧ 0 ≤ x15.toInt ∧ x15.toInt ≤ 52 ∧ (x15.toInt = 0 ∨ 65 ≤ (X.1 2 (ix (Z1.1 0 5))).toInt)) := hh24
        refine ok.ite (fun c26 => ?_) (fun c26 => ?_)
        · skip
          unfold f_name_96
          refine ok.letE (v1 := (Z1.1 0 8)) rfl ?_
          refine ok.ite (fun c27 => ?_) (fun c27 => ?_)
          · skip
            refine ok.any (fun y5 => ?_)
            refine ok.bd (s_f_wordOf _ _) ?_
            rintro x6 X_29 ⟨hFh28, hh28⟩
            obtain rfl : Z1 = X_29 := (Fr.nil hFh28).symm
            have hh28 : (-1 ≤ x6.toInt ∧ x6.toInt ≤ 14) := hh28
            unfold f_name_115
            refine ok.ite (fun c30 => ?_) (fun c30 => ?_)
            · skip
              refine ok.letE (v1 := (Z1.1 0 8)) rfl ?_
              refine ok.ite (fun c31 => ?_) (fun c31 => ?_)
              · skip
                unfold f_name_139
                refine ok.letV ?_
                refine ok.ite (fun c32 => ?_) (fun c32 => ?_)
                · skip
                  refine ok.any (fun y10 => ?_)
                  unfold f_name_156
                  refine ok.letV ?_
                  exact ok.ret ⟨(((Fr.rf.tr hFZ1 (by decide)).wI 0 7 _ (show (7 : Nat) ∈ [5, 7, 8, 47] from by decide)).wL 0 47 _ (show (47 : Nat) ∈ [5, 7, 8, 47] from by decide)), (show (X.1 0 5).toInt < (Z1.1 0 5).toInt ∧ (Z1.1 0 5).toInt ≤ (Z1.1 0 1).toInt ∧ 1 ≤ (1 : Int) ∧ (1 : Int) ≤ 5 from by have e0_ : (Z1.1 0 1).toInt = (X.1 0 1).toInt := congrArg Int32.toInt (hFZ1.1 0 1 (show (1 : Nat) ∉ [5, 7, 8, 47] from by decide)); omega)⟩
                · skip
                  refine ok.any (fun y12 => ?_)
                  unfold f_name_156
                  refine ok.letV ?_
                  exact ok.ret ⟨(((Fr.rf.tr hFZ1 (by decide)).wI 0 7 _ (show (7 : Nat) ∈ [5, 7, 8, 47] from by decide)).wL 0 47 _ (show (47 : Nat) ∈ [5, 7, 8, 47] from by decide)), (show (X.1 0 5).toInt < (Z1.1 0 5).toInt ∧ (Z1.1 0 5).toInt ≤ (Z1.1 0 1).toInt ∧ 1 ≤ (1 : Int) ∧ (1 : Int) ≤ 5 from by have e0_ : (Z1.1 0 1).toInt = (X.1 0 1).toInt := congrArg Int32.toInt (hFZ1.1 0 1 (show (1 : Nat) ∉ [5, 7, 8, 47] from by decide)); omega)⟩
              · skip
                unfold f_name_139
                refine ok.letV ?_
                refine ok.ite (fun c33 => ?_) (fun c33 => ?_)
                · skip
                  refine ok.any (fun y10 => ?_)
                  unfold f_name_156
                  refine ok.letV ?_
                  exact ok.ret ⟨(((Fr.rf.tr hFZ1 (by decide)).wI 0 7 _ (show (7 : Nat) ∈ [5, 7, 8, 47] from by decide)).wL 0 47 _ (show (47 : Nat) ∈ [5, 7, 8, 47] from by decide)), (show (X.1 0 5).toInt < (Z1.1 0 5).toInt ∧ (Z1.1 0 5).toInt ≤ (Z1.1 0 1).toInt ∧ 1 ≤ (5 : Int) ∧ (5 : Int) ≤ 5 from by have e0_ : (Z1.1 0 1).toInt = (X.1 0 1).toInt := congrArg Int32.toInt (hFZ1.1 0 1 (show (1 : Nat) ∉ [5, 7, 8, 47] from by decide)); omega)⟩
                · skip
                  refine ok.any (fun y12 => ?_)
                  unfold f_name_156
                  refine ok.letV ?_
                  exact ok.ret ⟨(((Fr.rf.tr hFZ1 (by decide)).wI 0 7 _ (show (7 : Nat) ∈ [5, 7, 8, 47] from by decide)).wL 0 47 _ (show (47 : Nat) ∈ [5, 7, 8, 47] from by decide)), (show (X.1 0 5).toInt < (Z1.1 0 5).toInt ∧ (Z1.1 0 5).toInt ≤ (Z1.1 0 1).toInt ∧ 1 ≤ (5 : Int) ∧ (5 : Int) ≤ 5 from by have e0_ : (Z1.1 0 1).toInt = (X.1 0 1).toInt := congrArg Int32.toInt (hFZ1.1 0 1 (show (1 : Nat) ∉ [5, 7, 8, 47] from by decide)); omega)⟩
            · skip
              unfold f_name_139
              refine ok.letV ?_
              refine ok.ite (fun c34 => ?_) (fun c34 => ?_)
              · skip
                refine ok.any (fun y10 => ?_)
                unfold f_name_156
                refine ok.letV ?_
                exact ok.ret ⟨(((Fr.rf.tr hFZ1 (by decide)).wI 0 7 _ (show (7 : Nat) ∈ [5, 7, 8, 47] from by decide)).wL 0 47 _ (show (47 : Nat) ∈ [5, 7, 8, 47] from by decide)), (show (X.1 0 5).toInt < (Z1.1 0 5).toInt ∧ (Z1.1 0 5).toInt ≤ (Z1.1 0 1).toInt ∧ 1 ≤ (2 : Int) ∧ (2 : Int) ≤ 5 from by have e0_ : (Z1.1 0 1).toInt = (X.1 0 1).toInt := congrArg Int32.toInt (hFZ1.1 0 1 (show (1 : Nat) ∉ [5, 7, 8, 47] from by decide)); omega)⟩
              · skip
                refine ok.any (fun y12 => ?_)
                unfold f_name_156
                refine ok.letV ?_
                exact ok.ret ⟨(((Fr.rf.tr hFZ1 (by decide)).wI 0 7 _ (show (7 : Nat) ∈ [5, 7, 8, 47] from by decide)).wL 0 47 _ (show (47 : Nat) ∈ [5, 7, 8, 47] from by decide)), (show (X.1 0 5).toInt < (Z1.1 0 5).toInt ∧ (Z1.1 0 5).toInt ≤ (Z1.1 0 1).toInt ∧ 1 ≤ (2 : Int) ∧ (2 : Int) ≤ 5 from by have e0_ : (Z1.1 0 1).toInt = (X.1 0 1).toInt := congrArg Int32.toInt (hFZ1.1 0 1 (show (1 : Nat) ∉ [5, 7, 8, 47] from by decide)); omega)⟩
          · skip
            unfold f_name_115
            refine ok.ite (fun c35 => ?_) (fun c35 => ?_)
            · skip
              have l36 : ((-1) : Int32).toInt = (-1) := by decide
              refine ok.letE (v1 := (Z1.1 0 8)) rfl ?_
              refine ok.ite (fun c37 => ?_) (fun c37 => ?_)
              · skip
                unfold f_name_139
                refine ok.letV ?_
                refine ok.ite (fun c38 => ?_) (fun c38 => ?_)
                · skip
                  have l39 : ((-1) : Int32).toInt = (-1) := by decide
                  refine ok.any (fun y10 => ?_)
                  unfold f_name_156
                  refine ok.letV ?_
                  exact ok.ret ⟨(((Fr.rf.tr hFZ1 (by decide)).wI 0 7 _ (show (7 : Nat) ∈ [5, 7, 8, 47] from by decide)).wL 0 47 _ (show (47 : Nat) ∈ [5, 7, 8, 47] from by decide)), (show (X.1 0 5).toInt < (Z1.1 0 5).toInt ∧ (Z1.1 0 5).toInt ≤ (Z1.1 0 1).toInt ∧ 1 ≤ (1 : Int) ∧ (1 : Int) ≤ 5 from by have e0_ : (Z1.1 0 1).toInt = (X.1 0 1).toInt := congrArg Int32.toInt (hFZ1.1 0 1 (show (1 : Nat) ∉ [5, 7, 8, 47] from by decide)); omega)⟩
                · skip
                  have l40 : ((-1) : Int32).toInt = (-1) := by decide
                  refine ok.any (fun y12 => ?_)
                  unfold f_name_156
                  refine ok.letV ?_
                  exact ok.ret ⟨(((Fr.rf.tr hFZ1 (by decide)).wI 0 7 _ (show (7 : Nat) ∈ [5, 7, 8, 47] from by decide)).wL 0 47 _ (show (47 : Nat) ∈ [5, 7, 8, 47] from by decide)), (show (X.1 0 5).toInt < (Z1.1 0 5).toInt ∧ (Z1.1 0 5).toInt ≤ (Z1.1 0 1).toInt ∧ 1 ≤ (1 : Int) ∧ (1 : Int) ≤ 5 from by have e0_ : (Z1.1 0 1).toInt = (X.1 0 1).toInt := congrArg Int32.toInt (hFZ1.1 0 1 (show (1 : Nat) ∉ [5, 7, 8, 47] from by decide)); omega)⟩
              · skip
                unfold f_name_139
                refine ok.letV ?_
                refine ok.ite (fun c41 => ?_) (fun c41 => ?_)
                · skip
                  have l42 : ((-1) : Int32).toInt = (-1) := by decide
                  refine ok.any (fun y10 => ?_)
                  unfold f_name_156
                  refine ok.letV ?_
                  exact ok.ret ⟨(((Fr.rf.tr hFZ1 (by decide)).wI 0 7 _ (show (7 : Nat) ∈ [5, 7, 8, 47] from by decide)).wL 0 47 _ (show (47 : Nat) ∈ [5, 7, 8, 47] from by decide)), (show (X.1 0 5).toInt < (Z1.1 0 5).toInt ∧ (Z1.1 0 5).toInt ≤ (Z1.1 0 1).toInt ∧ 1 ≤ (5 : Int) ∧ (5 : Int) ≤ 5 from by have e0_ : (Z1.1 0 1).toInt = (X.1 0 1).toInt := congrArg Int32.toInt (hFZ1.1 0 1 (show (1 : Nat) ∉ [5, 7, 8, 47] from by decide)); omega)⟩
                · skip
                  have l43 : ((-1) : Int32).toInt = (-1) := by decide
                  refine ok.any (fun y12 => ?_)
                  unfold f_name_156
                  refine ok.letV ?_
                  exact ok.ret ⟨(((Fr.rf.tr hFZ1 (by decide)).wI 0 7 _ (show (7 : Nat) ∈ [5, 7, 8, 47] from by decide)).wL 0 47 _ (show (47 : Nat) ∈ [5, 7, 8, 47] from by decide)), (show (X.1 0 5).toInt < (Z1.1 0 5).toInt ∧ (Z1.1 0 5).toInt ≤ (Z1.1 0 1).toInt ∧ 1 ≤ (5 : Int) ∧ (5 : Int) ≤ 5 from by have e0_ : (Z1.1 0 1).toInt = (X.1 0 1).toInt := congrArg Int32.toInt (hFZ1.1 0 1 (show (1 : Nat) ∉ [5, 7, 8, 47] from by decide)); omega)⟩
            · skip
              have l44 : ((-1) : Int32).toInt = (-1) := by decide
              unfold f_name_139
              refine ok.letV ?_
              refine ok.ite (fun c45 => ?_) (fun c45 => ?_)
              · skip
                have l46 : ((-1) : Int32).toInt = (-1) := by decide
                refine ok.any (fun y10 => ?_)
                unfold f_name_156
                refine ok.letV ?_
                exact ok.ret ⟨(((Fr.rf.tr hFZ1 (by decide)).wI 0 7 _ (show (7 : Nat) ∈ [5, 7, 8, 47] from by decide)).wL 0 47 _ (show (47 : Nat) ∈ [5, 7, 8, 47] from by decide)), (show (X.1 0 5).toInt < (Z1.1 0 5).toInt ∧ (Z1.1 0 5).toInt ≤ (Z1.1 0 1).toInt ∧ 1 ≤ (2 : Int) ∧ (2 : Int) ≤ 5 from by have e0_ : (Z1.1 0 1).toInt = (X.1 0 1).toInt := congrArg Int32.toInt (hFZ1.1 0 1 (show (1 : Nat) ∉ [5, 7, 8, 47] from by decide)); omega)⟩
              · skip
                have l47 : ((-1) : Int32).toInt = (-1) := by decide
                refine ok.any (fun y12 => ?_)
                unfold f_name_156
                refine ok.letV ?_
                exact ok.ret ⟨(((Fr.rf.tr hFZ1 (by decide)).wI 0 7 _ (show (7 : Nat) ∈ [5, 7, 8, 47] from by decide)).wL 0 47 _ (show (47 : Nat) ∈ [5, 7, 8, 47] from by decide)), (show (X.1 0 5).toInt < (Z1.1 0 5).toInt ∧ (Z1.1 0 5).toInt ≤ (Z1.1 0 1).toInt ∧ 1 ≤ (2 : Int) ∧ (2 : Int) ≤ 5 from by have e0_ : (Z1.1 0 1).toInt = (X.1 0 1).toInt := congrArg Int32.toInt (hFZ1.1 0 1 (show (1 : Nat) ∉ [5, 7, 8, 47] from by decide)); omega)⟩
        · skip
          refine ok.letE (v1 := (Z1.1 0 8)) rfl ?_
          refine ok.ite (fun c48 => ?_) (fun c48 => ?_)
          · skip
            refine ok.any (fun y18 => ?_)
            unfold f_name_70
            refine ok.letV ?_
            refine ok.letE (v1 := (Z1.1 0 8)) rfl ?_
            refine ok.add (show _ ≤ (Z1.1 0 8).toInt + (1 : Int) ∧ (Z1.1 0 8).toInt + (1 : Int) ≤ _ from by omega) (fun x21 hx21 => ?_)
            have hx21 : x21.toInt = (Z1.1 0 8).toInt + (1 : Int) := hx21
            refine ok.letV ?_
            refine ok.letE (v1 := (Z1.1 0 5)) rfl ?_
            refine ok.add (show _ ≤ (Z1.1 0 5).toInt + (1 : Int) ∧ (Z1.1 0 5).toInt + (1 : Int) ≤ _ from by omega) (fun x24 hx24 => ?_)
            have hx24 : x24.toInt = (Z1.1 0 5).toInt + (1 : Int) := hx24
            refine ok.letV ?_
            exact ih_f_name_5 (wI (wI (wL Z1 0 47 y18) 0 8 x21) 0 5 x24) ((((Fr.rf.tr hFZ1 (by decide)).wL 0 47 _ (show (47 : Nat) ∈ [5, 7, 8, 47] from by decide)).wI 0 8 _ (show (8 : Nat) ∈ [5, 7, 8, 47] from by decide)).wI 0 5 _ (show (5 : Nat) ∈ [5, 7, 8, 47] from by decide)) (show (X.1 0 5).toInt ≤ x24.toInt ∧ x24.toInt ≤ (X.1 0 1).toInt ∧ 0 ≤ x21.toInt ∧ x21.toInt ≤ x24.toInt ∧ ((X.1 0 5).toInt < x24.toInt ∨ (x24.toInt < (X.1 0 1).toInt ∧ 0 < (letF (X.1 2 (ix x24))).toInt)) from by omega) (show (3001 - x24.toInt).toNat < _ from by omega)
          · skip
            refine ok.any (fun y26 => ?_)
            refine ok.any (fun y27 => ?_)
            refine ok.letE (v1 := (Z1.1 0 5)) rfl ?_
            refine ok.ck (show 0 ≤ (Z1.1 0 5).toInt ∧ (Z1.1 0 5).toInt < ((3000 : Nat) : Int) from by omega) ?_
            refine ok.letE (v1 := (X.1 2 (ix (Z1.1 0 5)))) (hFZ1.1 2 (ix (Z1.1 0 5)) (show (400 : Nat) ∉ [5, 7, 8, 47] from by decide)) ?_
            refine ok.bd (s_f_letterOf _ _) ?_
            rintro x30 X_50 ⟨hFh49, hh49⟩
            obtain rfl : Z1 = X_50 := (Fr.nil hFh49).symm
            have hh49 : (x30.toInt = (letF (X.1 2 (ix (Z1.1 0 5)))).toInt ∧ 0 ≤ x30.toInt ∧ x30.toInt ≤ 52 ∧ (x30.toInt = 0 ∨ 65 ≤ (X.1 2 (ix (Z1.1 0 5))).toInt)) := hh49
            refine ok.any (fun y32 => ?_)
            refine ok.any (fun y33 => ?_)
            unfold f_name_70
            refine ok.letV ?_
            refine ok.letE (v1 := (Z1.1 0 8)) rfl ?_
            refine ok.add (show _ ≤ (Z1.1 0 8).toInt + (1 : Int) ∧ (Z1.1 0 8).toInt + (1 : Int) ≤ _ from by omega) (fun x21 hx21 => ?_)
            have hx21 : x21.toInt = (Z1.1 0 8).toInt + (1 : Int) := hx21
            refine ok.letV ?_
            refine ok.letE (v1 := (Z1.1 0 5)) rfl ?_
            refine ok.add (show _ ≤ (Z1.1 0 5).toInt + (1 : Int) ∧ (Z1.1 0 5).toInt + (1 : Int) ≤ _ from by omega) (fun x24 hx24 => ?_)
            have hx24 : x24.toInt = (Z1.1 0 5).toInt + (1 : Int) := hx24
            refine ok.letV ?_
            exact ih_f_name_5 (wI (wI (wL Z1 0 47 y33) 0 8 x21) 0 5 x24) ((((Fr.rf.tr hFZ1 (by decide)).wL 0 47 _ (show (47 : Nat) ∈ [5, 7, 8, 47] from by decide)).wI 0 8 _ (show (8 : Nat) ∈ [5, 7, 8, 47] from by decide)).wI 0 5 _ (show (5 : Nat) ∈ [5, 7, 8, 47] from by decide)) (show (X.1 0 5).toInt ≤ x24.toInt ∧ x24.toInt ≤ (X.1 0 1).toInt ∧ 0 ≤ x21.toInt ∧ x21.toInt ≤ x24.toInt ∧ ((X.1 0 5).toInt < x24.toInt ∨ (x24.toInt < (X.1 0 1).toInt ∧ 0 < (letF (X.1 2 (ix x24))).toInt)) from by omega) (show (3001 - x24.toInt).toNat < _ from by omega)
  exact lp_f_name_5 BIG (wI X 0 8 ((0 : Int32))) (Fr.rf.wI 0 8 _ (show (8 : Nat) ∈ [5, 7, 8, 47] from by decide)) (show (X.1 0 5).toInt ≤ (X.1 0 5).toInt ∧ (X.1 0 5).toInt ≤ (X.1 0 1).toInt ∧ 0 ≤ (0 : Int) ∧ (0 : Int) ≤ (X.1 0 5).toInt ∧ ((X.1 0 5).toInt < (X.1 0 5).toInt ∨ ((X.1 0 5).toInt < (X.1 0 1).toInt ∧ 0 < (letF (X.1 2 (ix (X.1 0 5)))).toInt)) from by omega) (ltBIG (show (3001 - (X.1 0 5).toInt).toNat < 100000 from by omega))
set_option maxHeartbeats 4000000 in
set_option maxRecDepth 100000 in
theorem s_f_next (X : St) (hy0 : 0 ≤ (X.1 0 5).toInt ∧ (X.1 0 5).toInt ≤ (X.1 0 1).toInt ∧ (X.1 0 1).toInt ≤ 3000) : ok (f_next X) (fun r X1 => Fr YR [5, 6, 7, 8, 47] X X1 ∧ (0 ≤ (X1.1 0 6).toInt ∧ (X1.1 0 6).toInt ≤ (X1.1 0 5).toInt ∧ (X1.1 0 5).toInt ≤ (X1.1 0 1).toInt ∧ (X1.1 0 1).toInt ≤ 3000 ∧ 0 ≤ (X1.1 0 7).toInt ∧ (X1.1 0 7).toInt ≤ 5 ∧ ((X1.1 0 7).toInt = 0 ∨ (X1.1 0 6).toInt < (X1.1 0 5).toInt) ∧ (X.1 0 5).toInt ≤ (X1.1 0 6).toInt)) := by
  unfold f_next
  have lp_f_next_0 : ∀ (n : Nat), ∀ (Z1 : St), Fr YR [5, 6, 7, 8, 47] X Z1 → ((X.1 0 5).toInt ≤ (Z1.1 0 5).toInt ∧ (Z1.1 0 5).toInt ≤ (X.1 0 1).toInt) → (3001 - (Z1.1 0 5).toInt).toNat < n → ok (f_next_0 n Z1) (fun r X1 => Fr YR [5, 6, 7, 8, 47] X X1 ∧ (0 ≤ (X1.1 0 6).toInt ∧ (X1.1 0 6).toInt ≤ (X1.1 0 5).toInt ∧ (X1.1 0 5).toInt ≤ (X1.1 0 1).toInt ∧ (X1.1 0 1).toInt ≤ 3000 ∧ 0 ≤ (X1.1 0 7).toInt ∧ (X1.1 0 7).toInt ≤ 5 ∧ ((X1.1 0 7).toInt = 0 ∨ (X1.1 0 6).toInt < (X1.1 0 5).toInt) ∧ (X.1 0 5).toInt ≤ (X1.1 0 6).toInt)) := by
    intro n
    unfold f_next_0
    refine lp_indN (P := fun (n : Nat) (r_f_next_0 : St → Option (Int32 × St)) => ∀ (Z1 : St), Fr YR [5, 6, 7, 8, 47] X Z1 → ((X.1 0 5).toInt ≤ (Z1.1 0 5).toInt ∧ (Z1.1 0 5).toInt ≤ (X.1 0 1).toInt) → (3001 - (Z1.1 0 5).toInt).toNat < n → ok (r_f_next_0 Z1) (fun r X1 => Fr YR [5, 6, 7, 8, 47] X X1 ∧ (0 ≤ (X1.1 0 6).toInt ∧ (X1.1 0 6).toInt ≤ (X1.1 0 5).toInt ∧ (X1.1 0 5).toInt ≤ (X1.1 0 1).toInt ∧ (X1.1 0 1).toInt ≤ 3000 ∧ 0 ≤ (X1.1 0 7).toInt ∧ (X1.1 0 7).toInt ≤ 5 ∧ ((X1.1 0 7).toInt = 0 ∨ (X1.1 0 6).toInt < (X1.1 0 5).toInt) ∧ (X.1 0 5).toInt ≤ (X1.1 0 6).toInt))) ?_ ?_ n
    · intro Z1 hF hI hm; exact absurd hm (Nat.not_lt_zero _)
    · intro n r_f_next_0 ih_f_next_0 Z1 hFZ1 hIZ1 hmZ1
      unfold f_next_0_s
      refine ok.letE (v1 := (Z1.1 0 5)) rfl ?_
      refine ok.letE (v1 := (X.1 0 1)) (hFZ1.1 0 1 (show (1 : Nat) ∉ [5, 6, 7, 8, 47] from by decide)) ?_
      refine ok.ite (fun c2 => ?_) (fun c2 => ?_)
      · skip
        unfold f_next_52
        refine ok.letE (v1 := (Z1.1 0 5)) rfl ?_
        refine ok.letV ?_
        refine ok.letV ?_
        refine ok.letE (v1 := (Z1.1 0 5)) rfl ?_
        refine ok.letE (v1 := (X.1 0 1)) (hFZ1.1 0 1 (show (1 : Nat) ∉ [5, 6, 7, 8, 47] from by decide)) ?_
        refine ok.ite (fun c3 => ?_) (fun c3 => ?_)
        · skip
          refine ok.letV ?_
          exact ok.ret ⟨((((Fr.rf.tr hFZ1 (by decide)).wI 0 6 _ (show (6 : Nat) ∈ [5, 6, 7, 8, 47] from by decide)).wL 0 47 _ (show (47 : Nat) ∈ [5, 6, 7, 8, 47] from by decide)).wI 0 7 _ (show (7 : Nat) ∈ [5, 6, 7, 8, 47] from by decide)), (show 0 ≤ (Z1.1 0 5).toInt ∧ (Z1.1 0 5).toInt ≤ (Z1.1 0 5).toInt ∧ (Z1.1 0 5).toInt ≤ (Z1.1 0 1).toInt ∧ (Z1.1 0 1).toInt ≤ 3000 ∧ 0 ≤ (0 : Int) ∧ (0 : Int) ≤ 5 ∧ ((0 : Int) = 0 ∨ (Z1.1 0 5).toInt < (Z1.1 0 5).toInt) ∧ (X.1 0 5).toInt ≤ (Z1.1 0 5).toInt from by have e0_ : (Z1.1 0 1).toInt = (X.1 0 1).toInt := congrArg Int32.toInt (hFZ1.1 0 1 (show (1 : Nat) ∉ [5, 6, 7, 8, 47] from by decide)); omega)⟩
        · skip
          refine ok.letE (v1 := (Z1.1 0 5)) rfl ?_
          refine ok.ck (show 0 ≤ (Z1.1 0 5).toInt ∧ (Z1.1 0 5).toInt < ((3000 : Nat) : Int) from by omega) ?_
          refine ok.letE (v1 := (X.1 2 (ix (Z1.1 0 5)))) (hFZ1.1 2 (ix (Z1.1 0 5)) (show (400 : Nat) ∉ [5, 6, 7, 8, 47] from by decide)) ?_
          refine ok.bd (s_f_letterOf _ _) ?_
          rintro x10 X_5 ⟨hFh4, hh4⟩
          obtain rfl : (wL (wI Z1 0 6 (Z1.1 0 5)) 0 47 ((0 : Int64))) = X_5 := (Fr.nil hFh4).symm
          have hh4 : (x10.toInt = (letF (X.1 2 (ix (Z1.1 0 5)))).toInt ∧ 0 ≤ x10.toInt ∧ x10.toInt ≤ 52 ∧ (x10.toInt = 0 ∨ 65 ≤ (X.1 2 (ix (Z1.1 0 5))).toInt)) := hh4
          refine ok.ite (fun c6 => ?_) (fun c6 => ?_)
          · skip
            refine ok.bd (s_f_in _ _ _ _) ?_
            rintro x12 X_8 ⟨hFh7, hh7⟩
            obtain rfl : (wL (wI Z1 0 6 (Z1.1 0 5)) 0 47 ((0 : Int64))) = X_8 := (Fr.nil hFh7).symm
            have hh7 : ((x12.toInt = 1 ∧ (48 : Int) ≤ (X.1 2 (ix (Z1.1 0 5))).toInt ∧ (X.1 2 (ix (Z1.1 0 5))).toInt ≤ (57 : Int)) ∨ (x12.toInt = 0 ∧ ((X.1 2 (ix (Z1.1 0 5))).toInt < (48 : Int) ∨ (57 : Int) < (X.1 2 (ix (Z1.1 0 5))).toInt))) := hh7
            refine ok.ite (fun c9 => ?_) (fun c9 => ?_)
            · skip
              refine ok.bd (s_f_sign _ _ (show 0 ≤ (Z1.1 0 5).toInt ∧ (Z1.1 0 5).toInt < (Z1.1 0 1).toInt ∧ (Z1.1 0 1).toInt ≤ 3000 from by have e0_ : (Z1.1 0 1).toInt = (X.1 0 1).toInt := congrArg Int32.toInt (hFZ1.1 0 1 (show (1 : Nat) ∉ [5, 6, 7, 8, 47] from by decide)); omega)) ?_
              rintro r_12 X_11 ⟨hFh10, hh10⟩
              have eh10_0 : (X_11.1 0 1).toInt = (X.1 0 1).toInt := congrArg Int32.toInt ((hFh10.1 0 1 (show (1 : Nat) ∉ [5, 7, 47] from by decide)).trans (hFZ1.1 0 1 (show (1 : Nat) ∉ [5, 6, 7, 8, 47] from by decide)))
              have hh10 : ((Z1.1 0 5).toInt < (X_11.1 0 5).toInt ∧ (X_11.1 0 5).toInt ≤ (X_11.1 0 1).toInt ∧ 1 ≤ (X_11.1 0 7).toInt ∧ (X_11.1 0 7).toInt ≤ 5) := hh10
              exact ok.ret ⟨((((Fr.rf.tr hFZ1 (by decide)).wI 0 6 _ (show (6 : Nat) ∈ [5, 6, 7, 8, 47] from by decide)).wL 0 47 _ (show (47 : Nat) ∈ [5, 6, 7, 8, 47] from by decide)).tr hFh10 (by decide)), (show 0 ≤ (X_11.1 0 6).toInt ∧ (X_11.1 0 6).toInt ≤ (X_11.1 0 5).toInt ∧ (X_11.1 0 5).toInt ≤ (X_11.1 0 1).toInt ∧ (X_11.1 0 1).toInt ≤ 3000 ∧ 0 ≤ (X_11.1 0 7).toInt ∧ (X_11.1 0 7).toInt ≤ 5 ∧ ((X_11.1 0 7).toInt = 0 ∨ (X_11.1 0 6).toInt < (X_11.1 0 5).toInt) ∧ (X.1 0 5).toInt ≤ (X_11.1 0 6).toInt from by have e0_ : (X_11.1 0 6).toInt = (Z1.1 0 5).toInt := congrArg Int32.toInt (hFh10.1 0 6 (show (6 : Nat) ∉ [5, 7, 47] from by decide)); have e1_ : (X_11.1 0 1).toInt = (X.1 0 1).toInt := congrArg Int32.toInt ((hFh10.1 0 1 (show (1 : Nat) ∉ [5, 7, 47] from by decide)).trans (hFZ1.1 0 1 (show (1 : Nat) ∉ [5, 6, 7, 8, 47] from by decide))); omega)⟩
            · skip
              refine ok.letV ?_
              have lp_f_next_122 : ∀ (n : Nat), ∀ (Z13 : St), Fr YR [5, 6, 7, 8, 47] X Z13 → ((X.1 0 5).toInt ≤ (Z13.1 0 6).toInt ∧ (Z13.1 0 6).toInt ≤ (Z13.1 0 5).toInt ∧ (Z13.1 0 5).toInt ≤ (X.1 0 1).toInt ∧ (Z13.1 0 7).toInt = 3 ∧ ((Z13.1 0 6).toInt < (Z13.1 0 5).toInt ∨ ((Z13.1 0 5).toInt < (X.1 0 1).toInt ∧ 48 ≤ (X.1 2 (ix (Z13.1 0 5))).toInt ∧ (X.1 2 (ix (Z13.1 0 5))).toInt ≤ 57))) → (3001 - (Z13.1 0 5).toInt).toNat < n → ok (f_next_122 n Z13) (fun r X1 => Fr YR [5, 6, 7, 8, 47] X X1 ∧ (0 ≤ (X1.1 0 6).toInt ∧ (X1.1 0 6).toInt ≤ (X1.1 0 5).toInt ∧ (X1.1 0 5).toInt ≤ (X1.1 0 1).toInt ∧ (X1.1 0 1).toInt ≤ 3000 ∧ 0 ≤ (X1.1 0 7).toInt ∧ (X1.1 0 7).toInt ≤ 5 ∧ ((X1.1 0 7).toInt = 0 ∨ (X1.1 0 6).toInt < (X1.1 0 5).toInt) ∧ (X.1 0 5).toInt ≤ (X1.1 0 6).toInt)) := by
                intro n
                unfold f_next_122
                refine lp_indN (P := fun (n : Nat) (r_f_next_122 : St → Option (Int32 × St)) => ∀ (Z13 : St), Fr YR [5, 6, 7, 8, 47] X Z13 → ((X.1 0 5).toInt ≤ (Z13.1 0 6).toInt ∧ (Z13.1 0 6).toInt ≤ (Z13.1 0 5).toInt ∧ (Z13.1 0 5).toInt ≤ (X.1 0 1).toInt ∧ (Z13.1 0 7).toInt = 3 ∧ ((Z13.1 0 6).toInt < (Z13.1 0 5).toInt ∨ ((Z13.1 0 5).toInt < (X.1 0 1).toInt ∧ 48 ≤ (X.1 2 (ix (Z13.1 0 5))).toInt ∧ (X.1 2 (ix (Z13.1 0 5))).toInt ≤ 57))) → (3001 - (Z13.1 0 5).toInt).toNat < n → ok (r_f_next_122 Z13) (fun r X1 => Fr YR [5, 6, 7, 8, 47] X X1 ∧ (0 ≤ (X1.1 0 6).toInt ∧ (X1.1 0 6).toInt ≤ (X1.1 0 5).toInt ∧ (X1.1 0 5).toInt ≤ (X1.1 0 1).toInt ∧ (X1.1 0 1).toInt ≤ 3000 ∧ 0 ≤ (X1.1 0 7).toInt ∧ (X1.1 0 7).toInt ≤ 5 ∧ ((X1.1 0 7).toInt = 0 ∨ (X1.1 0 6).toInt < (X1.1 0 5).toInt) ∧ (X.1 0 5).toInt ≤ (X1.1 0 6).toInt))) ?_ ?_ n
                · intro Z13 hF hI hm; exact absurd hm (Nat.not_lt_zero _)
                · intro n r_f_next_122 ih_f_next_122 Z13 hFZ13 hIZ13 hmZ13
                  unfold f_next_122_s
                  refine ok.letE (v1 := (Z13.1 0 5)) rfl ?_
                  refine ok.letE (v1 := (X.1 0 1)) (hFZ13.1 0 1 (show (1 : Nat) ∉ [5, 6, 7, 8, 47] from by decide)) ?_
                  refine ok.ite (fun c14 => ?_) (fun c14 => ?_)
                  · skip
                    exact ok.ret ⟨(Fr.rf.tr hFZ13 (by decide)), (show 0 ≤ (Z13.1 0 6).toInt ∧ (Z13.1 0 6).toInt ≤ (Z13.1 0 5).toInt ∧ (Z13.1 0 5).toInt ≤ (Z13.1 0 1).toInt ∧ (Z13.1 0 1).toInt ≤ 3000 ∧ 0 ≤ (Z13.1 0 7).toInt ∧ (Z13.1 0 7).toInt ≤ 5 ∧ ((Z13.1 0 7).toInt = 0 ∨ (Z13.1 0 6).toInt < (Z13.1 0 5).toInt) ∧ (X.1 0 5).toInt ≤ (Z13.1 0 6).toInt from by have e0_ : (Z13.1 0 1).toInt = (X.1 0 1).toInt := congrArg Int32.toInt (hFZ13.1 0 1 (show (1 : Nat) ∉ [5, 6, 7, 8, 47] from by decide)); omega)⟩
                  · skip
                    refine ok.letE (v1 := (Z13.1 0 5)) rfl ?_
                    refine ok.ck (show 0 ≤ (Z13.1 0 5).toInt ∧ (Z13.1 0 5).toInt < ((3000 : Nat) : Int) from by omega) ?_
                    refine ok.letE (v1 := (X.1 2 (ix (Z13.1 0 5)))) (hFZ13.1 2 (ix (Z13.1 0 5)) (show (400 : Nat) ∉ [5, 6, 7, 8, 47] from by decide)) ?_
                    refine ok.bd (s_f_in _ _ _ _) ?_
                    rintro x20 X_16 ⟨hFh15, hh15⟩
                    obtain rfl : Z13 = X_16 := (Fr.nil hFh15).symm
                    have hh15 : ((x20.toInt = 1 ∧ (48 : Int) ≤ (X.1 2 (ix (Z13.1 0 5))).toInt ∧ (X.1 2 (ix (Z13.1 0 5))).toInt ≤ (57 : Int)) ∨ (x20.toInt = 0 ∧ ((X.1 2 (ix (Z13.1 0 5))).toInt < (48 : Int) ∨ (57 : Int) < (X.1 2 (ix (Z13.1 0 5))).toInt))) := hh15
                    refine ok.ite (fun c17 => ?_) (fun c17 => ?_)
                    · skip
                      exact ok.ret ⟨(Fr.rf.tr hFZ13 (by decide)), (show 0 ≤ (Z13.1 0 6).toInt ∧ (Z13.1 0 6).toInt ≤ (Z13.1 0 5).toInt ∧ (Z13.1 0 5).toInt ≤ (Z13.1 0 1).toInt ∧ (Z13.1 0 1).toInt ≤ 3000 ∧ 0 ≤ (Z13.1 0 7).toInt ∧ (Z13.1 0 7).toInt ≤ 5 ∧ ((Z13.1 0 7).toInt = 0 ∨ (Z13.1 0 6).toInt < (Z13.1 0 5).toInt) ∧ (X.1 0 5).toInt ≤ (Z13.1 0 6).toInt from by have e0_ : (Z13.1 0 1).toInt = (X.1 0 1).toInt := congrArg Int32.toInt (hFZ13.1 0 1 (show (1 : Nat) ∉ [5, 6, 7, 8, 47] from by decide)); omega)⟩
                    · skip
                      refine ok.any (fun y22 => ?_)
                      refine ok.any (fun x23 => ?_)
                      refine ok.ite (fun c18 => ?_) (fun c18 => ?_)
                      · skip
                        refine ok.any (fun y24 => ?_)
                        refine ok.any (fun y25 => ?_)
                        refine ok.letE (v1 := (Z13.1 0 5)) rfl ?_
                        refine ok.ck (show 0 ≤ (Z13.1 0 5).toInt ∧ (Z13.1 0 5).toInt < ((3000 : Nat) : Int) from by omega) ?_
                        refine ok.letE (v1 := (X.1 2 (ix (Z13.1 0 5)))) (hFZ13.1 2 (ix (Z13.1 0 5)) (show (400 : Nat) ∉ [5, 6, 7, 8, 47] from by decide)) ?_
                        refine ok.any (fun y28 => ?_)
                        refine ok.any (fun y29 => ?_)
                        refine ok.any (fun y30 => ?_)
                        unfold f_next_194
                        refine ok.letV ?_
                        refine ok.letE (v1 := (Z13.1 0 5)) rfl ?_
                        refine ok.add (show _ ≤ (Z13.1 0 5).toInt + (1 : Int) ∧ (Z13.1 0 5).toInt + (1 : Int) ≤ _ from by omega) (fun x33 hx33 => ?_)
                        have hx33 : x33.toInt = (Z13.1 0 5).toInt + (1 : Int) := hx33
                        refine ok.letV ?_
                        exact ih_f_next_122 (wI (wL Z13 0 47 y30) 0 5 x33) (((Fr.rf.tr hFZ13 (by decide)).wL 0 47 _ (show (47 : Nat) ∈ [5, 6, 7, 8, 47] from by decide)).wI 0 5 _ (show (5 : Nat) ∈ [5, 6, 7, 8, 47] from by decide)) (show (X.1 0 5).toInt ≤ (Z13.1 0 6).toInt ∧ (Z13.1 0 6).toInt ≤ x33.toInt ∧ x33.toInt ≤ (X.1 0 1).toInt ∧ (Z13.1 0 7).toInt = 3 ∧ ((Z13.1 0 6).toInt < x33.toInt ∨ (x33.toInt < (X.1 0 1).toInt ∧ 48 ≤ (X.1 2 (ix x33)).toInt ∧ (X.1 2 (ix x33)).toInt ≤ 57)) from by omega) (show (3001 - x33.toInt).toNat < _ from by omega)
                      · skip
                        refine ok.any (fun y35 => ?_)
                        unfold f_next_194
                        refine ok.letV ?_
                        refine ok.letE (v1 := (Z13.1 0 5)) rfl ?_
                        refine ok.add (show _ ≤ (Z13.1 0 5).toInt + (1 : Int) ∧ (Z13.1 0 5).toInt + (1 : Int) ≤ _ from by omega) (fun x33 hx33 => ?_)
                        have hx33 : x33.toInt = (Z13.1 0 5).toInt + (1 : Int) := hx33
                        refine ok.letV ?_
                        exact ih_f_next_122 (wI (wL Z13 0 47 y35) 0 5 x33) (((Fr.rf.tr hFZ13 (by decide)).wL 0 47 _ (show (47 : Nat) ∈ [5, 6, 7, 8, 47] from by decide)).wI 0 5 _ (show (5 : Nat) ∈ [5, 6, 7, 8, 47] from by decide)) (show (X.1 0 5).toInt ≤ (Z13.1 0 6).toInt ∧ (Z13.1 0 6).toInt ≤ x33.toInt ∧ x33.toInt ≤ (X.1 0 1).toInt ∧ (Z13.1 0 7).toInt = 3 ∧ ((Z13.1 0 6).toInt < x33.toInt ∨ (x33.toInt < (X.1 0 1).toInt ∧ 48 ≤ (X.1 2 (ix x33)).toInt ∧ (X.1 2 (ix x33)).toInt ≤ 57)) from by omega) (show (3001 - x33.toInt).toNat < _ from by omega)
              exact lp_f_next_122 BIG (wI (wL (wI Z1 0 6 (Z1.1 0 5)) 0 47 ((0 : Int64))) 0 7 ((3 : Int32))) ((((Fr.rf.tr hFZ1 (by decide)).wI 0 6 _ (show (6 : Nat) ∈ [5, 6, 7, 8, 47] from by decide)).wL 0 47 _ (show (47 : Nat) ∈ [5, 6, 7, 8, 47] from by decide)).wI 0 7 _ (show (7 : Nat) ∈ [5, 6, 7, 8, 47] from by decide)) (show (X.1 0 5).toInt ≤ (Z1.1 0 5).toInt ∧ (Z1.1 0 5).toInt ≤ (Z1.1 0 5).toInt ∧ (Z1.1 0 5).toInt ≤ (X.1 0 1).toInt ∧ (3 : Int) = 3 ∧ ((Z1.1 0 5).toInt < (Z1.1 0 5).toInt ∨ ((Z1.1 0 5).toInt < (X.1 0 1).toInt ∧ 48 ≤ (X.1 2 (ix (Z1.1 0 5))).toInt ∧ (X.1 2 (ix (Z1.1 0 5))).toInt ≤ 57)) from by omega) (ltBIG (show (3001 - (Z1.1 0 5).toInt).toNat < 100000 from by omega))
          · skip
            refine ok.bd (s_f_name  _ (show 0 ≤ (Z1.1 0 5).toInt ∧ (Z1.1 0 5).toInt < (Z1.1 0 1).toInt ∧ (Z1.1 0 1).toInt ≤ 3000 ∧ 0 < (letF (Z1.1 2 (ix (Z1.1 0 5)))).toInt from by have e0_ : (Z1.1 0 1).toInt = (X.1 0 1).toInt := congrArg Int32.toInt (hFZ1.1 0 1 (show (1 : Nat) ∉ [5, 6, 7, 8, 47] from by decide)); rw [show (Z1.1 2 (ix (Z1.1 0 5))) = (X.1 2 (ix (Z1.1 0 5))) from (hFZ1.1 2 (ix (Z1.1 0 5)) (show (400 : Nat) ∉ [5, 6, 7, 8, 47] from by decide))]; omega)) ?_
            rintro r_21 X_20 ⟨hFh19, hh19⟩
            have eh19_0 : (X_20.1 0 1).toInt = (X.1 0 1).toInt := congrArg Int32.toInt ((hFh19.1 0 1 (show (1 : Nat) ∉ [5, 7, 8, 47] from by decide)).trans (hFZ1.1 0 1 (show (1 : Nat) ∉ [5, 6, 7, 8, 47] from by decide)))
            have hh19 : ((Z1.1 0 5).toInt < (X_20.1 0 5).toInt ∧ (X_20.1 0 5).toInt ≤ (X_20.1 0 1).toInt ∧ 1 ≤ (X_20.1 0 7).toInt ∧ (X_20.1 0 7).toInt ≤ 5) := hh19
            exact ok.ret ⟨((((Fr.rf.tr hFZ1 (by decide)).wI 0 6 _ (show (6 : Nat) ∈ [5, 6, 7, 8, 47] from by decide)).wL 0 47 _ (show (47 : Nat) ∈ [5, 6, 7, 8, 47] from by decide)).tr hFh19 (by decide)), (show 0 ≤ (X_20.1 0 6).toInt ∧ (X_20.1 0 6).toInt ≤ (X_20.1 0 5).toInt ∧ (X_20.1 0 5).toInt ≤ (X_20.1 0 1).toInt ∧ (X_20.1 0 1).toInt ≤ 3000 ∧ 0 ≤ (X_20.1 0 7).toInt ∧ (X_20.1 0 7).toInt ≤ 5 ∧ ((X_20.1 0 7).toInt = 0 ∨ (X_20.1 0 6).toInt < (X_20.1 0 5).toInt) ∧ (X.1 0 5).toInt ≤ (X_20.1 0 6).toInt from by have e0_ : (X_20.1 0 6).toInt = (Z1.1 0 5).toInt := congrArg Int32.toInt (hFh19.1 0 6 (show (6 : Nat) ∉ [5, 7, 8, 47] from by decide)); have e1_ : (X_20.1 0 1).toInt = (X.1 0 1).toInt := congrArg Int32.toInt ((hFh19.1 0 1 (show (1 : Nat) ∉ [5, 7, 8, 47] from by decide)).trans (hFZ1.1 0 1 (show (1 : Nat) ∉ [5, 6, 7, 8, 47] from by decide))); omega)⟩
      · skip
        refine ok.letE (v1 := (Z1.1 0 5)) rfl ?_
        refine ok.ck (show 0 ≤ (Z1.1 0 5).toInt ∧ (Z1.1 0 5).toInt < ((3000 : Nat) : Int) from by omega) ?_
        refine ok.letE (v1 := (X.1 2 (ix (Z1.1 0 5)))) (hFZ1.1 2 (ix (Z1.1 0 5)) (show (400 : Nat) ∉ [5, 6, 7, 8, 47] from by decide)) ?_
        refine ok.ite (fun c22 => ?_) (fun c22 => ?_)
        · skip
          unfold f_next_39
          refine ok.letE (v1 := (Z1.1 0 5)) rfl ?_
          refine ok.add (show _ ≤ (Z1.1 0 5).toInt + (1 : Int) ∧ (Z1.1 0 5).toInt + (1 : Int) ≤ _ from by omega) (fun x41 hx41 => ?_)
          have hx41 : x41.toInt = (Z1.1 0 5).toInt + (1 : Int) := hx41
          refine ok.letV ?_
          exact ih_f_next_0 (wI Z1 0 5 x41) ((Fr.rf.tr hFZ1 (by decide)).wI 0 5 _ (show (5 : Nat) ∈ [5, 6, 7, 8, 47] from by decide)) (show (X.1 0 5).toInt ≤ x41.toInt ∧ x41.toInt ≤ (X.1 0 1).toInt from by omega) (show (3001 - x41.toInt).toNat < _ from by omega)
        · skip
          refine ok.letE (v1 := (Z1.1 0 5)) rfl ?_
          refine ok.ck (show 0 ≤ (Z1.1 0 5).toInt ∧ (Z1.1 0 5).toInt < ((3000 : Nat) : Int) from by omega) ?_
          refine ok.letE (v1 := (X.1 2 (ix (Z1.1 0 5)))) (hFZ1.1 2 (ix (Z1.1 0 5)) (show (400 : Nat) ∉ [5, 6, 7, 8, 47] from by decide)) ?_
          refine ok.ite (fun c23 => ?_) (fun c23 => ?_)
          · skip
            unfold f_next_39
            refine ok.letE (v1 := (Z1.1 0 5)) rfl ?_
            refine ok.add (show _ ≤ (Z1.1 0 5).toInt + (1 : Int) ∧ (Z1.1 0 5).toInt + (1 : Int) ≤ _ from by omega) (fun x41 hx41 => ?_)
            have hx41 : x41.toInt = (Z1.1 0 5).toInt + (1 : Int) := hx41
            refine ok.letV ?_
            exact ih_f_next_0 (wI Z1 0 5 x41) ((Fr.rf.tr hFZ1 (by decide)).wI 0 5 _ (show (5 : Nat) ∈ [5, 6, 7, 8, 47] from by decide)) (show (X.1 0 5).toInt ≤ x41.toInt ∧ x41.toInt ≤ (X.1 0 1).toInt from by omega) (show (3001 - x41.toInt).toNat < _ from by omega)
          · skip
            unfold f_next_52
            refine ok.letE (v1 := (Z1.1 0 5)) rfl ?_
            refine ok.letV ?_
            refine ok.letV ?_
            refine ok.letE (v1 := (Z1.1 0 5)) rfl ?_
            refine ok.letE (v1 := (X.1 0 1)) (hFZ1.1 0 1 (show (1 : Nat) ∉ [5, 6, 7, 8, 47] from by decide)) ?_
            refine ok.ite (fun c24 => ?_) (fun c24 => ?_)
            · skip
              refine ok.letV ?_
              exact ok.ret ⟨((((Fr.rf.tr hFZ1 (by decide)).wI 0 6 _ (show (6 : Nat) ∈ [5, 6, 7, 8, 47] from by decide)).wL 0 47 _ (show (47 : Nat) ∈ [5, 6, 7, 8, 47] from by decide)).wI 0 7 _ (show (7 : Nat) ∈ [5, 6, 7, 8, 47] from by decide)), (show 0 ≤ (Z1.1 0 5).toInt ∧ (Z1.1 0 5).toInt ≤ (Z1.1 0 5).toInt ∧ (Z1.1 0 5).toInt ≤ (Z1.1 0 1).toInt ∧ (Z1.1 0 1).toInt ≤ 3000 ∧ 0 ≤ (0 : Int) ∧ (0 : Int) ≤ 5 ∧ ((0 : Int) = 0 ∨ (Z1.1 0 5).toInt < (Z1.1 0 5).toInt) ∧ (X.1 0 5).toInt ≤ (Z1.1 0 5).toInt from by have e0_ : (Z1.1 0 1).toInt = (X.1 0 1).toInt := congrArg Int32.toInt (hFZ1.1 0 1 (show (1 : Nat) ∉ [5, 6, 7, 8, 47] from by decide)); omega)⟩
            · skip
              refine ok.letE (v1 := (Z1.1 0 5)) rfl ?_
              refine ok.ck (show 0 ≤ (Z1.1 0 5).toInt ∧ (Z1.1 0 5).toInt < ((3000 : Nat) : Int) from by omega) ?_
              refine ok.letE (v1 := (X.1 2 (ix (Z1.1 0 5)))) (hFZ1.1 2 (ix (Z1.1 0 5)) (show (400 : Nat) ∉ [5, 6, 7, 8, 47] from by decide)) ?_
              refine ok.bd (s_f_letterOf _ _) ?_
              rintro x10 X_26 ⟨hFh25, hh25⟩
              obtain rfl : (wL (wI Z1 0 6 (Z1.1 0 5)) 0 47 ((0 : Int64))) = X_26 := (Fr.nil hFh25).symm
              have hh25 : (x10.toInt = (letF (X.1 2 (ix (Z1.1 0 5)))).toInt ∧ 0 ≤ x10.toInt ∧ x10.toInt ≤ 52 ∧ (x10.toInt = 0 ∨ 65 ≤ (X.1 2 (ix (Z1.1 0 5))).toInt)) := hh25
              refine ok.ite (fun c27 => ?_) (fun c27 => ?_)
              · skip
                refine ok.bd (s_f_in _ _ _ _) ?_
                rintro x12 X_29 ⟨hFh28, hh28⟩
                obtain rfl : (wL (wI Z1 0 6 (Z1.1 0 5)) 0 47 ((0 : Int64))) = X_29 := (Fr.nil hFh28).symm
                have hh28 : ((x12.toInt = 1 ∧ (48 : Int) ≤ (X.1 2 (ix (Z1.1 0 5))).toInt ∧ (X.1 2 (ix (Z1.1 0 5))).toInt ≤ (57 : Int)) ∨ (x12.toInt = 0 ∧ ((X.1 2 (ix (Z1.1 0 5))).toInt < (48 : Int) ∨ (57 : Int) < (X.1 2 (ix (Z1.1 0 5))).toInt))) := hh28
                refine ok.ite (fun c30 => ?_) (fun c30 => ?_)
                · skip
                  refine ok.bd (s_f_sign _ _ (show 0 ≤ (Z1.1 0 5).toInt ∧ (Z1.1 0 5).toInt < (Z1.1 0 1).toInt ∧ (Z1.1 0 1).toInt ≤ 3000 from by have e0_ : (Z1.1 0 1).toInt = (X.1 0 1).toInt := congrArg Int32.toInt (hFZ1.1 0 1 (show (1 : Nat) ∉ [5, 6, 7, 8, 47] from by decide)); omega)) ?_
                  rintro r_33 X_32 ⟨hFh31, hh31⟩
                  have eh31_0 : (X_32.1 0 1).toInt = (X.1 0 1).toInt := congrArg Int32.toInt ((hFh31.1 0 1 (show (1 : Nat) ∉ [5, 7, 47] from by decide)).trans (hFZ1.1 0 1 (show (1 : Nat) ∉ [5, 6, 7, 8, 47] from by decide)))
                  have hh31 : ((Z1.1 0 5).toInt < (X_32.1 0 5).toInt ∧ (X_32.1 0 5).toInt ≤ (X_32.1 0 1).toInt ∧ 1 ≤ (X_32.1 0 7).toInt ∧ (X_32.1 0 7).toInt ≤ 5) := hh31
                  exact ok.ret ⟨((((Fr.rf.tr hFZ1 (by decide)).wI 0 6 _ (show (6 : Nat) ∈ [5, 6, 7, 8, 47] from by decide)).wL 0 47 _ (show (47 : Nat) ∈ [5, 6, 7, 8, 47] from by decide)).tr hFh31 (by decide)), (show 0 ≤ (X_32.1 0 6).toInt ∧ (X_32.1 0 6).toInt ≤ (X_32.1 0 5).toInt ∧ (X_32.1 0 5).toInt ≤ (X_32.1 0 1).toInt ∧ (X_32.1 0 1).toInt ≤ 3000 ∧ 0 ≤ (X_32.1 0 7).toInt ∧ (X_32.1 0 7).toInt ≤ 5 ∧ ((X_32.1 0 7).toInt = 0 ∨ (X_32.1 0 6).toInt < (X_32.1 0 5).toInt) ∧ (X.1 0 5).toInt ≤ (X_32.1 0 6).toInt from by have e0_ : (X_32.1 0 6).toInt = (Z1.1 0 5).toInt := congrArg Int32.toInt (hFh31.1 0 6 (show (6 : Nat) ∉ [5, 7, 47] from by decide)); have e1_ : (X_32.1 0 1).toInt = (X.1 0 1).toInt := congrArg Int32.toInt ((hFh31.1 0 1 (show (1 : Nat) ∉ [5, 7, 47] from by decide)).trans (hFZ1.1 0 1 (show (1 : Nat) ∉ [5, 6, 7, 8, 47] from by decide))); omega)⟩
                · skip
                  refine ok.letV ?_
                  have lp_f_next_122 : ∀ (n : Nat), ∀ (Z34 : St), Fr YR [5, 6, 7, 8, 47] X Z34 → ((X.1 0 5).toInt ≤ (Z34.1 0 6).toInt ∧ (Z34.1 0 6).toInt ≤ (Z34.1 0 5).toInt ∧ (Z34.1 0 5).toInt ≤ (X.1 0 1).toInt ∧ (Z34.1 0 7).toInt = 3 ∧ ((Z34.1 0 6).toInt < (Z34.1 0 5).toInt ∨ ((Z34.1 0 5).toInt < (X.1 0 1).toInt ∧ 48 ≤ (X.1 2 (ix (Z34.1 0 5))).toInt ∧ (X.1 2 (ix (Z34.1 0 5))).toInt ≤ 57))) → (3001 - (Z34.1 0 5).toInt).toNat < n → ok (f_next_122 n Z34) (fun r X1 => Fr YR [5, 6, 7, 8, 47] X X1 ∧ (0 ≤ (X1.1 0 6).toInt ∧ (X1.1 0 6).toInt ≤ (X1.1 0 5).toInt ∧ (X1.1 0 5).toInt ≤ (X1.1 0 1).toInt ∧ (X1.1 0 1).toInt ≤ 3000 ∧ 0 ≤ (X1.1 0 7).toInt ∧ (X1.1 0 7).toInt ≤ 5 ∧ ((X1.1 0 7).toInt = 0 ∨ (X1.1 0 6).toInt < (X1.1 0 5).toInt) ∧ (X.1 0 5).toInt ≤ (X1.1 0 6).toInt)) := by
                    intro n
                    unfold f_next_122
                    refine lp_indN (P := fun (n : Nat) (r_f_next_122 : St → Option (Int32 × St)) => ∀ (Z34 : St), Fr YR [5, 6, 7, 8, 47] X Z34 → ((X.1 0 5).toInt ≤ (Z34.1 0 6).toInt ∧ (Z34.1 0 6).toInt ≤ (Z34.1 0 5).toInt ∧ (Z34.1 0 5).toInt ≤ (X.1 0 1).toInt ∧ (Z34.1 0 7).toInt = 3 ∧ ((Z34.1 0 6).toInt < (Z34.1 0 5).toInt ∨ ((Z34.1 0 5).toInt < (X.1 0 1).toInt ∧ 48 ≤ (X.1 2 (ix (Z34.1 0 5))).toInt ∧ (X.1 2 (ix (Z34.1 0 5))).toInt ≤ 57))) → (3001 - (Z34.1 0 5).toInt).toNat < n → ok (r_f_next_122 Z34) (fun r X1 => Fr YR [5, 6, 7, 8, 47] X X1 ∧ (0 ≤ (X1.1 0 6).toInt ∧ (X1.1 0 6).toInt ≤ (X1.1 0 5).toInt ∧ (X1.1 0 5).toInt ≤ (X1.1 0 1).toInt ∧ (X1.1 0 1).toInt ≤ 3000 ∧ 0 ≤ (X1.1 0 7).toInt ∧ (X1.1 0 7).toInt ≤ 5 ∧ ((X1.1 0 7).toInt = 0 ∨ (X1.1 0 6).toInt < (X1.1 0 5).toInt) ∧ (X.1 0 5).toInt ≤ (X1.1 0 6).toInt))) ?_ ?_ n
                    · intro Z34 hF hI hm; exact absurd hm (Nat.not_lt_zero _)
                    · intro n r_f_next_122 ih_f_next_122 Z34 hFZ34 hIZ34 hmZ34
                      unfold f_next_122_s
                      refine ok.letE (v1 := (Z34.1 0 5)) rfl ?_
                      refine ok.letE (v1 := (X.1 0 1)) (hFZ34.1 0 1 (show (1 : Nat) ∉ [5, 6, 7, 8, 47] from by decide)) ?_
                      refine ok.ite (fun c35 => ?_) (fun c35 => ?_)
                      · skip
                        exact ok.ret ⟨(Fr.rf.tr hFZ34 (by decide)), (show 0 ≤ (Z34.1 0 6).toInt ∧ (Z34.1 0 6).toInt ≤ (Z34.1 0 5).toInt ∧ (Z34.1 0 5).toInt ≤ (Z34.1 0 1).toInt ∧ (Z34.1 0 1).toInt ≤ 3000 ∧ 0 ≤ (Z34.1 0 7).toInt ∧ (Z34.1 0 7).toInt ≤ 5 ∧ ((Z34.1 0 7).toInt = 0 ∨ (Z34.1 0 6).toInt < (Z34.1 0 5).toInt) ∧ (X.1 0 5).toInt ≤ (Z34.1 0 6).toInt from by have e0_ : (Z34.1 0 1).toInt = (X.1 0 1).toInt := congrArg Int32.toInt (hFZ34.1 0 1 (show (1 : Nat) ∉ [5, 6, 7, 8, 47] from by decide)); omega)⟩
                      · skip
                        refine ok.letE (v1 := (Z34.1 0 5)) rfl ?_
                        refine ok.ck (show 0 ≤ (Z34.1 0 5).toInt ∧ (Z34.1 0 5).toInt < ((3000 : Nat) : Int) from by omega) ?_
                        refine ok.letE (v1 := (X.1 2 (ix (Z34.1 0 5)))) (hFZ34.1 2 (ix (Z34.1 0 5)) (show (400 : Nat) ∉ [5, 6, 7, 8, 47] from by decide)) ?_
                        refine ok.bd (s_f_in _ _ _ _) ?_
                        rintro x20 X_37 ⟨hFh36, hh36⟩
                        obtain rfl : Z34 = X_37 := (Fr.nil hFh36).symm
                        have hh36 : ((x20.toInt = 1 ∧ (48 : Int) ≤ (X.1 2 (ix (Z34.1 0 5))).toInt ∧ (X.1 2 (ix (Z34.1 0 5))).toInt ≤ (57 : Int)) ∨ (x20.toInt = 0 ∧ ((X.1 2 (ix (Z34.1 0 5))).toInt < (48 : Int) ∨ (57 : Int) < (X.1 2 (ix (Z34.1 0 5))).toInt))) := hh36
                        refine ok.ite (fun c38 => ?_) (fun c38 => ?_)
                        · skip
                          exact ok.ret ⟨(Fr.rf.tr hFZ34 (by decide)), (show 0 ≤ (Z34.1 0 6).toInt ∧ (Z34.1 0 6).toInt ≤ (Z34.1 0 5).toInt ∧ (Z34.1 0 5).toInt ≤ (Z34.1 0 1).toInt ∧ (Z34.1 0 1).toInt ≤ 3000 ∧ 0 ≤ (Z34.1 0 7).toInt ∧ (Z34.1 0 7).toInt ≤ 5 ∧ ((Z34.1 0 7).toInt = 0 ∨ (Z34.1 0 6).toInt < (Z34.1 0 5).toInt) ∧ (X.1 0 5).toInt ≤ (Z34.1 0 6).toInt from by have e0_ : (Z34.1 0 1).toInt = (X.1 0 1).toInt := congrArg Int32.toInt (hFZ34.1 0 1 (show (1 : Nat) ∉ [5, 6, 7, 8, 47] from by decide)); omega)⟩
                        · skip
                          refine ok.any (fun y22 => ?_)
                          refine ok.any (fun x23 => ?_)
                          refine ok.ite (fun c39 => ?_) (fun c39 => ?_)
                          · skip
                            refine ok.any (fun y24 => ?_)
                            refine ok.any (fun y25 => ?_)
                            refine ok.letE (v1 := (Z34.1 0 5)) rfl ?_
                            refine ok.ck (show 0 ≤ (Z34.1 0 5).toInt ∧ (Z34.1 0 5).toInt < ((3000 : Nat) : Int) from by omega) ?_
                            refine ok.letE (v1 := (X.1 2 (ix (Z34.1 0 5)))) (hFZ34.1 2 (ix (Z34.1 0 5)) (show (400 : Nat) ∉ [5, 6, 7, 8, 47] from by decide)) ?_
                            refine ok.any (fun y28 => ?_)
                            refine ok.any (fun y29 => ?_)
                            refine ok.any (fun y30 => ?_)
                            unfold f_next_194
                            refine ok.letV ?_
                            refine ok.letE (v1 := (Z34.1 0 5)) rfl ?_
                            refine ok.add (show _ ≤ (Z34.1 0 5).toInt + (1 : Int) ∧ (Z34.1 0 5).toInt + (1 : Int) ≤ _ from by omega) (fun x33 hx33 => ?_)
                            have hx33 : x33.toInt = (Z34.1 0 5).toInt + (1 : Int) := hx33
                            refine ok.letV ?_
                            exact ih_f_next_122 (wI (wL Z34 0 47 y30) 0 5 x33) (((Fr.rf.tr hFZ34 (by decide)).wL 0 47 _ (show (47 : Nat) ∈ [5, 6, 7, 8, 47] from by decide)).wI 0 5 _ (show (5 : Nat) ∈ [5, 6, 7, 8, 47] from by decide)) (show (X.1 0 5).toInt ≤ (Z34.1 0 6).toInt ∧ (Z34.1 0 6).toInt ≤ x33.toInt ∧ x33.toInt ≤ (X.1 0 1).toInt ∧ (Z34.1 0 7).toInt = 3 ∧ ((Z34.1 0 6).toInt < x33.toInt ∨ (x33.toInt < (X.1 0 1).toInt ∧ 48 ≤ (X.1 2 (ix x33)).toInt ∧ (X.1 2 (ix x33)).toInt ≤ 57)) from by omega) (show (3001 - x33.toInt).toNat < _ from by omega)
                          · skip
                            refine ok.any (fun y35 => ?_)
                            unfold f_next_194
                            refine ok.letV ?_
                            refine ok.letE (v1 := (Z34.1 0 5)) rfl ?_
                            refine ok.add (show _ ≤ (Z34.1 0 5).toInt + (1 : Int) ∧ (Z34.1 0 5).toInt + (1 : Int) ≤ _ from by omega) (fun x33 hx33 => ?_)
                            have hx33 : x33.toInt = (Z34.1 0 5).toInt + (1 : Int) := hx33
                            refine ok.letV ?_
                            exact ih_f_next_122 (wI (wL Z34 0 47 y35) 0 5 x33) (((Fr.rf.tr hFZ34 (by decide)).wL 0 47 _ (show (47 : Nat) ∈ [5, 6, 7, 8, 47] from by decide)).wI 0 5 _ (show (5 : Nat) ∈ [5, 6, 7, 8, 47] from by decide)) (show (X.1 0 5).toInt ≤ (Z34.1 0 6).toInt ∧ (Z34.1 0 6).toInt ≤ x33.toInt ∧ x33.toInt ≤ (X.1 0 1).toInt ∧ (Z34.1 0 7).toInt = 3 ∧ ((Z34.1 0 6).toInt < x33.toInt ∨ (x33.toInt < (X.1 0 1).toInt ∧ 48 ≤ (X.1 2 (ix x33)).toInt ∧ (X.1 2 (ix x33)).toInt ≤ 57)) from by omega) (show (3001 - x33.toInt).toNat < _ from by omega)
                  exact lp_f_next_122 BIG (wI (wL (wI Z1 0 6 (Z1.1 0 5)) 0 47 ((0 : Int64))) 0 7 ((3 : Int32))) ((((Fr.rf.tr hFZ1 (by decide)).wI 0 6 _ (show (6 : Nat) ∈ [5, 6, 7, 8, 47] from by decide)).wL 0 47 _ (show (47 : Nat) ∈ [5, 6, 7, 8, 47] from by decide)).wI 0 7 _ (show (7 : Nat) ∈ [5, 6, 7, 8, 47] from by decide)) (show (X.1 0 5).toInt ≤ (Z1.1 0 5).toInt ∧ (Z1.1 0 5).toInt ≤ (Z1.1 0 5).toInt ∧ (Z1.1 0 5).toInt ≤ (X.1 0 1).toInt ∧ (3 : Int) = 3 ∧ ((Z1.1 0 5).toInt < (Z1.1 0 5).toInt ∨ ((Z1.1 0 5).toInt < (X.1 0 1).toInt ∧ 48 ≤ (X.1 2 (ix (Z1.1 0 5))).toInt ∧ (X.1 2 (ix (Z1.1 0 5))).toInt ≤ 57)) from by omega) (ltBIG (show (3001 - (Z1.1 0 5).toInt).toNat < 100000 from by omega))
              · skip
                refine ok.bd (s_f_name  _ (show 0 ≤ (Z1.1 0 5).toInt ∧ (Z1.1 0 5).toInt < (Z1.1 0 1).toInt ∧ (Z1.1 0 1).toInt ≤ 3000 ∧ 0 < (letF (Z1.1 2 (ix (Z1.1 0 5)))).toInt from by have e0_ : (Z1.1 0 1).toInt = (X.1 0 1).toInt := congrArg Int32.toInt (hFZ1.1 0 1 (show (1 : Nat) ∉ [5, 6, 7, 8, 47] from by decide)); rw [show (Z1.1 2 (ix (Z1.1 0 5))) = (X.1 2 (ix (Z1.1 0 5))) from (hFZ1.1 2 (ix (Z1.1 0 5)) (show (400 : Nat) ∉ [5, 6, 7, 8, 47] from by decide))]; omega)) ?_
                rintro r_42 X_41 ⟨hFh40, hh40⟩
                have eh40_0 : (X_41.1 0 1).toInt = (X.1 0 1).toInt := congrArg Int32.toInt ((hFh40.1 0 1 (show (1 : Nat) ∉ [5, 7, 8, 47] from by decide)).trans (hFZ1.1 0 1 (show (1 : Nat) ∉ [5, 6, 7, 8, 47] from by decide)))
                have hh40 : ((Z1.1 0 5).toInt < (X_41.1 0 5).toInt ∧ (X_41.1 0 5).toInt ≤ (X_41.1 0 1).toInt ∧ 1 ≤ (X_41.1 0 7).toInt ∧ (X_41.1 0 7).toInt ≤ 5) := hh40
                exact ok.ret ⟨((((Fr.rf.tr hFZ1 (by decide)).wI 0 6 _ (show (6 : Nat) ∈ [5, 6, 7, 8, 47] from by decide)).wL 0 47 _ (show (47 : Nat) ∈ [5, 6, 7, 8, 47] from by decide)).tr hFh40 (by decide)), (show 0 ≤ (X_41.1 0 6).toInt ∧ (X_41.1 0 6).toInt ≤ (X_41.1 0 5).toInt ∧ (X_41.1 0 5).toInt ≤ (X_41.1 0 1).toInt ∧ (X_41.1 0 1).toInt ≤ 3000 ∧ 0 ≤ (X_41.1 0 7).toInt ∧ (X_41.1 0 7).toInt ≤ 5 ∧ ((X_41.1 0 7).toInt = 0 ∨ (X_41.1 0 6).toInt < (X_41.1 0 5).toInt) ∧ (X.1 0 5).toInt ≤ (X_41.1 0 6).toInt from by have e0_ : (X_41.1 0 6).toInt = (Z1.1 0 5).toInt := congrArg Int32.toInt (hFh40.1 0 6 (show (6 : Nat) ∉ [5, 7, 8, 47] from by decide)); have e1_ : (X_41.1 0 1).toInt = (X.1 0 1).toInt := congrArg Int32.toInt ((hFh40.1 0 1 (show (1 : Nat) ∉ [5, 7, 8, 47] from by decide)).trans (hFZ1.1 0 1 (show (1 : Nat) ∉ [5, 6, 7, 8, 47] from by decide))); omega)⟩
  exact lp_f_next_0 BIG X Fr.rf (show (X.1 0 5).toInt ≤ (X.1 0 5).toInt ∧ (X.1 0 5).toInt ≤ (X.1 0 1).toInt from by omega) (ltBIG (show (3001 - (X.1 0 5).toInt).toNat < 100000 from by omega))
set_option maxHeartbeats 4000000 in
set_option maxRecDepth 100000 in
theorem s_f_takes (p1 : Int32) (X : St) (hy0 : 0 ≤ (X.1 0 6).toInt ∧ (X.1 0 6).toInt ≤ (X.1 0 5).toInt ∧ (X.1 0 5).toInt ≤ (X.1 0 1).toInt ∧ (X.1 0 1).toInt ≤ 3000 ∧ 0 ≤ (X.1 0 7).toInt ∧ (X.1 0 7).toInt ≤ 5 ∧ ((X.1 0 7).toInt = 0 ∨ (X.1 0 6).toInt < (X.1 0 5).toInt)) : ok (f_takes p1 X) (fun r X1 => Fr YR [5, 6, 7, 8, 9, 10, 47] X X1 ∧ (0 ≤ (X1.1 0 6).toInt ∧ (X1.1 0 6).toInt ≤ (X1.1 0 5).toInt ∧ (X1.1 0 5).toInt ≤ (X1.1 0 1).toInt ∧ (X1.1 0 1).toInt ≤ 3000 ∧ 0 ≤ (X1.1 0 7).toInt ∧ (X1.1 0 7).toInt ≤ 5 ∧ ((X1.1 0 7).toInt = 0 ∨ (X1.1 0 6).toInt < (X1.1 0 5).toInt) ∧ (X.1 0 6).toInt ≤ (X1.1 0 6).toInt ∧ ((X1.1 0 9).toInt = 0 → (X.1 0 9).toInt = 0 ∧ (X.1 0 6).toInt < (X1.1 0 6).toInt))) := by
  unfold f_takes
  refine ok.bd (s_f_isSign _ _) ?_
  rintro x1 X_2 ⟨hFh1, hh1⟩
  obtain rfl : X = X_2 := (Fr.nil hFh1).symm
  have hh1 : ((x1.toInt = 1 ∧ (X.1 0 9).toInt = 0 ∧ (X.1 0 7).toInt = 4) ∨ x1.toInt = 0) := hh1
  refine ok.ite (fun c3 => ?_) (fun c3 => ?_)
  · skip
    refine ok.bd (s_f_stray  _) ?_
    rintro r_6 X_5 ⟨hFh4, hh4⟩
    have hh4 : (¬ (X_5.1 0 9).toInt = 0) := hh4
    exact ok.ret ⟨(Fr.rf.tr hFh4 (by decide)), (show 0 ≤ (X_5.1 0 6).toInt ∧ (X_5.1 0 6).toInt ≤ (X_5.1 0 5).toInt ∧ (X_5.1 0 5).toInt ≤ (X_5.1 0 1).toInt ∧ (X_5.1 0 1).toInt ≤ 3000 ∧ 0 ≤ (X_5.1 0 7).toInt ∧ (X_5.1 0 7).toInt ≤ 5 ∧ ((X_5.1 0 7).toInt = 0 ∨ (X_5.1 0 6).toInt < (X_5.1 0 5).toInt) ∧ (X.1 0 6).toInt ≤ (X_5.1 0 6).toInt ∧ ((X_5.1 0 9).toInt = 0 → (X.1 0 9).toInt = 0 ∧ (X.1 0 6).toInt < (X_5.1 0 6).toInt) from by have e0_ : (X_5.1 0 6).toInt = (X.1 0 6).toInt := congrArg Int32.toInt (hFh4.1 0 6 (show (6 : Nat) ∉ [9, 10] from by decide)); have e1_ : (X_5.1 0 5).toInt = (X.1 0 5).toInt := congrArg Int32.toInt (hFh4.1 0 5 (show (5 : Nat) ∉ [9, 10] from by decide)); have e2_ : (X_5.1 0 1).toInt = (X.1 0 1).toInt := congrArg Int32.toInt (hFh4.1 0 1 (show (1 : Nat) ∉ [9, 10] from by decide)); have e3_ : (X_5.1 0 7).toInt = (X.1 0 7).toInt := congrArg Int32.toInt (hFh4.1 0 7 (show (7 : Nat) ∉ [9, 10] from by decide)); omega)⟩
  · skip
    refine ok.bd (s_f_next  _ (show 0 ≤ (X.1 0 5).toInt ∧ (X.1 0 5).toInt ≤ (X.1 0 1).toInt ∧ (X.1 0 1).toInt ≤ 3000 from by omega)) ?_
    rintro r_9 X_8 ⟨hFh7, hh7⟩
    have eh7_0 : (X_8.1 0 1).toInt = (X.1 0 1).toInt := congrArg Int32.toInt (hFh7.1 0 1 (show (1 : Nat) ∉ [5, 6, 7, 8, 47] from by decide))
    have hh7 : (0 ≤ (X_8.1 0 6).toInt ∧ (X_8.1 0 6).toInt ≤ (X_8.1 0 5).toInt ∧ (X_8.1 0 5).toInt ≤ (X_8.1 0 1).toInt ∧ (X_8.1 0 1).toInt ≤ 3000 ∧ 0 ≤ (X_8.1 0 7).toInt ∧ (X_8.1 0 7).toInt ≤ 5 ∧ ((X_8.1 0 7).toInt = 0 ∨ (X_8.1 0 6).toInt < (X_8.1 0 5).toInt) ∧ (X.1 0 5).toInt ≤ (X_8.1 0 6).toInt) := hh7
    exact ok.ret ⟨(Fr.rf.tr hFh7 (by decide)), (show 0 ≤ (X_8.1 0 6).toInt ∧ (X_8.1 0 6).toInt ≤ (X_8.1 0 5).toInt ∧ (X_8.1 0 5).toInt ≤ (X_8.1 0 1).toInt ∧ (X_8.1 0 1).toInt ≤ 3000 ∧ 0 ≤ (X_8.1 0 7).toInt ∧ (X_8.1 0 7).toInt ≤ 5 ∧ ((X_8.1 0 7).toInt = 0 ∨ (X_8.1 0 6).toInt < (X_8.1 0 5).toInt) ∧ (X.1 0 6).toInt ≤ (X_8.1 0 6).toInt ∧ ((X_8.1 0 9).toInt = 0 → (X.1 0 9).toInt = 0 ∧ (X.1 0 6).toInt < (X_8.1 0 6).toInt) from by have e0_ : (X_8.1 0 1).toInt = (X.1 0 1).toInt := congrArg Int32.toInt (hFh7.1 0 1 (show (1 : Nat) ∉ [5, 6, 7, 8, 47] from by decide)); have e1_ : (X_8.1 0 9).toInt = (X.1 0 9).toInt := congrArg Int32.toInt (hFh7.1 0 9 (show (9 : Nat) ∉ [5, 6, 7, 8, 47] from by decide)); omega)⟩
set_option maxHeartbeats 4000000 in
set_option maxRecDepth 100000 in
theorem s_f_word (p1 : Int32) (X : St) (hy0 : 0 ≤ (X.1 0 6).toInt ∧ (X.1 0 6).toInt ≤ (X.1 0 5).toInt ∧ (X.1 0 5).toInt ≤ (X.1 0 1).toInt ∧ (X.1 0 1).toInt ≤ 3000 ∧ 0 ≤ (X.1 0 7).toInt ∧ (X.1 0 7).toInt ≤ 5 ∧ ((X.1 0 7).toInt = 0 ∨ (X.1 0 6).toInt < (X.1 0 5).toInt)) : ok (f_word p1 X) (fun r X1 => Fr YR [5, 6, 7, 8, 9, 10, 47] X X1 ∧ (0 ≤ (X1.1 0 6).toInt ∧ (X1.1 0 6).toInt ≤ (X1.1 0 5).toInt ∧ (X1.1 0 5).toInt ≤ (X1.1 0 1).toInt ∧ (X1.1 0 1).toInt ≤ 3000 ∧ 0 ≤ (X1.1 0 7).toInt ∧ (X1.1 0 7).toInt ≤ 5 ∧ ((X1.1 0 7).toInt = 0 ∨ (X1.1 0 6).toInt < (X1.1 0 5).toInt) ∧ (X.1 0 6).toInt ≤ (X1.1 0 6).toInt ∧ ((X1.1 0 9).toInt = 0 → (X.1 0 9).toInt = 0 ∧ (X.1 0 6).toInt < (X1.1 0 6).toInt))) := by
  unfold f_word
  refine ok.bd (s_f_isWord _ _) ?_
  rintro x1 X_2 ⟨hFh1, hh1⟩
  obtain rfl : X = X_2 := (Fr.nil hFh1).symm
  have hh1 : ((x1.toInt = 1 ∧ (X.1 0 9).toInt = 0 ∧ (X.1 0 7).toInt = 2) ∨ x1.toInt = 0) := hh1
  refine ok.ite (fun c3 => ?_) (fun c3 => ?_)
  · skip
    refine ok.bd (s_f_stray  _) ?_
    rintro r_6 X_5 ⟨hFh4, hh4⟩
    have hh4 : (¬ (X_5.1 0 9).toInt = 0) := hh4
    exact ok.ret ⟨(Fr.rf.tr hFh4 (by decide)), (show 0 ≤ (X_5.1 0 6).toInt ∧ (X_5.1 0 6).toInt ≤ (X_5.1 0 5).toInt ∧ (X_5.1 0 5).toInt ≤ (X_5.1 0 1).toInt ∧ (X_5.1 0 1).toInt ≤ 3000 ∧ 0 ≤ (X_5.1 0 7).toInt ∧ (X_5.1 0 7).toInt ≤ 5 ∧ ((X_5.1 0 7).toInt = 0 ∨ (X_5.1 0 6).toInt < (X_5.1 0 5).toInt) ∧ (X.1 0 6).toInt ≤ (X_5.1 0 6).toInt ∧ ((X_5.1 0 9).toInt = 0 → (X.1 0 9).toInt = 0 ∧ (X.1 0 6).toInt < (X_5.1 0 6).toInt) from by have e0_ : (X_5.1 0 6).toInt = (X.1 0 6).toInt := congrArg Int32.toInt (hFh4.1 0 6 (show (6 : Nat) ∉ [9, 10] from by decide)); have e1_ : (X_5.1 0 5).toInt = (X.1 0 5).toInt := congrArg Int32.toInt (hFh4.1 0 5 (show (5 : Nat) ∉ [9, 10] from by decide)); have e2_ : (X_5.1 0 1).toInt = (X.1 0 1).toInt := congrArg Int32.toInt (hFh4.1 0 1 (show (1 : Nat) ∉ [9, 10] from by decide)); have e3_ : (X_5.1 0 7).toInt = (X.1 0 7).toInt := congrArg Int32.toInt (hFh4.1 0 7 (show (7 : Nat) ∉ [9, 10] from by decide)); omega)⟩
  · skip
    refine ok.bd (s_f_next  _ (show 0 ≤ (X.1 0 5).toInt ∧ (X.1 0 5).toInt ≤ (X.1 0 1).toInt ∧ (X.1 0 1).toInt ≤ 3000 from by omega)) ?_
    rintro r_9 X_8 ⟨hFh7, hh7⟩
    have eh7_0 : (X_8.1 0 1).toInt = (X.1 0 1).toInt := congrArg Int32.toInt (hFh7.1 0 1 (show (1 : Nat) ∉ [5, 6, 7, 8, 47] from by decide))
    have hh7 : (0 ≤ (X_8.1 0 6).toInt ∧ (X_8.1 0 6).toInt ≤ (X_8.1 0 5).toInt ∧ (X_8.1 0 5).toInt ≤ (X_8.1 0 1).toInt ∧ (X_8.1 0 1).toInt ≤ 3000 ∧ 0 ≤ (X_8.1 0 7).toInt ∧ (X_8.1 0 7).toInt ≤ 5 ∧ ((X_8.1 0 7).toInt = 0 ∨ (X_8.1 0 6).toInt < (X_8.1 0 5).toInt) ∧ (X.1 0 5).toInt ≤ (X_8.1 0 6).toInt) := hh7
    exact ok.ret ⟨(Fr.rf.tr hFh7 (by decide)), (show 0 ≤ (X_8.1 0 6).toInt ∧ (X_8.1 0 6).toInt ≤ (X_8.1 0 5).toInt ∧ (X_8.1 0 5).toInt ≤ (X_8.1 0 1).toInt ∧ (X_8.1 0 1).toInt ≤ 3000 ∧ 0 ≤ (X_8.1 0 7).toInt ∧ (X_8.1 0 7).toInt ≤ 5 ∧ ((X_8.1 0 7).toInt = 0 ∨ (X_8.1 0 6).toInt < (X_8.1 0 5).toInt) ∧ (X.1 0 6).toInt ≤ (X_8.1 0 6).toInt ∧ ((X_8.1 0 9).toInt = 0 → (X.1 0 9).toInt = 0 ∧ (X.1 0 6).toInt < (X_8.1 0 6).toInt) from by have e0_ : (X_8.1 0 1).toInt = (X.1 0 1).toInt := congrArg Int32.toInt (hFh7.1 0 1 (show (1 : Nat) ∉ [5, 6, 7, 8, 47] from by decide)); have e1_ : (X_8.1 0 9).toInt = (X.1 0 9).toInt := congrArg Int32.toInt (hFh7.1 0 9 (show (9 : Nat) ∉ [5, 6, 7, 8, 47] from by decide)); omega)⟩
set_option maxHeartbeats 4000000 in
set_option maxRecDepth 100000 in
theorem s_f_nests (X : St) (hy0 : 0 ≤ (X.1 0 21).toInt ∧ (X.1 0 21).toInt ≤ 3000) : ok (f_nests X) (fun r X1 => Fr YR [9, 10, 21] X X1 ∧ ((X1.1 0 21).toInt = (X.1 0 21).toInt + 1 ∧ ((X1.1 0 9).toInt = 0 → (X.1 0 9).toInt = 0 ∧ ¬ (X.1 0 21).toInt = 40))) := by
  unfold f_nests
  refine ok.letE (v1 := (X.1 0 21)) rfl ?_
  refine ok.ite (fun c1 => ?_) (fun c1 => ?_)
  · skip
    refine ok.letE (v1 := (X.1 0 6)) rfl ?_
    refine ok.bd (s_f_fails _ _ _) ?_
    rintro r_4 X_3 ⟨hFh2, hh2⟩
    have hh2 : (((X.1 0 9).toInt = 0 ∧ (X_3.1 0 9).toInt = (3 : Int)) ∨ (¬ (X.1 0 9).toInt = 0 ∧ (X_3.1 0 9).toInt = (X.1 0 9).toInt)) := hh2
    unfold f_nests_18
    refine ok.letE (v1 := (X.1 0 21)) (hFh2.1 0 21 (show (21 : Nat) ∉ [9, 10] from by decide)) ?_
    refine ok.add (show _ ≤ (X.1 0 21).toInt + (1 : Int) ∧ (X.1 0 21).toInt + (1 : Int) ≤ _ from by omega) (fun x3 hx3 => ?_)
    have hx3 : x3.toInt = (X.1 0 21).toInt + (1 : Int) := hx3
    refine ok.letV ?_
    exact ok.ret ⟨((Fr.rf.tr hFh2 (by decide)).wI 0 21 _ (show (21 : Nat) ∈ [9, 10, 21] from by decide)), (show x3.toInt = (X.1 0 21).toInt + 1 ∧ ((X_3.1 0 9).toInt = 0 → (X.1 0 9).toInt = 0 ∧ ¬ (X.1 0 21).toInt = 40) from by omega)⟩
  · skip
    unfold f_nests_18
    refine ok.letE (v1 := (X.1 0 21)) rfl ?_
    refine ok.add (show _ ≤ (X.1 0 21).toInt + (1 : Int) ∧ (X.1 0 21).toInt + (1 : Int) ≤ _ from by omega) (fun x3 hx3 => ?_)
    have hx3 : x3.toInt = (X.1 0 21).toInt + (1 : Int) := hx3
    refine ok.letV ?_
    exact ok.ret ⟨(Fr.rf.wI 0 21 _ (show (21 : Nat) ∈ [9, 10, 21] from by decide)), (show x3.toInt = (X.1 0 21).toInt + 1 ∧ ((X.1 0 9).toInt = 0 → (X.1 0 9).toInt = 0 ∧ ¬ (X.1 0 21).toInt = 40) from by omega)⟩
set_option maxHeartbeats 4000000 in
set_option maxRecDepth 100000 in
theorem s_f_opens (p1 : Int32) (X : St) (hy0 : 0 ≤ (X.1 0 6).toInt ∧ (X.1 0 6).toInt ≤ (X.1 0 5).toInt ∧ (X.1 0 5).toInt ≤ (X.1 0 1).toInt ∧ (X.1 0 1).toInt ≤ 3000 ∧ 0 ≤ (X.1 0 7).toInt ∧ (X.1 0 7).toInt ≤ 5 ∧ ((X.1 0 7).toInt = 0 ∨ (X.1 0 6).toInt < (X.1 0 5).toInt)) (hy1 : 0 ≤ (X.1 0 21).toInt ∧ (X.1 0 21).toInt ≤ 3000) : ok (f_opens p1 X) (fun r X1 => Fr YR [5, 6, 7, 8, 9, 10, 21, 47] X X1 ∧ (0 ≤ (X1.1 0 6).toInt ∧ (X1.1 0 6).toInt ≤ (X1.1 0 5).toInt ∧ (X1.1 0 5).toInt ≤ (X1.1 0 1).toInt ∧ (X1.1 0 1).toInt ≤ 3000 ∧ 0 ≤ (X1.1 0 7).toInt ∧ (X1.1 0 7).toInt ≤ 5 ∧ ((X1.1 0 7).toInt = 0 ∨ (X1.1 0 6).toInt < (X1.1 0 5).toInt) ∧ (X.1 0 6).toInt ≤ (X1.1 0 6).toInt ∧ (X.1 0 21).toInt ≤ (X1.1 0 21).toInt ∧ (X1.1 0 21).toInt ≤ (X.1 0 21).toInt + 1 ∧ ((X1.1 0 9).toInt = 0 → (X.1 0 9).toInt = 0 ∧ (X.1 0 6).toInt < (X1.1 0 6).toInt ∧ (X1.1 0 21).toInt = (X.1 0 21).toInt + 1 ∧ ¬ (X.1 0 21).toInt = 40))) := by
  unfold f_opens
  refine ok.bd (s_f_isSign _ _) ?_
  rintro x1 X_2 ⟨hFh1, hh1⟩
  obtain rfl : X = X_2 := (Fr.nil hFh1).symm
  have hh1 : ((x1.toInt = 1 ∧ (X.1 0 9).toInt = 0 ∧ (X.1 0 7).toInt = 4) ∨ x1.toInt = 0) := hh1
  refine ok.ite (fun c3 => ?_) (fun c3 => ?_)
  · skip
    refine ok.bd (s_f_stray  _) ?_
    rintro r_6 X_5 ⟨hFh4, hh4⟩
    have hh4 : (¬ (X_5.1 0 9).toInt = 0) := hh4
    exact ok.ret ⟨(Fr.rf.tr hFh4 (by decide)), (show 0 ≤ (X_5.1 0 6).toInt ∧ (X_5.1 0 6).toInt ≤ (X_5.1 0 5).toInt ∧ (X_5.1 0 5).toInt ≤ (X_5.1 0 1).toInt ∧ (X_5.1 0 1).toInt ≤ 3000 ∧ 0 ≤ (X_5.1 0 7).toInt ∧ (X_5.1 0 7).toInt ≤ 5 ∧ ((X_5.1 0 7).toInt = 0 ∨ (X_5.1 0 6).toInt < (X_5.1 0 5).toInt) ∧ (X.1 0 6).toInt ≤ (X_5.1 0 6).toInt ∧ (X.1 0 21).toInt ≤ (X_5.1 0 21).toInt ∧ (X_5.1 0 21).toInt ≤ (X.1 0 21).toInt + 1 ∧ ((X_5.1 0 9).toInt = 0 → (X.1 0 9).toInt = 0 ∧ (X.1 0 6).toInt < (X_5.1 0 6).toInt ∧ (X_5.1 0 21).toInt = (X.1 0 21).toInt + 1 ∧ ¬ (X.1 0 21).toInt = 40) from by have e0_ : (X_5.1 0 6).toInt = (X.1 0 6).toInt := congrArg Int32.toInt (hFh4.1 0 6 (show (6 : Nat) ∉ [9, 10] from by decide)); have e1_ : (X_5.1 0 5).toInt = (X.1 0 5).toInt := congrArg Int32.toInt (hFh4.1 0 5 (show (5 : Nat) ∉ [9, 10] from by decide)); have e2_ : (X_5.1 0 1).toInt = (X.1 0 1).toInt := congrArg Int32.toInt (hFh4.1 0 1 (show (1 : Nat) ∉ [9, 10] from by decide)); have e3_ : (X_5.1 0 7).toInt = (X.1 0 7).toInt := congrArg Int32.toInt (hFh4.1 0 7 (show (7 : Nat) ∉ [9, 10] from by decide)); have e4_ : (X_5.1 0 21).toInt = (X.1 0 21).toInt := congrArg Int32.toInt (hFh4.1 0 21 (show (21 : Nat) ∉ [9, 10] from by decide)); omega)⟩
  · skip
    refine ok.bd (s_f_nests  _ (show 0 ≤ (X.1 0 21).toInt ∧ (X.1 0 21).toInt ≤ 3000 from by omega)) ?_
    rintro r_9 X_8 ⟨hFh7, hh7⟩
    have hh7 : ((X_8.1 0 21).toInt = (X.1 0 21).toInt + 1 ∧ ((X_8.1 0 9).toInt = 0 → (X.1 0 9).toInt = 0 ∧ ¬ (X.1 0 21).toInt = 40)) := hh7
    refine ok.bd (s_f_isWell  _) ?_
    rintro x4 X_11 ⟨hFh10, hh10⟩
    obtain rfl : X_8 = X_11 := (Fr.nil hFh10).symm
    have hh10 : ((x4.toInt = 1 ∧ (X_8.1 0 9).toInt = 0) ∨ (x4.toInt = 0 ∧ ¬ (X_8.1 0 9).toInt = 0)) := hh10
    refine ok.ite (fun c12 => ?_) (fun c12 => ?_)
    · skip
      exact ok.ret ⟨(Fr.rf.tr hFh7 (by decide)), (show 0 ≤ (X_8.1 0 6).toInt ∧ (X_8.1 0 6).toInt ≤ (X_8.1 0 5).toInt ∧ (X_8.1 0 5).toInt ≤ (X_8.1 0 1).toInt ∧ (X_8.1 0 1).toInt ≤ 3000 ∧ 0 ≤ (X_8.1 0 7).toInt ∧ (X_8.1 0 7).toInt ≤ 5 ∧ ((X_8.1 0 7).toInt = 0 ∨ (X_8.1 0 6).toInt < (X_8.1 0 5).toInt) ∧ (X.1 0 6).toInt ≤ (X_8.1 0 6).toInt ∧ (X.1 0 21).toInt ≤ (X_8.1 0 21).toInt ∧ (X_8.1 0 21).toInt ≤ (X.1 0 21).toInt + 1 ∧ ((X_8.1 0 9).toInt = 0 → (X.1 0 9).toInt = 0 ∧ (X.1 0 6).toInt < (X_8.1 0 6).toInt ∧ (X_8.1 0 21).toInt = (X.1 0 21).toInt + 1 ∧ ¬ (X.1 0 21).toInt = 40) from by have e0_ : (X_8.1 0 6).toInt = (X.1 0 6).toInt := congrArg Int32.toInt (hFh7.1 0 6 (show (6 : Nat) ∉ [9, 10, 21] from by decide)); have e1_ : (X_8.1 0 5).toInt = (X.1 0 5).toInt := congrArg Int32.toInt (hFh7.1 0 5 (show (5 : Nat) ∉ [9, 10, 21] from by decide)); have e2_ : (X_8.1 0 1).toInt = (X.1 0 1).toInt := congrArg Int32.toInt (hFh7.1 0 1 (show (1 : Nat) ∉ [9, 10, 21] from by decide)); have e3_ : (X_8.1 0 7).toInt = (X.1 0 7).toInt := congrArg Int32.toInt (hFh7.1 0 7 (show (7 : Nat) ∉ [9, 10, 21] from by decide)); omega)⟩
    · skip
      refine ok.bd (s_f_next  _ (show 0 ≤ (X_8.1 0 5).toInt ∧ (X_8.1 0 5).toInt ≤ (X_8.1 0 1).toInt ∧ (X_8.1 0 1).toInt ≤ 3000 from by have e0_ : (X_8.1 0 5).toInt = (X.1 0 5).toInt := congrArg Int32.toInt (hFh7.1 0 5 (show (5 : Nat) ∉ [9, 10, 21] from by decide)); have e1_ : (X_8.1 0 1).toInt = (X.1 0 1).toInt := congrArg Int32.toInt (hFh7.1 0 1 (show (1 : Nat) ∉ [9, 10, 21] from by decide)); omega)) ?_
      rintro r_15 X_14 ⟨hFh13, hh13⟩
      have eh13_0 : (X_14.1 0 1).toInt = (X.1 0 1).toInt := congrArg Int32.toInt ((hFh13.1 0 1 (show (1 : Nat) ∉ [5, 6, 7, 8, 47] from by decide)).trans (hFh7.1 0 1 (show (1 : Nat) ∉ [9, 10, 21] from by decide)))
      have eh13_1 : (X_8.1 0 5).toInt = (X.1 0 5).toInt := congrArg Int32.toInt (hFh7.1 0 5 (show (5 : Nat) ∉ [9, 10, 21] from by decide))
      have hh13 : (0 ≤ (X_14.1 0 6).toInt ∧ (X_14.1 0 6).toInt ≤ (X_14.1 0 5).toInt ∧ (X_14.1 0 5).toInt ≤ (X_14.1 0 1).toInt ∧ (X_14.1 0 1).toInt ≤ 3000 ∧ 0 ≤ (X_14.1 0 7).toInt ∧ (X_14.1 0 7).toInt ≤ 5 ∧ ((X_14.1 0 7).toInt = 0 ∨ (X_14.1 0 6).toInt < (X_14.1 0 5).toInt) ∧ (X_8.1 0 5).toInt ≤ (X_14.1 0 6).toInt) := hh13
      exact ok.ret ⟨((Fr.rf.tr hFh7 (by decide)).tr hFh13 (by decide)), (show 0 ≤ (X_14.1 0 6).toInt ∧ (X_14.1 0 6).toInt ≤ (X_14.1 0 5).toInt ∧ (X_14.1 0 5).toInt ≤ (X_14.1 0 1).toInt ∧ (X_14.1 0 1).toInt ≤ 3000 ∧ 0 ≤ (X_14.1 0 7).toInt ∧ (X_14.1 0 7).toInt ≤ 5 ∧ ((X_14.1 0 7).toInt = 0 ∨ (X_14.1 0 6).toInt < (X_14.1 0 5).toInt) ∧ (X.1 0 6).toInt ≤ (X_14.1 0 6).toInt ∧ (X.1 0 21).toInt ≤ (X_14.1 0 21).toInt ∧ (X_14.1 0 21).toInt ≤ (X.1 0 21).toInt + 1 ∧ ((X_14.1 0 9).toInt = 0 → (X.1 0 9).toInt = 0 ∧ (X.1 0 6).toInt < (X_14.1 0 6).toInt ∧ (X_14.1 0 21).toInt = (X.1 0 21).toInt + 1 ∧ ¬ (X.1 0 21).toInt = 40) from by have e0_ : (X_14.1 0 1).toInt = (X.1 0 1).toInt := congrArg Int32.toInt ((hFh13.1 0 1 (show (1 : Nat) ∉ [5, 6, 7, 8, 47] from by decide)).trans (hFh7.1 0 1 (show (1 : Nat) ∉ [9, 10, 21] from by decide))); have e1_ : (X_14.1 0 21).toInt = (X_8.1 0 21).toInt := congrArg Int32.toInt (hFh13.1 0 21 (show (21 : Nat) ∉ [5, 6, 7, 8, 47] from by decide)); have e2_ : (X_14.1 0 9).toInt = (X_8.1 0 9).toInt := congrArg Int32.toInt (hFh13.1 0 9 (show (9 : Nat) ∉ [5, 6, 7, 8, 47] from by decide)); omega)⟩
set_option maxHeartbeats 4000000 in
set_option maxRecDepth 100000 in
theorem s_f_closes (p1 : Int32) (X : St) (hy0 : 0 ≤ (X.1 0 6).toInt ∧ (X.1 0 6).toInt ≤ (X.1 0 5).toInt ∧ (X.1 0 5).toInt ≤ (X.1 0 1).toInt ∧ (X.1 0 1).toInt ≤ 3000 ∧ 0 ≤ (X.1 0 7).toInt ∧ (X.1 0 7).toInt ≤ 5 ∧ ((X.1 0 7).toInt = 0 ∨ (X.1 0 6).toInt < (X.1 0 5).toInt)) (hy1 : -3000 ≤ (X.1 0 21).toInt ∧ (X.1 0 21).toInt ≤ 3000) : ok (f_closes p1 X) (fun r X1 => Fr YR [5, 6, 7, 8, 9, 10, 21, 47] X X1 ∧ (0 ≤ (X1.1 0 6).toInt ∧ (X1.1 0 6).toInt ≤ (X1.1 0 5).toInt ∧ (X1.1 0 5).toInt ≤ (X1.1 0 1).toInt ∧ (X1.1 0 1).toInt ≤ 3000 ∧ 0 ≤ (X1.1 0 7).toInt ∧ (X1.1 0 7).toInt ≤ 5 ∧ ((X1.1 0 7).toInt = 0 ∨ (X1.1 0 6).toInt < (X1.1 0 5).toInt) ∧ (X.1 0 6).toInt ≤ (X1.1 0 6).toInt ∧ (X1.1 0 21).toInt = (X.1 0 21).toInt - 1 ∧ ((X1.1 0 9).toInt = 0 → (X.1 0 9).toInt = 0 ∧ (X.1 0 6).toInt < (X1.1 0 6).toInt))) := by
  unfold f_closes
  refine ok.bd (s_f_takes _ _ (show 0 ≤ (X.1 0 6).toInt ∧ (X.1 0 6).toInt ≤ (X.1 0 5).toInt ∧ (X.1 0 5).toInt ≤ (X.1 0 1).toInt ∧ (X.1 0 1).toInt ≤ 3000 ∧ 0 ≤ (X.1 0 7).toInt ∧ (X.1 0 7).toInt ≤ 5 ∧ ((X.1 0 7).toInt = 0 ∨ (X.1 0 6).toInt < (X.1 0 5).toInt) from by omega)) ?_
  rintro r_3 X_2 ⟨hFh1, hh1⟩
  have eh1_0 : (X_2.1 0 1).toInt = (X.1 0 1).toInt := congrArg Int32.toInt (hFh1.1 0 1 (show (1 : Nat) ∉ [5, 6, 7, 8, 9, 10, 47] from by decide))
  have hh1 : (0 ≤ (X_2.1 0 6).toInt ∧ (X_2.1 0 6).toInt ≤ (X_2.1 0 5).toInt ∧ (X_2.1 0 5).toInt ≤ (X_2.1 0 1).toInt ∧ (X_2.1 0 1).toInt ≤ 3000 ∧ 0 ≤ (X_2.1 0 7).toInt ∧ (X_2.1 0 7).toInt ≤ 5 ∧ ((X_2.1 0 7).toInt = 0 ∨ (X_2.1 0 6).toInt < (X_2.1 0 5).toInt) ∧ (X.1 0 6).toInt ≤ (X_2.1 0 6).toInt ∧ ((X_2.1 0 9).toInt = 0 → (X.1 0 9).toInt = 0 ∧ (X.1 0 6).toInt < (X_2.1 0 6).toInt)) := hh1
  refine ok.letE (v1 := (X.1 0 21)) (hFh1.1 0 21 (show (21 : Nat) ∉ [5, 6, 7, 8, 9, 10, 47] from by decide)) ?_
  refine ok.sub (show _ ≤ (X.1 0 21).toInt - (1 : Int) ∧ (X.1 0 21).toInt - (1 : Int) ≤ _ from by omega) (fun x3 hx3 => ?_)
  have hx3 : x3.toInt = (X.1 0 21).toInt - (1 : Int) := hx3
  refine ok.letV ?_
  exact ok.ret ⟨((Fr.rf.tr hFh1 (by decide)).wI 0 21 _ (show (21 : Nat) ∈ [5, 6, 7, 8, 9, 10, 21, 47] from by decide)), (show 0 ≤ (X_2.1 0 6).toInt ∧ (X_2.1 0 6).toInt ≤ (X_2.1 0 5).toInt ∧ (X_2.1 0 5).toInt ≤ (X_2.1 0 1).toInt ∧ (X_2.1 0 1).toInt ≤ 3000 ∧ 0 ≤ (X_2.1 0 7).toInt ∧ (X_2.1 0 7).toInt ≤ 5 ∧ ((X_2.1 0 7).toInt = 0 ∨ (X_2.1 0 6).toInt < (X_2.1 0 5).toInt) ∧ (X.1 0 6).toInt ≤ (X_2.1 0 6).toInt ∧ x3.toInt = (X.1 0 21).toInt - 1 ∧ ((X_2.1 0 9).toInt = 0 → (X.1 0 9).toInt = 0 ∧ (X.1 0 6).toInt < (X_2.1 0 6).toInt) from by have e0_ : (X_2.1 0 1).toInt = (X.1 0 1).toInt := congrArg Int32.toInt (hFh1.1 0 1 (show (1 : Nat) ∉ [5, 6, 7, 8, 9, 10, 47] from by decide)); omega)⟩
set_option maxHeartbeats 4000000 in
set_option maxRecDepth 100000 in
theorem s_f_plainKind (X : St) (hy0 : 0 ≤ (X.1 0 6).toInt ∧ (X.1 0 6).toInt ≤ (X.1 0 5).toInt ∧ (X.1 0 5).toInt ≤ (X.1 0 1).toInt ∧ (X.1 0 1).toInt ≤ 3000 ∧ 0 ≤ (X.1 0 7).toInt ∧ (X.1 0 7).toInt ≤ 5 ∧ ((X.1 0 7).toInt = 0 ∨ (X.1 0 6).toInt < (X.1 0 5).toInt)) : ok (f_plainKind X) (fun r X1 => Fr YR [5, 6, 7, 8, 9, 10, 47] X X1 ∧ (0 ≤ (X1.1 0 6).toInt ∧ (X1.1 0 6).toInt ≤ (X1.1 0 5).toInt ∧ (X1.1 0 5).toInt ≤ (X1.1 0 1).toInt ∧ (X1.1 0 1).toInt ≤ 3000 ∧ 0 ≤ (X1.1 0 7).toInt ∧ (X1.1 0 7).toInt ≤ 5 ∧ ((X1.1 0 7).toInt = 0 ∨ (X1.1 0 6).toInt < (X1.1 0 5).toInt) ∧ (X.1 0 6).toInt ≤ (X1.1 0 6).toInt ∧ -1 ≤ r.toInt ∧ r.toInt ≤ 2 ∧ ((X1.1 0 9).toInt = 0 → (X.1 0 9).toInt = 0 ∧ 0 ≤ r.toInt ∧ (X.1 0 6).toInt < (X1.1 0 6).toInt))) := by
  unfold f_plainKind
  refine ok.bd (s_f_isWord _ _) ?_
  rintro x1 X_2 ⟨hFh1, hh1⟩
  obtain rfl : X = X_2 := (Fr.nil hFh1).symm
  have hh1 : ((x1.toInt = 1 ∧ (X.1 0 9).toInt = 0 ∧ (X.1 0 7).toInt = 2) ∨ x1.toInt = 0) := hh1
  refine ok.ite (fun c3 => ?_) (fun c3 => ?_)
  · skip
    refine ok.bd (s_f_isWord _ _) ?_
    rintro x3 X_5 ⟨hFh4, hh4⟩
    obtain rfl : X = X_5 := (Fr.nil hFh4).symm
    have hh4 : ((x3.toInt = 1 ∧ (X.1 0 9).toInt = 0 ∧ (X.1 0 7).toInt = 2) ∨ x3.toInt = 0) := hh4
    refine ok.ite (fun c6 => ?_) (fun c6 => ?_)
    · skip
      refine ok.bd (s_f_isWord _ _) ?_
      rintro x5 X_8 ⟨hFh7, hh7⟩
      obtain rfl : X = X_8 := (Fr.nil hFh7).symm
      have hh7 : ((x5.toInt = 1 ∧ (X.1 0 9).toInt = 0 ∧ (X.1 0 7).toInt = 2) ∨ x5.toInt = 0) := hh7
      refine ok.ite (fun c9 => ?_) (fun c9 => ?_)
      · skip
        unfold f_plainKind_40
        refine ok.ite (fun c10 => ?_) (fun c10 => ?_)
        · skip
          have l11 : ((-1) : Int32).toInt = (-1) := by decide
          refine ok.bd (s_f_next  _ (show 0 ≤ (X.1 0 5).toInt ∧ (X.1 0 5).toInt ≤ (X.1 0 1).toInt ∧ (X.1 0 1).toInt ≤ 3000 from by omega)) ?_
          rintro r_14 X_13 ⟨hFh12, hh12⟩
          have eh12_0 : (X_13.1 0 1).toInt = (X.1 0 1).toInt := congrArg Int32.toInt (hFh12.1 0 1 (show (1 : Nat) ∉ [5, 6, 7, 8, 47] from by decide))
          have hh12 : (0 ≤ (X_13.1 0 6).toInt ∧ (X_13.1 0 6).toInt ≤ (X_13.1 0 5).toInt ∧ (X_13.1 0 5).toInt ≤ (X_13.1 0 1).toInt ∧ (X_13.1 0 1).toInt ≤ 3000 ∧ 0 ≤ (X_13.1 0 7).toInt ∧ (X_13.1 0 7).toInt ≤ 5 ∧ ((X_13.1 0 7).toInt = 0 ∨ (X_13.1 0 6).toInt < (X_13.1 0 5).toInt) ∧ (X.1 0 5).toInt ≤ (X_13.1 0 6).toInt) := hh12
          exact ok.ret ⟨(Fr.rf.tr hFh12 (by decide)), (show 0 ≤ (X_13.1 0 6).toInt ∧ (X_13.1 0 6).toInt ≤ (X_13.1 0 5).toInt ∧ (X_13.1 0 5).toInt ≤ (X_13.1 0 1).toInt ∧ (X_13.1 0 1).toInt ≤ 3000 ∧ 0 ≤ (X_13.1 0 7).toInt ∧ (X_13.1 0 7).toInt ≤ 5 ∧ ((X_13.1 0 7).toInt = 0 ∨ (X_13.1 0 6).toInt < (X_13.1 0 5).toInt) ∧ (X.1 0 6).toInt ≤ (X_13.1 0 6).toInt ∧ -1 ≤ (-1 : Int) ∧ (-1 : Int) ≤ 2 ∧ ((X_13.1 0 9).toInt = 0 → (X.1 0 9).toInt = 0 ∧ 0 ≤ (-1 : Int) ∧ (X.1 0 6).toInt < (X_13.1 0 6).toInt) from by have e0_ : (X_13.1 0 1).toInt = (X.1 0 1).toInt := congrArg Int32.toInt (hFh12.1 0 1 (show (1 : Nat) ∉ [5, 6, 7, 8, 47] from by decide)); have e1_ : (X_13.1 0 9).toInt = (X.1 0 9).toInt := congrArg Int32.toInt (hFh12.1 0 9 (show (9 : Nat) ∉ [5, 6, 7, 8, 47] from by decide)); omega)⟩
        · skip
          have l15 : ((-1) : Int32).toInt = (-1) := by decide
          refine ok.bd (s_f_stray  _) ?_
          rintro r_18 X_17 ⟨hFh16, hh16⟩
          have hh16 : (¬ (X_17.1 0 9).toInt = 0) := hh16
          exact ok.ret ⟨(Fr.rf.tr hFh16 (by decide)), (show 0 ≤ (X_17.1 0 6).toInt ∧ (X_17.1 0 6).toInt ≤ (X_17.1 0 5).toInt ∧ (X_17.1 0 5).toInt ≤ (X_17.1 0 1).toInt ∧ (X_17.1 0 1).toInt ≤ 3000 ∧ 0 ≤ (X_17.1 0 7).toInt ∧ (X_17.1 0 7).toInt ≤ 5 ∧ ((X_17.1 0 7).toInt = 0 ∨ (X_17.1 0 6).toInt < (X_17.1 0 5).toInt) ∧ (X.1 0 6).toInt ≤ (X_17.1 0 6).toInt ∧ -1 ≤ (-1 : Int) ∧ (-1 : Int) ≤ 2 ∧ ((X_17.1 0 9).toInt = 0 → (X.1 0 9).toInt = 0 ∧ 0 ≤ (-1 : Int) ∧ (X.1 0 6).toInt < (X_17.1 0 6).toInt) from by have e0_ : (X_17.1 0 6).toInt = (X.1 0 6).toInt := congrArg Int32.toInt (hFh16.1 0 6 (show (6 : Nat) ∉ [9, 10] from by decide)); have e1_ : (X_17.1 0 5).toInt = (X.1 0 5).toInt := congrArg Int32.toInt (hFh16.1 0 5 (show (5 : Nat) ∉ [9, 10] from by decide)); have e2_ : (X_17.1 0 1).toInt = (X.1 0 1).toInt := congrArg Int32.toInt (hFh16.1 0 1 (show (1 : Nat) ∉ [9, 10] from by decide)); have e3_ : (X_17.1 0 7).toInt = (X.1 0 7).toInt := congrArg Int32.toInt (hFh16.1 0 7 (show (7 : Nat) ∉ [9, 10] from by decide)); omega)⟩
      · skip
        unfold f_plainKind_40
        refine ok.ite (fun c19 => ?_) (fun c19 => ?_)
        · skip
          have l20 : ((2) : Int32).toInt = (2) := by decide
          refine ok.bd (s_f_next  _ (show 0 ≤ (X.1 0 5).toInt ∧ (X.1 0 5).toInt ≤ (X.1 0 1).toInt ∧ (X.1 0 1).toInt ≤ 3000 from by omega)) ?_
          rintro r_23 X_22 ⟨hFh21, hh21⟩
          have eh21_0 : (X_22.1 0 1).toInt = (X.1 0 1).toInt := congrArg Int32.toInt (hFh21.1 0 1 (show (1 : Nat) ∉ [5, 6, 7, 8, 47] from by decide))
          have hh21 : (0 ≤ (X_22.1 0 6).toInt ∧ (X_22.1 0 6).toInt ≤ (X_22.1 0 5).toInt ∧ (X_22.1 0 5).toInt ≤ (X_22.1 0 1).toInt ∧ (X_22.1 0 1).toInt ≤ 3000 ∧ 0 ≤ (X_22.1 0 7).toInt ∧ (X_22.1 0 7).toInt ≤ 5 ∧ ((X_22.1 0 7).toInt = 0 ∨ (X_22.1 0 6).toInt < (X_22.1 0 5).toInt) ∧ (X.1 0 5).toInt ≤ (X_22.1 0 6).toInt) := hh21
          exact ok.ret ⟨(Fr.rf.tr hFh21 (by decide)), (show 0 ≤ (X_22.1 0 6).toInt ∧ (X_22.1 0 6).toInt ≤ (X_22.1 0 5).toInt ∧ (X_22.1 0 5).toInt ≤ (X_22.1 0 1).toInt ∧ (X_22.1 0 1).toInt ≤ 3000 ∧ 0 ≤ (X_22.1 0 7).toInt ∧ (X_22.1 0 7).toInt ≤ 5 ∧ ((X_22.1 0 7).toInt = 0 ∨ (X_22.1 0 6).toInt < (X_22.1 0 5).toInt) ∧ (X.1 0 6).toInt ≤ (X_22.1 0 6).toInt ∧ -1 ≤ (2 : Int) ∧ (2 : Int) ≤ 2 ∧ ((X_22.1 0 9).toInt = 0 → (X.1 0 9).toInt = 0 ∧ 0 ≤ (2 : Int) ∧ (X.1 0 6).toInt < (X_22.1 0 6).toInt) from by have e0_ : (X_22.1 0 1).toInt = (X.1 0 1).toInt := congrArg Int32.toInt (hFh21.1 0 1 (show (1 : Nat) ∉ [5, 6, 7, 8, 47] from by decide)); have e1_ : (X_22.1 0 9).toInt = (X.1 0 9).toInt := congrArg Int32.toInt (hFh21.1 0 9 (show (9 : Nat) ∉ [5, 6, 7, 8, 47] from by decide)); omega)⟩
        · skip
          have l24 : ((2) : Int32).toInt = (2) := by decide
          refine ok.bd (s_f_stray  _) ?_
          rintro r_27 X_26 ⟨hFh25, hh25⟩
          have hh25 : (¬ (X_26.1 0 9).toInt = 0) := hh25
          exact ok.ret ⟨(Fr.rf.tr hFh25 (by decide)), (show 0 ≤ (X_26.1 0 6).toInt ∧ (X_26.1 0 6).toInt ≤ (X_26.1 0 5).toInt ∧ (X_26.1 0 5).toInt ≤ (X_26.1 0 1).toInt ∧ (X_26.1 0 1).toInt ≤ 3000 ∧ 0 ≤ (X_26.1 0 7).toInt ∧ (X_26.1 0 7).toInt ≤ 5 ∧ ((X_26.1 0 7).toInt = 0 ∨ (X_26.1 0 6).toInt < (X_26.1 0 5).toInt) ∧ (X.1 0 6).toInt ≤ (X_26.1 0 6).toInt ∧ -1 ≤ (2 : Int) ∧ (2 : Int) ≤ 2 ∧ ((X_26.1 0 9).toInt = 0 → (X.1 0 9).toInt = 0 ∧ 0 ≤ (2 : Int) ∧ (X.1 0 6).toInt < (X_26.1 0 6).toInt) from by have e0_ : (X_26.1 0 6).toInt = (X.1 0 6).toInt := congrArg Int32.toInt (hFh25.1 0 6 (show (6 : Nat) ∉ [9, 10] from by decide)); have e1_ : (X_26.1 0 5).toInt = (X.1 0 5).toInt := congrArg Int32.toInt (hFh25.1 0 5 (show (5 : Nat) ∉ [9, 10] from by decide)); have e2_ : (X_26.1 0 1).toInt = (X.1 0 1).toInt := congrArg Int32.toInt (hFh25.1 0 1 (show (1 : Nat) ∉ [9, 10] from by decide)); have e3_ : (X_26.1 0 7).toInt = (X.1 0 7).toInt := congrArg Int32.toInt (hFh25.1 0 7 (show (7 : Nat) ∉ [9, 10] from by decide)); omega)⟩
    · skip
      unfold f_plainKind_40
      refine ok.ite (fun c28 => ?_) (fun c28 => ?_)
      · skip
        have l29 : ((1) : Int32).toInt = (1) := by decide
        refine ok.bd (s_f_next  _ (show 0 ≤ (X.1 0 5).toInt ∧ (X.1 0 5).toInt ≤ (X.1 0 1).toInt ∧ (X.1 0 1).toInt ≤ 3000 from by omega)) ?_
        rintro r_32 X_31 ⟨hFh30, hh30⟩
        have eh30_0 : (X_31.1 0 1).toInt = (X.1 0 1).toInt := congrArg Int32.toInt (hFh30.1 0 1 (show (1 : Nat) ∉ [5, 6, 7, 8, 47] from by decide))
        have hh30 : (0 ≤ (X_31.1 0 6).toInt ∧ (X_31.1 0 6).toInt ≤ (X_31.1 0 5).toInt ∧ (X_31.1 0 5).toInt ≤ (X_31.1 0 1).toInt ∧ (X_31.1 0 1).toInt ≤ 3000 ∧ 0 ≤ (X_31.1 0 7).toInt ∧ (X_31.1 0 7).toInt ≤ 5 ∧ ((X_31.1 0 7).toInt = 0 ∨ (X_31.1 0 6).toInt < (X_31.1 0 5).toInt) ∧ (X.1 0 5).toInt ≤ (X_31.1 0 6).toInt) := hh30
        exact ok.ret ⟨(Fr.rf.tr hFh30 (by decide)), (show 0 ≤ (X_31.1 0 6).toInt ∧ (X_31.1 0 6).toInt ≤ (X_31.1 0 5).toInt ∧ (X_31.1 0 5).toInt ≤ (X_31.1 0 1).toInt ∧ (X_31.1 0 1).toInt ≤ 3000 ∧ 0 ≤ (X_31.1 0 7).toInt ∧ (X_31.1 0 7).toInt ≤ 5 ∧ ((X_31.1 0 7).toInt = 0 ∨ (X_31.1 0 6).toInt < (X_31.1 0 5).toInt) ∧ (X.1 0 6).toInt ≤ (X_31.1 0 6).toInt ∧ -1 ≤ (1 : Int) ∧ (1 : Int) ≤ 2 ∧ ((X_31.1 0 9).toInt = 0 → (X.1 0 9).toInt = 0 ∧ 0 ≤ (1 : Int) ∧ (X.1 0 6).toInt < (X_31.1 0 6).toInt) from by have e0_ : (X_31.1 0 1).toInt = (X.1 0 1).toInt := congrArg Int32.toInt (hFh30.1 0 1 (show (1 : Nat) ∉ [5, 6, 7, 8, 47] from by decide)); have e1_ : (X_31.1 0 9).toInt = (X.1 0 9).toInt := congrArg Int32.toInt (hFh30.1 0 9 (show (9 : Nat) ∉ [5, 6, 7, 8, 47] from by decide)); omega)⟩
      · skip
        have l33 : ((1) : Int32).toInt = (1) := by decide
        refine ok.bd (s_f_stray  _) ?_
        rintro r_36 X_35 ⟨hFh34, hh34⟩
        have hh34 : (¬ (X_35.1 0 9).toInt = 0) := hh34
        exact ok.ret ⟨(Fr.rf.tr hFh34 (by decide)), (show 0 ≤ (X_35.1 0 6).toInt ∧ (X_35.1 0 6).toInt ≤ (X_35.1 0 5).toInt ∧ (X_35.1 0 5).toInt ≤ (X_35.1 0 1).toInt ∧ (X_35.1 0 1).toInt ≤ 3000 ∧ 0 ≤ (X_35.1 0 7).toInt ∧ (X_35.1 0 7).toInt ≤ 5 ∧ ((X_35.1 0 7).toInt = 0 ∨ (X_35.1 0 6).toInt < (X_35.1 0 5).toInt) ∧ (X.1 0 6).toInt ≤ (X_35.1 0 6).toInt ∧ -1 ≤ (1 : Int) ∧ (1 : Int) ≤ 2 ∧ ((X_35.1 0 9).toInt = 0 → (X.1 0 9).toInt = 0 ∧ 0 ≤ (1 : Int) ∧ (X.1 0 6).toInt < (X_35.1 0 6).toInt) from by have e0_ : (X_35.1 0 6).toInt = (X.1 0 6).toInt := congrArg Int32.toInt (hFh34.1 0 6 (show (6 : Nat) ∉ [9, 10] from by decide)); have e1_ : (X_35.1 0 5).toInt = (X.1 0 5).toInt := congrArg Int32.toInt (hFh34.1 0 5 (show (5 : Nat) ∉ [9, 10] from by decide)); have e2_ : (X_35.1 0 1).toInt = (X.1 0 1).toInt := congrArg Int32.toInt (hFh34.1 0 1 (show (1 : Nat) ∉ [9, 10] from by decide)); have e3_ : (X_35.1 0 7).toInt = (X.1 0 7).toInt := congrArg Int32.toInt (hFh34.1 0 7 (show (7 : Nat) ∉ [9, 10] from by decide)); omega)⟩
  · skip
    unfold f_plainKind_40
    refine ok.ite (fun c37 => ?_) (fun c37 => ?_)
    · skip
      have l38 : ((0) : Int32).toInt = (0) := by decide
      refine ok.bd (s_f_next  _ (show 0 ≤ (X.1 0 5).toInt ∧ (X.1 0 5).toInt ≤ (X.1 0 1).toInt ∧ (X.1 0 1).toInt ≤ 3000 from by omega)) ?_
      rintro r_41 X_40 ⟨hFh39, hh39⟩
      have eh39_0 : (X_40.1 0 1).toInt = (X.1 0 1).toInt := congrArg Int32.toInt (hFh39.1 0 1 (show (1 : Nat) ∉ [5, 6, 7, 8, 47] from by decide))
      have hh39 : (0 ≤ (X_40.1 0 6).toInt ∧ (X_40.1 0 6).toInt ≤ (X_40.1 0 5).toInt ∧ (X_40.1 0 5).toInt ≤ (X_40.1 0 1).toInt ∧ (X_40.1 0 1).toInt ≤ 3000 ∧ 0 ≤ (X_40.1 0 7).toInt ∧ (X_40.1 0 7).toInt ≤ 5 ∧ ((X_40.1 0 7).toInt = 0 ∨ (X_40.1 0 6).toInt < (X_40.1 0 5).toInt) ∧ (X.1 0 5).toInt ≤ (X_40.1 0 6).toInt) := hh39
      exact ok.ret ⟨(Fr.rf.tr hFh39 (by decide)), (show 0 ≤ (X_40.1 0 6).toInt ∧ (X_40.1 0 6).toInt ≤ (X_40.1 0 5).toInt ∧ (X_40.1 0 5).toInt ≤ (X_40.1 0 1).toInt ∧ (X_40.1 0 1).toInt ≤ 3000 ∧ 0 ≤ (X_40.1 0 7).toInt ∧ (X_40.1 0 7).toInt ≤ 5 ∧ ((X_40.1 0 7).toInt = 0 ∨ (X_40.1 0 6).toInt < (X_40.1 0 5).toInt) ∧ (X.1 0 6).toInt ≤ (X_40.1 0 6).toInt ∧ -1 ≤ (0 : Int) ∧ (0 : Int) ≤ 2 ∧ ((X_40.1 0 9).toInt = 0 → (X.1 0 9).toInt = 0 ∧ 0 ≤ (0 : Int) ∧ (X.1 0 6).toInt < (X_40.1 0 6).toInt) from by have e0_ : (X_40.1 0 1).toInt = (X.1 0 1).toInt := congrArg Int32.toInt (hFh39.1 0 1 (show (1 : Nat) ∉ [5, 6, 7, 8, 47] from by decide)); have e1_ : (X_40.1 0 9).toInt = (X.1 0 9).toInt := congrArg Int32.toInt (hFh39.1 0 9 (show (9 : Nat) ∉ [5, 6, 7, 8, 47] from by decide)); omega)⟩
    · skip
      have l42 : ((0) : Int32).toInt = (0) := by decide
      refine ok.bd (s_f_stray  _) ?_
      rintro r_45 X_44 ⟨hFh43, hh43⟩
      have hh43 : (¬ (X_44.1 0 9).toInt = 0) := hh43
      exact ok.ret ⟨(Fr.rf.tr hFh43 (by decide)), (show 0 ≤ (X_44.1 0 6).toInt ∧ (X_44.1 0 6).toInt ≤ (X_44.1 0 5).toInt ∧ (X_44.1 0 5).toInt ≤ (X_44.1 0 1).toInt ∧ (X_44.1 0 1).toInt ≤ 3000 ∧ 0 ≤ (X_44.1 0 7).toInt ∧ (X_44.1 0 7).toInt ≤ 5 ∧ ((X_44.1 0 7).toInt = 0 ∨ (X_44.1 0 6).toInt < (X_44.1 0 5).toInt) ∧ (X.1 0 6).toInt ≤ (X_44.1 0 6).toInt ∧ -1 ≤ (0 : Int) ∧ (0 : Int) ≤ 2 ∧ ((X_44.1 0 9).toInt = 0 → (X.1 0 9).toInt = 0 ∧ 0 ≤ (0 : Int) ∧ (X.1 0 6).toInt < (X_44.1 0 6).toInt) from by have e0_ : (X_44.1 0 6).toInt = (X.1 0 6).toInt := congrArg Int32.toInt (hFh43.1 0 6 (show (6 : Nat) ∉ [9, 10] from by decide)); have e1_ : (X_44.1 0 5).toInt = (X.1 0 5).toInt := congrArg Int32.toInt (hFh43.1 0 5 (show (5 : Nat) ∉ [9, 10] from by decide)); have e2_ : (X_44.1 0 1).toInt = (X.1 0 1).toInt := congrArg Int32.toInt (hFh43.1 0 1 (show (1 : Nat) ∉ [9, 10] from by decide)); have e3_ : (X_44.1 0 7).toInt = (X.1 0 7).toInt := congrArg Int32.toInt (hFh43.1 0 7 (show (7 : Nat) ∉ [9, 10] from by decide)); omega)⟩
