/-! behind a fault the reference's reader stays faulty -/
def wrX (X : St) : Prop := ¬ (X.1 0 9).toInt = 0
theorem wrX_w {X : St} {e k : Nat} {v : Int32} (h : wrX X) (hk : ¬ (0 = e ∧ 9 = k)) : wrX (wI X e k v) := by
  unfold wrX
  rw [wI_ne _ _ _ _ _ _ hk]
  exact h
theorem uw_fails {p1 p2 : Int32} {X : St} (h : wrX X) : pw (f_fails p1 p2 X) (fun _ Y => wrX Y) := by
  unfold f_fails
  refine pw_let ?_
  exact pw_neg h (pw_ret h)
theorem uw_isWell {X : St} (h : wrX X) : pw (f_isWell X) (fun _ Y => wrX Y) := by
  unfold f_isWell
  refine pw_eq (fun x1 _ => ?_)
  refine pw_ite (fun _ => ?_) (fun _ => ?_)
  · exact pw_ret h
  · exact pw_ret h
theorem uw_isBeginning {X : St} (h : wrX X) : pw (f_isBeginning X) (fun _ Y => wrX Y) := by
  unfold f_isBeginning
  refine pw_eq (fun x1 _ => ?_)
  refine pw_ite (fun _ => ?_) (fun _ => ?_)
  · exact pw_ret h
  · refine pw_eq (fun x2 _ => ?_)
    refine pw_ite (fun _ => ?_) (fun _ => ?_)
    · exact pw_ret h
    · refine pw_eq (fun x3 _ => ?_)
      refine pw_ite (fun _ => ?_) (fun _ => ?_)
      · refine pw_eq (fun y15 _ => ?_)
        refine pw_eq (fun x16 _ => ?_)
        refine pw_ite (fun _ => ?_) (fun _ => ?_)
        · exact pw_ret h
        · refine pw_eq (fun y17 _ => ?_)
          refine pw_eq (fun x18 _ => ?_)
          refine pw_ite (fun _ => ?_) (fun _ => ?_)
          · exact pw_ret h
          · refine pw_eq (fun y19 _ => ?_)
            refine pw_eq (fun x20 _ => ?_)
            refine pw_ite (fun _ => ?_) (fun _ => ?_)
            · exact pw_ret h
            · refine pw_eq (fun y21 _ => ?_)
              refine pw_eq (fun x22 _ => ?_)
              refine pw_ite (fun _ => ?_) (fun _ => ?_)
              · exact pw_ret h
              · refine pw_eq (fun y23 _ => ?_)
                refine pw_eq (fun x24 _ => ?_)
                refine pw_ite (fun _ => ?_) (fun _ => ?_)
                · exact pw_ret h
                · refine pw_eq (fun y25 _ => ?_)
                  refine pw_eq (fun x26 _ => ?_)
                  refine pw_ite (fun _ => ?_) (fun _ => ?_)
                  · exact pw_ret h
                  · refine pw_eq (fun y27 _ => ?_)
                    refine pw_eq (fun x28 _ => ?_)
                    refine pw_ite (fun _ => ?_) (fun _ => ?_)
                    · exact pw_ret h
                    · exact pw_ret h
      · refine pw_eq (fun x4 _ => ?_)
        refine pw_ite (fun _ => ?_) (fun _ => ?_)
        · refine pw_eq (fun y5 _ => ?_)
          refine pw_eq (fun x6 _ => ?_)
          refine pw_ite (fun _ => ?_) (fun _ => ?_)
          · exact pw_ret h
          · refine pw_eq (fun y7 _ => ?_)
            refine pw_eq (fun x8 _ => ?_)
            refine pw_ite (fun _ => ?_) (fun _ => ?_)
            · exact pw_ret h
            · refine pw_eq (fun y9 _ => ?_)
              refine pw_eq (fun x10 _ => ?_)
              refine pw_ite (fun _ => ?_) (fun _ => ?_)
              · exact pw_ret h
              · refine pw_eq (fun y11 _ => ?_)
                refine pw_eq (fun x12 _ => ?_)
                refine pw_ite (fun _ => ?_) (fun _ => ?_)
                · exact pw_ret h
                · refine pw_eq (fun y13 _ => ?_)
                  refine pw_eq (fun x14 _ => ?_)
                  refine pw_ite (fun _ => ?_) (fun _ => ?_)
                  · exact pw_ret h
                  · exact pw_ret h
        · exact pw_ret h
theorem uw_stray {X : St} (h : wrX X) : pw (f_stray X) (fun _ Y => wrX Y) := by
  unfold f_stray
  refine pw_eq (fun x1 _ => ?_)
  refine pw_bd (uw_fails h) (fun _ X2 dX2 => ?_)
  exact pw_ret dX2
theorem uw_isWord {p1 : Int32} {X : St} (h : wrX X) : pw (f_isWord p1 X) (fun _ Y => wrX Y) := by
  unfold f_isWord
  refine pw_bd (uw_isWell h) (fun x1 X2 dX2 => ?_)
  refine pw_ite (fun _ => ?_) (fun _ => ?_)
  · exact pw_ret dX2
  · refine pw_eq (fun x3 _ => ?_)
    refine pw_ite (fun _ => ?_) (fun _ => ?_)
    · refine pw_eq (fun y4 _ => ?_)
      refine pw_eq (fun y5 _ => ?_)
      refine pw_eq (fun x6 _ => ?_)
      refine pw_ite (fun _ => ?_) (fun _ => ?_)
      · exact pw_ret dX2
      · exact pw_ret dX2
    · exact pw_ret dX2
theorem uw_make {p1 : Int32} {p2 : Int32} {X : St} (h : wrX X) : pw (f_make p1 p2 X) (fun _ Y => wrX Y) := by
  unfold f_make
  refine pw_eq (fun x1 _ => ?_)
  refine pw_eq (fun x2 _ => ?_)
  refine pw_eq (fun x3 _ => ?_)
  refine pw_eq (fun X4 eX4 => ?_)
  have dX4 : wrX X4 := by rw [eX4]; exact wrX_w h (fun g_ => absurd g_.2 (by decide))
  refine pw_ck (fun _ => ?_)
  refine pw_eq (fun X5 eX5 => ?_)
  have dX5 : wrX X5 := by rw [eX5]; exact wrX_w dX4 (fun g_ => absurd g_.1 (by decide))
  refine pw_ck (fun _ => ?_)
  refine pw_eq (fun X6 eX6 => ?_)
  have dX6 : wrX X6 := by rw [eX6]; exact wrX_w dX5 (fun g_ => absurd g_.1 (by decide))
  refine pw_ck (fun _ => ?_)
  refine pw_eq (fun X7 eX7 => ?_)
  have dX7 : wrX X7 := by rw [eX7]; exact wrX_w dX6 (fun g_ => absurd g_.1 (by decide))
  refine pw_ck (fun _ => ?_)
  refine pw_eq (fun X8 eX8 => ?_)
  have dX8 : wrX X8 := by rw [eX8]; exact wrX_w dX7 (fun g_ => absurd g_.1 (by decide))
  refine pw_ck (fun _ => ?_)
  refine pw_eq (fun X9 eX9 => ?_)
  have dX9 : wrX X9 := by rw [eX9]; exact wrX_w dX8 (fun g_ => absurd g_.1 (by decide))
  refine pw_ck (fun _ => ?_)
  refine pw_eq (fun X10 eX10 => ?_)
  have dX10 : wrX X10 := by rw [eX10]; exact wrX_w dX9 (fun g_ => absurd g_.1 (by decide))
  refine pw_ck (fun _ => ?_)
  refine pw_eq (fun X11 eX11 => ?_)
  have dX11 : wrX X11 := by rw [eX11]; exact wrX_w dX10 (fun g_ => absurd g_.1 (by decide))
  refine pw_ck (fun _ => ?_)
  refine pw_eq (fun X12 eX12 => ?_)
  have dX12 : wrX X12 := by rw [eX12]; exact wrX_w dX11 (fun g_ => absurd g_.1 (by decide))
  refine pw_ck (fun _ => ?_)
  refine pw_eq (fun X13 eX13 => ?_)
  have dX13 : wrX X13 := by rw [eX13]; exact wrX_w dX12 (fun g_ => absurd g_.1 (by decide))
  refine pw_ck (fun _ => ?_)
  refine pw_eq (fun X14 eX14 => ?_)
  have dX14 : wrX X14 := by rw [eX14]; exact dX13
  refine pw_ck (fun _ => ?_)
  refine pw_eq (fun X15 eX15 => ?_)
  have dX15 : wrX X15 := by rw [eX15]; exact wrX_w dX14 (fun g_ => absurd g_.1 (by decide))
  exact pw_ret dX15
theorem uw_nests_18 {X : St} (h : wrX X) : pw (f_nests_18 X) (fun _ Y => wrX Y) := by
  unfold f_nests_18
  refine pw_eq (fun x2 _ => ?_)
  refine pw_eq (fun x3 _ => ?_)
  refine pw_eq (fun X4 eX4 => ?_)
  have dX4 : wrX X4 := by rw [eX4]; exact wrX_w h (fun g_ => absurd g_.2 (by decide))
  exact pw_ret dX4
theorem uw_nests {X : St} (h : wrX X) : pw (f_nests X) (fun _ Y => wrX Y) := by
  unfold f_nests
  refine pw_eq (fun x1 _ => ?_)
  refine pw_ite (fun _ => ?_) (fun _ => ?_)
  · refine pw_eq (fun x5 _ => ?_)
    refine pw_bd (uw_fails h) (fun _ X6 dX6 => ?_)
    exact uw_nests_18 dX6
  · exact uw_nests_18 h
theorem uw_in {p0 : Int32} {p1 : Int32} {p2 : Int32} {X : St} (h : wrX X) : pw (f_in p0 p1 p2 X) (fun _ Y => wrX Y) := by
  unfold f_in
  refine pw_ite (fun _ => ?_) (fun _ => ?_)
  · exact pw_ret h
  · refine pw_ite (fun _ => ?_) (fun _ => ?_)
    · exact pw_ret h
    · exact pw_ret h
theorem uw_letterOf {p0 : Int32} {X : St} (h : wrX X) : pw (f_letterOf p0 X) (fun _ Y => wrX Y) := by
  unfold f_letterOf
  refine pw_bd (uw_in h) (fun x1 X2 dX2 => ?_)
  refine pw_ite (fun _ => ?_) (fun _ => ?_)
  · refine pw_bd (uw_in dX2) (fun x3 X4 dX4 => ?_)
    refine pw_ite (fun _ => ?_) (fun _ => ?_)
    · exact pw_ret dX4
    · refine pw_eq (fun x5 _ => ?_)
      exact pw_ret dX4
  · refine pw_eq (fun x6 _ => ?_)
    exact pw_ret dX2
theorem uw_sign_70 {a1 : Int32} {X : St} (h : wrX X) : pw (f_sign_70 a1 X) (fun _ Y => wrX Y) := by
  unfold f_sign_70
  refine pw_ite (fun _ => ?_) (fun _ => ?_)
  · exact pw_ret h
  · refine pw_ite (fun _ => ?_) (fun _ => ?_)
    · exact pw_ret h
    · refine pw_ite (fun _ => ?_) (fun _ => ?_)
      · exact pw_ret h
      · refine pw_ite (fun _ => ?_) (fun _ => ?_)
        · exact pw_ret h
        · refine pw_ite (fun _ => ?_) (fun _ => ?_)
          · exact pw_ret h
          · refine pw_ite (fun _ => ?_) (fun _ => ?_)
            · exact pw_ret h
            · refine pw_ite (fun _ => ?_) (fun _ => ?_)
              · exact pw_ret h
              · refine pw_ite (fun _ => ?_) (fun _ => ?_)
                · exact pw_ret h
                · refine pw_ite (fun _ => ?_) (fun _ => ?_)
                  · exact pw_ret h
                  · refine pw_ite (fun _ => ?_) (fun _ => ?_)
                    · exact pw_ret h
                    · refine pw_ite (fun _ => ?_) (fun _ => ?_)
                      · exact pw_ret h
                      · refine pw_ite (fun _ => ?_) (fun _ => ?_)
                        · exact pw_ret h
                        · refine pw_ite (fun _ => ?_) (fun _ => ?_)
                          · exact pw_ret h
                          · refine pw_ite (fun _ => ?_) (fun _ => ?_)
                            · exact pw_ret h
                            · refine pw_ite (fun _ => ?_) (fun _ => ?_)
                              · exact pw_ret h
                              · refine pw_ite (fun _ => ?_) (fun _ => ?_)
                                · exact pw_ret h
                                · refine pw_ite (fun _ => ?_) (fun _ => ?_)
                                  · exact pw_ret h
                                  · refine pw_eq (fun X24 eX24 => ?_)
                                    have dX24 : wrX X24 := by rw [eX24]; exact wrX_w h (fun g_ => absurd g_.2 (by decide))
                                    exact pw_ret dX24
theorem uw_sign {p1 : Int32} {X : St} (h : wrX X) : pw (f_sign p1 X) (fun _ Y => wrX Y) := by
  unfold f_sign
  refine pw_eq (fun X1 eX1 => ?_)
  have dX1 : wrX X1 := by rw [eX1]; exact wrX_w h (fun g_ => absurd g_.2 (by decide))
  refine pw_eq (fun y2 _ => ?_)
  refine pw_eq (fun X3 eX3 => ?_)
  have dX3 : wrX X3 := by rw [eX3]; exact dX1
  refine pw_eq (fun x4 _ => ?_)
  refine pw_eq (fun x5 _ => ?_)
  refine pw_eq (fun X6 eX6 => ?_)
  have dX6 : wrX X6 := by rw [eX6]; exact wrX_w dX3 (fun g_ => absurd g_.2 (by decide))
  refine pw_ite (fun _ => ?_) (fun _ => ?_)
  · refine pw_eq (fun x25 _ => ?_)
    refine pw_eq (fun x26 _ => ?_)
    refine pw_ite (fun _ => ?_) (fun _ => ?_)
    · exact uw_sign_70 dX6
    · refine pw_eq (fun x27 _ => ?_)
      refine pw_ck (fun _ => ?_)
      refine pw_eq (fun x28 _ => ?_)
      refine pw_ite (fun _ => ?_) (fun _ => ?_)
      · refine pw_eq (fun X29 eX29 => ?_)
        have dX29 : wrX X29 := by rw [eX29]; exact dX6
        refine pw_eq (fun x30 _ => ?_)
        refine pw_eq (fun x31 _ => ?_)
        refine pw_eq (fun X32 eX32 => ?_)
        have dX32 : wrX X32 := by rw [eX32]; exact wrX_w dX29 (fun g_ => absurd g_.2 (by decide))
        exact pw_ret dX32
      · exact uw_sign_70 dX6
  · exact uw_sign_70 dX6
theorem uw_next_194 {r122 : St → Option (Int32 × St)} (hr122 : ∀ (X : St), wrX X → pw (r122 X) (fun _ Y => wrX Y)) {m0 : Int64} {X : St} (h : wrX X) : pw (f_next_194 r122 m0 X) (fun _ Y => wrX Y) := by
  unfold f_next_194
  refine pw_eq (fun X31 eX31 => ?_)
  have dX31 : wrX X31 := by rw [eX31]; exact h
  refine pw_eq (fun x32 _ => ?_)
  refine pw_eq (fun x33 _ => ?_)
  refine pw_eq (fun X34 eX34 => ?_)
  have dX34 : wrX X34 := by rw [eX34]; exact wrX_w dX31 (fun g_ => absurd g_.2 (by decide))
  exact hr122 _ dX34
theorem uw_next_122 (N : Nat) : ∀ (X : St), wrX X → pw (f_next_122 N X) (fun _ Y => wrX Y) := by
  unfold f_next_122
  refine lp_ind (P := fun (r : St → Option (Int32 × St)) => ∀ (X : St), wrX X → pw (r X) (fun _ Y => wrX Y)) (fun _ _ => pw_none) (fun r ih  X h => ?_) N
  unfold f_next_122_s
  refine pw_eq (fun x16 _ => ?_)
  refine pw_eq (fun x17 _ => ?_)
  refine pw_ite (fun _ => ?_) (fun _ => ?_)
  · exact pw_ret h
  · refine pw_eq (fun x18 _ => ?_)
    refine pw_ck (fun _ => ?_)
    refine pw_eq (fun x19 _ => ?_)
    refine pw_bd (uw_in h) (fun x20 X21 dX21 => ?_)
    refine pw_ite (fun _ => ?_) (fun _ => ?_)
    · exact pw_ret dX21
    · refine pw_eq (fun y22 _ => ?_)
      refine pw_eq (fun x23 _ => ?_)
      refine pw_ite (fun _ => ?_) (fun _ => ?_)
      · refine pw_eq (fun y24 _ => ?_)
        refine pw_eq (fun y25 _ => ?_)
        refine pw_eq (fun x26 _ => ?_)
        refine pw_ck (fun _ => ?_)
        refine pw_eq (fun x27 _ => ?_)
        refine pw_eq (fun y28 _ => ?_)
        refine pw_eq (fun y29 _ => ?_)
        refine pw_eq (fun y30 _ => ?_)
        exact uw_next_194 ih dX21
      · refine pw_eq (fun y35 _ => ?_)
        exact uw_next_194 ih dX21
theorem uw_wordOf {q0 : Int64} {X : St} (h : wrX X) : pw (f_wordOf q0 X) (fun _ Y => wrX Y) := by
  unfold f_wordOf
  refine pw_eq (fun x1 _ => ?_)
  refine pw_ite (fun _ => ?_) (fun _ => ?_)
  · refine pw_eq (fun x2 _ => ?_)
    refine pw_ite (fun _ => ?_) (fun _ => ?_)
    · exact pw_ret h
    · refine pw_ite (fun _ => ?_) (fun _ => ?_)
      · exact pw_ret h
      · refine pw_ite (fun _ => ?_) (fun _ => ?_)
        · exact pw_ret h
        · refine pw_ite (fun _ => ?_) (fun _ => ?_)
          · exact pw_ret h
          · refine pw_ite (fun _ => ?_) (fun _ => ?_)
            · exact pw_ret h
            · refine pw_ite (fun _ => ?_) (fun _ => ?_)
              · exact pw_ret h
              · refine pw_ite (fun _ => ?_) (fun _ => ?_)
                · exact pw_ret h
                · refine pw_ite (fun _ => ?_) (fun _ => ?_)
                  · exact pw_ret h
                  · refine pw_ite (fun _ => ?_) (fun _ => ?_)
                    · exact pw_ret h
                    · refine pw_ite (fun _ => ?_) (fun _ => ?_)
                      · exact pw_ret h
                      · refine pw_ite (fun _ => ?_) (fun _ => ?_)
                        · exact pw_ret h
                        · refine pw_ite (fun _ => ?_) (fun _ => ?_)
                          · exact pw_ret h
                          · refine pw_ite (fun _ => ?_) (fun _ => ?_)
                            · exact pw_ret h
                            · refine pw_ite (fun _ => ?_) (fun _ => ?_)
                              · exact pw_ret h
                              · refine pw_ite (fun _ => ?_) (fun _ => ?_)
                                · exact pw_ret h
                                · exact pw_ret h
  · exact pw_ret h
theorem uw_name_156 {m0 : Int64} {X : St} (h : wrX X) : pw (f_name_156 m0 X) (fun _ Y => wrX Y) := by
  unfold f_name_156
  refine pw_eq (fun X11 eX11 => ?_)
  have dX11 : wrX X11 := by rw [eX11]; exact h
  exact pw_ret dX11
theorem uw_name_139 {a1 : Int32} {b0 : Int32} {X : St} (h : wrX X) : pw (f_name_139 a1 b0 X) (fun _ Y => wrX Y) := by
  unfold f_name_139
  refine pw_eq (fun X9 eX9 => ?_)
  have dX9 : wrX X9 := by rw [eX9]; exact wrX_w h (fun g_ => absurd g_.2 (by decide))
  refine pw_ite (fun _ => ?_) (fun _ => ?_)
  · refine pw_eq (fun y10 _ => ?_)
    exact uw_name_156 dX9
  · refine pw_eq (fun y12 _ => ?_)
    exact uw_name_156 dX9
theorem uw_name_115 {b0 : Int32} {X : St} (h : wrX X) : pw (f_name_115 b0 X) (fun _ Y => wrX Y) := by
  unfold f_name_115
  refine pw_ite (fun _ => ?_) (fun _ => ?_)
  · refine pw_eq (fun x8 _ => ?_)
    refine pw_ite (fun _ => ?_) (fun _ => ?_)
    · exact uw_name_139 h
    · exact uw_name_139 h
  · exact uw_name_139 h
theorem uw_name_96 {X : St} (h : wrX X) : pw (f_name_96 X) (fun _ Y => wrX Y) := by
  unfold f_name_96
  refine pw_eq (fun x4 _ => ?_)
  refine pw_ite (fun _ => ?_) (fun _ => ?_)
  · refine pw_eq (fun y5 _ => ?_)
    refine pw_bd (uw_wordOf h) (fun x6 X7 dX7 => ?_)
    exact uw_name_115 dX7
  · exact uw_name_115 h
theorem uw_name_70 {r5 : St → Option (Int32 × St)} (hr5 : ∀ (X : St), wrX X → pw (r5 X) (fun _ Y => wrX Y)) {m0 : Int64} {X : St} (h : wrX X) : pw (f_name_70 r5 m0 X) (fun _ Y => wrX Y) := by
  unfold f_name_70
  refine pw_eq (fun X19 eX19 => ?_)
  have dX19 : wrX X19 := by rw [eX19]; exact h
  refine pw_eq (fun x20 _ => ?_)
  refine pw_eq (fun x21 _ => ?_)
  refine pw_eq (fun X22 eX22 => ?_)
  have dX22 : wrX X22 := by rw [eX22]; exact wrX_w dX19 (fun g_ => absurd g_.2 (by decide))
  refine pw_eq (fun x23 _ => ?_)
  refine pw_eq (fun x24 _ => ?_)
  refine pw_eq (fun X25 eX25 => ?_)
  have dX25 : wrX X25 := by rw [eX25]; exact wrX_w dX22 (fun g_ => absurd g_.2 (by decide))
  exact hr5 _ dX25
theorem uw_name_5 (N : Nat) : ∀ (X : St), wrX X → pw (f_name_5 N X) (fun _ Y => wrX Y) := by
  unfold f_name_5
  refine lp_ind (P := fun (r : St → Option (Int32 × St)) => ∀ (X : St), wrX X → pw (r X) (fun _ Y => wrX Y)) (fun _ _ => pw_none) (fun r ih  X h => ?_) N
  unfold f_name_5_s
  refine pw_eq (fun x2 _ => ?_)
  refine pw_eq (fun x3 _ => ?_)
  refine pw_ite (fun _ => ?_) (fun _ => ?_)
  · exact uw_name_96 h
  · refine pw_eq (fun x13 _ => ?_)
    refine pw_ck (fun _ => ?_)
    refine pw_eq (fun x14 _ => ?_)
    refine pw_bd (uw_letterOf h) (fun x15 X16 dX16 => ?_)
    refine pw_ite (fun _ => ?_) (fun _ => ?_)
    · exact uw_name_96 dX16
    · refine pw_eq (fun x17 _ => ?_)
      refine pw_ite (fun _ => ?_) (fun _ => ?_)
      · refine pw_eq (fun y18 _ => ?_)
        exact uw_name_70 ih dX16
      · refine pw_eq (fun y26 _ => ?_)
        refine pw_eq (fun y27 _ => ?_)
        refine pw_eq (fun x28 _ => ?_)
        refine pw_ck (fun _ => ?_)
        refine pw_eq (fun x29 _ => ?_)
        refine pw_bd (uw_letterOf dX16) (fun x30 X31 dX31 => ?_)
        refine pw_eq (fun y32 _ => ?_)
        refine pw_eq (fun y33 _ => ?_)
        exact uw_name_70 ih dX31
theorem uw_name {X : St} (h : wrX X) : pw (f_name X) (fun _ Y => wrX Y) := by
  unfold f_name
  refine pw_eq (fun X1 eX1 => ?_)
  have dX1 : wrX X1 := by rw [eX1]; exact wrX_w h (fun g_ => absurd g_.2 (by decide))
  exact uw_name_5 _ _ dX1
theorem uw_next_52 {X : St} (h : wrX X) : pw (f_next_52 X) (fun _ Y => wrX Y) := by
  unfold f_next_52
  refine pw_eq (fun x3 _ => ?_)
  refine pw_eq (fun X4 eX4 => ?_)
  have dX4 : wrX X4 := by rw [eX4]; exact wrX_w h (fun g_ => absurd g_.2 (by decide))
  refine pw_eq (fun X5 eX5 => ?_)
  have dX5 : wrX X5 := by rw [eX5]; exact dX4
  refine pw_eq (fun x6 _ => ?_)
  refine pw_eq (fun x7 _ => ?_)
  refine pw_ite (fun _ => ?_) (fun _ => ?_)
  · refine pw_eq (fun X37 eX37 => ?_)
    have dX37 : wrX X37 := by rw [eX37]; exact wrX_w dX5 (fun g_ => absurd g_.2 (by decide))
    exact pw_ret dX37
  · refine pw_eq (fun x8 _ => ?_)
    refine pw_ck (fun _ => ?_)
    refine pw_eq (fun x9 _ => ?_)
    refine pw_bd (uw_letterOf dX5) (fun x10 X11 dX11 => ?_)
    refine pw_ite (fun _ => ?_) (fun _ => ?_)
    · refine pw_bd (uw_in dX11) (fun x12 X13 dX13 => ?_)
      refine pw_ite (fun _ => ?_) (fun _ => ?_)
      · refine pw_bd (uw_sign dX13) (fun _ X14 dX14 => ?_)
        exact pw_ret dX14
      · refine pw_eq (fun X15 eX15 => ?_)
        have dX15 : wrX X15 := by rw [eX15]; exact wrX_w dX13 (fun g_ => absurd g_.2 (by decide))
        exact uw_next_122 _ _ dX15
    · refine pw_bd (uw_name dX11) (fun _ X36 dX36 => ?_)
      exact pw_ret dX36
theorem uw_next_39 {r0 : St → Option (Int32 × St)} (hr0 : ∀ (X : St), wrX X → pw (r0 X) (fun _ Y => wrX Y)) {X : St} (h : wrX X) : pw (f_next_39 r0 X) (fun _ Y => wrX Y) := by
  unfold f_next_39
  refine pw_eq (fun x40 _ => ?_)
  refine pw_eq (fun x41 _ => ?_)
  refine pw_eq (fun X42 eX42 => ?_)
  have dX42 : wrX X42 := by rw [eX42]; exact wrX_w h (fun g_ => absurd g_.2 (by decide))
  exact hr0 _ dX42
theorem uw_next_0 (N : Nat) : ∀ (X : St), wrX X → pw (f_next_0 N X) (fun _ Y => wrX Y) := by
  unfold f_next_0
  refine lp_ind (P := fun (r : St → Option (Int32 × St)) => ∀ (X : St), wrX X → pw (r X) (fun _ Y => wrX Y)) (fun _ _ => pw_none) (fun r ih  X h => ?_) N
  unfold f_next_0_s
  refine pw_eq (fun x1 _ => ?_)
  refine pw_eq (fun x2 _ => ?_)
  refine pw_ite (fun _ => ?_) (fun _ => ?_)
  · exact uw_next_52 h
  · refine pw_eq (fun x38 _ => ?_)
    refine pw_ck (fun _ => ?_)
    refine pw_eq (fun x39 _ => ?_)
    refine pw_ite (fun _ => ?_) (fun _ => ?_)
    · exact uw_next_39 ih h
    · refine pw_eq (fun x43 _ => ?_)
      refine pw_ck (fun _ => ?_)
      refine pw_eq (fun x44 _ => ?_)
      refine pw_ite (fun _ => ?_) (fun _ => ?_)
      · exact uw_next_39 ih h
      · exact uw_next_52 h
theorem uw_next {X : St} (h : wrX X) : pw (f_next X) (fun _ Y => wrX Y) := by
  unfold f_next
  exact uw_next_0 _ _ h
theorem uw_enter {p1 : Int32} {p2 : Int32} {X : St} (h : wrX X) : pw (f_enter p1 p2 X) (fun _ Y => wrX Y) := by
  unfold f_enter
  refine pw_eq (fun x1 _ => ?_)
  refine pw_ck (fun _ => ?_)
  refine pw_eq (fun X2 eX2 => ?_)
  have dX2 : wrX X2 := by rw [eX2]; exact wrX_w h (fun g_ => absurd g_.1 (by decide))
  refine pw_eq (fun x3 _ => ?_)
  refine pw_ck (fun _ => ?_)
  refine pw_eq (fun X4 eX4 => ?_)
  have dX4 : wrX X4 := by rw [eX4]; exact wrX_w dX2 (fun g_ => absurd g_.1 (by decide))
  refine pw_eq (fun x5 _ => ?_)
  refine pw_ck (fun _ => ?_)
  refine pw_eq (fun X6 eX6 => ?_)
  have dX6 : wrX X6 := by rw [eX6]; exact wrX_w dX4 (fun g_ => absurd g_.1 (by decide))
  refine pw_eq (fun x7 _ => ?_)
  refine pw_eq (fun x8 _ => ?_)
  refine pw_ck (fun _ => ?_)
  refine pw_eq (fun X9 eX9 => ?_)
  have dX9 : wrX X9 := by rw [eX9]; exact wrX_w dX6 (fun g_ => absurd g_.1 (by decide))
  refine pw_eq (fun x10 _ => ?_)
  refine pw_eq (fun x11 _ => ?_)
  refine pw_eq (fun X12 eX12 => ?_)
  have dX12 : wrX X12 := by rw [eX12]; exact wrX_w dX9 (fun g_ => absurd g_.2 (by decide))
  exact pw_ret dX12
theorem uw_isSign {p1 : Int32} {X : St} (h : wrX X) : pw (f_isSign p1 X) (fun _ Y => wrX Y) := by
  unfold f_isSign
  refine pw_bd (uw_isWell h) (fun x1 X2 dX2 => ?_)
  refine pw_ite (fun _ => ?_) (fun _ => ?_)
  · exact pw_ret dX2
  · refine pw_eq (fun x3 _ => ?_)
    refine pw_ite (fun _ => ?_) (fun _ => ?_)
    · refine pw_eq (fun y4 _ => ?_)
      refine pw_eq (fun y5 _ => ?_)
      refine pw_eq (fun x6 _ => ?_)
      refine pw_ite (fun _ => ?_) (fun _ => ?_)
      · exact pw_ret dX2
      · exact pw_ret dX2
    · exact pw_ret dX2
theorem uw_takes {p1 : Int32} {X : St} (h : wrX X) : pw (f_takes p1 X) (fun _ Y => wrX Y) := by
  unfold f_takes
  refine pw_bd (uw_isSign h) (fun x1 X2 dX2 => ?_)
  refine pw_ite (fun _ => ?_) (fun _ => ?_)
  · refine pw_bd (uw_stray dX2) (fun _ X3 dX3 => ?_)
    exact pw_ret dX3
  · refine pw_bd (uw_next dX2) (fun _ X4 dX4 => ?_)
    exact pw_ret dX4
theorem uw_beginsLet_91 {a1 : Int32} {X : St} (h : wrX X) : pw (f_beginsLet_91 a1 X) (fun _ Y => wrX Y) := by
  unfold f_beginsLet_91
  refine pw_bd (uw_takes h) (fun _ X16 dX16 => ?_)
  refine pw_bd (uw_enter dX16) (fun _ X17 dX17 => ?_)
  exact pw_ret dX17
theorem uw_kind_346 {a2 : Int32} {X : St} (h : wrX X) : pw (f_kind_346 a2 X) (fun _ Y => wrX Y) := by
  unfold f_kind_346
  refine pw_ite (fun _ => ?_) (fun _ => ?_)
  · exact pw_ret h
  · exact pw_ret h
theorem uw_closes {p1 : Int32} {X : St} (h : wrX X) : pw (f_closes p1 X) (fun _ Y => wrX Y) := by
  unfold f_closes
  refine pw_bd (uw_takes h) (fun _ X1 dX1 => ?_)
  refine pw_eq (fun x2 _ => ?_)
  refine pw_eq (fun x3 _ => ?_)
  refine pw_eq (fun X4 eX4 => ?_)
  have dX4 : wrX X4 := by rw [eX4]; exact wrX_w dX1 (fun g_ => absurd g_.2 (by decide))
  exact pw_ret dX4
theorem uw_kind_343 {r11 : Int32 → Int32 → Int32 → St → Option (Int32 × St)} (hr11 : ∀ (q0 : Int32) (q1 : Int32) (q2 : Int32) (X : St), wrX X → pw (r11 q0 q1 q2 X) (fun _ Y => wrX Y)) {a1 : Int32} {a2 : Int32} {a3 : Int32} {X : St} (h : wrX X) : pw (f_kind_343 r11 a1 a2 a3 X) (fun _ Y => wrX Y) := by
  unfold f_kind_343
  exact hr11 _ _ _ _ h
theorem uw_kind_185 {r11 : Int32 → Int32 → Int32 → St → Option (Int32 × St)} (hr11 : ∀ (q0 : Int32) (q1 : Int32) (q2 : Int32) (X : St), wrX X → pw (r11 q0 q1 q2 X) (fun _ Y => wrX Y)) {a1 : Int32} {a3 : Int32} {b0 : Int32} {X : St} (h : wrX X) : pw (f_kind_185 r11 a1 a3 b0 X) (fun _ Y => wrX Y) := by
  unfold f_kind_185
  refine pw_eq (fun x41 _ => ?_)
  exact uw_kind_343 hr11 h
theorem uw_kindOf_315 {r212 : Int32 → Int32 → Int32 → Int32 → Int32 → Int32 → St → Option (Int32 × St)} (hr212 : ∀ (q0 : Int32) (q1 : Int32) (q2 : Int32) (q3 : Int32) (q4 : Int32) (q5 : Int32) (X : St), wrX X → pw (r212 q0 q1 q2 q3 q4 q5 X) (fun _ Y => wrX Y)) {a1 : Int32} {a2 : Int32} {a3 : Int32} {a4 : Int32} {a6 : Int32} {b0 : Int32} {X : St} (h : wrX X) : pw (f_kindOf_315 r212 a1 a2 a3 a4 a6 b0 X) (fun _ Y => wrX Y) := by
  unfold f_kindOf_315
  refine pw_eq (fun x21 _ => ?_)
  exact hr212 _ _ _ _ _ _ _ h
theorem uw_kindOf_284 {r212 : Int32 → Int32 → Int32 → Int32 → Int32 → Int32 → St → Option (Int32 × St)} (hr212 : ∀ (q0 : Int32) (q1 : Int32) (q2 : Int32) (q3 : Int32) (q4 : Int32) (q5 : Int32) (X : St), wrX X → pw (r212 q0 q1 q2 q3 q4 q5 X) (fun _ Y => wrX Y)) {a1 : Int32} {a2 : Int32} {a3 : Int32} {a4 : Int32} {a5 : Int32} {a6 : Int32} {b0 : Int32} {b1 : Int32} {X : St} (h : wrX X) : pw (f_kindOf_284 r212 a1 a2 a3 a4 a5 a6 b0 b1 X) (fun _ Y => wrX Y) := by
  unfold f_kindOf_284
  refine pw_ck (fun _ => ?_)
  refine pw_eq (fun X20 eX20 => ?_)
  have dX20 : wrX X20 := by rw [eX20]; exact wrX_w h (fun g_ => absurd g_.1 (by decide))
  refine pw_ite (fun _ => ?_) (fun _ => ?_)
  · refine pw_eq (fun x22 _ => ?_)
    refine pw_eq (fun x23 _ => ?_)
    refine pw_ck (fun _ => ?_)
    refine pw_eq (fun x24 _ => ?_)
    refine pw_ck (fun _ => ?_)
    refine pw_eq (fun x25 _ => ?_)
    refine pw_eq (fun x26 _ => ?_)
    exact uw_kindOf_315 hr212 dX20
  · exact uw_kindOf_315 hr212 dX20
theorem uw_kindOf_279 {r212 : Int32 → Int32 → Int32 → Int32 → Int32 → Int32 → St → Option (Int32 × St)} (hr212 : ∀ (q0 : Int32) (q1 : Int32) (q2 : Int32) (q3 : Int32) (q4 : Int32) (q5 : Int32) (X : St), wrX X → pw (r212 q0 q1 q2 q3 q4 q5 X) (fun _ Y => wrX Y)) {a1 : Int32} {a2 : Int32} {a3 : Int32} {a4 : Int32} {a5 : Int32} {a6 : Int32} {b0 : Int32} {X : St} (h : wrX X) : pw (f_kindOf_279 r212 a1 a2 a3 a4 a5 a6 b0 X) (fun _ Y => wrX Y) := by
  unfold f_kindOf_279
  exact uw_kindOf_284 hr212 h
theorem uw_kindOf_212 (N : Nat) : ∀ (a1 : Int32) (a2 : Int32) (a3 : Int32) (a4 : Int32) (a5 : Int32) (a6 : Int32) (X : St), wrX X → pw (f_kindOf_212 N a1 a2 a3 a4 a5 a6 X) (fun _ Y => wrX Y) := by
  unfold f_kindOf_212
  refine lp_ind (P := fun (r : Int32 → Int32 → Int32 → Int32 → Int32 → Int32 → St → Option (Int32 × St)) => ∀ (a1 : Int32) (a2 : Int32) (a3 : Int32) (a4 : Int32) (a5 : Int32) (a6 : Int32) (X : St), wrX X → pw (r a1 a2 a3 a4 a5 a6 X) (fun _ Y => wrX Y)) (fun _ _ _ _ _ _ _ _ => pw_none) (fun r ih a1 a2 a3 a4 a5 a6 X h => ?_) N
  unfold f_kindOf_212_s
  refine pw_ite (fun _ => ?_) (fun _ => ?_)
  · refine pw_ck (fun _ => ?_)
    refine pw_eq (fun X11 eX11 => ?_)
    have dX11 : wrX X11 := by rw [eX11]; exact wrX_w h (fun g_ => absurd g_.1 (by decide))
    exact pw_ret dX11
  · refine pw_eq (fun x12 _ => ?_)
    refine pw_eq (fun x13 _ => ?_)
    refine pw_ck (fun _ => ?_)
    refine pw_eq (fun x14 _ => ?_)
    refine pw_ck (fun _ => ?_)
    refine pw_eq (fun X15 eX15 => ?_)
    have dX15 : wrX X15 := by rw [eX15]; exact wrX_w h (fun g_ => absurd g_.1 (by decide))
    refine pw_eq (fun x16 _ => ?_)
    refine pw_eq (fun x17 _ => ?_)
    refine pw_eq (fun X18 eX18 => ?_)
    have dX18 : wrX X18 := by rw [eX18]; exact wrX_w dX15 (fun g_ => absurd g_.2 (by decide))
    refine pw_ck (fun _ => ?_)
    refine pw_eq (fun x19 _ => ?_)
    refine pw_ite (fun _ => ?_) (fun _ => ?_)
    · refine pw_eq (fun x27 _ => ?_)
      refine pw_ck (fun _ => ?_)
      refine pw_eq (fun x28 _ => ?_)
      refine pw_ck (fun _ => ?_)
      refine pw_eq (fun x29 _ => ?_)
      refine pw_ite (fun _ => ?_) (fun _ => ?_)
      · exact uw_kindOf_284 ih dX18
      · exact uw_kindOf_279 ih dX18
    · exact uw_kindOf_279 ih dX18
theorem uw_kindOf_207 {a1 : Int32} {a2 : Int32} {a3 : Int32} {a4 : Int32} {b0 : Int32} {X : St} (h : wrX X) : pw (f_kindOf_207 a1 a2 a3 a4 b0 X) (fun _ Y => wrX Y) := by
  unfold f_kindOf_207
  exact uw_kindOf_212 _ _ _ _ _ _ _ _ h
theorem uw_kindOf_168 {a1 : Int32} {a2 : Int32} {a3 : Int32} {a4 : Int32} {b0 : Int32} {b1 : Int32} {X : St} (h : wrX X) : pw (f_kindOf_168 a1 a2 a3 a4 b0 b1 X) (fun _ Y => wrX Y) := by
  unfold f_kindOf_168
  refine pw_ck (fun _ => ?_)
  refine pw_eq (fun X10 eX10 => ?_)
  have dX10 : wrX X10 := by rw [eX10]; exact wrX_w h (fun g_ => absurd g_.1 (by decide))
  refine pw_ite (fun _ => ?_) (fun _ => ?_)
  · refine pw_ck (fun _ => ?_)
    refine pw_eq (fun x32 _ => ?_)
    refine pw_ck (fun _ => ?_)
    refine pw_eq (fun x33 _ => ?_)
    refine pw_eq (fun x34 _ => ?_)
    refine pw_eq (fun x35 _ => ?_)
    exact uw_kindOf_207 dX10
  · refine pw_ite (fun _ => ?_) (fun _ => ?_)
    · refine pw_eq (fun x30 _ => ?_)
      refine pw_eq (fun x31 _ => ?_)
      exact uw_kindOf_207 dX10
    · exact uw_kindOf_207 dX10
theorem uw_kindOf_95 {r3 : Int32 → Int32 → Int32 → Int32 → St → Option (Int32 × St)} (hr3 : ∀ (q0 : Int32) (q1 : Int32) (q2 : Int32) (q3 : Int32) (X : St), wrX X → pw (r3 q0 q1 q2 q3 X) (fun _ Y => wrX Y)) {a1 : Int32} {a2 : Int32} {a3 : Int32} {a4 : Int32} {a5 : Int32} {X : St} (h : wrX X) : pw (f_kindOf_95 r3 a1 a2 a3 a4 a5 X) (fun _ Y => wrX Y) := by
  unfold f_kindOf_95
  refine pw_ite (fun _ => ?_) (fun _ => ?_)
  · refine pw_eq (fun x37 _ => ?_)
    exact hr3 _ _ _ _ _ h
  · exact pw_ret h
theorem uw_kindOf_87 {r3 : Int32 → Int32 → Int32 → Int32 → St → Option (Int32 × St)} {r44 : Int32 → Int32 → Int32 → Int32 → Int32 → Int32 → St → Option (Int32 × St)} (hr3 : ∀ (q0 : Int32) (q1 : Int32) (q2 : Int32) (q3 : Int32) (X : St), wrX X → pw (r3 q0 q1 q2 q3 X) (fun _ Y => wrX Y)) (hr44 : ∀ (q0 : Int32) (q1 : Int32) (q2 : Int32) (q3 : Int32) (q4 : Int32) (q5 : Int32) (X : St), wrX X → pw (r44 q0 q1 q2 q3 q4 q5 X) (fun _ Y => wrX Y)) {a1 : Int32} {a2 : Int32} {a3 : Int32} {a4 : Int32} {a6 : Int32} {b0 : Int32} {X : St} (h : wrX X) : pw (f_kindOf_87 r3 r44 a1 a2 a3 a4 a6 b0 X) (fun _ Y => wrX Y) := by
  unfold f_kindOf_87
  refine pw_eq (fun x43 _ => ?_)
  exact hr44 _ _ _ _ _ _ _ h
theorem uw_kindOf_44 {r3 : Int32 → Int32 → Int32 → Int32 → St → Option (Int32 × St)} (hr3 : ∀ (q0 : Int32) (q1 : Int32) (q2 : Int32) (q3 : Int32) (X : St), wrX X → pw (r3 q0 q1 q2 q3 X) (fun _ Y => wrX Y)) (N : Nat) : ∀ (a1 : Int32) (a2 : Int32) (a3 : Int32) (a4 : Int32) (a5 : Int32) (a6 : Int32) (X : St), wrX X → pw (f_kindOf_44 r3 N a1 a2 a3 a4 a5 a6 X) (fun _ Y => wrX Y) := by
  unfold f_kindOf_44
  refine lp_ind (P := fun (r : Int32 → Int32 → Int32 → Int32 → Int32 → Int32 → St → Option (Int32 × St)) => ∀ (a1 : Int32) (a2 : Int32) (a3 : Int32) (a4 : Int32) (a5 : Int32) (a6 : Int32) (X : St), wrX X → pw (r a1 a2 a3 a4 a5 a6 X) (fun _ Y => wrX Y)) (fun _ _ _ _ _ _ _ _ => pw_none) (fun r ih a1 a2 a3 a4 a5 a6 X h => ?_) N
  unfold f_kindOf_44_s
  refine pw_ite (fun _ => ?_) (fun _ => ?_)
  · exact uw_kindOf_95 hr3 h
  · refine pw_ite (fun _ => ?_) (fun _ => ?_)
    · exact uw_kindOf_95 hr3 h
    · refine pw_ck (fun _ => ?_)
      refine pw_eq (fun x38 _ => ?_)
      refine pw_eq (fun x39 _ => ?_)
      refine pw_ck (fun _ => ?_)
      refine pw_eq (fun x40 _ => ?_)
      refine pw_eq (fun x41 _ => ?_)
      refine pw_ck (fun _ => ?_)
      refine pw_eq (fun x42 _ => ?_)
      refine pw_ite (fun _ => ?_) (fun _ => ?_)
      · exact uw_kindOf_87 hr3 ih h
      · exact uw_kindOf_87 hr3 ih h
theorem uw_kindOf_39 {r3 : Int32 → Int32 → Int32 → Int32 → St → Option (Int32 × St)} (hr3 : ∀ (q0 : Int32) (q1 : Int32) (q2 : Int32) (q3 : Int32) (X : St), wrX X → pw (r3 q0 q1 q2 q3 X) (fun _ Y => wrX Y)) {a1 : Int32} {a2 : Int32} {a3 : Int32} {a4 : Int32} {b0 : Int32} {X : St} (h : wrX X) : pw (f_kindOf_39 r3 a1 a2 a3 a4 b0 X) (fun _ Y => wrX Y) := by
  unfold f_kindOf_39
  exact uw_kindOf_44 hr3 _ _ _ _ _ _ _ _ h
theorem uw_kindOf_38 {r3 : Int32 → Int32 → Int32 → Int32 → St → Option (Int32 × St)} (hr3 : ∀ (q0 : Int32) (q1 : Int32) (q2 : Int32) (q3 : Int32) (X : St), wrX X → pw (r3 q0 q1 q2 q3 X) (fun _ Y => wrX Y)) {a1 : Int32} {a2 : Int32} {a3 : Int32} {a4 : Int32} {X : St} (h : wrX X) : pw (f_kindOf_38 r3 a1 a2 a3 a4 X) (fun _ Y => wrX Y) := by
  unfold f_kindOf_38
  exact uw_kindOf_39 hr3 h
theorem uw_kindOf_3 (N : Nat) : ∀ (a1 : Int32) (a2 : Int32) (a3 : Int32) (a4 : Int32) (X : St), wrX X → pw (f_kindOf_3 N a1 a2 a3 a4 X) (fun _ Y => wrX Y) := by
  unfold f_kindOf_3
  refine lp_ind (P := fun (r : Int32 → Int32 → Int32 → Int32 → St → Option (Int32 × St)) => ∀ (a1 : Int32) (a2 : Int32) (a3 : Int32) (a4 : Int32) (X : St), wrX X → pw (r a1 a2 a3 a4 X) (fun _ Y => wrX Y)) (fun _ _ _ _ _ _ => pw_none) (fun r ih a1 a2 a3 a4 X h => ?_) N
  unfold f_kindOf_3_s
  refine pw_eq (fun x1 _ => ?_)
  refine pw_ite (fun _ => ?_) (fun _ => ?_)
  · refine pw_eq (fun x2 _ => ?_)
    refine pw_eq (fun x3 _ => ?_)
    refine pw_eq (fun x4 _ => ?_)
    refine pw_eq (fun X5 eX5 => ?_)
    have dX5 : wrX X5 := by rw [eX5]; exact wrX_w h (fun g_ => absurd g_.2 (by decide))
    refine pw_ck (fun _ => ?_)
    refine pw_eq (fun X6 eX6 => ?_)
    have dX6 : wrX X6 := by rw [eX6]; exact wrX_w dX5 (fun g_ => absurd g_.1 (by decide))
    refine pw_ck (fun _ => ?_)
    refine pw_eq (fun X7 eX7 => ?_)
    have dX7 : wrX X7 := by rw [eX7]; exact wrX_w dX6 (fun g_ => absurd g_.1 (by decide))
    refine pw_eq (fun x8 _ => ?_)
    refine pw_ck (fun _ => ?_)
    refine pw_eq (fun X9 eX9 => ?_)
    have dX9 : wrX X9 := by rw [eX9]; exact wrX_w dX7 (fun g_ => absurd g_.1 (by decide))
    refine pw_ite (fun _ => ?_) (fun _ => ?_)
    · exact uw_kindOf_168 dX9
    · exact uw_kindOf_168 dX9
  · refine pw_ck (fun _ => ?_)
    refine pw_eq (fun x36 _ => ?_)
    refine pw_ite (fun _ => ?_) (fun _ => ?_)
    · refine pw_ck (fun _ => ?_)
      refine pw_eq (fun x44 _ => ?_)
      refine pw_ite (fun _ => ?_) (fun _ => ?_)
      · exact uw_kindOf_39 ih h
      · exact uw_kindOf_38 ih h
    · exact uw_kindOf_38 ih h
theorem uw_kindOf {p1 : Int32} {p2 : Int32} {p3 : Int32} {X : St} (h : wrX X) : pw (f_kindOf p1 p2 p3 X) (fun _ Y => wrX Y) := by
  unfold f_kindOf
  exact uw_kindOf_3 _ _ _ _ _ _ h
theorem uw_rowOf {p1 : Int32} {X : St} (h : wrX X) : pw (f_rowOf p1 X) (fun _ Y => wrX Y) := by
  unfold f_rowOf
  refine pw_ck (fun _ => ?_)
  refine pw_eq (fun X1 eX1 => ?_)
  have dX1 : wrX X1 := by rw [eX1]; exact wrX_w h (fun g_ => absurd g_.1 (by decide))
  refine pw_bd (uw_kindOf dX1) (fun x2 X3 dX3 => ?_)
  exact pw_ret dX3
theorem uw_fifth_50 {a1 : Int32} {b0 : Int32} {X : St} (h : wrX X) : pw (f_fifth_50 a1 b0 X) (fun _ Y => wrX Y) := by
  unfold f_fifth_50
  refine pw_ite (fun _ => ?_) (fun _ => ?_)
  · refine pw_ite (fun _ => ?_) (fun _ => ?_)
    · exact pw_ret h
    · refine pw_eq (fun x3 _ => ?_)
      refine pw_bd (uw_fails h) (fun _ X4 dX4 => ?_)
      exact pw_ret dX4
  · exact pw_ret h
theorem uw_fifth_45 {a1 : Int32} {X : St} (h : wrX X) : pw (f_fifth_45 a1 X) (fun _ Y => wrX Y) := by
  unfold f_fifth_45
  exact uw_fifth_50 h
theorem uw_fifth {p1 : Int32} {X : St} (h : wrX X) : pw (f_fifth p1 X) (fun _ Y => wrX Y) := by
  unfold f_fifth
  refine pw_bd (uw_isSign h) (fun x1 X2 dX2 => ?_)
  refine pw_ite (fun _ => ?_) (fun _ => ?_)
  · refine pw_bd (uw_isWord dX2) (fun x5 X6 dX6 => ?_)
    refine pw_ite (fun _ => ?_) (fun _ => ?_)
    · refine pw_bd (uw_isWord dX6) (fun x7 X8 dX8 => ?_)
      refine pw_ite (fun _ => ?_) (fun _ => ?_)
      · refine pw_bd (uw_isWord dX8) (fun x9 X10 dX10 => ?_)
        refine pw_ite (fun _ => ?_) (fun _ => ?_)
        · refine pw_bd (uw_isWord dX10) (fun x11 X12 dX12 => ?_)
          refine pw_ite (fun _ => ?_) (fun _ => ?_)
          · exact uw_fifth_50 dX12
          · exact uw_fifth_45 dX12
        · exact uw_fifth_45 dX10
      · exact uw_fifth_45 dX8
    · exact uw_fifth_45 dX6
  · exact uw_fifth_45 dX2
theorem uw_plainKind_40 {b0 : Int32} {X : St} (h : wrX X) : pw (f_plainKind_40 b0 X) (fun _ Y => wrX Y) := by
  unfold f_plainKind_40
  refine pw_ite (fun _ => ?_) (fun _ => ?_)
  · refine pw_bd (uw_next h) (fun _ X7 dX7 => ?_)
    exact pw_ret dX7
  · refine pw_bd (uw_stray h) (fun _ X8 dX8 => ?_)
    exact pw_ret dX8
theorem uw_plainKind {X : St} (h : wrX X) : pw (f_plainKind X) (fun _ Y => wrX Y) := by
  unfold f_plainKind
  refine pw_bd (uw_isWord h) (fun x1 X2 dX2 => ?_)
  refine pw_ite (fun _ => ?_) (fun _ => ?_)
  · refine pw_bd (uw_isWord dX2) (fun x3 X4 dX4 => ?_)
    refine pw_ite (fun _ => ?_) (fun _ => ?_)
    · refine pw_bd (uw_isWord dX4) (fun x5 X6 dX6 => ?_)
      refine pw_ite (fun _ => ?_) (fun _ => ?_)
      · exact uw_plainKind_40 dX6
      · exact uw_plainKind_40 dX6
    · exact uw_plainKind_40 dX4
  · exact uw_plainKind_40 dX2
theorem uw_kind_84 {r11 : Int32 → Int32 → Int32 → St → Option (Int32 × St)} (hr11 : ∀ (q0 : Int32) (q1 : Int32) (q2 : Int32) (X : St), wrX X → pw (r11 q0 q1 q2 X) (fun _ Y => wrX Y)) {a1 : Int32} {a2 : Int32} {a3 : Int32} {X : St} (h : wrX X) : pw (f_kind_84 r11 a1 a2 a3 X) (fun _ Y => wrX Y) := by
  unfold f_kind_84
  refine pw_ck (fun _ => ?_)
  refine pw_eq (fun X53 eX53 => ?_)
  have dX53 : wrX X53 := by rw [eX53]; exact wrX_w h (fun g_ => absurd g_.1 (by decide))
  refine pw_eq (fun x54 _ => ?_)
  refine pw_ck (fun _ => ?_)
  refine pw_eq (fun X55 eX55 => ?_)
  have dX55 : wrX X55 := by rw [eX55]; exact wrX_w dX53 (fun g_ => absurd g_.1 (by decide))
  refine pw_eq (fun x56 _ => ?_)
  refine pw_bd (uw_isSign dX55) (fun x57 X58 dX58 => ?_)
  refine pw_ite (fun _ => ?_) (fun _ => ?_)
  · exact hr11 _ _ _ _ dX58
  · refine pw_bd (uw_closes dX58) (fun _ X59 dX59 => ?_)
    refine pw_eq (fun x60 _ => ?_)
    refine pw_ck (fun _ => ?_)
    refine pw_eq (fun X61 eX61 => ?_)
    have dX61 : wrX X61 := by rw [eX61]; exact wrX_w dX59 (fun g_ => absurd g_.1 (by decide))
    exact hr11 _ _ _ _ dX61
theorem uw_opens {p1 : Int32} {X : St} (h : wrX X) : pw (f_opens p1 X) (fun _ Y => wrX Y) := by
  unfold f_opens
  refine pw_bd (uw_isSign h) (fun x1 X2 dX2 => ?_)
  refine pw_ite (fun _ => ?_) (fun _ => ?_)
  · refine pw_bd (uw_stray dX2) (fun _ X7 dX7 => ?_)
    exact pw_ret dX7
  · refine pw_bd (uw_nests dX2) (fun _ X3 dX3 => ?_)
    refine pw_bd (uw_isWell dX3) (fun x4 X5 dX5 => ?_)
    refine pw_ite (fun _ => ?_) (fun _ => ?_)
    · exact pw_ret dX5
    · refine pw_bd (uw_next dX5) (fun _ X6 dX6 => ?_)
      exact pw_ret dX6
theorem uw_kind_11 (N : Nat) : ∀ (a1 : Int32) (a2 : Int32) (a3 : Int32) (X : St), wrX X → pw (f_kind_11 N a1 a2 a3 X) (fun _ Y => wrX Y) := by
  unfold f_kind_11
  refine lp_ind (P := fun (r : Int32 → Int32 → Int32 → St → Option (Int32 × St)) => ∀ (a1 : Int32) (a2 : Int32) (a3 : Int32) (X : St), wrX X → pw (r a1 a2 a3 X) (fun _ Y => wrX Y)) (fun _ _ _ _ _ => pw_none) (fun r ih a1 a2 a3 X h => ?_) N
  unfold f_kind_11_s
  refine pw_bd (uw_isWell h) (fun x2 X3 dX3 => ?_)
  refine pw_ite (fun _ => ?_) (fun _ => ?_)
  · exact uw_kind_346 dX3
  · refine pw_ite (fun _ => ?_) (fun _ => ?_)
    · refine pw_ite (fun _ => ?_) (fun _ => ?_)
      · refine pw_ite (fun _ => ?_) (fun _ => ?_)
        · exact ih _ _ _ _ dX3
        · refine pw_eq (fun x4 _ => ?_)
          refine pw_ck (fun _ => ?_)
          refine pw_eq (fun x5 _ => ?_)
          refine pw_ite (fun _ => ?_) (fun _ => ?_)
          · refine pw_bd (uw_closes dX3) (fun _ X38 dX38 => ?_)
            refine pw_bd (uw_isWell dX38) (fun x39 X40 dX40 => ?_)
            refine pw_ite (fun _ => ?_) (fun _ => ?_)
            · exact uw_kind_185 ih dX40
            · refine pw_bd (uw_rowOf dX40) (fun x42 X43 dX43 => ?_)
              exact uw_kind_185 ih dX43
          · refine pw_ck (fun _ => ?_)
            refine pw_eq (fun x6 _ => ?_)
            refine pw_ite (fun _ => ?_) (fun _ => ?_)
            · refine pw_eq (fun x24 _ => ?_)
              refine pw_ck (fun _ => ?_)
              refine pw_eq (fun X25 eX25 => ?_)
              have dX25 : wrX X25 := by rw [eX25]; exact wrX_w dX3 (fun g_ => absurd g_.1 (by decide))
              refine pw_eq (fun x26 _ => ?_)
              refine pw_eq (fun x27 _ => ?_)
              refine pw_eq (fun X28 eX28 => ?_)
              have dX28 : wrX X28 := by rw [eX28]; exact wrX_w dX25 (fun g_ => absurd g_.2 (by decide))
              refine pw_bd (uw_isSign dX28) (fun x29 X30 dX30 => ?_)
              refine pw_ite (fun _ => ?_) (fun _ => ?_)
              · refine pw_bd (uw_closes dX30) (fun _ X31 dX31 => ?_)
                refine pw_ck (fun _ => ?_)
                refine pw_eq (fun X32 eX32 => ?_)
                have dX32 : wrX X32 := by rw [eX32]; exact wrX_w dX31 (fun g_ => absurd g_.1 (by decide))
                exact uw_kind_343 ih dX32
              · refine pw_bd (uw_next dX30) (fun _ X33 dX33 => ?_)
                refine pw_eq (fun x34 _ => ?_)
                refine pw_ck (fun _ => ?_)
                refine pw_eq (fun x35 _ => ?_)
                refine pw_eq (fun x36 _ => ?_)
                refine pw_bd (uw_fifth dX33) (fun _ X37 dX37 => ?_)
                exact uw_kind_343 ih dX37
            · refine pw_eq (fun x7 _ => ?_)
              refine pw_ck (fun _ => ?_)
              refine pw_eq (fun X8 eX8 => ?_)
              have dX8 : wrX X8 := by rw [eX8]; exact wrX_w dX3 (fun g_ => absurd g_.1 (by decide))
              refine pw_eq (fun x9 _ => ?_)
              refine pw_eq (fun x10 _ => ?_)
              refine pw_eq (fun X11 eX11 => ?_)
              have dX11 : wrX X11 := by rw [eX11]; exact wrX_w dX8 (fun g_ => absurd g_.2 (by decide))
              refine pw_eq (fun x12 _ => ?_)
              refine pw_eq (fun x13 _ => ?_)
              refine pw_eq (fun X14 eX14 => ?_)
              have dX14 : wrX X14 := by rw [eX14]; exact wrX_w dX11 (fun g_ => absurd g_.2 (by decide))
              refine pw_ck (fun _ => ?_)
              refine pw_eq (fun x15 _ => ?_)
              refine pw_eq (fun x16 _ => ?_)
              refine pw_ck (fun _ => ?_)
              refine pw_eq (fun x17 _ => ?_)
              refine pw_eq (fun x18 _ => ?_)
              refine pw_bd (uw_kindOf dX14) (fun x19 X20 dX20 => ?_)
              refine pw_ck (fun _ => ?_)
              refine pw_eq (fun x21 _ => ?_)
              refine pw_eq (fun X22 eX22 => ?_)
              have dX22 : wrX X22 := by rw [eX22]; exact wrX_w dX20 (fun g_ => absurd g_.2 (by decide))
              refine pw_eq (fun x23 _ => ?_)
              exact uw_kind_343 ih dX22
      · refine pw_bd (uw_isSign dX3) (fun x44 X45 dX45 => ?_)
        refine pw_ite (fun _ => ?_) (fun _ => ?_)
        · refine pw_bd (uw_isWord dX45) (fun x46 X47 dX47 => ?_)
          refine pw_ite (fun _ => ?_) (fun _ => ?_)
          · refine pw_bd (uw_plainKind dX47) (fun x48 X49 dX49 => ?_)
            exact ih _ _ _ _ dX49
          · refine pw_bd (uw_nests dX47) (fun _ X50 dX50 => ?_)
            refine pw_bd (uw_isWell dX50) (fun x51 X52 dX52 => ?_)
            refine pw_ite (fun _ => ?_) (fun _ => ?_)
            · exact uw_kind_84 ih dX52
            · refine pw_bd (uw_next dX52) (fun _ X62 dX62 => ?_)
              refine pw_bd (uw_opens dX62) (fun _ X63 dX63 => ?_)
              exact uw_kind_84 ih dX63
        · refine pw_bd (uw_opens dX45) (fun _ X64 dX64 => ?_)
          refine pw_ck (fun _ => ?_)
          refine pw_eq (fun X65 eX65 => ?_)
          have dX65 : wrX X65 := by rw [eX65]; exact wrX_w dX64 (fun g_ => absurd g_.1 (by decide))
          refine pw_eq (fun x66 _ => ?_)
          exact ih _ _ _ _ dX65
    · exact uw_kind_346 dX3
theorem uw_kind {X : St} (h : wrX X) : pw (f_kind X) (fun _ Y => wrX Y) := by
  unfold f_kind
  refine pw_eq (fun X1 eX1 => ?_)
  have dX1 : wrX X1 := by rw [eX1]; exact wrX_w h (fun g_ => absurd g_.2 (by decide))
  exact uw_kind_11 _ _ _ _ _ dX1
theorem uw_beginsLet {X : St} (h : wrX X) : pw (f_beginsLet X) (fun _ Y => wrX Y) := by
  unfold f_beginsLet
  refine pw_eq (fun x1 _ => ?_)
  refine pw_bd (uw_make h) (fun x2 X3 dX3 => ?_)
  refine pw_bd (uw_nests dX3) (fun _ X4 dX4 => ?_)
  refine pw_bd (uw_isWell dX4) (fun x5 X6 dX6 => ?_)
  refine pw_ite (fun _ => ?_) (fun _ => ?_)
  · exact pw_ret dX6
  · refine pw_bd (uw_next dX6) (fun _ X7 dX7 => ?_)
    refine pw_eq (fun x8 _ => ?_)
    refine pw_ite (fun _ => ?_) (fun _ => ?_)
    · refine pw_eq (fun y9 _ => ?_)
      refine pw_ck (fun _ => ?_)
      refine pw_eq (fun X10 eX10 => ?_)
      have dX10 : wrX X10 := by rw [eX10]; exact dX7
      refine pw_bd (uw_next dX10) (fun _ X11 dX11 => ?_)
      refine pw_ck (fun _ => ?_)
      refine pw_eq (fun X12 eX12 => ?_)
      have dX12 : wrX X12 := by rw [eX12]; exact wrX_w dX11 (fun g_ => absurd g_.1 (by decide))
      refine pw_ck (fun _ => ?_)
      refine pw_eq (fun X13 eX13 => ?_)
      have dX13 : wrX X13 := by rw [eX13]; exact wrX_w dX12 (fun g_ => absurd g_.1 (by decide))
      refine pw_bd (uw_isSign dX13) (fun x14 X15 dX15 => ?_)
      refine pw_ite (fun _ => ?_) (fun _ => ?_)
      · exact uw_beginsLet_91 dX15
      · refine pw_bd (uw_next dX15) (fun _ X18 dX18 => ?_)
        refine pw_bd (uw_kind dX18) (fun x19 X20 dX20 => ?_)
        refine pw_ck (fun _ => ?_)
        refine pw_eq (fun X21 eX21 => ?_)
        have dX21 : wrX X21 := by rw [eX21]; exact wrX_w dX20 (fun g_ => absurd g_.1 (by decide))
        exact uw_beginsLet_91 dX21
    · refine pw_bd (uw_stray dX7) (fun _ X22 dX22 => ?_)
      exact pw_ret dX22
theorem uw_begins_65 {b0 : Int32} {X : St} (h : wrX X) : pw (f_begins_65 b0 X) (fun _ Y => wrX Y) := by
  unfold f_begins_65
  refine pw_bd (uw_isBeginning h) (fun x5 X6 dX6 => ?_)
  refine pw_ite (fun _ => ?_) (fun _ => ?_)
  · refine pw_bd (uw_stray dX6) (fun _ X21 dX21 => ?_)
    exact pw_ret dX21
  · refine pw_ite (fun _ => ?_) (fun _ => ?_)
    · refine pw_bd (uw_isWord dX6) (fun x7 X8 dX8 => ?_)
      refine pw_ite (fun _ => ?_) (fun _ => ?_)
      · refine pw_bd (uw_isWord dX8) (fun x9 X10 dX10 => ?_)
        refine pw_ite (fun _ => ?_) (fun _ => ?_)
        · refine pw_eq (fun X11 eX11 => ?_)
          have dX11 : wrX X11 := by rw [eX11]; exact wrX_w dX10 (fun g_ => absurd g_.2 (by decide))
          exact pw_ret dX11
        · refine pw_eq (fun x12 _ => ?_)
          refine pw_bd (uw_make dX10) (fun x13 X14 dX14 => ?_)
          refine pw_bd (uw_nests dX14) (fun _ X15 dX15 => ?_)
          refine pw_bd (uw_next dX15) (fun _ X16 dX16 => ?_)
          refine pw_bd (uw_enter dX16) (fun _ X17 dX17 => ?_)
          exact pw_ret dX17
      · refine pw_bd (uw_beginsLet dX8) (fun _ X18 dX18 => ?_)
        exact pw_ret dX18
    · refine pw_eq (fun x19 _ => ?_)
      refine pw_bd (uw_fails dX6) (fun _ X20 dX20 => ?_)
      exact pw_ret dX20
theorem uw_begins_60 {X : St} (h : wrX X) : pw (f_begins_60 X) (fun _ Y => wrX Y) := by
  unfold f_begins_60
  exact uw_begins_65 h
theorem uw_begins_64 {X : St} (h : wrX X) : pw (f_begins_64 X) (fun _ Y => wrX Y) := by
  unfold f_begins_64
  exact uw_begins_65 h
theorem uw_begins_33 {a1 : Int32} {X : St} (h : wrX X) : pw (f_begins_33 a1 X) (fun _ Y => wrX Y) := by
  unfold f_begins_33
  refine pw_ck (fun _ => ?_)
  refine pw_eq (fun x4 _ => ?_)
  refine pw_ite (fun _ => ?_) (fun _ => ?_)
  · refine pw_ck (fun _ => ?_)
    refine pw_eq (fun x22 _ => ?_)
    refine pw_ck (fun _ => ?_)
    refine pw_eq (fun x23 _ => ?_)
    refine pw_ite (fun _ => ?_) (fun _ => ?_)
    · exact uw_begins_60 h
    · exact uw_begins_64 h
  · exact uw_begins_64 h
theorem uw_begins {X : St} (h : wrX X) : pw (f_begins X) (fun _ Y => wrX Y) := by
  unfold f_begins
  refine pw_eq (fun x1 _ => ?_)
  refine pw_eq (fun x2 _ => ?_)
  refine pw_ck (fun _ => ?_)
  refine pw_eq (fun x3 _ => ?_)
  refine pw_ite (fun _ => ?_) (fun _ => ?_)
  · refine pw_ck (fun _ => ?_)
    refine pw_eq (fun x24 _ => ?_)
    refine pw_ck (fun _ => ?_)
    refine pw_eq (fun x25 _ => ?_)
    refine pw_ite (fun _ => ?_) (fun _ => ?_)
    · exact uw_begins_60 h
    · exact uw_begins_33 h
  · exact uw_begins_33 h
theorem uw_opened {p1 : Int32} {p2 : Int32} {X : St} (h : wrX X) : pw (f_opened p1 p2 X) (fun _ Y => wrX Y) := by
  unfold f_opened
  refine pw_bd (uw_isWell h) (fun x1 X2 dX2 => ?_)
  refine pw_ite (fun _ => ?_) (fun _ => ?_)
  · exact pw_ret dX2
  · refine pw_bd (uw_enter dX2) (fun _ X3 dX3 => ?_)
    refine pw_eq (fun X4 eX4 => ?_)
    have dX4 : wrX X4 := by rw [eX4]; exact wrX_w dX3 (fun g_ => absurd g_.2 (by decide))
    exact pw_ret dX4
theorem uw_operand_318 {a3 : Int32} {b0 : Int32} {X : St} (h : wrX X) : pw (f_operand_318 a3 b0 X) (fun _ Y => wrX Y) := by
  unfold f_operand_318
  refine pw_bd (uw_opened h) (fun _ X40 dX40 => ?_)
  exact pw_ret dX40
theorem uw_operand_289 {a1 : Int32} {a2 : Int32} {b0 : Int32} {X : St} (h : wrX X) : pw (f_operand_289 a1 a2 b0 X) (fun _ Y => wrX Y) := by
  unfold f_operand_289
  refine pw_bd (uw_make h) (fun x36 X37 dX37 => ?_)
  refine pw_bd (uw_next dX37) (fun _ X38 dX38 => ?_)
  refine pw_bd (uw_opens dX38) (fun _ X39 dX39 => ?_)
  refine pw_ite (fun _ => ?_) (fun _ => ?_)
  · exact uw_operand_318 dX39
  · exact uw_operand_318 dX39
theorem uw_operand_259 {a1 : Int32} {X : St} (h : wrX X) : pw (f_operand_259 a1 X) (fun _ Y => wrX Y) := by
  unfold f_operand_259
  refine pw_eq (fun y34 _ => ?_)
  refine pw_eq (fun x35 _ => ?_)
  refine pw_ite (fun _ => ?_) (fun _ => ?_)
  · exact uw_operand_289 h
  · refine pw_ite (fun _ => ?_) (fun _ => ?_)
    · exact uw_operand_289 h
    · exact uw_operand_289 h
theorem uw_done {p1 : Int32} {X : St} (h : wrX X) : pw (f_done p1 X) (fun _ Y => wrX Y) := by
  unfold f_done
  refine pw_eq (fun X1 eX1 => ?_)
  have dX1 : wrX X1 := by rw [eX1]; exact wrX_w h (fun g_ => absurd g_.2 (by decide))
  refine pw_eq (fun X2 eX2 => ?_)
  have dX2 : wrX X2 := by rw [eX2]; exact wrX_w dX1 (fun g_ => absurd g_.2 (by decide))
  exact pw_ret dX2
theorem uw_operand_177 {a1 : Int32} {X : St} (h : wrX X) : pw (f_operand_177 a1 X) (fun _ Y => wrX Y) := by
  unfold f_operand_177
  refine pw_bd (uw_isSign h) (fun x30 X31 dX31 => ?_)
  refine pw_ite (fun _ => ?_) (fun _ => ?_)
  · refine pw_bd (uw_isWord dX31) (fun x32 X33 dX33 => ?_)
    refine pw_ite (fun _ => ?_) (fun _ => ?_)
    · refine pw_bd (uw_isWord dX33) (fun x41 X42 dX42 => ?_)
      refine pw_ite (fun _ => ?_) (fun _ => ?_)
      · refine pw_bd (uw_isWord dX42) (fun x43 X44 dX44 => ?_)
        refine pw_ite (fun _ => ?_) (fun _ => ?_)
        · refine pw_bd (uw_isSign dX44) (fun x45 X46 dX46 => ?_)
          refine pw_ite (fun _ => ?_) (fun _ => ?_)
          · refine pw_bd (uw_isSign dX46) (fun x47 X48 dX48 => ?_)
            refine pw_ite (fun _ => ?_) (fun _ => ?_)
            · refine pw_bd (uw_stray dX48) (fun _ X49 dX49 => ?_)
              exact pw_ret dX49
            · refine pw_bd (uw_make dX48) (fun x50 X51 dX51 => ?_)
              refine pw_bd (uw_opens dX51) (fun _ X52 dX52 => ?_)
              refine pw_bd (uw_opened dX52) (fun _ X53 dX53 => ?_)
              exact pw_ret dX53
          · refine pw_bd (uw_make dX46) (fun x54 X55 dX55 => ?_)
            refine pw_bd (uw_opens dX55) (fun _ X56 dX56 => ?_)
            refine pw_bd (uw_opened dX56) (fun _ X57 dX57 => ?_)
            exact pw_ret dX57
        · exact uw_operand_259 dX44
      · exact uw_operand_259 dX42
    · exact uw_operand_259 dX33
  · refine pw_bd (uw_make dX31) (fun x58 X59 dX59 => ?_)
    refine pw_bd (uw_opens dX59) (fun _ X60 dX60 => ?_)
    refine pw_bd (uw_isSign dX60) (fun x61 X62 dX62 => ?_)
    refine pw_ite (fun _ => ?_) (fun _ => ?_)
    · refine pw_bd (uw_opened dX62) (fun _ X63 dX63 => ?_)
      exact pw_ret dX63
    · refine pw_bd (uw_closes dX62) (fun _ X64 dX64 => ?_)
      refine pw_bd (uw_done dX64) (fun _ X65 dX65 => ?_)
      exact pw_ret dX65
theorem uw_named_48 {a1 : Int32} {a2 : Int32} {b0 : Int32} {X : St} (h : wrX X) : pw (f_named_48 a1 a2 b0 X) (fun _ Y => wrX Y) := by
  unfold f_named_48
  refine pw_bd (uw_make h) (fun x2 X3 dX3 => ?_)
  refine pw_ck (fun _ => ?_)
  refine pw_eq (fun X4 eX4 => ?_)
  have dX4 : wrX X4 := by rw [eX4]; exact wrX_w dX3 (fun g_ => absurd g_.1 (by decide))
  refine pw_eq (fun y5 _ => ?_)
  refine pw_ck (fun _ => ?_)
  refine pw_eq (fun X6 eX6 => ?_)
  have dX6 : wrX X6 := by rw [eX6]; exact dX4
  refine pw_bd (uw_next dX6) (fun _ X7 dX7 => ?_)
  refine pw_bd (uw_done dX7) (fun _ X8 dX8 => ?_)
  exact pw_ret dX8
theorem uw_named_31 {r4 : Int32 → Int32 → Int32 → St → Option (Int32 × St)} (hr4 : ∀ (q0 : Int32) (q1 : Int32) (q2 : Int32) (X : St), wrX X → pw (r4 q0 q1 q2 X) (fun _ Y => wrX Y)) {a1 : Int32} {a3 : Int32} {b0 : Int32} {X : St} (h : wrX X) : pw (f_named_31 r4 a1 a3 b0 X) (fun _ Y => wrX Y) := by
  unfold f_named_31
  refine pw_eq (fun x12 _ => ?_)
  exact hr4 _ _ _ _ h
theorem uw_named_4 (N : Nat) : ∀ (a1 : Int32) (a2 : Int32) (a3 : Int32) (X : St), wrX X → pw (f_named_4 N a1 a2 a3 X) (fun _ Y => wrX Y) := by
  unfold f_named_4
  refine lp_ind (P := fun (r : Int32 → Int32 → Int32 → St → Option (Int32 × St)) => ∀ (a1 : Int32) (a2 : Int32) (a3 : Int32) (X : St), wrX X → pw (r a1 a2 a3 X) (fun _ Y => wrX Y)) (fun _ _ _ _ _ => pw_none) (fun r ih a1 a2 a3 X h => ?_) N
  unfold f_named_4_s
  refine pw_eq (fun x1 _ => ?_)
  refine pw_ite (fun _ => ?_) (fun _ => ?_)
  · refine pw_ite (fun _ => ?_) (fun _ => ?_)
    · exact uw_named_48 h
    · exact uw_named_48 h
  · refine pw_ck (fun _ => ?_)
    refine pw_eq (fun y9 _ => ?_)
    refine pw_eq (fun y10 _ => ?_)
    refine pw_eq (fun x11 _ => ?_)
    refine pw_ite (fun _ => ?_) (fun _ => ?_)
    · exact uw_named_31 ih h
    · exact uw_named_31 ih h
theorem uw_named {p1 : Int32} {X : St} (h : wrX X) : pw (f_named p1 X) (fun _ Y => wrX Y) := by
  unfold f_named
  exact uw_named_4 _ _ _ _ _ h
theorem uw_operand_141 {a2 : Int32} {b0 : Int32} {b1 : Int32} {X : St} (h : wrX X) : pw (f_operand_141 a2 b0 b1 X) (fun _ Y => wrX Y) := by
  unfold f_operand_141
  refine pw_ck (fun _ => ?_)
  refine pw_eq (fun X23 eX23 => ?_)
  have dX23 : wrX X23 := by rw [eX23]; exact wrX_w h (fun g_ => absurd g_.1 (by decide))
  refine pw_bd (uw_next dX23) (fun _ X24 dX24 => ?_)
  refine pw_bd (uw_done dX24) (fun _ X25 dX25 => ?_)
  exact pw_ret dX25
theorem uw_operand_113 {a1 : Int32} {X : St} (h : wrX X) : pw (f_operand_113 a1 X) (fun _ Y => wrX Y) := by
  unfold f_operand_113
  refine pw_bd (uw_make h) (fun x19 X20 dX20 => ?_)
  refine pw_eq (fun y21 _ => ?_)
  refine pw_eq (fun x22 _ => ?_)
  refine pw_ite (fun _ => ?_) (fun _ => ?_)
  · exact uw_operand_141 dX20
  · exact uw_operand_141 dX20
theorem uw_operand_95 {a1 : Int32} {X : St} (h : wrX X) : pw (f_operand_95 a1 X) (fun _ Y => wrX Y) := by
  unfold f_operand_95
  refine pw_bd (uw_isWord h) (fun x17 X18 dX18 => ?_)
  refine pw_ite (fun _ => ?_) (fun _ => ?_)
  · refine pw_bd (uw_isWord dX18) (fun x26 X27 dX27 => ?_)
    refine pw_ite (fun _ => ?_) (fun _ => ?_)
    · refine pw_bd (uw_isWell dX27) (fun x28 X29 dX29 => ?_)
      refine pw_ite (fun _ => ?_) (fun _ => ?_)
      · exact uw_operand_177 dX29
      · refine pw_eq (fun x66 _ => ?_)
        refine pw_ite (fun _ => ?_) (fun _ => ?_)
        · refine pw_bd (uw_named dX29) (fun _ X67 dX67 => ?_)
          exact pw_ret dX67
        · exact uw_operand_177 dX29
    · exact uw_operand_113 dX27
  · exact uw_operand_113 dX18
theorem uw_number {p1 : Int32} {X : St} (h : wrX X) : pw (f_number p1 X) (fun _ Y => wrX Y) := by
  unfold f_number
  refine pw_eq (fun y1 _ => ?_)
  refine pw_eq (fun x2 _ => ?_)
  refine pw_ite (fun _ => ?_) (fun _ => ?_)
  · refine pw_bd (uw_make h) (fun x3 X4 dX4 => ?_)
    refine pw_eq (fun y5 _ => ?_)
    refine pw_eq (fun x6 _ => ?_)
    refine pw_ck (fun _ => ?_)
    refine pw_eq (fun X7 eX7 => ?_)
    have dX7 : wrX X7 := by rw [eX7]; exact wrX_w dX4 (fun g_ => absurd g_.1 (by decide))
    refine pw_bd (uw_next dX7) (fun _ X8 dX8 => ?_)
    refine pw_bd (uw_done dX8) (fun _ X9 dX9 => ?_)
    exact pw_ret dX9
  · refine pw_bd (uw_fails h) (fun _ X10 dX10 => ?_)
    exact pw_ret dX10
theorem uw_operand_42 {a1 : Int32} {b0 : Int32} {X : St} (h : wrX X) : pw (f_operand_42 a1 b0 X) (fun _ Y => wrX Y) := by
  unfold f_operand_42
  refine pw_bd (uw_make h) (fun x6 X7 dX7 => ?_)
  refine pw_bd (uw_nests dX7) (fun _ X8 dX8 => ?_)
  refine pw_bd (uw_isWell dX8) (fun x9 X10 dX10 => ?_)
  refine pw_ite (fun _ => ?_) (fun _ => ?_)
  · exact pw_ret dX10
  · refine pw_bd (uw_next dX10) (fun _ X11 dX11 => ?_)
    refine pw_bd (uw_enter dX11) (fun _ X12 dX12 => ?_)
    exact pw_ret dX12
theorem uw_operand_23 {a1 : Int32} {X : St} (h : wrX X) : pw (f_operand_23 a1 X) (fun _ Y => wrX Y) := by
  unfold f_operand_23
  refine pw_eq (fun y4 _ => ?_)
  refine pw_eq (fun x5 _ => ?_)
  refine pw_ite (fun _ => ?_) (fun _ => ?_)
  · exact uw_operand_42 h
  · exact uw_operand_42 h
theorem uw_operand {X : St} (h : wrX X) : pw (f_operand X) (fun _ Y => wrX Y) := by
  unfold f_operand
  refine pw_eq (fun x1 _ => ?_)
  refine pw_bd (uw_isSign h) (fun x2 X3 dX3 => ?_)
  refine pw_ite (fun _ => ?_) (fun _ => ?_)
  · refine pw_bd (uw_isSign dX3) (fun x13 X14 dX14 => ?_)
    refine pw_ite (fun _ => ?_) (fun _ => ?_)
    · refine pw_bd (uw_isWell dX14) (fun x15 X16 dX16 => ?_)
      refine pw_ite (fun _ => ?_) (fun _ => ?_)
      · exact uw_operand_95 dX16
      · refine pw_eq (fun x68 _ => ?_)
        refine pw_ite (fun _ => ?_) (fun _ => ?_)
        · refine pw_bd (uw_number dX16) (fun _ X69 dX69 => ?_)
          exact pw_ret dX69
        · exact uw_operand_95 dX16
    · exact uw_operand_23 dX14
  · exact uw_operand_23 dX3
theorem uw_behind_288 {X : St} (h : wrX X) : pw (f_behind_288 X) (fun _ Y => wrX Y) := by
  unfold f_behind_288
  refine pw_eq (fun X30 eX30 => ?_)
  have dX30 : wrX X30 := by rw [eX30]; exact wrX_w h (fun g_ => absurd g_.2 (by decide))
  exact pw_ret dX30
theorem uw_behind_214 {a3 : Int32} {b0 : Int32} {X : St} (h : wrX X) : pw (f_behind_214 a3 b0 X) (fun _ Y => wrX Y) := by
  unfold f_behind_214
  refine pw_bd (uw_opened h) (fun _ X17 dX17 => ?_)
  exact pw_ret dX17
theorem uw_behind_201 {a3 : Int32} {a4 : Int32} {X : St} (h : wrX X) : pw (f_behind_201 a3 a4 X) (fun _ Y => wrX Y) := by
  unfold f_behind_201
  refine pw_ite (fun _ => ?_) (fun _ => ?_)
  · exact uw_behind_214 h
  · exact uw_behind_214 h
theorem uw_behind_170 {a3 : Int32} {a4 : Int32} {b0 : Int32} {X : St} (h : wrX X) : pw (f_behind_170 a3 a4 b0 X) (fun _ Y => wrX Y) := by
  unfold f_behind_170
  refine pw_bd (uw_opens h) (fun _ X16 dX16 => ?_)
  refine pw_ite (fun _ => ?_) (fun _ => ?_)
  · exact uw_behind_201 dX16
  · refine pw_bd (uw_isSign dX16) (fun x18 X19 dX19 => ?_)
    refine pw_ite (fun _ => ?_) (fun _ => ?_)
    · exact uw_behind_201 dX19
    · refine pw_bd (uw_closes dX19) (fun _ X20 dX20 => ?_)
      refine pw_bd (uw_done dX20) (fun _ X21 dX21 => ?_)
      exact pw_ret dX21
theorem uw_behind_155 {a3 : Int32} {b0 : Int32} {X : St} (h : wrX X) : pw (f_behind_155 a3 b0 X) (fun _ Y => wrX Y) := by
  unfold f_behind_155
  refine pw_ite (fun _ => ?_) (fun _ => ?_)
  · exact uw_behind_170 h
  · exact uw_behind_170 h
theorem uw_behind_139 {a3 : Int32} {X : St} (h : wrX X) : pw (f_behind_139 a3 X) (fun _ Y => wrX Y) := by
  unfold f_behind_139
  refine pw_ck (fun _ => ?_)
  refine pw_eq (fun x15 _ => ?_)
  refine pw_ite (fun _ => ?_) (fun _ => ?_)
  · exact uw_behind_155 h
  · exact uw_behind_155 h
theorem uw_behind_118 {a3 : Int32} {b0 : Int32} {b1 : Int32} {X : St} (h : wrX X) : pw (f_behind_118 a3 b0 b1 X) (fun _ Y => wrX Y) := by
  unfold f_behind_118
  refine pw_ck (fun _ => ?_)
  refine pw_eq (fun X13 eX13 => ?_)
  have dX13 : wrX X13 := by rw [eX13]; exact wrX_w h (fun g_ => absurd g_.1 (by decide))
  refine pw_ck (fun _ => ?_)
  refine pw_eq (fun x14 _ => ?_)
  refine pw_ite (fun _ => ?_) (fun _ => ?_)
  · exact uw_behind_139 dX13
  · refine pw_eq (fun x22 _ => ?_)
    refine pw_bd (uw_fails dX13) (fun _ X23 dX23 => ?_)
    exact uw_behind_139 dX23
theorem uw_behind_70 {a1 : Int32} {a2 : Int32} {b0 : Int32} {X : St} (h : wrX X) : pw (f_behind_70 a1 a2 b0 X) (fun _ Y => wrX Y) := by
  unfold f_behind_70
  refine pw_ck (fun _ => ?_)
  refine pw_eq (fun x7 _ => ?_)
  refine pw_bd (uw_make h) (fun x8 X9 dX9 => ?_)
  refine pw_eq (fun x10 _ => ?_)
  refine pw_ck (fun _ => ?_)
  refine pw_eq (fun X11 eX11 => ?_)
  have dX11 : wrX X11 := by rw [eX11]; exact wrX_w dX9 (fun g_ => absurd g_.1 (by decide))
  refine pw_ck (fun _ => ?_)
  refine pw_eq (fun X12 eX12 => ?_)
  have dX12 : wrX X12 := by rw [eX12]; exact wrX_w dX11 (fun g_ => absurd g_.1 (by decide))
  refine pw_ite (fun _ => ?_) (fun _ => ?_)
  · exact uw_behind_118 dX12
  · refine pw_ck (fun _ => ?_)
    refine pw_eq (fun x24 _ => ?_)
    refine pw_eq (fun x25 _ => ?_)
    exact uw_behind_118 dX12
theorem uw_behind_51 {a1 : Int32} {a2 : Int32} {X : St} (h : wrX X) : pw (f_behind_51 a1 a2 X) (fun _ Y => wrX Y) := by
  unfold f_behind_51
  refine pw_eq (fun y5 _ => ?_)
  refine pw_eq (fun x6 _ => ?_)
  refine pw_ite (fun _ => ?_) (fun _ => ?_)
  · exact uw_behind_70 h
  · exact uw_behind_70 h
theorem uw_behind_32 {a1 : Int32} {b0 : Int32} {X : St} (h : wrX X) : pw (f_behind_32 a1 b0 X) (fun _ Y => wrX Y) := by
  unfold f_behind_32
  refine pw_bd (uw_isSign h) (fun x3 X4 dX4 => ?_)
  refine pw_ite (fun _ => ?_) (fun _ => ?_)
  · refine pw_bd (uw_isSign dX4) (fun x26 X27 dX27 => ?_)
    refine pw_ite (fun _ => ?_) (fun _ => ?_)
    · refine pw_bd (uw_isWell dX27) (fun x28 X29 dX29 => ?_)
      refine pw_ite (fun _ => ?_) (fun _ => ?_)
      · exact uw_behind_288 dX29
      · refine pw_eq (fun x31 _ => ?_)
        refine pw_ite (fun _ => ?_) (fun _ => ?_)
        · refine pw_eq (fun y32 _ => ?_)
          refine pw_eq (fun x33 _ => ?_)
          refine pw_ite (fun _ => ?_) (fun _ => ?_)
          · refine pw_ck (fun _ => ?_)
            refine pw_eq (fun x34 _ => ?_)
            refine pw_ite (fun _ => ?_) (fun _ => ?_)
            · refine pw_bd (uw_nests dX29) (fun _ X35 dX35 => ?_)
              refine pw_bd (uw_isWell dX35) (fun x36 X37 dX37 => ?_)
              refine pw_ite (fun _ => ?_) (fun _ => ?_)
              · exact pw_ret dX37
              · refine pw_bd (uw_next dX37) (fun _ X38 dX38 => ?_)
                refine pw_bd (uw_enter dX38) (fun _ X39 dX39 => ?_)
                refine pw_eq (fun X40 eX40 => ?_)
                have dX40 : wrX X40 := by rw [eX40]; exact wrX_w dX39 (fun g_ => absurd g_.2 (by decide))
                exact pw_ret dX40
            · exact uw_behind_288 dX29
          · exact uw_behind_288 dX29
        · exact uw_behind_288 dX29
    · exact uw_behind_51 dX27
  · exact uw_behind_51 dX4
theorem uw_behind_27 {a1 : Int32} {X : St} (h : wrX X) : pw (f_behind_27 a1 X) (fun _ Y => wrX Y) := by
  unfold f_behind_27
  exact uw_behind_32 h
theorem uw_behind {X : St} (h : wrX X) : pw (f_behind X) (fun _ Y => wrX Y) := by
  unfold f_behind
  refine pw_eq (fun x1 _ => ?_)
  refine pw_ck (fun _ => ?_)
  refine pw_eq (fun x2 _ => ?_)
  refine pw_ite (fun _ => ?_) (fun _ => ?_)
  · exact uw_behind_27 h
  · refine pw_ck (fun _ => ?_)
    refine pw_eq (fun x41 _ => ?_)
    refine pw_ite (fun _ => ?_) (fun _ => ?_)
    · exact uw_behind_27 h
    · exact uw_behind_32 h
theorem uw_levelOf {q0 : Int64} {X : St} (h : wrX X) : pw (f_levelOf q0 X) (fun _ Y => wrX Y) := by
  unfold f_levelOf
  refine pw_eq (fun x1 _ => ?_)
  refine pw_ite (fun _ => ?_) (fun _ => ?_)
  · exact pw_ret h
  · refine pw_eq (fun x2 _ => ?_)
    refine pw_ite (fun _ => ?_) (fun _ => ?_)
    · exact pw_ret h
    · refine pw_eq (fun x3 _ => ?_)
      refine pw_ite (fun _ => ?_) (fun _ => ?_)
      · exact pw_ret h
      · refine pw_eq (fun x4 _ => ?_)
        refine pw_ite (fun _ => ?_) (fun _ => ?_)
        · exact pw_ret h
        · refine pw_eq (fun x5 _ => ?_)
          refine pw_ite (fun _ => ?_) (fun _ => ?_)
          · exact pw_ret h
          · refine pw_eq (fun x6 _ => ?_)
            refine pw_ite (fun _ => ?_) (fun _ => ?_)
            · exact pw_ret h
            · refine pw_eq (fun x7 _ => ?_)
              refine pw_ite (fun _ => ?_) (fun _ => ?_)
              · exact pw_ret h
              · exact pw_ret h
theorem uw_second_0 (N : Nat) : ∀ (a1 : Int32) (X : St), wrX X → pw (f_second_0 N a1 X) (fun _ Y => wrX Y) := by
  unfold f_second_0
  refine lp_ind (P := fun (r : Int32 → St → Option (Int32 × St)) => ∀ (a1 : Int32) (X : St), wrX X → pw (r a1 X) (fun _ Y => wrX Y)) (fun _ _ _ => pw_none) (fun r ih a1 X h => ?_) N
  unfold f_second_0_s
  refine pw_eq (fun x1 _ => ?_)
  refine pw_eq (fun x2 _ => ?_)
  refine pw_ck (fun _ => ?_)
  refine pw_eq (fun x3 _ => ?_)
  refine pw_ite (fun _ => ?_) (fun _ => ?_)
  · refine pw_eq (fun x4 _ => ?_)
    refine pw_eq (fun x5 _ => ?_)
    refine pw_ck (fun _ => ?_)
    refine pw_eq (fun x6 _ => ?_)
    refine pw_ck (fun _ => ?_)
    refine pw_eq (fun x7 _ => ?_)
    refine pw_eq (fun y8 _ => ?_)
    refine pw_bd (uw_levelOf h) (fun x9 X10 dX10 => ?_)
    refine pw_ite (fun _ => ?_) (fun _ => ?_)
    · exact pw_ret dX10
    · refine pw_eq (fun x11 _ => ?_)
      refine pw_eq (fun x12 _ => ?_)
      refine pw_eq (fun X13 eX13 => ?_)
      have dX13 : wrX X13 := by rw [eX13]; exact wrX_w dX10 (fun g_ => absurd g_.2 (by decide))
      refine pw_eq (fun x14 _ => ?_)
      refine pw_ck (fun _ => ?_)
      refine pw_eq (fun x15 _ => ?_)
      refine pw_eq (fun x16 _ => ?_)
      refine pw_ck (fun _ => ?_)
      refine pw_eq (fun X17 eX17 => ?_)
      have dX17 : wrX X17 := by rw [eX17]; exact wrX_w dX13 (fun g_ => absurd g_.1 (by decide))
      refine pw_eq (fun X18 eX18 => ?_)
      have dX18 : wrX X18 := by rw [eX18]; exact wrX_w dX17 (fun g_ => absurd g_.2 (by decide))
      exact ih _ _ dX18
  · exact pw_ret h
theorem uw_second {p1 : Int32} {X : St} (h : wrX X) : pw (f_second p1 X) (fun _ Y => wrX Y) := by
  unfold f_second
  exact uw_second_0 _ _ _ h
theorem uw_word {p1 : Int32} {X : St} (h : wrX X) : pw (f_word p1 X) (fun _ Y => wrX Y) := by
  unfold f_word
  refine pw_bd (uw_isWord h) (fun x1 X2 dX2 => ?_)
  refine pw_ite (fun _ => ?_) (fun _ => ?_)
  · refine pw_bd (uw_stray dX2) (fun _ X3 dX3 => ?_)
    exact pw_ret dX3
  · refine pw_bd (uw_next dX2) (fun _ X4 dX4 => ?_)
    exact pw_ret dX4
theorem uw_leaves {p1 : Int32} {X : St} (h : wrX X) : pw (f_leaves p1 X) (fun _ Y => wrX Y) := by
  unfold f_leaves
  refine pw_eq (fun x1 _ => ?_)
  refine pw_eq (fun x2 _ => ?_)
  refine pw_eq (fun X3 eX3 => ?_)
  have dX3 : wrX X3 := by rw [eX3]; exact wrX_w h (fun g_ => absurd g_.2 (by decide))
  refine pw_eq (fun x4 _ => ?_)
  refine pw_eq (fun x5 _ => ?_)
  refine pw_eq (fun X6 eX6 => ?_)
  have dX6 : wrX X6 := by rw [eX6]; exact wrX_w dX3 (fun g_ => absurd g_.2 (by decide))
  refine pw_eq (fun X7 eX7 => ?_)
  have dX7 : wrX X7 := by rw [eX7]; exact wrX_w dX6 (fun g_ => absurd g_.2 (by decide))
  refine pw_eq (fun X8 eX8 => ?_)
  have dX8 : wrX X8 := by rw [eX8]; exact wrX_w dX7 (fun g_ => absurd g_.2 (by decide))
  exact pw_ret dX8
theorem uw_shuts {p1 : Int32} {p2 : Int32} {X : St} (h : wrX X) : pw (f_shuts p1 p2 X) (fun _ Y => wrX Y) := by
  unfold f_shuts
  refine pw_bd (uw_closes h) (fun _ X1 dX1 => ?_)
  refine pw_eq (fun x2 _ => ?_)
  refine pw_eq (fun x3 _ => ?_)
  refine pw_eq (fun X4 eX4 => ?_)
  have dX4 : wrX X4 := by rw [eX4]; exact wrX_w dX1 (fun g_ => absurd g_.2 (by decide))
  refine pw_bd (uw_done dX4) (fun _ X5 dX5 => ?_)
  exact pw_ret dX5
theorem uw_add_45 {a1 : Int32} {a2 : Int32} {X : St} (h : wrX X) : pw (f_add_45 a1 a2 X) (fun _ Y => wrX Y) := by
  unfold f_add_45
  refine pw_eq (fun x6 _ => ?_)
  refine pw_ck (fun _ => ?_)
  refine pw_eq (fun X7 eX7 => ?_)
  have dX7 : wrX X7 := by rw [eX7]; exact wrX_w h (fun g_ => absurd g_.1 (by decide))
  refine pw_ck (fun _ => ?_)
  refine pw_eq (fun x8 _ => ?_)
  refine pw_eq (fun x9 _ => ?_)
  refine pw_ck (fun _ => ?_)
  refine pw_eq (fun X10 eX10 => ?_)
  have dX10 : wrX X10 := by rw [eX10]; exact wrX_w dX7 (fun g_ => absurd g_.1 (by decide))
  exact pw_ret dX10
theorem uw_add {p1 : Int32} {X : St} (h : wrX X) : pw (f_add p1 X) (fun _ Y => wrX Y) := by
  unfold f_add
  refine pw_ck (fun _ => ?_)
  refine pw_eq (fun x1 _ => ?_)
  refine pw_ck (fun _ => ?_)
  refine pw_eq (fun x2 _ => ?_)
  refine pw_ite (fun _ => ?_) (fun _ => ?_)
  · refine pw_eq (fun x11 _ => ?_)
    refine pw_ck (fun _ => ?_)
    refine pw_eq (fun X12 eX12 => ?_)
    have dX12 : wrX X12 := by rw [eX12]; exact wrX_w h (fun g_ => absurd g_.1 (by decide))
    exact uw_add_45 dX12
  · refine pw_ck (fun _ => ?_)
    refine pw_eq (fun x3 _ => ?_)
    refine pw_eq (fun x4 _ => ?_)
    refine pw_ck (fun _ => ?_)
    refine pw_eq (fun X5 eX5 => ?_)
    have dX5 : wrX X5 := by rw [eX5]; exact wrX_w h (fun g_ => absurd g_.1 (by decide))
    exact uw_add_45 dX5
theorem uw_endsWithin_291 {a2 : Int32} {b0 : Int32} {X : St} (h : wrX X) : pw (f_endsWithin_291 a2 b0 X) (fun _ Y => wrX Y) := by
  unfold f_endsWithin_291
  refine pw_bd (uw_shuts h) (fun _ X40 dX40 => ?_)
  exact pw_ret dX40
theorem uw_endsWithin_245 {a1 : Int32} {a2 : Int32} {a3 : Int32} {b0 : Int32} {X : St} (h : wrX X) : pw (f_endsWithin_245 a1 a2 a3 b0 X) (fun _ Y => wrX Y) := by
  unfold f_endsWithin_245
  refine pw_bd (uw_isSign h) (fun x37 X38 dX38 => ?_)
  refine pw_ite (fun _ => ?_) (fun _ => ?_)
  · refine pw_ite (fun _ => ?_) (fun _ => ?_)
    · refine pw_ck (fun _ => ?_)
      refine pw_eq (fun x39 _ => ?_)
      refine pw_ite (fun _ => ?_) (fun _ => ?_)
      · exact uw_endsWithin_291 dX38
      · exact uw_endsWithin_291 dX38
    · exact uw_endsWithin_291 dX38
  · refine pw_bd (uw_next dX38) (fun _ X41 dX41 => ?_)
    refine pw_eq (fun X42 eX42 => ?_)
    have dX42 : wrX X42 := by rw [eX42]; exact wrX_w dX41 (fun g_ => absurd g_.2 (by decide))
    exact pw_ret dX42
theorem uw_endsWithin_232 {a1 : Int32} {a2 : Int32} {b0 : Int32} {X : St} (h : wrX X) : pw (f_endsWithin_232 a1 a2 b0 X) (fun _ Y => wrX Y) := by
  unfold f_endsWithin_232
  refine pw_ite (fun _ => ?_) (fun _ => ?_)
  · exact uw_endsWithin_245 h
  · exact uw_endsWithin_245 h
theorem uw_endsWithin {p1 : Int32} {p2 : Int32} {X : St} (h : wrX X) : pw (f_endsWithin p1 p2 X) (fun _ Y => wrX Y) := by
  unfold f_endsWithin
  refine pw_ck (fun _ => ?_)
  refine pw_eq (fun x1 _ => ?_)
  refine pw_ite (fun _ => ?_) (fun _ => ?_)
  · refine pw_eq (fun x3 _ => ?_)
    refine pw_ck (fun _ => ?_)
    refine pw_eq (fun X4 eX4 => ?_)
    have dX4 : wrX X4 := by rw [eX4]; exact wrX_w h (fun g_ => absurd g_.1 (by decide))
    refine pw_bd (uw_shuts dX4) (fun _ X5 dX5 => ?_)
    exact pw_ret dX5
  · refine pw_ite (fun _ => ?_) (fun _ => ?_)
    · refine pw_eq (fun x7 _ => ?_)
      refine pw_ck (fun _ => ?_)
      refine pw_eq (fun X8 eX8 => ?_)
      have dX8 : wrX X8 := by rw [eX8]; exact wrX_w h (fun g_ => absurd g_.1 (by decide))
      refine pw_bd (uw_takes dX8) (fun _ X9 dX9 => ?_)
      refine pw_ck (fun _ => ?_)
      refine pw_eq (fun X10 eX10 => ?_)
      have dX10 : wrX X10 := by rw [eX10]; exact wrX_w dX9 (fun g_ => absurd g_.1 (by decide))
      refine pw_eq (fun X11 eX11 => ?_)
      have dX11 : wrX X11 := by rw [eX11]; exact wrX_w dX10 (fun g_ => absurd g_.2 (by decide))
      exact pw_ret dX11
    · refine pw_ite (fun _ => ?_) (fun _ => ?_)
      · refine pw_eq (fun x13 _ => ?_)
        refine pw_ck (fun _ => ?_)
        refine pw_eq (fun X14 eX14 => ?_)
        have dX14 : wrX X14 := by rw [eX14]; exact wrX_w h (fun g_ => absurd g_.1 (by decide))
        refine pw_bd (uw_shuts dX14) (fun _ X15 dX15 => ?_)
        exact pw_ret dX15
      · refine pw_ite (fun _ => ?_) (fun _ => ?_)
        · refine pw_eq (fun x17 _ => ?_)
          refine pw_ck (fun _ => ?_)
          refine pw_eq (fun X18 eX18 => ?_)
          have dX18 : wrX X18 := by rw [eX18]; exact wrX_w h (fun g_ => absurd g_.1 (by decide))
          refine pw_bd (uw_shuts dX18) (fun _ X19 dX19 => ?_)
          exact pw_ret dX19
        · refine pw_ite (fun _ => ?_) (fun _ => ?_)
          · refine pw_eq (fun x21 _ => ?_)
            refine pw_ck (fun _ => ?_)
            refine pw_eq (fun X22 eX22 => ?_)
            have dX22 : wrX X22 := by rw [eX22]; exact wrX_w h (fun g_ => absurd g_.1 (by decide))
            refine pw_bd (uw_shuts dX22) (fun _ X23 dX23 => ?_)
            exact pw_ret dX23
          · refine pw_ite (fun _ => ?_) (fun _ => ?_)
            · refine pw_eq (fun x25 _ => ?_)
              refine pw_ck (fun _ => ?_)
              refine pw_eq (fun X26 eX26 => ?_)
              have dX26 : wrX X26 := by rw [eX26]; exact wrX_w h (fun g_ => absurd g_.1 (by decide))
              refine pw_eq (fun x27 _ => ?_)
              refine pw_eq (fun x28 _ => ?_)
              refine pw_eq (fun X29 eX29 => ?_)
              have dX29 : wrX X29 := by rw [eX29]; exact wrX_w dX26 (fun g_ => absurd g_.2 (by decide))
              refine pw_eq (fun x30 _ => ?_)
              refine pw_eq (fun x31 _ => ?_)
              refine pw_eq (fun X32 eX32 => ?_)
              have dX32 : wrX X32 := by rw [eX32]; exact wrX_w dX29 (fun g_ => absurd g_.2 (by decide))
              refine pw_eq (fun X33 eX33 => ?_)
              have dX33 : wrX X33 := by rw [eX33]; exact wrX_w dX32 (fun g_ => absurd g_.2 (by decide))
              refine pw_eq (fun X34 eX34 => ?_)
              have dX34 : wrX X34 := by rw [eX34]; exact wrX_w dX33 (fun g_ => absurd g_.2 (by decide))
              exact pw_ret dX34
            · refine pw_bd (uw_add h) (fun _ X35 dX35 => ?_)
              refine pw_ck (fun _ => ?_)
              refine pw_eq (fun x36 _ => ?_)
              refine pw_ite (fun _ => ?_) (fun _ => ?_)
              · exact uw_endsWithin_232 dX35
              · exact uw_endsWithin_232 dX35
theorem uw_endsOne {X : St} (h : wrX X) : pw (f_endsOne X) (fun _ Y => wrX Y) := by
  unfold f_endsOne
  refine pw_eq (fun x1 _ => ?_)
  refine pw_eq (fun x2 _ => ?_)
  refine pw_ck (fun _ => ?_)
  refine pw_eq (fun x3 _ => ?_)
  refine pw_ck (fun _ => ?_)
  refine pw_eq (fun x4 _ => ?_)
  refine pw_ite (fun _ => ?_) (fun _ => ?_)
  · refine pw_eq (fun x6 _ => ?_)
    refine pw_eq (fun x7 _ => ?_)
    refine pw_eq (fun X8 eX8 => ?_)
    have dX8 : wrX X8 := by rw [eX8]; exact wrX_w h (fun g_ => absurd g_.2 (by decide))
    exact pw_ret dX8
  · refine pw_ite (fun _ => ?_) (fun _ => ?_)
    · refine pw_eq (fun x10 _ => ?_)
      refine pw_ck (fun _ => ?_)
      refine pw_eq (fun X11 eX11 => ?_)
      have dX11 : wrX X11 := by rw [eX11]; exact wrX_w h (fun g_ => absurd g_.1 (by decide))
      refine pw_bd (uw_word dX11) (fun _ X12 dX12 => ?_)
      refine pw_eq (fun x13 _ => ?_)
      refine pw_ck (fun _ => ?_)
      refine pw_eq (fun y14 _ => ?_)
      refine pw_ck (fun _ => ?_)
      refine pw_eq (fun X15 eX15 => ?_)
      have dX15 : wrX X15 := by rw [eX15]; exact dX12
      refine pw_eq (fun x16 _ => ?_)
      refine pw_ck (fun _ => ?_)
      refine pw_eq (fun X17 eX17 => ?_)
      have dX17 : wrX X17 := by rw [eX17]; exact wrX_w dX15 (fun g_ => absurd g_.1 (by decide))
      refine pw_eq (fun x18 _ => ?_)
      refine pw_eq (fun x19 _ => ?_)
      refine pw_eq (fun X20 eX20 => ?_)
      have dX20 : wrX X20 := by rw [eX20]; exact wrX_w dX17 (fun g_ => absurd g_.2 (by decide))
      refine pw_ck (fun _ => ?_)
      refine pw_eq (fun X21 eX21 => ?_)
      have dX21 : wrX X21 := by rw [eX21]; exact wrX_w dX20 (fun g_ => absurd g_.1 (by decide))
      refine pw_eq (fun X22 eX22 => ?_)
      have dX22 : wrX X22 := by rw [eX22]; exact wrX_w dX21 (fun g_ => absurd g_.2 (by decide))
      exact pw_ret dX22
    · refine pw_ite (fun _ => ?_) (fun _ => ?_)
      · refine pw_eq (fun x24 _ => ?_)
        refine pw_ck (fun _ => ?_)
        refine pw_eq (fun X25 eX25 => ?_)
        have dX25 : wrX X25 := by rw [eX25]; exact wrX_w h (fun g_ => absurd g_.1 (by decide))
        refine pw_eq (fun x26 _ => ?_)
        refine pw_eq (fun x27 _ => ?_)
        refine pw_eq (fun X28 eX28 => ?_)
        have dX28 : wrX X28 := by rw [eX28]; exact wrX_w dX25 (fun g_ => absurd g_.2 (by decide))
        refine pw_bd (uw_leaves dX28) (fun _ X29 dX29 => ?_)
        exact pw_ret dX29
      · refine pw_ite (fun _ => ?_) (fun _ => ?_)
        · refine pw_eq (fun x31 _ => ?_)
          refine pw_ck (fun _ => ?_)
          refine pw_eq (fun X32 eX32 => ?_)
          have dX32 : wrX X32 := by rw [eX32]; exact wrX_w h (fun g_ => absurd g_.1 (by decide))
          refine pw_bd (uw_word dX32) (fun _ X33 dX33 => ?_)
          refine pw_ck (fun _ => ?_)
          refine pw_eq (fun X34 eX34 => ?_)
          have dX34 : wrX X34 := by rw [eX34]; exact wrX_w dX33 (fun g_ => absurd g_.1 (by decide))
          refine pw_eq (fun X35 eX35 => ?_)
          have dX35 : wrX X35 := by rw [eX35]; exact wrX_w dX34 (fun g_ => absurd g_.2 (by decide))
          exact pw_ret dX35
        · refine pw_ite (fun _ => ?_) (fun _ => ?_)
          · refine pw_eq (fun x37 _ => ?_)
            refine pw_ck (fun _ => ?_)
            refine pw_eq (fun X38 eX38 => ?_)
            have dX38 : wrX X38 := by rw [eX38]; exact wrX_w h (fun g_ => absurd g_.1 (by decide))
            refine pw_bd (uw_word dX38) (fun _ X39 dX39 => ?_)
            refine pw_ck (fun _ => ?_)
            refine pw_eq (fun X40 eX40 => ?_)
            have dX40 : wrX X40 := by rw [eX40]; exact wrX_w dX39 (fun g_ => absurd g_.1 (by decide))
            refine pw_eq (fun X41 eX41 => ?_)
            have dX41 : wrX X41 := by rw [eX41]; exact wrX_w dX40 (fun g_ => absurd g_.2 (by decide))
            exact pw_ret dX41
          · refine pw_ite (fun _ => ?_) (fun _ => ?_)
            · refine pw_eq (fun x43 _ => ?_)
              refine pw_ck (fun _ => ?_)
              refine pw_eq (fun X44 eX44 => ?_)
              have dX44 : wrX X44 := by rw [eX44]; exact wrX_w h (fun g_ => absurd g_.1 (by decide))
              refine pw_bd (uw_leaves dX44) (fun _ X45 dX45 => ?_)
              exact pw_ret dX45
            · refine pw_bd (uw_endsWithin h) (fun _ X46 dX46 => ?_)
              exact pw_ret dX46
theorem uw_signs_144 {X : St} (h : wrX X) : pw (f_signs_144 X) (fun _ Y => wrX Y) := by
  unfold f_signs_144
  refine pw_bd (uw_second h) (fun _ X6 dX6 => ?_)
  refine pw_bd (uw_endsOne dX6) (fun _ X7 dX7 => ?_)
  exact pw_ret dX7
theorem uw_signs_284 {a4 : Int32} {X : St} (h : wrX X) : pw (f_signs_284 a4 X) (fun _ Y => wrX Y) := by
  unfold f_signs_284
  refine pw_bd (uw_enter h) (fun _ X20 dX20 => ?_)
  refine pw_bd (uw_next dX20) (fun _ X21 dX21 => ?_)
  refine pw_eq (fun X22 eX22 => ?_)
  have dX22 : wrX X22 := by rw [eX22]; exact wrX_w dX21 (fun g_ => absurd g_.2 (by decide))
  exact pw_ret dX22
theorem uw_signs_262 {a4 : Int32} {b0 : Int32} {b1 : Int32} {X : St} (h : wrX X) : pw (f_signs_262 a4 b0 b1 X) (fun _ Y => wrX Y) := by
  unfold f_signs_262
  refine pw_ck (fun _ => ?_)
  refine pw_eq (fun X18 eX18 => ?_)
  have dX18 : wrX X18 := by rw [eX18]; exact wrX_w h (fun g_ => absurd g_.1 (by decide))
  refine pw_ck (fun _ => ?_)
  refine pw_eq (fun x19 _ => ?_)
  refine pw_ite (fun _ => ?_) (fun _ => ?_)
  · exact uw_signs_284 dX18
  · refine pw_eq (fun x23 _ => ?_)
    refine pw_bd (uw_fails dX18) (fun _ X24 dX24 => ?_)
    exact uw_signs_284 dX24
theorem uw_signs_261 {a4 : Int32} {b0 : Int32} {X : St} (h : wrX X) : pw (f_signs_261 a4 b0 X) (fun _ Y => wrX Y) := by
  unfold f_signs_261
  exact uw_signs_262 h
theorem uw_signs_172 {a1 : Int32} {a3 : Int32} {b0 : Int32} {X : St} (h : wrX X) : pw (f_signs_172 a1 a3 b0 X) (fun _ Y => wrX Y) := by
  unfold f_signs_172
  refine pw_ck (fun _ => ?_)
  refine pw_eq (fun x9 _ => ?_)
  refine pw_bd (uw_make h) (fun x10 X11 dX11 => ?_)
  refine pw_eq (fun x12 _ => ?_)
  refine pw_ck (fun _ => ?_)
  refine pw_eq (fun X13 eX13 => ?_)
  have dX13 : wrX X13 := by rw [eX13]; exact wrX_w dX11 (fun g_ => absurd g_.1 (by decide))
  refine pw_eq (fun y14 _ => ?_)
  refine pw_eq (fun x15 _ => ?_)
  refine pw_ck (fun _ => ?_)
  refine pw_eq (fun X16 eX16 => ?_)
  have dX16 : wrX X16 := by rw [eX16]; exact wrX_w dX13 (fun g_ => absurd g_.1 (by decide))
  refine pw_ck (fun _ => ?_)
  refine pw_eq (fun X17 eX17 => ?_)
  have dX17 : wrX X17 := by rw [eX17]; exact wrX_w dX16 (fun g_ => absurd g_.1 (by decide))
  refine pw_ite (fun _ => ?_) (fun _ => ?_)
  · exact uw_signs_261 dX17
  · refine pw_ck (fun _ => ?_)
    refine pw_eq (fun x25 _ => ?_)
    refine pw_ite (fun _ => ?_) (fun _ => ?_)
    · refine pw_ck (fun _ => ?_)
      refine pw_eq (fun x26 _ => ?_)
      refine pw_eq (fun y27 _ => ?_)
      refine pw_bd (uw_levelOf dX17) (fun x28 X29 dX29 => ?_)
      refine pw_ite (fun _ => ?_) (fun _ => ?_)
      · refine pw_ck (fun _ => ?_)
        refine pw_eq (fun x30 _ => ?_)
        refine pw_eq (fun x31 _ => ?_)
        exact uw_signs_262 dX29
      · exact uw_signs_261 dX29
    · exact uw_signs_261 dX17
theorem uw_signs_135 {a1 : Int32} {b0 : Int32} {X : St} (h : wrX X) : pw (f_signs_135 a1 b0 X) (fun _ Y => wrX Y) := by
  unfold f_signs_135
  refine pw_ite (fun _ => ?_) (fun _ => ?_)
  · exact uw_signs_144 h
  · refine pw_ite (fun _ => ?_) (fun _ => ?_)
    · refine pw_eq (fun x8 _ => ?_)
      refine pw_ite (fun _ => ?_) (fun _ => ?_)
      · exact uw_signs_172 h
      · exact uw_signs_172 h
    · exact uw_signs_144 h
theorem uw_signs_134 {a1 : Int32} {X : St} (h : wrX X) : pw (f_signs_134 a1 X) (fun _ Y => wrX Y) := by
  unfold f_signs_134
  exact uw_signs_135 h
theorem uw_signs_109 {a1 : Int32} {X : St} (h : wrX X) : pw (f_signs_109 a1 X) (fun _ Y => wrX Y) := by
  unfold f_signs_109
  refine pw_ite (fun _ => ?_) (fun _ => ?_)
  · refine pw_eq (fun x32 _ => ?_)
    refine pw_eq (fun x33 _ => ?_)
    refine pw_ck (fun _ => ?_)
    refine pw_eq (fun x34 _ => ?_)
    refine pw_ite (fun _ => ?_) (fun _ => ?_)
    · exact uw_signs_135 h
    · exact uw_signs_134 h
  · exact uw_signs_134 h
theorem uw_signs_106 {a1 : Int32} {b0 : Int32} {X : St} (h : wrX X) : pw (f_signs_106 a1 b0 X) (fun _ Y => wrX Y) := by
  unfold f_signs_106
  refine pw_bd (uw_second h) (fun _ X35 dX35 => ?_)
  exact uw_signs_109 dX35
theorem uw_signs_90 {b0 : Int32} {X : St} (h : wrX X) : pw (f_signs_90 b0 X) (fun _ Y => wrX Y) := by
  unfold f_signs_90
  refine pw_ite (fun _ => ?_) (fun _ => ?_)
  · exact uw_signs_109 h
  · refine pw_ite (fun _ => ?_) (fun _ => ?_)
    · exact uw_signs_106 h
    · exact uw_signs_106 h
theorem uw_signs_89 {X : St} (h : wrX X) : pw (f_signs_89 X) (fun _ Y => wrX Y) := by
  unfold f_signs_89
  exact uw_signs_90 h
theorem uw_signs_0 (N : Nat) : ∀ (X : St), wrX X → pw (f_signs_0 N X) (fun _ Y => wrX Y) := by
  unfold f_signs_0
  refine lp_ind (P := fun (r : St → Option (Int32 × St)) => ∀ (X : St), wrX X → pw (r X) (fun _ Y => wrX Y)) (fun _ _ => pw_none) (fun r ih  X h => ?_) N
  unfold f_signs_0_s
  refine pw_eq (fun x1 _ => ?_)
  refine pw_eq (fun x2 _ => ?_)
  refine pw_ck (fun _ => ?_)
  refine pw_eq (fun x3 _ => ?_)
  refine pw_ite (fun _ => ?_) (fun _ => ?_)
  · refine pw_eq (fun x40 _ => ?_)
    refine pw_eq (fun x41 _ => ?_)
    refine pw_eq (fun X42 eX42 => ?_)
    have dX42 : wrX X42 := by rw [eX42]; exact wrX_w h (fun g_ => absurd g_.2 (by decide))
    refine pw_eq (fun x43 _ => ?_)
    refine pw_eq (fun x44 _ => ?_)
    refine pw_eq (fun X45 eX45 => ?_)
    have dX45 : wrX X45 := by rw [eX45]; exact wrX_w dX42 (fun g_ => absurd g_.2 (by decide))
    refine pw_eq (fun x46 _ => ?_)
    refine pw_ck (fun _ => ?_)
    refine pw_eq (fun x47 _ => ?_)
    refine pw_eq (fun x48 _ => ?_)
    refine pw_ck (fun _ => ?_)
    refine pw_eq (fun X49 eX49 => ?_)
    have dX49 : wrX X49 := by rw [eX49]; exact wrX_w dX45 (fun g_ => absurd g_.1 (by decide))
    refine pw_eq (fun X50 eX50 => ?_)
    have dX50 : wrX X50 := by rw [eX50]; exact wrX_w dX49 (fun g_ => absurd g_.2 (by decide))
    exact ih _ dX50
  · refine pw_bd (uw_isWell h) (fun x4 X5 dX5 => ?_)
    refine pw_ite (fun _ => ?_) (fun _ => ?_)
    · exact uw_signs_89 dX5
    · refine pw_eq (fun x36 _ => ?_)
      refine pw_ite (fun _ => ?_) (fun _ => ?_)
      · refine pw_eq (fun y37 _ => ?_)
        refine pw_bd (uw_levelOf dX5) (fun x38 X39 dX39 => ?_)
        exact uw_signs_90 dX39
      · exact uw_signs_89 dX5
theorem uw_signs {X : St} (h : wrX X) : pw (f_signs X) (fun _ Y => wrX Y) := by
  unfold f_signs
  exact uw_signs_0 _ _ h
theorem uw_expression_21 (N : Nat) : ∀ (X : St), wrX X → pw (f_expression_21 N X) (fun _ Y => wrX Y) := by
  unfold f_expression_21
  refine lp_ind (P := fun (r : St → Option (Int32 × St)) => ∀ (X : St), wrX X → pw (r X) (fun _ Y => wrX Y)) (fun _ _ => pw_none) (fun r ih  X h => ?_) N
  unfold f_expression_21_s
  refine pw_bd (uw_isWell h) (fun x5 X6 dX6 => ?_)
  refine pw_ite (fun _ => ?_) (fun _ => ?_)
  · refine pw_eq (fun x7 _ => ?_)
    exact pw_ret dX6
  · refine pw_eq (fun x8 _ => ?_)
    refine pw_ite (fun _ => ?_) (fun _ => ?_)
    · refine pw_eq (fun x9 _ => ?_)
      exact pw_ret dX6
    · refine pw_eq (fun x10 _ => ?_)
      refine pw_ite (fun _ => ?_) (fun _ => ?_)
      · refine pw_bd (uw_begins dX6) (fun _ X12 dX12 => ?_)
        exact ih _ dX12
      · refine pw_ite (fun _ => ?_) (fun _ => ?_)
        · refine pw_bd (uw_operand dX6) (fun _ X14 dX14 => ?_)
          exact ih _ dX14
        · refine pw_ite (fun _ => ?_) (fun _ => ?_)
          · refine pw_bd (uw_behind dX6) (fun _ X16 dX16 => ?_)
            exact ih _ dX16
          · refine pw_ite (fun _ => ?_) (fun _ => ?_)
            · refine pw_bd (uw_signs dX6) (fun _ X18 dX18 => ?_)
              exact ih _ dX18
            · refine pw_bd (uw_endsOne dX6) (fun _ X19 dX19 => ?_)
              exact ih _ dX19
theorem uw_expression {X : St} (h : wrX X) : pw (f_expression X) (fun _ Y => wrX Y) := by
  unfold f_expression
  refine pw_eq (fun X1 eX1 => ?_)
  have dX1 : wrX X1 := by rw [eX1]; exact wrX_w h (fun g_ => absurd g_.2 (by decide))
  refine pw_bd (uw_enter dX1) (fun _ X2 dX2 => ?_)
  refine pw_eq (fun X3 eX3 => ?_)
  have dX3 : wrX X3 := by rw [eX3]; exact wrX_w dX2 (fun g_ => absurd g_.2 (by decide))
  refine pw_eq (fun X4 eX4 => ?_)
  have dX4 : wrX X4 := by rw [eX4]; exact wrX_w dX3 (fun g_ => absurd g_.2 (by decide))
  exact uw_expression_21 _ _ dX4
theorem uw_part__V_19 {X : St} (h : wrX X) : pw (f_part__V_19 X) (fun _ Y => wrX Y) := by
  unfold f_part__V_19
  refine pw_bd (uw_stray h) (fun _ X4 dX4 => ?_)
  exact pw_ret dX4
theorem uw_param_15 {X : St} (h : wrX X) : pw (f_param_15 X) (fun _ Y => wrX Y) := by
  unfold f_param_15
  refine pw_bd (uw_stray h) (fun _ X3 dX3 => ?_)
  exact pw_ret dX3
theorem uw_param_76 {a1 : Int32} {X : St} (h : wrX X) : pw (f_param_76 a1 X) (fun _ Y => wrX Y) := by
  unfold f_param_76
  refine pw_bd (uw_isWell h) (fun x7 X8 dX8 => ?_)
  refine pw_ite (fun _ => ?_) (fun _ => ?_)
  · exact pw_ret dX8
  · refine pw_eq (fun x9 _ => ?_)
    refine pw_eq (fun y10 _ => ?_)
    refine pw_ck (fun _ => ?_)
    refine pw_eq (fun X11 eX11 => ?_)
    have dX11 : wrX X11 := by rw [eX11]; exact dX8
    refine pw_eq (fun x12 _ => ?_)
    refine pw_eq (fun x13 _ => ?_)
    refine pw_eq (fun X14 eX14 => ?_)
    have dX14 : wrX X14 := by rw [eX14]; exact wrX_w dX11 (fun g_ => absurd g_.2 (by decide))
    refine pw_eq (fun x15 _ => ?_)
    refine pw_ck (fun _ => ?_)
    refine pw_eq (fun X16 eX16 => ?_)
    have dX16 : wrX X16 := by rw [eX16]; exact wrX_w dX14 (fun g_ => absurd g_.1 (by decide))
    refine pw_eq (fun x17 _ => ?_)
    refine pw_eq (fun x18 _ => ?_)
    refine pw_eq (fun x19 _ => ?_)
    refine pw_eq (fun x20 _ => ?_)
    refine pw_ck (fun _ => ?_)
    refine pw_eq (fun X21 eX21 => ?_)
    have dX21 : wrX X21 := by rw [eX21]; exact wrX_w dX16 (fun g_ => absurd g_.1 (by decide))
    refine pw_bd (uw_next dX21) (fun _ X22 dX22 => ?_)
    refine pw_bd (uw_isSign dX22) (fun x23 X24 dX24 => ?_)
    refine pw_ite (fun _ => ?_) (fun _ => ?_)
    · exact pw_ret dX24
    · refine pw_bd (uw_next dX24) (fun _ X25 dX25 => ?_)
      refine pw_eq (fun x26 _ => ?_)
      refine pw_eq (fun x27 _ => ?_)
      refine pw_eq (fun x28 _ => ?_)
      refine pw_eq (fun x29 _ => ?_)
      refine pw_bd (uw_kind dX25) (fun x30 X31 dX31 => ?_)
      refine pw_ck (fun _ => ?_)
      refine pw_eq (fun X32 eX32 => ?_)
      have dX32 : wrX X32 := by rw [eX32]; exact wrX_w dX31 (fun g_ => absurd g_.1 (by decide))
      exact pw_ret dX32
theorem uw_param_53 {r22 : Int32 → Int32 → St → Option (Int32 × St)} (hr22 : ∀ (q0 : Int32) (q1 : Int32) (X : St), wrX X → pw (r22 q0 q1 X) (fun _ Y => wrX Y)) {a1 : Int32} {a2 : Int32} {X : St} (h : wrX X) : pw (f_param_53 r22 a1 a2 X) (fun _ Y => wrX Y) := by
  unfold f_param_53
  refine pw_eq (fun x38 _ => ?_)
  exact hr22 _ _ _ h
theorem uw_param_22 (N : Nat) : ∀ (a1 : Int32) (a2 : Int32) (X : St), wrX X → pw (f_param_22 N a1 a2 X) (fun _ Y => wrX Y) := by
  unfold f_param_22
  refine lp_ind (P := fun (r : Int32 → Int32 → St → Option (Int32 × St)) => ∀ (a1 : Int32) (a2 : Int32) (X : St), wrX X → pw (r a1 a2 X) (fun _ Y => wrX Y)) (fun _ _ _ _ => pw_none) (fun r ih a1 a2 X h => ?_) N
  unfold f_param_22_s
  refine pw_eq (fun x5 _ => ?_)
  refine pw_ite (fun _ => ?_) (fun _ => ?_)
  · refine pw_eq (fun x6 _ => ?_)
    refine pw_ite (fun _ => ?_) (fun _ => ?_)
    · refine pw_eq (fun x33 _ => ?_)
      refine pw_bd (uw_fails h) (fun _ X34 dX34 => ?_)
      exact uw_param_76 dX34
    · exact uw_param_76 h
  · refine pw_ck (fun _ => ?_)
    refine pw_eq (fun y35 _ => ?_)
    refine pw_eq (fun y36 _ => ?_)
    refine pw_eq (fun x37 _ => ?_)
    refine pw_ite (fun _ => ?_) (fun _ => ?_)
    · refine pw_eq (fun x39 _ => ?_)
      refine pw_bd (uw_fails h) (fun _ X40 dX40 => ?_)
      exact uw_param_53 ih dX40
    · exact uw_param_53 ih h
theorem uw_param {p1 : Int32} {X : St} (h : wrX X) : pw (f_param p1 X) (fun _ Y => wrX Y) := by
  unfold f_param
  refine pw_bd (uw_isWell h) (fun x1 X2 dX2 => ?_)
  refine pw_ite (fun _ => ?_) (fun _ => ?_)
  · exact uw_param_15 dX2
  · refine pw_eq (fun x4 _ => ?_)
    refine pw_ite (fun _ => ?_) (fun _ => ?_)
    · exact uw_param_22 _ _ _ _ dX2
    · exact uw_param_15 dX2
theorem uw_part__V_166 {a1 : Int32} {X : St} (h : wrX X) : pw (f_part__V_166 a1 X) (fun _ Y => wrX Y) := by
  unfold f_part__V_166
  refine pw_bd (uw_takes h) (fun _ X27 dX27 => ?_)
  refine pw_bd (uw_isWell dX27) (fun x28 X29 dX29 => ?_)
  refine pw_ite (fun _ => ?_) (fun _ => ?_)
  · exact pw_ret dX29
  · refine pw_bd (uw_expression dX29) (fun x30 X31 dX31 => ?_)
    refine pw_ck (fun _ => ?_)
    refine pw_eq (fun X32 eX32 => ?_)
    have dX32 : wrX X32 := by rw [eX32]; exact wrX_w dX31 (fun g_ => absurd g_.1 (by decide))
    refine pw_bd (uw_takes dX32) (fun _ X33 dX33 => ?_)
    refine pw_eq (fun x34 _ => ?_)
    refine pw_eq (fun x35 _ => ?_)
    refine pw_eq (fun X36 eX36 => ?_)
    have dX36 : wrX X36 := by rw [eX36]; exact wrX_w dX33 (fun g_ => absurd g_.2 (by decide))
    exact pw_ret dX36
theorem uw_part__V_143 {a1 : Int32} {X : St} (h : wrX X) : pw (f_part__V_143 a1 X) (fun _ Y => wrX Y) := by
  unfold f_part__V_143
  refine pw_bd (uw_isSign h) (fun x25 X26 dX26 => ?_)
  refine pw_ite (fun _ => ?_) (fun _ => ?_)
  · exact uw_part__V_166 dX26
  · refine pw_bd (uw_next dX26) (fun _ X37 dX37 => ?_)
    refine pw_bd (uw_kind dX37) (fun x38 X39 dX39 => ?_)
    refine pw_ck (fun _ => ?_)
    refine pw_eq (fun X40 eX40 => ?_)
    have dX40 : wrX X40 := by rw [eX40]; exact wrX_w dX39 (fun g_ => absurd g_.1 (by decide))
    exact uw_part__V_166 dX40
theorem uw_part__V_116 (N : Nat) : ∀ (a1 : Int32) (X : St), wrX X → pw (f_part__V_116 N a1 X) (fun _ Y => wrX Y) := by
  unfold f_part__V_116
  refine lp_ind (P := fun (r : Int32 → St → Option (Int32 × St)) => ∀ (a1 : Int32) (X : St), wrX X → pw (r a1 X) (fun _ Y => wrX Y)) (fun _ _ _ => pw_none) (fun r ih a1 X h => ?_) N
  unfold f_part__V_116_s
  refine pw_bd (uw_isSign h) (fun x22 X23 dX23 => ?_)
  refine pw_ite (fun _ => ?_) (fun _ => ?_)
  · refine pw_bd (uw_closes dX23) (fun _ X24 dX24 => ?_)
    exact uw_part__V_143 dX24
  · refine pw_bd (uw_next dX23) (fun _ X41 dX41 => ?_)
    refine pw_bd (uw_param dX41) (fun _ X42 dX42 => ?_)
    exact ih _ _ dX42
theorem uw_part__V {X : St} (h : wrX X) : pw (f_part__V X) (fun _ Y => wrX Y) := by
  unfold f_part__V
  refine pw_bd (uw_next h) (fun _ X1 dX1 => ?_)
  refine pw_bd (uw_isWell dX1) (fun x2 X3 dX3 => ?_)
  refine pw_ite (fun _ => ?_) (fun _ => ?_)
  · exact uw_part__V_19 dX3
  · refine pw_eq (fun x5 _ => ?_)
    refine pw_ite (fun _ => ?_) (fun _ => ?_)
    · refine pw_eq (fun x6 _ => ?_)
      refine pw_eq (fun y7 _ => ?_)
      refine pw_ck (fun _ => ?_)
      refine pw_eq (fun X8 eX8 => ?_)
      have dX8 : wrX X8 := by rw [eX8]; exact dX3
      refine pw_eq (fun x9 _ => ?_)
      refine pw_ck (fun _ => ?_)
      refine pw_eq (fun X10 eX10 => ?_)
      have dX10 : wrX X10 := by rw [eX10]; exact wrX_w dX8 (fun g_ => absurd g_.1 (by decide))
      refine pw_eq (fun x11 _ => ?_)
      refine pw_ck (fun _ => ?_)
      refine pw_eq (fun X12 eX12 => ?_)
      have dX12 : wrX X12 := by rw [eX12]; exact wrX_w dX10 (fun g_ => absurd g_.1 (by decide))
      refine pw_ck (fun _ => ?_)
      refine pw_eq (fun X13 eX13 => ?_)
      have dX13 : wrX X13 := by rw [eX13]; exact wrX_w dX12 (fun g_ => absurd g_.1 (by decide))
      refine pw_ck (fun _ => ?_)
      refine pw_eq (fun X14 eX14 => ?_)
      have dX14 : wrX X14 := by rw [eX14]; exact wrX_w dX13 (fun g_ => absurd g_.1 (by decide))
      refine pw_eq (fun X15 eX15 => ?_)
      have dX15 : wrX X15 := by rw [eX15]; exact wrX_w dX14 (fun g_ => absurd g_.2 (by decide))
      refine pw_eq (fun X16 eX16 => ?_)
      have dX16 : wrX X16 := by rw [eX16]; exact wrX_w dX15 (fun g_ => absurd g_.2 (by decide))
      refine pw_bd (uw_next dX16) (fun _ X17 dX17 => ?_)
      refine pw_bd (uw_opens dX17) (fun _ X18 dX18 => ?_)
      refine pw_bd (uw_isSign dX18) (fun x19 X20 dX20 => ?_)
      refine pw_ite (fun _ => ?_) (fun _ => ?_)
      · refine pw_bd (uw_param dX20) (fun _ X21 dX21 => ?_)
        exact uw_part__V_116 _ _ _ dX21
      · refine pw_bd (uw_closes dX20) (fun _ X43 dX43 => ?_)
        exact uw_part__V_143 dX43
    · exact uw_part__V_19 dX3
theorem uw_partOf_33 {r10 : Int64 → Int32 → Int32 → St → Option (Int32 × St)} (hr10 : ∀ (q0 : Int64) (q1 : Int32) (q2 : Int32) (X : St), wrX X → pw (r10 q0 q1 q2 X) (fun _ Y => wrX Y)) {l1 : Int64} {a4 : Int32} {b0 : Int32} {X : St} (h : wrX X) : pw (f_partOf_33 r10 l1 a4 b0 X) (fun _ Y => wrX Y) := by
  unfold f_partOf_33
  refine pw_eq (fun x5 _ => ?_)
  exact hr10 _ _ _ _ h
theorem uw_partOf_10 (N : Nat) : ∀ (l1 : Int64) (a3 : Int32) (a4 : Int32) (X : St), wrX X → pw (f_partOf_10 N l1 a3 a4 X) (fun _ Y => wrX Y) := by
  unfold f_partOf_10
  refine lp_ind (P := fun (r : Int64 → Int32 → Int32 → St → Option (Int32 × St)) => ∀ (l1 : Int64) (a3 : Int32) (a4 : Int32) (X : St), wrX X → pw (r l1 a3 a4 X) (fun _ Y => wrX Y)) (fun _ _ _ _ _ => pw_none) (fun r ih l1 a3 a4 X h => ?_) N
  unfold f_partOf_10_s
  refine pw_ite (fun _ => ?_) (fun _ => ?_)
  · exact pw_ret h
  · refine pw_ck (fun _ => ?_)
    refine pw_eq (fun y3 _ => ?_)
    refine pw_eq (fun x4 _ => ?_)
    refine pw_ite (fun _ => ?_) (fun _ => ?_)
    · exact uw_partOf_33 ih h
    · exact uw_partOf_33 ih h
theorem uw_partOf {q1 : Int64} {X : St} (h : wrX X) : pw (f_partOf q1 X) (fun _ Y => wrX Y) := by
  unfold f_partOf
  refine pw_eq (fun x1 _ => ?_)
  refine pw_eq (fun x2 _ => ?_)
  exact uw_partOf_10 _ _ _ _ _ h
theorem uw_knows_126 {r60 : Int32 → Int32 → Int32 → St → Option (Int32 × St)} (hr60 : ∀ (q0 : Int32) (q1 : Int32) (q2 : Int32) (X : St), wrX X → pw (r60 q0 q1 q2 X) (fun _ Y => wrX Y)) {a1 : Int32} {a2 : Int32} {a3 : Int32} {X : St} (h : wrX X) : pw (f_knows_126 r60 a1 a2 a3 X) (fun _ Y => wrX Y) := by
  unfold f_knows_126
  refine pw_eq (fun x12 _ => ?_)
  exact hr60 _ _ _ _ h
theorem uw_knows_60 (N : Nat) : ∀ (a1 : Int32) (a2 : Int32) (a3 : Int32) (X : St), wrX X → pw (f_knows_60 N a1 a2 a3 X) (fun _ Y => wrX Y) := by
  unfold f_knows_60
  refine lp_ind (P := fun (r : Int32 → Int32 → Int32 → St → Option (Int32 × St)) => ∀ (a1 : Int32) (a2 : Int32) (a3 : Int32) (X : St), wrX X → pw (r a1 a2 a3 X) (fun _ Y => wrX Y)) (fun _ _ _ _ _ => pw_none) (fun r ih a1 a2 a3 X h => ?_) N
  unfold f_knows_60_s
  refine pw_eq (fun x4 _ => ?_)
  refine pw_ite (fun _ => ?_) (fun _ => ?_)
  · refine pw_ite (fun _ => ?_) (fun _ => ?_)
    · exact pw_ret h
    · refine pw_bd (uw_fails h) (fun _ X5 dX5 => ?_)
      exact pw_ret dX5
  · refine pw_ck (fun _ => ?_)
    refine pw_eq (fun x6 _ => ?_)
    refine pw_ite (fun _ => ?_) (fun _ => ?_)
    · refine pw_ck (fun _ => ?_)
      refine pw_eq (fun y7 _ => ?_)
      refine pw_bd (uw_partOf h) (fun x8 X9 dX9 => ?_)
      refine pw_ck (fun _ => ?_)
      refine pw_eq (fun X10 eX10 => ?_)
      have dX10 : wrX X10 := by rw [eX10]; exact wrX_w dX9 (fun g_ => absurd g_.1 (by decide))
      refine pw_ck (fun _ => ?_)
      refine pw_eq (fun x11 _ => ?_)
      refine pw_ite (fun _ => ?_) (fun _ => ?_)
      · exact uw_knows_126 ih dX10
      · refine pw_ck (fun _ => ?_)
        refine pw_eq (fun x13 _ => ?_)
        refine pw_ite (fun _ => ?_) (fun _ => ?_)
        · exact uw_knows_126 ih dX10
        · refine pw_ck (fun _ => ?_)
          refine pw_eq (fun x14 _ => ?_)
          exact uw_knows_126 ih dX10
    · exact uw_knows_126 ih h
theorem uw_knows_52 {r11 : Int32 → Int32 → Int32 → St → Option (Int32 × St)} (hr11 : ∀ (q0 : Int32) (q1 : Int32) (q2 : Int32) (X : St), wrX X → pw (r11 q0 q1 q2 X) (fun _ Y => wrX Y)) {a1 : Int32} {a2 : Int32} {a3 : Int32} {X : St} (h : wrX X) : pw (f_knows_52 r11 a1 a2 a3 X) (fun _ Y => wrX Y) := by
  unfold f_knows_52
  refine pw_eq (fun x18 _ => ?_)
  exact hr11 _ _ _ _ h
theorem uw_knows_11 (N : Nat) : ∀ (a1 : Int32) (a2 : Int32) (a3 : Int32) (X : St), wrX X → pw (f_knows_11 N a1 a2 a3 X) (fun _ Y => wrX Y) := by
  unfold f_knows_11
  refine lp_ind (P := fun (r : Int32 → Int32 → Int32 → St → Option (Int32 × St)) => ∀ (a1 : Int32) (a2 : Int32) (a3 : Int32) (X : St), wrX X → pw (r a1 a2 a3 X) (fun _ Y => wrX Y)) (fun _ _ _ _ _ => pw_none) (fun r ih a1 a2 a3 X h => ?_) N
  unfold f_knows_11_s
  refine pw_eq (fun x3 _ => ?_)
  refine pw_ite (fun _ => ?_) (fun _ => ?_)
  · exact uw_knows_60 _ _ _ _ _ h
  · refine pw_ck (fun _ => ?_)
    refine pw_eq (fun y15 _ => ?_)
    refine pw_bd (uw_partOf h) (fun x16 X17 dX17 => ?_)
    refine pw_ite (fun _ => ?_) (fun _ => ?_)
    · exact uw_knows_52 ih dX17
    · refine pw_ck (fun _ => ?_)
      refine pw_eq (fun x19 _ => ?_)
      refine pw_ite (fun _ => ?_) (fun _ => ?_)
      · exact uw_knows_52 ih dX17
      · refine pw_ck (fun _ => ?_)
        refine pw_eq (fun x20 _ => ?_)
        exact uw_knows_52 ih dX17
theorem uw_knows {X : St} (h : wrX X) : pw (f_knows X) (fun _ Y => wrX Y) := by
  unfold f_knows
  refine pw_eq (fun x1 _ => ?_)
  refine pw_eq (fun x2 _ => ?_)
  exact uw_knows_11 _ _ _ _ _ h
theorem uw_reads_167 {X : St} (h : wrX X) : pw (f_reads_167 X) (fun _ Y => wrX Y) := by
  unfold f_reads_167
  refine pw_eq (fun x18 _ => ?_)
  refine pw_eq (fun X19 eX19 => ?_)
  have dX19 : wrX X19 := by rw [eX19]; exact wrX_w h (fun g_ => absurd g_.2 (by decide))
  refine pw_eq (fun x20 _ => ?_)
  refine pw_eq (fun X21 eX21 => ?_)
  have dX21 : wrX X21 := by rw [eX21]; exact wrX_w dX19 (fun g_ => absurd g_.2 (by decide))
  exact pw_ret dX21
theorem uw_reads_157 {X : St} (h : wrX X) : pw (f_reads_157 X) (fun _ Y => wrX Y) := by
  unfold f_reads_157
  refine pw_eq (fun x23 _ => ?_)
  refine pw_bd (uw_fails h) (fun _ X24 dX24 => ?_)
  exact uw_reads_167 dX24
theorem uw_reads_120 {X : St} (h : wrX X) : pw (f_reads_120 X) (fun _ Y => wrX Y) := by
  unfold f_reads_120
  refine pw_bd (uw_partOf h) (fun x13 X14 dX14 => ?_)
  refine pw_eq (fun X15 eX15 => ?_)
  have dX15 : wrX X15 := by rw [eX15]; exact wrX_w dX14 (fun g_ => absurd g_.2 (by decide))
  refine pw_bd (uw_isWell dX15) (fun x16 X17 dX17 => ?_)
  refine pw_ite (fun _ => ?_) (fun _ => ?_)
  · exact uw_reads_167 dX17
  · refine pw_eq (fun x22 _ => ?_)
    refine pw_ite (fun _ => ?_) (fun _ => ?_)
    · exact uw_reads_157 dX17
    · refine pw_eq (fun x25 _ => ?_)
      refine pw_ck (fun _ => ?_)
      refine pw_eq (fun x26 _ => ?_)
      refine pw_ite (fun _ => ?_) (fun _ => ?_)
      · exact uw_reads_167 dX17
      · exact uw_reads_157 dX17
theorem uw_reads_109 {X : St} (h : wrX X) : pw (f_reads_109 X) (fun _ Y => wrX Y) := by
  unfold f_reads_109
  refine pw_bd (uw_isWell h) (fun x11 X12 dX12 => ?_)
  refine pw_ite (fun _ => ?_) (fun _ => ?_)
  · exact uw_reads_120 dX12
  · refine pw_bd (uw_knows dX12) (fun _ X27 dX27 => ?_)
    exact uw_reads_120 dX27
theorem uw_reads_39 (N : Nat) : ∀ (X : St), wrX X → pw (f_reads_39 N X) (fun _ Y => wrX Y) := by
  unfold f_reads_39
  refine lp_ind (P := fun (r : St → Option (Int32 × St)) => ∀ (X : St), wrX X → pw (r X) (fun _ Y => wrX Y)) (fun _ _ => pw_none) (fun r ih  X h => ?_) N
  unfold f_reads_39_s
  refine pw_bd (uw_isWell h) (fun x9 X10 dX10 => ?_)
  refine pw_ite (fun _ => ?_) (fun _ => ?_)
  · exact uw_reads_109 dX10
  · refine pw_eq (fun x28 _ => ?_)
    refine pw_ite (fun _ => ?_) (fun _ => ?_)
    · exact uw_reads_109 dX10
    · refine pw_bd (uw_isWord dX10) (fun x29 X30 dX30 => ?_)
      refine pw_ite (fun _ => ?_) (fun _ => ?_)
      · refine pw_bd (uw_stray dX30) (fun _ X38 dX38 => ?_)
        exact ih _ dX38
      · refine pw_eq (fun x31 _ => ?_)
        refine pw_ite (fun _ => ?_) (fun _ => ?_)
        · refine pw_eq (fun x36 _ => ?_)
          refine pw_bd (uw_fails dX30) (fun _ X37 dX37 => ?_)
          exact ih _ dX37
        · refine pw_eq (fun x32 _ => ?_)
          refine pw_eq (fun x33 _ => ?_)
          refine pw_ck (fun _ => ?_)
          refine pw_eq (fun X34 eX34 => ?_)
          have dX34 : wrX X34 := by rw [eX34]; exact wrX_w dX30 (fun g_ => absurd g_.1 (by decide))
          refine pw_bd (uw_part__V dX34) (fun _ X35 dX35 => ?_)
          exact ih _ dX35
/-- all but what L tells stays -/
def cq (e k : Nat) : Nat := if e = 0 then k else 200 * e
def fq (L : List Nat) (X Y : St) : Prop := (∀ e k, cq e k ∉ L → Y.1 e k = X.1 e k) ∧ (∀ e k, cq e k ∉ L → Y.2.1 e k = X.2.1 e k) ∧ Y.2.2 = X.2.2
theorem fq.rf {L : List Nat} {X : St} : fq L X X := ⟨fun _ _ _ => rfl, fun _ _ _ => rfl, rfl⟩
theorem fq.tr {L L1 : List Nat} {X Y Z : St} (h : fq L X Y) (g : fq L1 Y Z) (hs : ∀ k ∈ L1, k ∈ L) : fq L X Z := ⟨fun e k q => (g.1 e k (fun m => q (hs _ m))).trans (h.1 e k q), fun e k q => (g.2.1 e k (fun m => q (hs _ m))).trans (h.2.1 e k q), g.2.2.trans h.2.2⟩
theorem fq.wI {L : List Nat} {X Y : St} {e k : Nat} {v : Int32} (h : fq L X Y) (m : cq e k ∈ L) : fq L X (_root_.Jvm.Pilot.CBlameCourtLaw_law_r8381_f30dd1.wI Y e k v) := ⟨fun j i q => (wI_ne _ _ _ _ _ _ (fun g => q (by rw [g.1, g.2]; exact m))).trans (h.1 j i q), h.2.1, h.2.2⟩
theorem fq.wL {L : List Nat} {X Y : St} {e k : Nat} {v : Int64} (h : fq L X Y) (m : cq e k ∈ L) : fq L X (_root_.Jvm.Pilot.CBlameCourtLaw_law_r8381_f30dd1.wL Y e k v) := ⟨h.1, fun j i q => (wL_ne _ _ _ _ _ _ (fun g => q (by rw [g.1, g.2]; exact m))).trans (h.2.1 j i q), h.2.2⟩
def Lw0 : List Nat := [9, 10]
theorem mw_9_Lw0 : (9 : Nat) ∈ Lw0 := by decide
theorem mw_10_Lw0 : (10 : Nat) ∈ Lw0 := by decide
theorem fw_fails {p1 : Int32} {p2 : Int32} {X : St} : pw (f_fails p1 p2 X) (fun _ Y => fq Lw0 X Y) := by
  unfold f_fails
  refine pw_eq (fun x1 ex1 => ?_)
  refine pw_ite (fun _ => ?_) (fun _ => ?_)
  · refine pw_eq (fun X2 eX2 => ?_)
    have gX2 : fq Lw0 X X2 := by rw [eX2]; exact fq.wI (fq.rf (L := Lw0)) (show (9 : Nat) ∈ Lw0 from mw_9_Lw0)
    refine pw_eq (fun X3 eX3 => ?_)
    have gX3 : fq Lw0 X X3 := by rw [eX3]; exact fq.wI gX2 (show (10 : Nat) ∈ Lw0 from mw_10_Lw0)
    exact pw_ret gX3
  · exact pw_ret (fq.rf (L := Lw0))
def Lw1 : List Nat := []
theorem fw_isWell {X : St} : pw (f_isWell X) (fun _ Y => fq Lw1 X Y) := by
  unfold f_isWell
  refine pw_eq (fun x1 ex1 => ?_)
  refine pw_ite (fun _ => ?_) (fun _ => ?_)
  · exact pw_ret (fq.rf (L := Lw1))
  · exact pw_ret (fq.rf (L := Lw1))
theorem fw_isBeginning {X : St} : pw (f_isBeginning X) (fun _ Y => fq Lw1 X Y) := by
  unfold f_isBeginning
  refine pw_eq (fun x1 ex1 => ?_)
  refine pw_ite (fun _ => ?_) (fun _ => ?_)
  · exact pw_ret (fq.rf (L := Lw1))
  · refine pw_eq (fun x2 ex2 => ?_)
    refine pw_ite (fun _ => ?_) (fun _ => ?_)
    · exact pw_ret (fq.rf (L := Lw1))
    · refine pw_eq (fun x3 ex3 => ?_)
      refine pw_ite (fun _ => ?_) (fun _ => ?_)
      · refine pw_eq (fun y15 ey15 => ?_)
        refine pw_eq (fun x16 ex16 => ?_)
        refine pw_ite (fun _ => ?_) (fun _ => ?_)
        · exact pw_ret (fq.rf (L := Lw1))
        · refine pw_eq (fun y17 ey17 => ?_)
          refine pw_eq (fun x18 ex18 => ?_)
          refine pw_ite (fun _ => ?_) (fun _ => ?_)
          · exact pw_ret (fq.rf (L := Lw1))
          · refine pw_eq (fun y19 ey19 => ?_)
            refine pw_eq (fun x20 ex20 => ?_)
            refine pw_ite (fun _ => ?_) (fun _ => ?_)
            · exact pw_ret (fq.rf (L := Lw1))
            · refine pw_eq (fun y21 ey21 => ?_)
              refine pw_eq (fun x22 ex22 => ?_)
              refine pw_ite (fun _ => ?_) (fun _ => ?_)
              · exact pw_ret (fq.rf (L := Lw1))
              · refine pw_eq (fun y23 ey23 => ?_)
                refine pw_eq (fun x24 ex24 => ?_)
                refine pw_ite (fun _ => ?_) (fun _ => ?_)
                · exact pw_ret (fq.rf (L := Lw1))
                · refine pw_eq (fun y25 ey25 => ?_)
                  refine pw_eq (fun x26 ex26 => ?_)
                  refine pw_ite (fun _ => ?_) (fun _ => ?_)
                  · exact pw_ret (fq.rf (L := Lw1))
                  · refine pw_eq (fun y27 ey27 => ?_)
                    refine pw_eq (fun x28 ex28 => ?_)
                    refine pw_ite (fun _ => ?_) (fun _ => ?_)
                    · exact pw_ret (fq.rf (L := Lw1))
                    · exact pw_ret (fq.rf (L := Lw1))
      · refine pw_eq (fun x4 ex4 => ?_)
        refine pw_ite (fun _ => ?_) (fun _ => ?_)
        · refine pw_eq (fun y5 ey5 => ?_)
          refine pw_eq (fun x6 ex6 => ?_)
          refine pw_ite (fun _ => ?_) (fun _ => ?_)
          · exact pw_ret (fq.rf (L := Lw1))
          · refine pw_eq (fun y7 ey7 => ?_)
            refine pw_eq (fun x8 ex8 => ?_)
            refine pw_ite (fun _ => ?_) (fun _ => ?_)
            · exact pw_ret (fq.rf (L := Lw1))
            · refine pw_eq (fun y9 ey9 => ?_)
              refine pw_eq (fun x10 ex10 => ?_)
              refine pw_ite (fun _ => ?_) (fun _ => ?_)
              · exact pw_ret (fq.rf (L := Lw1))
              · refine pw_eq (fun y11 ey11 => ?_)
                refine pw_eq (fun x12 ex12 => ?_)
                refine pw_ite (fun _ => ?_) (fun _ => ?_)
                · exact pw_ret (fq.rf (L := Lw1))
                · refine pw_eq (fun y13 ey13 => ?_)
                  refine pw_eq (fun x14 ex14 => ?_)
                  refine pw_ite (fun _ => ?_) (fun _ => ?_)
                  · exact pw_ret (fq.rf (L := Lw1))
                  · exact pw_ret (fq.rf (L := Lw1))
        · exact pw_ret (fq.rf (L := Lw1))
theorem sw_Lw0_Lw0 : ∀ k ∈ Lw0, k ∈ Lw0 := by exact fun _ h => h
theorem fw_stray {X : St} : pw (f_stray X) (fun _ Y => fq Lw0 X Y) := by
  unfold f_stray
  refine pw_eq (fun x1 ex1 => ?_)
  refine pw_bd (fw_fails ) (fun _ X2 cX2 => ?_)
  have gX2 := (fq.rf (L := Lw0)).tr cX2 sw_Lw0_Lw0
  exact pw_ret gX2
theorem sw_Lw1_Lw1 : ∀ k ∈ Lw1, k ∈ Lw1 := by exact fun _ h => h
theorem fw_isWord {p1 : Int32} {X : St} : pw (f_isWord p1 X) (fun _ Y => fq Lw1 X Y) := by
  unfold f_isWord
  refine pw_bd (fw_isWell ) (fun x1 X2 cX2 => ?_)
  have gX2 := (fq.rf (L := Lw1)).tr cX2 sw_Lw1_Lw1
  refine pw_ite (fun _ => ?_) (fun _ => ?_)
  · exact pw_ret gX2
  · refine pw_eq (fun x3 ex3 => ?_)
    refine pw_ite (fun _ => ?_) (fun _ => ?_)
    · refine pw_eq (fun y4 ey4 => ?_)
      refine pw_eq (fun y5 ey5 => ?_)
      refine pw_eq (fun x6 ex6 => ?_)
      refine pw_ite (fun _ => ?_) (fun _ => ?_)
      · exact pw_ret gX2
      · exact pw_ret gX2
    · exact pw_ret gX2
def Lw2 : List Nat := [19, 4000, 4200, 4400, 4600, 4800, 5000, 5200, 5400, 5600, 5800, 7800]
theorem mw_19_Lw2 : (19 : Nat) ∈ Lw2 := by decide
theorem mw_4000_Lw2 : (4000 : Nat) ∈ Lw2 := by decide
theorem mw_4200_Lw2 : (4200 : Nat) ∈ Lw2 := by decide
theorem mw_4400_Lw2 : (4400 : Nat) ∈ Lw2 := by decide
theorem mw_4600_Lw2 : (4600 : Nat) ∈ Lw2 := by decide
theorem mw_4800_Lw2 : (4800 : Nat) ∈ Lw2 := by decide
theorem mw_5000_Lw2 : (5000 : Nat) ∈ Lw2 := by decide
theorem mw_5200_Lw2 : (5200 : Nat) ∈ Lw2 := by decide
theorem mw_5400_Lw2 : (5400 : Nat) ∈ Lw2 := by decide
theorem mw_5600_Lw2 : (5600 : Nat) ∈ Lw2 := by decide
theorem mw_5800_Lw2 : (5800 : Nat) ∈ Lw2 := by decide
theorem mw_7800_Lw2 : (7800 : Nat) ∈ Lw2 := by decide
theorem fw_make {p1 : Int32} {p2 : Int32} {X : St} : pw (f_make p1 p2 X) (fun _ Y => fq Lw2 X Y) := by
  unfold f_make
  refine pw_eq (fun x1 ex1 => ?_)
  refine pw_eq (fun x2 ex2 => ?_)
  refine pw_eq (fun x3 ex3 => ?_)
  refine pw_eq (fun X4 eX4 => ?_)
  have gX4 : fq Lw2 X X4 := by rw [eX4]; exact fq.wI (fq.rf (L := Lw2)) (show (19 : Nat) ∈ Lw2 from mw_19_Lw2)
  refine pw_ck (fun _ => ?_)
  refine pw_eq (fun X5 eX5 => ?_)
  have gX5 : fq Lw2 X X5 := by rw [eX5]; exact fq.wI gX4 (show (4000 : Nat) ∈ Lw2 from mw_4000_Lw2)
  refine pw_ck (fun _ => ?_)
  refine pw_eq (fun X6 eX6 => ?_)
  have gX6 : fq Lw2 X X6 := by rw [eX6]; exact fq.wI gX5 (show (4200 : Nat) ∈ Lw2 from mw_4200_Lw2)
  refine pw_ck (fun _ => ?_)
  refine pw_eq (fun X7 eX7 => ?_)
  have gX7 : fq Lw2 X X7 := by rw [eX7]; exact fq.wI gX6 (show (4400 : Nat) ∈ Lw2 from mw_4400_Lw2)
  refine pw_ck (fun _ => ?_)
  refine pw_eq (fun X8 eX8 => ?_)
  have gX8 : fq Lw2 X X8 := by rw [eX8]; exact fq.wI gX7 (show (4600 : Nat) ∈ Lw2 from mw_4600_Lw2)
  refine pw_ck (fun _ => ?_)
  refine pw_eq (fun X9 eX9 => ?_)
  have gX9 : fq Lw2 X X9 := by rw [eX9]; exact fq.wI gX8 (show (4800 : Nat) ∈ Lw2 from mw_4800_Lw2)
  refine pw_ck (fun _ => ?_)
  refine pw_eq (fun X10 eX10 => ?_)
  have gX10 : fq Lw2 X X10 := by rw [eX10]; exact fq.wI gX9 (show (5000 : Nat) ∈ Lw2 from mw_5000_Lw2)
  refine pw_ck (fun _ => ?_)
  refine pw_eq (fun X11 eX11 => ?_)
  have gX11 : fq Lw2 X X11 := by rw [eX11]; exact fq.wI gX10 (show (5200 : Nat) ∈ Lw2 from mw_5200_Lw2)
  refine pw_ck (fun _ => ?_)
  refine pw_eq (fun X12 eX12 => ?_)
  have gX12 : fq Lw2 X X12 := by rw [eX12]; exact fq.wI gX11 (show (5400 : Nat) ∈ Lw2 from mw_5400_Lw2)
  refine pw_ck (fun _ => ?_)
  refine pw_eq (fun X13 eX13 => ?_)
  have gX13 : fq Lw2 X X13 := by rw [eX13]; exact fq.wI gX12 (show (5600 : Nat) ∈ Lw2 from mw_5600_Lw2)
  refine pw_ck (fun _ => ?_)
  refine pw_eq (fun X14 eX14 => ?_)
  have gX14 : fq Lw2 X X14 := by rw [eX14]; exact fq.wL gX13 (show (5800 : Nat) ∈ Lw2 from mw_5800_Lw2)
  refine pw_ck (fun _ => ?_)
  refine pw_eq (fun X15 eX15 => ?_)
  have gX15 : fq Lw2 X X15 := by rw [eX15]; exact fq.wI gX14 (show (7800 : Nat) ∈ Lw2 from mw_7800_Lw2)
  exact pw_ret gX15
def Lw3 : List Nat := [21]
theorem mw_21_Lw3 : (21 : Nat) ∈ Lw3 := by decide
theorem fw_nests_18 {X : St} : pw (f_nests_18 X) (fun _ Y => fq Lw3 X Y) := by
  unfold f_nests_18
  refine pw_eq (fun x2 ex2 => ?_)
  refine pw_eq (fun x3 ex3 => ?_)
  refine pw_eq (fun X4 eX4 => ?_)
  have gX4 : fq Lw3 X X4 := by rw [eX4]; exact fq.wI (fq.rf (L := Lw3)) (show (21 : Nat) ∈ Lw3 from mw_21_Lw3)
  exact pw_ret gX4
def Lw4 : List Nat := [9, 10, 21]
theorem sw_Lw0_Lw4 : ∀ k ∈ Lw0, k ∈ Lw4 := by decide
theorem sw_Lw3_Lw4 : ∀ k ∈ Lw3, k ∈ Lw4 := by decide
theorem fw_nests {X : St} : pw (f_nests X) (fun _ Y => fq Lw4 X Y) := by
  unfold f_nests
  refine pw_eq (fun x1 ex1 => ?_)
  refine pw_ite (fun _ => ?_) (fun _ => ?_)
  · refine pw_eq (fun x5 ex5 => ?_)
    refine pw_bd (fw_fails ) (fun _ X6 cX6 => ?_)
    have gX6 := (fq.rf (L := Lw4)).tr cX6 sw_Lw0_Lw4
    exact pw_mono (fw_nests_18 ) (fun _ _ c => gX6.tr c sw_Lw3_Lw4)
  · exact pw_mono (fw_nests_18 ) (fun _ _ c => (fq.rf (L := Lw4)).tr c sw_Lw3_Lw4)
theorem fw_in {p0 : Int32} {p1 : Int32} {p2 : Int32} {X : St} : pw (f_in p0 p1 p2 X) (fun _ Y => fq Lw1 X Y) := by
  unfold f_in
  refine pw_ite (fun _ => ?_) (fun _ => ?_)
  · exact pw_ret (fq.rf (L := Lw1))
  · refine pw_ite (fun _ => ?_) (fun _ => ?_)
    · exact pw_ret (fq.rf (L := Lw1))
    · exact pw_ret (fq.rf (L := Lw1))
theorem fw_letterOf {p0 : Int32} {X : St} : pw (f_letterOf p0 X) (fun _ Y => fq Lw1 X Y) := by
  unfold f_letterOf
  refine pw_bd (fw_in ) (fun x1 X2 cX2 => ?_)
  have gX2 := (fq.rf (L := Lw1)).tr cX2 sw_Lw1_Lw1
  refine pw_ite (fun _ => ?_) (fun _ => ?_)
  · refine pw_bd (fw_in ) (fun x3 X4 cX4 => ?_)
    have gX4 := gX2.tr cX4 sw_Lw1_Lw1
    refine pw_ite (fun _ => ?_) (fun _ => ?_)
    · exact pw_ret gX4
    · refine pw_eq (fun x5 ex5 => ?_)
      exact pw_ret gX4
  · refine pw_eq (fun x6 ex6 => ?_)
    exact pw_ret gX2
def Lw5 : List Nat := [7]
theorem mw_7_Lw5 : (7 : Nat) ∈ Lw5 := by decide
theorem fw_sign_70 {a1 : Int32} {X : St} : pw (f_sign_70 a1 X) (fun _ Y => fq Lw5 X Y) := by
  unfold f_sign_70
  refine pw_ite (fun _ => ?_) (fun _ => ?_)
  · exact pw_ret (fq.rf (L := Lw5))
  · refine pw_ite (fun _ => ?_) (fun _ => ?_)
    · exact pw_ret (fq.rf (L := Lw5))
    · refine pw_ite (fun _ => ?_) (fun _ => ?_)
      · exact pw_ret (fq.rf (L := Lw5))
      · refine pw_ite (fun _ => ?_) (fun _ => ?_)
        · exact pw_ret (fq.rf (L := Lw5))
        · refine pw_ite (fun _ => ?_) (fun _ => ?_)
          · exact pw_ret (fq.rf (L := Lw5))
          · refine pw_ite (fun _ => ?_) (fun _ => ?_)
            · exact pw_ret (fq.rf (L := Lw5))
            · refine pw_ite (fun _ => ?_) (fun _ => ?_)
              · exact pw_ret (fq.rf (L := Lw5))
              · refine pw_ite (fun _ => ?_) (fun _ => ?_)
                · exact pw_ret (fq.rf (L := Lw5))
                · refine pw_ite (fun _ => ?_) (fun _ => ?_)
                  · exact pw_ret (fq.rf (L := Lw5))
                  · refine pw_ite (fun _ => ?_) (fun _ => ?_)
                    · exact pw_ret (fq.rf (L := Lw5))
                    · refine pw_ite (fun _ => ?_) (fun _ => ?_)
                      · exact pw_ret (fq.rf (L := Lw5))
                      · refine pw_ite (fun _ => ?_) (fun _ => ?_)
                        · exact pw_ret (fq.rf (L := Lw5))
                        · refine pw_ite (fun _ => ?_) (fun _ => ?_)
                          · exact pw_ret (fq.rf (L := Lw5))
                          · refine pw_ite (fun _ => ?_) (fun _ => ?_)
                            · exact pw_ret (fq.rf (L := Lw5))
                            · refine pw_ite (fun _ => ?_) (fun _ => ?_)
                              · exact pw_ret (fq.rf (L := Lw5))
                              · refine pw_ite (fun _ => ?_) (fun _ => ?_)
                                · exact pw_ret (fq.rf (L := Lw5))
                                · refine pw_ite (fun _ => ?_) (fun _ => ?_)
                                  · exact pw_ret (fq.rf (L := Lw5))
                                  · refine pw_eq (fun X24 eX24 => ?_)
                                    have gX24 : fq Lw5 X X24 := by rw [eX24]; exact fq.wI (fq.rf (L := Lw5)) (show (7 : Nat) ∈ Lw5 from mw_7_Lw5)
                                    exact pw_ret gX24
def Lw6 : List Nat := [5, 7, 47]
theorem mw_7_Lw6 : (7 : Nat) ∈ Lw6 := by decide
theorem mw_47_Lw6 : (47 : Nat) ∈ Lw6 := by decide
theorem mw_5_Lw6 : (5 : Nat) ∈ Lw6 := by decide
theorem sw_Lw5_Lw6 : ∀ k ∈ Lw5, k ∈ Lw6 := by decide
theorem fw_sign {p1 : Int32} {X : St} : pw (f_sign p1 X) (fun _ Y => fq Lw6 X Y) := by
  unfold f_sign
  refine pw_eq (fun X1 eX1 => ?_)
  have gX1 : fq Lw6 X X1 := by rw [eX1]; exact fq.wI (fq.rf (L := Lw6)) (show (7 : Nat) ∈ Lw6 from mw_7_Lw6)
  refine pw_eq (fun y2 ey2 => ?_)
  refine pw_eq (fun X3 eX3 => ?_)
  have gX3 : fq Lw6 X X3 := by rw [eX3]; exact fq.wL gX1 (show (47 : Nat) ∈ Lw6 from mw_47_Lw6)
  refine pw_eq (fun x4 ex4 => ?_)
  refine pw_eq (fun x5 ex5 => ?_)
  refine pw_eq (fun X6 eX6 => ?_)
  have gX6 : fq Lw6 X X6 := by rw [eX6]; exact fq.wI gX3 (show (5 : Nat) ∈ Lw6 from mw_5_Lw6)
  refine pw_ite (fun _ => ?_) (fun _ => ?_)
  · refine pw_eq (fun x25 ex25 => ?_)
    refine pw_eq (fun x26 ex26 => ?_)
    refine pw_ite (fun _ => ?_) (fun _ => ?_)
    · exact pw_mono (fw_sign_70 ) (fun _ _ c => gX6.tr c sw_Lw5_Lw6)
    · refine pw_eq (fun x27 ex27 => ?_)
      refine pw_ck (fun _ => ?_)
      refine pw_eq (fun x28 ex28 => ?_)
      refine pw_ite (fun _ => ?_) (fun _ => ?_)
      · refine pw_eq (fun X29 eX29 => ?_)
        have gX29 : fq Lw6 X X29 := by rw [eX29]; exact fq.wL gX6 (show (47 : Nat) ∈ Lw6 from mw_47_Lw6)
        refine pw_eq (fun x30 ex30 => ?_)
        refine pw_eq (fun x31 ex31 => ?_)
        refine pw_eq (fun X32 eX32 => ?_)
        have gX32 : fq Lw6 X X32 := by rw [eX32]; exact fq.wI gX29 (show (5 : Nat) ∈ Lw6 from mw_5_Lw6)
        exact pw_ret gX32
      · exact pw_mono (fw_sign_70 ) (fun _ _ c => gX6.tr c sw_Lw5_Lw6)
  · exact pw_mono (fw_sign_70 ) (fun _ _ c => gX6.tr c sw_Lw5_Lw6)
def Lw7 : List Nat := [5, 47]
theorem mw_47_Lw7 : (47 : Nat) ∈ Lw7 := by decide
theorem mw_5_Lw7 : (5 : Nat) ∈ Lw7 := by decide
theorem sw_Lw7_Lw7 : ∀ k ∈ Lw7, k ∈ Lw7 := by exact fun _ h => h
theorem fw_next_194 {r122 : St → Option (Int32 × St)} (hr122 : ∀ (X : St), pw (r122 X) (fun _ Y => fq Lw7 X Y)) {m0 : Int64} {X : St} : pw (f_next_194 r122 m0 X) (fun _ Y => fq Lw7 X Y) := by
  unfold f_next_194
  refine pw_eq (fun X31 eX31 => ?_)
  have gX31 : fq Lw7 X X31 := by rw [eX31]; exact fq.wL (fq.rf (L := Lw7)) (show (47 : Nat) ∈ Lw7 from mw_47_Lw7)
  refine pw_eq (fun x32 ex32 => ?_)
  refine pw_eq (fun x33 ex33 => ?_)
  refine pw_eq (fun X34 eX34 => ?_)
  have gX34 : fq Lw7 X X34 := by rw [eX34]; exact fq.wI gX31 (show (5 : Nat) ∈ Lw7 from mw_5_Lw7)
  exact pw_mono (hr122 _) (fun _ _ c => gX34.tr c sw_Lw7_Lw7)
theorem sw_Lw1_Lw7 : ∀ k ∈ Lw1, k ∈ Lw7 := by decide
theorem fw_next_122 (N : Nat) : ∀ (X : St), pw (f_next_122 N X) (fun _ Y => fq Lw7 X Y) := by
  unfold f_next_122
  refine lp_ind (P := fun (r : St → Option (Int32 × St)) => ∀ (X : St), pw (r X) (fun _ Y => fq Lw7 X Y)) (fun _ => pw_none) (fun r ih  X => ?_) N
  unfold f_next_122_s
  refine pw_eq (fun x16 ex16 => ?_)
  refine pw_eq (fun x17 ex17 => ?_)
  refine pw_ite (fun _ => ?_) (fun _ => ?_)
  · exact pw_ret (fq.rf (L := Lw7))
  · refine pw_eq (fun x18 ex18 => ?_)
    refine pw_ck (fun _ => ?_)
    refine pw_eq (fun x19 ex19 => ?_)
    refine pw_bd (fw_in ) (fun x20 X21 cX21 => ?_)
    have gX21 := (fq.rf (L := Lw7)).tr cX21 sw_Lw1_Lw7
    refine pw_ite (fun _ => ?_) (fun _ => ?_)
    · exact pw_ret gX21
    · refine pw_eq (fun y22 ey22 => ?_)
      refine pw_eq (fun x23 ex23 => ?_)
      refine pw_ite (fun _ => ?_) (fun _ => ?_)
      · refine pw_eq (fun y24 ey24 => ?_)
        refine pw_eq (fun y25 ey25 => ?_)
        refine pw_eq (fun x26 ex26 => ?_)
        refine pw_ck (fun _ => ?_)
        refine pw_eq (fun x27 ex27 => ?_)
        refine pw_eq (fun y28 ey28 => ?_)
        refine pw_eq (fun y29 ey29 => ?_)
        refine pw_eq (fun y30 ey30 => ?_)
        exact pw_mono (fw_next_194 ih) (fun _ _ c => gX21.tr c sw_Lw7_Lw7)
      · refine pw_eq (fun y35 ey35 => ?_)
        exact pw_mono (fw_next_194 ih) (fun _ _ c => gX21.tr c sw_Lw7_Lw7)
theorem fw_wordOf {q0 : Int64} {X : St} : pw (f_wordOf q0 X) (fun _ Y => fq Lw1 X Y) := by
  unfold f_wordOf
  refine pw_eq (fun x1 ex1 => ?_)
  refine pw_ite (fun _ => ?_) (fun _ => ?_)
  · refine pw_eq (fun x2 ex2 => ?_)
    refine pw_ite (fun _ => ?_) (fun _ => ?_)
    · exact pw_ret (fq.rf (L := Lw1))
    · refine pw_ite (fun _ => ?_) (fun _ => ?_)
      · exact pw_ret (fq.rf (L := Lw1))
      · refine pw_ite (fun _ => ?_) (fun _ => ?_)
        · exact pw_ret (fq.rf (L := Lw1))
        · refine pw_ite (fun _ => ?_) (fun _ => ?_)
          · exact pw_ret (fq.rf (L := Lw1))
          · refine pw_ite (fun _ => ?_) (fun _ => ?_)
            · exact pw_ret (fq.rf (L := Lw1))
            · refine pw_ite (fun _ => ?_) (fun _ => ?_)
              · exact pw_ret (fq.rf (L := Lw1))
              · refine pw_ite (fun _ => ?_) (fun _ => ?_)
                · exact pw_ret (fq.rf (L := Lw1))
                · refine pw_ite (fun _ => ?_) (fun _ => ?_)
                  · exact pw_ret (fq.rf (L := Lw1))
                  · refine pw_ite (fun _ => ?_) (fun _ => ?_)
                    · exact pw_ret (fq.rf (L := Lw1))
                    · refine pw_ite (fun _ => ?_) (fun _ => ?_)
                      · exact pw_ret (fq.rf (L := Lw1))
                      · refine pw_ite (fun _ => ?_) (fun _ => ?_)
                        · exact pw_ret (fq.rf (L := Lw1))
                        · refine pw_ite (fun _ => ?_) (fun _ => ?_)
                          · exact pw_ret (fq.rf (L := Lw1))
                          · refine pw_ite (fun _ => ?_) (fun _ => ?_)
                            · exact pw_ret (fq.rf (L := Lw1))
                            · refine pw_ite (fun _ => ?_) (fun _ => ?_)
                              · exact pw_ret (fq.rf (L := Lw1))
                              · refine pw_ite (fun _ => ?_) (fun _ => ?_)
                                · exact pw_ret (fq.rf (L := Lw1))
                                · exact pw_ret (fq.rf (L := Lw1))
  · exact pw_ret (fq.rf (L := Lw1))
def Lw8 : List Nat := [47]
theorem mw_47_Lw8 : (47 : Nat) ∈ Lw8 := by decide
theorem fw_name_156 {m0 : Int64} {X : St} : pw (f_name_156 m0 X) (fun _ Y => fq Lw8 X Y) := by
  unfold f_name_156
  refine pw_eq (fun X11 eX11 => ?_)
  have gX11 : fq Lw8 X X11 := by rw [eX11]; exact fq.wL (fq.rf (L := Lw8)) (show (47 : Nat) ∈ Lw8 from mw_47_Lw8)
  exact pw_ret gX11
def Lw9 : List Nat := [7, 47]
theorem mw_7_Lw9 : (7 : Nat) ∈ Lw9 := by decide
theorem sw_Lw8_Lw9 : ∀ k ∈ Lw8, k ∈ Lw9 := by decide
theorem fw_name_139 {a1 : Int32} {b0 : Int32} {X : St} : pw (f_name_139 a1 b0 X) (fun _ Y => fq Lw9 X Y) := by
  unfold f_name_139
  refine pw_eq (fun X9 eX9 => ?_)
  have gX9 : fq Lw9 X X9 := by rw [eX9]; exact fq.wI (fq.rf (L := Lw9)) (show (7 : Nat) ∈ Lw9 from mw_7_Lw9)
  refine pw_ite (fun _ => ?_) (fun _ => ?_)
  · refine pw_eq (fun y10 ey10 => ?_)
    exact pw_mono (fw_name_156 ) (fun _ _ c => gX9.tr c sw_Lw8_Lw9)
  · refine pw_eq (fun y12 ey12 => ?_)
    exact pw_mono (fw_name_156 ) (fun _ _ c => gX9.tr c sw_Lw8_Lw9)
theorem sw_Lw9_Lw9 : ∀ k ∈ Lw9, k ∈ Lw9 := by exact fun _ h => h
theorem fw_name_115 {b0 : Int32} {X : St} : pw (f_name_115 b0 X) (fun _ Y => fq Lw9 X Y) := by
  unfold f_name_115
  refine pw_ite (fun _ => ?_) (fun _ => ?_)
  · refine pw_eq (fun x8 ex8 => ?_)
    refine pw_ite (fun _ => ?_) (fun _ => ?_)
    · exact pw_mono (fw_name_139 ) (fun _ _ c => (fq.rf (L := Lw9)).tr c sw_Lw9_Lw9)
    · exact pw_mono (fw_name_139 ) (fun _ _ c => (fq.rf (L := Lw9)).tr c sw_Lw9_Lw9)
  · exact pw_mono (fw_name_139 ) (fun _ _ c => (fq.rf (L := Lw9)).tr c sw_Lw9_Lw9)
theorem sw_Lw1_Lw9 : ∀ k ∈ Lw1, k ∈ Lw9 := by decide
theorem fw_name_96 {X : St} : pw (f_name_96 X) (fun _ Y => fq Lw9 X Y) := by
  unfold f_name_96
  refine pw_eq (fun x4 ex4 => ?_)
  refine pw_ite (fun _ => ?_) (fun _ => ?_)
  · refine pw_eq (fun y5 ey5 => ?_)
    refine pw_bd (fw_wordOf ) (fun x6 X7 cX7 => ?_)
    have gX7 := (fq.rf (L := Lw9)).tr cX7 sw_Lw1_Lw9
    exact pw_mono (fw_name_115 ) (fun _ _ c => gX7.tr c sw_Lw9_Lw9)
  · exact pw_mono (fw_name_115 ) (fun _ _ c => (fq.rf (L := Lw9)).tr c sw_Lw9_Lw9)
def Lw10 : List Nat := [5, 7, 8, 47]
theorem mw_47_Lw10 : (47 : Nat) ∈ Lw10 := by decide
theorem mw_8_Lw10 : (8 : Nat) ∈ Lw10 := by decide
theorem mw_5_Lw10 : (5 : Nat) ∈ Lw10 := by decide
theorem sw_Lw10_Lw10 : ∀ k ∈ Lw10, k ∈ Lw10 := by exact fun _ h => h
theorem fw_name_70 {r5 : St → Option (Int32 × St)} (hr5 : ∀ (X : St), pw (r5 X) (fun _ Y => fq Lw10 X Y)) {m0 : Int64} {X : St} : pw (f_name_70 r5 m0 X) (fun _ Y => fq Lw10 X Y) := by
  unfold f_name_70
  refine pw_eq (fun X19 eX19 => ?_)
  have gX19 : fq Lw10 X X19 := by rw [eX19]; exact fq.wL (fq.rf (L := Lw10)) (show (47 : Nat) ∈ Lw10 from mw_47_Lw10)
  refine pw_eq (fun x20 ex20 => ?_)
  refine pw_eq (fun x21 ex21 => ?_)
  refine pw_eq (fun X22 eX22 => ?_)
  have gX22 : fq Lw10 X X22 := by rw [eX22]; exact fq.wI gX19 (show (8 : Nat) ∈ Lw10 from mw_8_Lw10)
  refine pw_eq (fun x23 ex23 => ?_)
  refine pw_eq (fun x24 ex24 => ?_)
  refine pw_eq (fun X25 eX25 => ?_)
  have gX25 : fq Lw10 X X25 := by rw [eX25]; exact fq.wI gX22 (show (5 : Nat) ∈ Lw10 from mw_5_Lw10)
  exact pw_mono (hr5 _) (fun _ _ c => gX25.tr c sw_Lw10_Lw10)
theorem sw_Lw9_Lw10 : ∀ k ∈ Lw9, k ∈ Lw10 := by decide
theorem sw_Lw1_Lw10 : ∀ k ∈ Lw1, k ∈ Lw10 := by decide
theorem fw_name_5 (N : Nat) : ∀ (X : St), pw (f_name_5 N X) (fun _ Y => fq Lw10 X Y) := by
  unfold f_name_5
  refine lp_ind (P := fun (r : St → Option (Int32 × St)) => ∀ (X : St), pw (r X) (fun _ Y => fq Lw10 X Y)) (fun _ => pw_none) (fun r ih  X => ?_) N
  unfold f_name_5_s
  refine pw_eq (fun x2 ex2 => ?_)
  refine pw_eq (fun x3 ex3 => ?_)
  refine pw_ite (fun _ => ?_) (fun _ => ?_)
  · exact pw_mono (fw_name_96 ) (fun _ _ c => (fq.rf (L := Lw10)).tr c sw_Lw9_Lw10)
  · refine pw_eq (fun x13 ex13 => ?_)
    refine pw_ck (fun _ => ?_)
    refine pw_eq (fun x14 ex14 => ?_)
    refine pw_bd (fw_letterOf ) (fun x15 X16 cX16 => ?_)
    have gX16 := (fq.rf (L := Lw10)).tr cX16 sw_Lw1_Lw10
    refine pw_ite (fun _ => ?_) (fun _ => ?_)
    · exact pw_mono (fw_name_96 ) (fun _ _ c => gX16.tr c sw_Lw9_Lw10)
    · refine pw_eq (fun x17 ex17 => ?_)
      refine pw_ite (fun _ => ?_) (fun _ => ?_)
      · refine pw_eq (fun y18 ey18 => ?_)
        exact pw_mono (fw_name_70 ih) (fun _ _ c => gX16.tr c sw_Lw10_Lw10)
      · refine pw_eq (fun y26 ey26 => ?_)
        refine pw_eq (fun y27 ey27 => ?_)
        refine pw_eq (fun x28 ex28 => ?_)
        refine pw_ck (fun _ => ?_)
        refine pw_eq (fun x29 ex29 => ?_)
        refine pw_bd (fw_letterOf ) (fun x30 X31 cX31 => ?_)
        have gX31 := gX16.tr cX31 sw_Lw1_Lw10
        refine pw_eq (fun y32 ey32 => ?_)
        refine pw_eq (fun y33 ey33 => ?_)
        exact pw_mono (fw_name_70 ih) (fun _ _ c => gX31.tr c sw_Lw10_Lw10)
theorem fw_name {X : St} : pw (f_name X) (fun _ Y => fq Lw10 X Y) := by
  unfold f_name
  refine pw_eq (fun X1 eX1 => ?_)
  have gX1 : fq Lw10 X X1 := by rw [eX1]; exact fq.wI (fq.rf (L := Lw10)) (show (8 : Nat) ∈ Lw10 from mw_8_Lw10)
  exact pw_mono (fw_name_5 _ _) (fun _ _ c => gX1.tr c sw_Lw10_Lw10)
def Lw11 : List Nat := [5, 6, 7, 8, 47]
theorem mw_6_Lw11 : (6 : Nat) ∈ Lw11 := by decide
theorem mw_47_Lw11 : (47 : Nat) ∈ Lw11 := by decide
theorem mw_7_Lw11 : (7 : Nat) ∈ Lw11 := by decide
theorem sw_Lw1_Lw11 : ∀ k ∈ Lw1, k ∈ Lw11 := by decide
theorem sw_Lw6_Lw11 : ∀ k ∈ Lw6, k ∈ Lw11 := by decide
theorem sw_Lw7_Lw11 : ∀ k ∈ Lw7, k ∈ Lw11 := by decide
theorem sw_Lw10_Lw11 : ∀ k ∈ Lw10, k ∈ Lw11 := by decide
theorem fw_next_52 {X : St} : pw (f_next_52 X) (fun _ Y => fq Lw11 X Y) := by
  unfold f_next_52
  refine pw_eq (fun x3 ex3 => ?_)
  refine pw_eq (fun X4 eX4 => ?_)
  have gX4 : fq Lw11 X X4 := by rw [eX4]; exact fq.wI (fq.rf (L := Lw11)) (show (6 : Nat) ∈ Lw11 from mw_6_Lw11)
  refine pw_eq (fun X5 eX5 => ?_)
  have gX5 : fq Lw11 X X5 := by rw [eX5]; exact fq.wL gX4 (show (47 : Nat) ∈ Lw11 from mw_47_Lw11)
  refine pw_eq (fun x6 ex6 => ?_)
  refine pw_eq (fun x7 ex7 => ?_)
  refine pw_ite (fun _ => ?_) (fun _ => ?_)
  · refine pw_eq (fun X37 eX37 => ?_)
    have gX37 : fq Lw11 X X37 := by rw [eX37]; exact fq.wI gX5 (show (7 : Nat) ∈ Lw11 from mw_7_Lw11)
    exact pw_ret gX37
  · refine pw_eq (fun x8 ex8 => ?_)
    refine pw_ck (fun _ => ?_)
    refine pw_eq (fun x9 ex9 => ?_)
    refine pw_bd (fw_letterOf ) (fun x10 X11 cX11 => ?_)
    have gX11 := gX5.tr cX11 sw_Lw1_Lw11
    refine pw_ite (fun _ => ?_) (fun _ => ?_)
    · refine pw_bd (fw_in ) (fun x12 X13 cX13 => ?_)
      have gX13 := gX11.tr cX13 sw_Lw1_Lw11
      refine pw_ite (fun _ => ?_) (fun _ => ?_)
      · refine pw_bd (fw_sign ) (fun _ X14 cX14 => ?_)
        have gX14 := gX13.tr cX14 sw_Lw6_Lw11
        exact pw_ret gX14
      · refine pw_eq (fun X15 eX15 => ?_)
        have gX15 : fq Lw11 X X15 := by rw [eX15]; exact fq.wI gX13 (show (7 : Nat) ∈ Lw11 from mw_7_Lw11)
        exact pw_mono (fw_next_122 _ _) (fun _ _ c => gX15.tr c sw_Lw7_Lw11)
    · refine pw_bd (fw_name ) (fun _ X36 cX36 => ?_)
      have gX36 := gX11.tr cX36 sw_Lw10_Lw11
      exact pw_ret gX36
theorem mw_5_Lw11 : (5 : Nat) ∈ Lw11 := by decide
theorem sw_Lw11_Lw11 : ∀ k ∈ Lw11, k ∈ Lw11 := by exact fun _ h => h
theorem fw_next_39 {r0 : St → Option (Int32 × St)} (hr0 : ∀ (X : St), pw (r0 X) (fun _ Y => fq Lw11 X Y)) {X : St} : pw (f_next_39 r0 X) (fun _ Y => fq Lw11 X Y) := by
  unfold f_next_39
  refine pw_eq (fun x40 ex40 => ?_)
  refine pw_eq (fun x41 ex41 => ?_)
  refine pw_eq (fun X42 eX42 => ?_)
  have gX42 : fq Lw11 X X42 := by rw [eX42]; exact fq.wI (fq.rf (L := Lw11)) (show (5 : Nat) ∈ Lw11 from mw_5_Lw11)
  exact pw_mono (hr0 _) (fun _ _ c => gX42.tr c sw_Lw11_Lw11)
theorem fw_next_0 (N : Nat) : ∀ (X : St), pw (f_next_0 N X) (fun _ Y => fq Lw11 X Y) := by
  unfold f_next_0
  refine lp_ind (P := fun (r : St → Option (Int32 × St)) => ∀ (X : St), pw (r X) (fun _ Y => fq Lw11 X Y)) (fun _ => pw_none) (fun r ih  X => ?_) N
  unfold f_next_0_s
  refine pw_eq (fun x1 ex1 => ?_)
  refine pw_eq (fun x2 ex2 => ?_)
  refine pw_ite (fun _ => ?_) (fun _ => ?_)
  · exact pw_mono (fw_next_52 ) (fun _ _ c => (fq.rf (L := Lw11)).tr c sw_Lw11_Lw11)
  · refine pw_eq (fun x38 ex38 => ?_)
    refine pw_ck (fun _ => ?_)
    refine pw_eq (fun x39 ex39 => ?_)
    refine pw_ite (fun _ => ?_) (fun _ => ?_)
    · exact pw_mono (fw_next_39 ih) (fun _ _ c => (fq.rf (L := Lw11)).tr c sw_Lw11_Lw11)
    · refine pw_eq (fun x43 ex43 => ?_)
      refine pw_ck (fun _ => ?_)
      refine pw_eq (fun x44 ex44 => ?_)
      refine pw_ite (fun _ => ?_) (fun _ => ?_)
      · exact pw_mono (fw_next_39 ih) (fun _ _ c => (fq.rf (L := Lw11)).tr c sw_Lw11_Lw11)
      · exact pw_mono (fw_next_52 ) (fun _ _ c => (fq.rf (L := Lw11)).tr c sw_Lw11_Lw11)
theorem fw_next {X : St} : pw (f_next X) (fun _ Y => fq Lw11 X Y) := by
  unfold f_next
  exact pw_mono (fw_next_0 _ _) (fun _ _ c => (fq.rf (L := Lw11)).tr c sw_Lw11_Lw11)
def Lw12 : List Nat := [22, 7000, 7200, 7400, 7600]
theorem mw_7000_Lw12 : (7000 : Nat) ∈ Lw12 := by decide
theorem mw_7200_Lw12 : (7200 : Nat) ∈ Lw12 := by decide
theorem mw_7400_Lw12 : (7400 : Nat) ∈ Lw12 := by decide
theorem mw_7600_Lw12 : (7600 : Nat) ∈ Lw12 := by decide
theorem mw_22_Lw12 : (22 : Nat) ∈ Lw12 := by decide
theorem fw_enter {p1 : Int32} {p2 : Int32} {X : St} : pw (f_enter p1 p2 X) (fun _ Y => fq Lw12 X Y) := by
  unfold f_enter
  refine pw_eq (fun x1 ex1 => ?_)
  refine pw_ck (fun _ => ?_)
  refine pw_eq (fun X2 eX2 => ?_)
  have gX2 : fq Lw12 X X2 := by rw [eX2]; exact fq.wI (fq.rf (L := Lw12)) (show (7000 : Nat) ∈ Lw12 from mw_7000_Lw12)
  refine pw_eq (fun x3 ex3 => ?_)
  refine pw_ck (fun _ => ?_)
  refine pw_eq (fun X4 eX4 => ?_)
  have gX4 : fq Lw12 X X4 := by rw [eX4]; exact fq.wI gX2 (show (7200 : Nat) ∈ Lw12 from mw_7200_Lw12)
  refine pw_eq (fun x5 ex5 => ?_)
  refine pw_ck (fun _ => ?_)
  refine pw_eq (fun X6 eX6 => ?_)
  have gX6 : fq Lw12 X X6 := by rw [eX6]; exact fq.wI gX4 (show (7400 : Nat) ∈ Lw12 from mw_7400_Lw12)
  refine pw_eq (fun x7 ex7 => ?_)
  refine pw_eq (fun x8 ex8 => ?_)
  refine pw_ck (fun _ => ?_)
  refine pw_eq (fun X9 eX9 => ?_)
  have gX9 : fq Lw12 X X9 := by rw [eX9]; exact fq.wI gX6 (show (7600 : Nat) ∈ Lw12 from mw_7600_Lw12)
  refine pw_eq (fun x10 ex10 => ?_)
  refine pw_eq (fun x11 ex11 => ?_)
  refine pw_eq (fun X12 eX12 => ?_)
  have gX12 : fq Lw12 X X12 := by rw [eX12]; exact fq.wI gX9 (show (22 : Nat) ∈ Lw12 from mw_22_Lw12)
  exact pw_ret gX12
theorem fw_isSign {p1 : Int32} {X : St} : pw (f_isSign p1 X) (fun _ Y => fq Lw1 X Y) := by
  unfold f_isSign
  refine pw_bd (fw_isWell ) (fun x1 X2 cX2 => ?_)
  have gX2 := (fq.rf (L := Lw1)).tr cX2 sw_Lw1_Lw1
  refine pw_ite (fun _ => ?_) (fun _ => ?_)
  · exact pw_ret gX2
  · refine pw_eq (fun x3 ex3 => ?_)
    refine pw_ite (fun _ => ?_) (fun _ => ?_)
    · refine pw_eq (fun y4 ey4 => ?_)
      refine pw_eq (fun y5 ey5 => ?_)
      refine pw_eq (fun x6 ex6 => ?_)
      refine pw_ite (fun _ => ?_) (fun _ => ?_)
      · exact pw_ret gX2
      · exact pw_ret gX2
    · exact pw_ret gX2
def Lw13 : List Nat := [5, 6, 7, 8, 9, 10, 47]
theorem sw_Lw1_Lw13 : ∀ k ∈ Lw1, k ∈ Lw13 := by decide
theorem sw_Lw0_Lw13 : ∀ k ∈ Lw0, k ∈ Lw13 := by decide
theorem sw_Lw11_Lw13 : ∀ k ∈ Lw11, k ∈ Lw13 := by decide
theorem fw_takes {p1 : Int32} {X : St} : pw (f_takes p1 X) (fun _ Y => fq Lw13 X Y) := by
  unfold f_takes
  refine pw_bd (fw_isSign ) (fun x1 X2 cX2 => ?_)
  have gX2 := (fq.rf (L := Lw13)).tr cX2 sw_Lw1_Lw13
  refine pw_ite (fun _ => ?_) (fun _ => ?_)
  · refine pw_bd (fw_stray ) (fun _ X3 cX3 => ?_)
    have gX3 := gX2.tr cX3 sw_Lw0_Lw13
    exact pw_ret gX3
  · refine pw_bd (fw_next ) (fun _ X4 cX4 => ?_)
    have gX4 := gX2.tr cX4 sw_Lw11_Lw13
    exact pw_ret gX4
def Lw14 : List Nat := [5, 6, 7, 8, 9, 10, 22, 47, 7000, 7200, 7400, 7600]
theorem sw_Lw13_Lw14 : ∀ k ∈ Lw13, k ∈ Lw14 := by decide
theorem sw_Lw12_Lw14 : ∀ k ∈ Lw12, k ∈ Lw14 := by decide
theorem fw_beginsLet_91 {a1 : Int32} {X : St} : pw (f_beginsLet_91 a1 X) (fun _ Y => fq Lw14 X Y) := by
  unfold f_beginsLet_91
  refine pw_bd (fw_takes ) (fun _ X16 cX16 => ?_)
  have gX16 := (fq.rf (L := Lw14)).tr cX16 sw_Lw13_Lw14
  refine pw_bd (fw_enter ) (fun _ X17 cX17 => ?_)
  have gX17 := gX16.tr cX17 sw_Lw12_Lw14
  exact pw_ret gX17
theorem fw_kind_346 {a2 : Int32} {X : St} : pw (f_kind_346 a2 X) (fun _ Y => fq Lw1 X Y) := by
  unfold f_kind_346
  refine pw_ite (fun _ => ?_) (fun _ => ?_)
  · exact pw_ret (fq.rf (L := Lw1))
  · exact pw_ret (fq.rf (L := Lw1))
def Lw15 : List Nat := [5, 6, 7, 8, 9, 10, 21, 47]
theorem sw_Lw13_Lw15 : ∀ k ∈ Lw13, k ∈ Lw15 := by decide
theorem mw_21_Lw15 : (21 : Nat) ∈ Lw15 := by decide
theorem fw_closes {p1 : Int32} {X : St} : pw (f_closes p1 X) (fun _ Y => fq Lw15 X Y) := by
  unfold f_closes
  refine pw_bd (fw_takes ) (fun _ X1 cX1 => ?_)
  have gX1 := (fq.rf (L := Lw15)).tr cX1 sw_Lw13_Lw15
  refine pw_eq (fun x2 ex2 => ?_)
  refine pw_eq (fun x3 ex3 => ?_)
  refine pw_eq (fun X4 eX4 => ?_)
  have gX4 : fq Lw15 X X4 := by rw [eX4]; exact fq.wI gX1 (show (21 : Nat) ∈ Lw15 from mw_21_Lw15)
  exact pw_ret gX4
def Lw16 : List Nat := [5, 6, 7, 8, 9, 10, 13, 15, 17, 21, 47, 800, 1000, 1200, 1400, 1600, 1800, 2000, 6600, 6800]
theorem sw_Lw16_Lw16 : ∀ k ∈ Lw16, k ∈ Lw16 := by exact fun _ h => h
theorem fw_kind_343 {r11 : Int32 → Int32 → Int32 → St → Option (Int32 × St)} (hr11 : ∀ (q0 : Int32) (q1 : Int32) (q2 : Int32) (X : St), pw (r11 q0 q1 q2 X) (fun _ Y => fq Lw16 X Y)) {a1 : Int32} {a2 : Int32} {a3 : Int32} {X : St} : pw (f_kind_343 r11 a1 a2 a3 X) (fun _ Y => fq Lw16 X Y) := by
  unfold f_kind_343
  exact pw_mono (hr11 _ _ _ _) (fun _ _ c => (fq.rf (L := Lw16)).tr c sw_Lw16_Lw16)
theorem fw_kind_185 {r11 : Int32 → Int32 → Int32 → St → Option (Int32 × St)} (hr11 : ∀ (q0 : Int32) (q1 : Int32) (q2 : Int32) (X : St), pw (r11 q0 q1 q2 X) (fun _ Y => fq Lw16 X Y)) {a1 : Int32} {a3 : Int32} {b0 : Int32} {X : St} : pw (f_kind_185 r11 a1 a3 b0 X) (fun _ Y => fq Lw16 X Y) := by
  unfold f_kind_185
  refine pw_eq (fun x41 ex41 => ?_)
  exact pw_mono (fw_kind_343 hr11) (fun _ _ c => (fq.rf (L := Lw16)).tr c sw_Lw16_Lw16)
def Lw17 : List Nat := [15, 1400, 1600, 1800]
theorem sw_Lw17_Lw17 : ∀ k ∈ Lw17, k ∈ Lw17 := by exact fun _ h => h
theorem fw_kindOf_315 {r212 : Int32 → Int32 → Int32 → Int32 → Int32 → Int32 → St → Option (Int32 × St)} (hr212 : ∀ (q0 : Int32) (q1 : Int32) (q2 : Int32) (q3 : Int32) (q4 : Int32) (q5 : Int32) (X : St), pw (r212 q0 q1 q2 q3 q4 q5 X) (fun _ Y => fq Lw17 X Y)) {a1 : Int32} {a2 : Int32} {a3 : Int32} {a4 : Int32} {a6 : Int32} {b0 : Int32} {X : St} : pw (f_kindOf_315 r212 a1 a2 a3 a4 a6 b0 X) (fun _ Y => fq Lw17 X Y) := by
  unfold f_kindOf_315
  refine pw_eq (fun x21 ex21 => ?_)
  exact pw_mono (hr212 _ _ _ _ _ _ _) (fun _ _ c => (fq.rf (L := Lw17)).tr c sw_Lw17_Lw17)
theorem mw_1600_Lw17 : (1600 : Nat) ∈ Lw17 := by decide
theorem fw_kindOf_284 {r212 : Int32 → Int32 → Int32 → Int32 → Int32 → Int32 → St → Option (Int32 × St)} (hr212 : ∀ (q0 : Int32) (q1 : Int32) (q2 : Int32) (q3 : Int32) (q4 : Int32) (q5 : Int32) (X : St), pw (r212 q0 q1 q2 q3 q4 q5 X) (fun _ Y => fq Lw17 X Y)) {a1 : Int32} {a2 : Int32} {a3 : Int32} {a4 : Int32} {a5 : Int32} {a6 : Int32} {b0 : Int32} {b1 : Int32} {X : St} : pw (f_kindOf_284 r212 a1 a2 a3 a4 a5 a6 b0 b1 X) (fun _ Y => fq Lw17 X Y) := by
  unfold f_kindOf_284
  refine pw_ck (fun _ => ?_)
  refine pw_eq (fun X20 eX20 => ?_)
  have gX20 : fq Lw17 X X20 := by rw [eX20]; exact fq.wI (fq.rf (L := Lw17)) (show (1600 : Nat) ∈ Lw17 from mw_1600_Lw17)
  refine pw_ite (fun _ => ?_) (fun _ => ?_)
  · refine pw_eq (fun x22 ex22 => ?_)
    refine pw_eq (fun x23 ex23 => ?_)
    refine pw_ck (fun _ => ?_)
    refine pw_eq (fun x24 ex24 => ?_)
    refine pw_ck (fun _ => ?_)
    refine pw_eq (fun x25 ex25 => ?_)
    refine pw_eq (fun x26 ex26 => ?_)
    exact pw_mono (fw_kindOf_315 hr212) (fun _ _ c => gX20.tr c sw_Lw17_Lw17)
  · exact pw_mono (fw_kindOf_315 hr212) (fun _ _ c => gX20.tr c sw_Lw17_Lw17)
theorem fw_kindOf_279 {r212 : Int32 → Int32 → Int32 → Int32 → Int32 → Int32 → St → Option (Int32 × St)} (hr212 : ∀ (q0 : Int32) (q1 : Int32) (q2 : Int32) (q3 : Int32) (q4 : Int32) (q5 : Int32) (X : St), pw (r212 q0 q1 q2 q3 q4 q5 X) (fun _ Y => fq Lw17 X Y)) {a1 : Int32} {a2 : Int32} {a3 : Int32} {a4 : Int32} {a5 : Int32} {a6 : Int32} {b0 : Int32} {X : St} : pw (f_kindOf_279 r212 a1 a2 a3 a4 a5 a6 b0 X) (fun _ Y => fq Lw17 X Y) := by
  unfold f_kindOf_279
  exact pw_mono (fw_kindOf_284 hr212) (fun _ _ c => (fq.rf (L := Lw17)).tr c sw_Lw17_Lw17)
theorem mw_1400_Lw17 : (1400 : Nat) ∈ Lw17 := by decide
theorem mw_1800_Lw17 : (1800 : Nat) ∈ Lw17 := by decide
theorem mw_15_Lw17 : (15 : Nat) ∈ Lw17 := by decide
theorem fw_kindOf_212 (N : Nat) : ∀ (a1 : Int32) (a2 : Int32) (a3 : Int32) (a4 : Int32) (a5 : Int32) (a6 : Int32) (X : St), pw (f_kindOf_212 N a1 a2 a3 a4 a5 a6 X) (fun _ Y => fq Lw17 X Y) := by
  unfold f_kindOf_212
  refine lp_ind (P := fun (r : Int32 → Int32 → Int32 → Int32 → Int32 → Int32 → St → Option (Int32 × St)) => ∀ (a1 : Int32) (a2 : Int32) (a3 : Int32) (a4 : Int32) (a5 : Int32) (a6 : Int32) (X : St), pw (r a1 a2 a3 a4 a5 a6 X) (fun _ Y => fq Lw17 X Y)) (fun _ _ _ _ _ _ _ => pw_none) (fun r ih a1 a2 a3 a4 a5 a6 X => ?_) N
  unfold f_kindOf_212_s
  refine pw_ite (fun _ => ?_) (fun _ => ?_)
  · refine pw_ck (fun _ => ?_)
    refine pw_eq (fun X11 eX11 => ?_)
    have gX11 : fq Lw17 X X11 := by rw [eX11]; exact fq.wI (fq.rf (L := Lw17)) (show (1400 : Nat) ∈ Lw17 from mw_1400_Lw17)
    exact pw_ret gX11
  · refine pw_eq (fun x12 ex12 => ?_)
    refine pw_eq (fun x13 ex13 => ?_)
    refine pw_ck (fun _ => ?_)
    refine pw_eq (fun x14 ex14 => ?_)
    refine pw_ck (fun _ => ?_)
    refine pw_eq (fun X15 eX15 => ?_)
    have gX15 : fq Lw17 X X15 := by rw [eX15]; exact fq.wI (fq.rf (L := Lw17)) (show (1800 : Nat) ∈ Lw17 from mw_1800_Lw17)
    refine pw_eq (fun x16 ex16 => ?_)
    refine pw_eq (fun x17 ex17 => ?_)
    refine pw_eq (fun X18 eX18 => ?_)
    have gX18 : fq Lw17 X X18 := by rw [eX18]; exact fq.wI gX15 (show (15 : Nat) ∈ Lw17 from mw_15_Lw17)
    refine pw_ck (fun _ => ?_)
    refine pw_eq (fun x19 ex19 => ?_)
    refine pw_ite (fun _ => ?_) (fun _ => ?_)
    · refine pw_eq (fun x27 ex27 => ?_)
      refine pw_ck (fun _ => ?_)
      refine pw_eq (fun x28 ex28 => ?_)
      refine pw_ck (fun _ => ?_)
      refine pw_eq (fun x29 ex29 => ?_)
      refine pw_ite (fun _ => ?_) (fun _ => ?_)
      · exact pw_mono (fw_kindOf_284 ih) (fun _ _ c => gX18.tr c sw_Lw17_Lw17)
      · exact pw_mono (fw_kindOf_279 ih) (fun _ _ c => gX18.tr c sw_Lw17_Lw17)
    · exact pw_mono (fw_kindOf_279 ih) (fun _ _ c => gX18.tr c sw_Lw17_Lw17)
theorem fw_kindOf_207 {a1 : Int32} {a2 : Int32} {a3 : Int32} {a4 : Int32} {b0 : Int32} {X : St} : pw (f_kindOf_207 a1 a2 a3 a4 b0 X) (fun _ Y => fq Lw17 X Y) := by
  unfold f_kindOf_207
  exact pw_mono (fw_kindOf_212 _ _ _ _ _ _ _ _) (fun _ _ c => (fq.rf (L := Lw17)).tr c sw_Lw17_Lw17)
theorem fw_kindOf_168 {a1 : Int32} {a2 : Int32} {a3 : Int32} {a4 : Int32} {b0 : Int32} {b1 : Int32} {X : St} : pw (f_kindOf_168 a1 a2 a3 a4 b0 b1 X) (fun _ Y => fq Lw17 X Y) := by
  unfold f_kindOf_168
  refine pw_ck (fun _ => ?_)
  refine pw_eq (fun X10 eX10 => ?_)
  have gX10 : fq Lw17 X X10 := by rw [eX10]; exact fq.wI (fq.rf (L := Lw17)) (show (1600 : Nat) ∈ Lw17 from mw_1600_Lw17)
  refine pw_ite (fun _ => ?_) (fun _ => ?_)
  · refine pw_ck (fun _ => ?_)
    refine pw_eq (fun x32 ex32 => ?_)
    refine pw_ck (fun _ => ?_)
    refine pw_eq (fun x33 ex33 => ?_)
    refine pw_eq (fun x34 ex34 => ?_)
    refine pw_eq (fun x35 ex35 => ?_)
    exact pw_mono (fw_kindOf_207 ) (fun _ _ c => gX10.tr c sw_Lw17_Lw17)
  · refine pw_ite (fun _ => ?_) (fun _ => ?_)
    · refine pw_eq (fun x30 ex30 => ?_)
      refine pw_eq (fun x31 ex31 => ?_)
      exact pw_mono (fw_kindOf_207 ) (fun _ _ c => gX10.tr c sw_Lw17_Lw17)
    · exact pw_mono (fw_kindOf_207 ) (fun _ _ c => gX10.tr c sw_Lw17_Lw17)
def Lw18 : List Nat := [13, 15, 800, 1000, 1200, 1400, 1600, 1800]
theorem sw_Lw18_Lw18 : ∀ k ∈ Lw18, k ∈ Lw18 := by exact fun _ h => h
theorem fw_kindOf_95 {r3 : Int32 → Int32 → Int32 → Int32 → St → Option (Int32 × St)} (hr3 : ∀ (q0 : Int32) (q1 : Int32) (q2 : Int32) (q3 : Int32) (X : St), pw (r3 q0 q1 q2 q3 X) (fun _ Y => fq Lw18 X Y)) {a1 : Int32} {a2 : Int32} {a3 : Int32} {a4 : Int32} {a5 : Int32} {X : St} : pw (f_kindOf_95 r3 a1 a2 a3 a4 a5 X) (fun _ Y => fq Lw18 X Y) := by
  unfold f_kindOf_95
  refine pw_ite (fun _ => ?_) (fun _ => ?_)
  · refine pw_eq (fun x37 ex37 => ?_)
    exact pw_mono (hr3 _ _ _ _ _) (fun _ _ c => (fq.rf (L := Lw18)).tr c sw_Lw18_Lw18)
  · exact pw_ret (fq.rf (L := Lw18))
theorem fw_kindOf_87 {r3 : Int32 → Int32 → Int32 → Int32 → St → Option (Int32 × St)} {r44 : Int32 → Int32 → Int32 → Int32 → Int32 → Int32 → St → Option (Int32 × St)} (hr3 : ∀ (q0 : Int32) (q1 : Int32) (q2 : Int32) (q3 : Int32) (X : St), pw (r3 q0 q1 q2 q3 X) (fun _ Y => fq Lw18 X Y)) (hr44 : ∀ (q0 : Int32) (q1 : Int32) (q2 : Int32) (q3 : Int32) (q4 : Int32) (q5 : Int32) (X : St), pw (r44 q0 q1 q2 q3 q4 q5 X) (fun _ Y => fq Lw18 X Y)) {a1 : Int32} {a2 : Int32} {a3 : Int32} {a4 : Int32} {a6 : Int32} {b0 : Int32} {X : St} : pw (f_kindOf_87 r3 r44 a1 a2 a3 a4 a6 b0 X) (fun _ Y => fq Lw18 X Y) := by
  unfold f_kindOf_87
  refine pw_eq (fun x43 ex43 => ?_)
  exact pw_mono (hr44 _ _ _ _ _ _ _) (fun _ _ c => (fq.rf (L := Lw18)).tr c sw_Lw18_Lw18)
theorem fw_kindOf_44 {r3 : Int32 → Int32 → Int32 → Int32 → St → Option (Int32 × St)} (hr3 : ∀ (q0 : Int32) (q1 : Int32) (q2 : Int32) (q3 : Int32) (X : St), pw (r3 q0 q1 q2 q3 X) (fun _ Y => fq Lw18 X Y)) (N : Nat) : ∀ (a1 : Int32) (a2 : Int32) (a3 : Int32) (a4 : Int32) (a5 : Int32) (a6 : Int32) (X : St), pw (f_kindOf_44 r3 N a1 a2 a3 a4 a5 a6 X) (fun _ Y => fq Lw18 X Y) := by
  unfold f_kindOf_44
  refine lp_ind (P := fun (r : Int32 → Int32 → Int32 → Int32 → Int32 → Int32 → St → Option (Int32 × St)) => ∀ (a1 : Int32) (a2 : Int32) (a3 : Int32) (a4 : Int32) (a5 : Int32) (a6 : Int32) (X : St), pw (r a1 a2 a3 a4 a5 a6 X) (fun _ Y => fq Lw18 X Y)) (fun _ _ _ _ _ _ _ => pw_none) (fun r ih a1 a2 a3 a4 a5 a6 X => ?_) N
  unfold f_kindOf_44_s
  refine pw_ite (fun _ => ?_) (fun _ => ?_)
  · exact pw_mono (fw_kindOf_95 hr3) (fun _ _ c => (fq.rf (L := Lw18)).tr c sw_Lw18_Lw18)
  · refine pw_ite (fun _ => ?_) (fun _ => ?_)
    · exact pw_mono (fw_kindOf_95 hr3) (fun _ _ c => (fq.rf (L := Lw18)).tr c sw_Lw18_Lw18)
    · refine pw_ck (fun _ => ?_)
      refine pw_eq (fun x38 ex38 => ?_)
      refine pw_eq (fun x39 ex39 => ?_)
      refine pw_ck (fun _ => ?_)
      refine pw_eq (fun x40 ex40 => ?_)
      refine pw_eq (fun x41 ex41 => ?_)
      refine pw_ck (fun _ => ?_)
      refine pw_eq (fun x42 ex42 => ?_)
      refine pw_ite (fun _ => ?_) (fun _ => ?_)
      · exact pw_mono (fw_kindOf_87 hr3 ih) (fun _ _ c => (fq.rf (L := Lw18)).tr c sw_Lw18_Lw18)
      · exact pw_mono (fw_kindOf_87 hr3 ih) (fun _ _ c => (fq.rf (L := Lw18)).tr c sw_Lw18_Lw18)
theorem fw_kindOf_39 {r3 : Int32 → Int32 → Int32 → Int32 → St → Option (Int32 × St)} (hr3 : ∀ (q0 : Int32) (q1 : Int32) (q2 : Int32) (q3 : Int32) (X : St), pw (r3 q0 q1 q2 q3 X) (fun _ Y => fq Lw18 X Y)) {a1 : Int32} {a2 : Int32} {a3 : Int32} {a4 : Int32} {b0 : Int32} {X : St} : pw (f_kindOf_39 r3 a1 a2 a3 a4 b0 X) (fun _ Y => fq Lw18 X Y) := by
  unfold f_kindOf_39
  exact pw_mono (fw_kindOf_44 hr3 _ _ _ _ _ _ _ _) (fun _ _ c => (fq.rf (L := Lw18)).tr c sw_Lw18_Lw18)
theorem fw_kindOf_38 {r3 : Int32 → Int32 → Int32 → Int32 → St → Option (Int32 × St)} (hr3 : ∀ (q0 : Int32) (q1 : Int32) (q2 : Int32) (q3 : Int32) (X : St), pw (r3 q0 q1 q2 q3 X) (fun _ Y => fq Lw18 X Y)) {a1 : Int32} {a2 : Int32} {a3 : Int32} {a4 : Int32} {X : St} : pw (f_kindOf_38 r3 a1 a2 a3 a4 X) (fun _ Y => fq Lw18 X Y) := by
  unfold f_kindOf_38
  exact pw_mono (fw_kindOf_39 hr3) (fun _ _ c => (fq.rf (L := Lw18)).tr c sw_Lw18_Lw18)
theorem mw_13_Lw18 : (13 : Nat) ∈ Lw18 := by decide
theorem mw_800_Lw18 : (800 : Nat) ∈ Lw18 := by decide
theorem mw_1000_Lw18 : (1000 : Nat) ∈ Lw18 := by decide
theorem mw_1200_Lw18 : (1200 : Nat) ∈ Lw18 := by decide
theorem sw_Lw17_Lw18 : ∀ k ∈ Lw17, k ∈ Lw18 := by decide
theorem fw_kindOf_3 (N : Nat) : ∀ (a1 : Int32) (a2 : Int32) (a3 : Int32) (a4 : Int32) (X : St), pw (f_kindOf_3 N a1 a2 a3 a4 X) (fun _ Y => fq Lw18 X Y) := by
  unfold f_kindOf_3
  refine lp_ind (P := fun (r : Int32 → Int32 → Int32 → Int32 → St → Option (Int32 × St)) => ∀ (a1 : Int32) (a2 : Int32) (a3 : Int32) (a4 : Int32) (X : St), pw (r a1 a2 a3 a4 X) (fun _ Y => fq Lw18 X Y)) (fun _ _ _ _ _ => pw_none) (fun r ih a1 a2 a3 a4 X => ?_) N
  unfold f_kindOf_3_s
  refine pw_eq (fun x1 ex1 => ?_)
  refine pw_ite (fun _ => ?_) (fun _ => ?_)
  · refine pw_eq (fun x2 ex2 => ?_)
    refine pw_eq (fun x3 ex3 => ?_)
    refine pw_eq (fun x4 ex4 => ?_)
    refine pw_eq (fun X5 eX5 => ?_)
    have gX5 : fq Lw18 X X5 := by rw [eX5]; exact fq.wI (fq.rf (L := Lw18)) (show (13 : Nat) ∈ Lw18 from mw_13_Lw18)
    refine pw_ck (fun _ => ?_)
    refine pw_eq (fun X6 eX6 => ?_)
    have gX6 : fq Lw18 X X6 := by rw [eX6]; exact fq.wI gX5 (show (800 : Nat) ∈ Lw18 from mw_800_Lw18)
    refine pw_ck (fun _ => ?_)
    refine pw_eq (fun X7 eX7 => ?_)
    have gX7 : fq Lw18 X X7 := by rw [eX7]; exact fq.wI gX6 (show (1000 : Nat) ∈ Lw18 from mw_1000_Lw18)
    refine pw_eq (fun x8 ex8 => ?_)
    refine pw_ck (fun _ => ?_)
    refine pw_eq (fun X9 eX9 => ?_)
    have gX9 : fq Lw18 X X9 := by rw [eX9]; exact fq.wI gX7 (show (1200 : Nat) ∈ Lw18 from mw_1200_Lw18)
    refine pw_ite (fun _ => ?_) (fun _ => ?_)
    · exact pw_mono (fw_kindOf_168 ) (fun _ _ c => gX9.tr c sw_Lw17_Lw18)
    · exact pw_mono (fw_kindOf_168 ) (fun _ _ c => gX9.tr c sw_Lw17_Lw18)
  · refine pw_ck (fun _ => ?_)
    refine pw_eq (fun x36 ex36 => ?_)
    refine pw_ite (fun _ => ?_) (fun _ => ?_)
    · refine pw_ck (fun _ => ?_)
      refine pw_eq (fun x44 ex44 => ?_)
      refine pw_ite (fun _ => ?_) (fun _ => ?_)
      · exact pw_mono (fw_kindOf_39 ih) (fun _ _ c => (fq.rf (L := Lw18)).tr c sw_Lw18_Lw18)
      · exact pw_mono (fw_kindOf_38 ih) (fun _ _ c => (fq.rf (L := Lw18)).tr c sw_Lw18_Lw18)
    · exact pw_mono (fw_kindOf_38 ih) (fun _ _ c => (fq.rf (L := Lw18)).tr c sw_Lw18_Lw18)
theorem fw_kindOf {p1 : Int32} {p2 : Int32} {p3 : Int32} {X : St} : pw (f_kindOf p1 p2 p3 X) (fun _ Y => fq Lw18 X Y) := by
  unfold f_kindOf
  exact pw_mono (fw_kindOf_3 _ _ _ _ _ _) (fun _ _ c => (fq.rf (L := Lw18)).tr c sw_Lw18_Lw18)
def Lw19 : List Nat := [13, 15, 800, 1000, 1200, 1400, 1600, 1800, 2000]
theorem mw_2000_Lw19 : (2000 : Nat) ∈ Lw19 := by decide
theorem sw_Lw18_Lw19 : ∀ k ∈ Lw18, k ∈ Lw19 := by decide
theorem fw_rowOf {p1 : Int32} {X : St} : pw (f_rowOf p1 X) (fun _ Y => fq Lw19 X Y) := by
  unfold f_rowOf
  refine pw_ck (fun _ => ?_)
  refine pw_eq (fun X1 eX1 => ?_)
  have gX1 : fq Lw19 X X1 := by rw [eX1]; exact fq.wI (fq.rf (L := Lw19)) (show (2000 : Nat) ∈ Lw19 from mw_2000_Lw19)
  refine pw_bd (fw_kindOf ) (fun x2 X3 cX3 => ?_)
  have gX3 := gX1.tr cX3 sw_Lw18_Lw19
  exact pw_ret gX3
theorem fw_fifth_50 {a1 : Int32} {b0 : Int32} {X : St} : pw (f_fifth_50 a1 b0 X) (fun _ Y => fq Lw0 X Y) := by
  unfold f_fifth_50
  refine pw_ite (fun _ => ?_) (fun _ => ?_)
  · refine pw_ite (fun _ => ?_) (fun _ => ?_)
    · exact pw_ret (fq.rf (L := Lw0))
    · refine pw_eq (fun x3 ex3 => ?_)
      refine pw_bd (fw_fails ) (fun _ X4 cX4 => ?_)
      have gX4 := (fq.rf (L := Lw0)).tr cX4 sw_Lw0_Lw0
      exact pw_ret gX4
  · exact pw_ret (fq.rf (L := Lw0))
theorem fw_fifth_45 {a1 : Int32} {X : St} : pw (f_fifth_45 a1 X) (fun _ Y => fq Lw0 X Y) := by
  unfold f_fifth_45
  exact pw_mono (fw_fifth_50 ) (fun _ _ c => (fq.rf (L := Lw0)).tr c sw_Lw0_Lw0)
theorem sw_Lw1_Lw0 : ∀ k ∈ Lw1, k ∈ Lw0 := by decide
theorem fw_fifth {p1 : Int32} {X : St} : pw (f_fifth p1 X) (fun _ Y => fq Lw0 X Y) := by
  unfold f_fifth
  refine pw_bd (fw_isSign ) (fun x1 X2 cX2 => ?_)
  have gX2 := (fq.rf (L := Lw0)).tr cX2 sw_Lw1_Lw0
  refine pw_ite (fun _ => ?_) (fun _ => ?_)
  · refine pw_bd (fw_isWord ) (fun x5 X6 cX6 => ?_)
    have gX6 := gX2.tr cX6 sw_Lw1_Lw0
    refine pw_ite (fun _ => ?_) (fun _ => ?_)
    · refine pw_bd (fw_isWord ) (fun x7 X8 cX8 => ?_)
      have gX8 := gX6.tr cX8 sw_Lw1_Lw0
      refine pw_ite (fun _ => ?_) (fun _ => ?_)
      · refine pw_bd (fw_isWord ) (fun x9 X10 cX10 => ?_)
        have gX10 := gX8.tr cX10 sw_Lw1_Lw0
        refine pw_ite (fun _ => ?_) (fun _ => ?_)
        · refine pw_bd (fw_isWord ) (fun x11 X12 cX12 => ?_)
          have gX12 := gX10.tr cX12 sw_Lw1_Lw0
          refine pw_ite (fun _ => ?_) (fun _ => ?_)
          · exact pw_mono (fw_fifth_50 ) (fun _ _ c => gX12.tr c sw_Lw0_Lw0)
          · exact pw_mono (fw_fifth_45 ) (fun _ _ c => gX12.tr c sw_Lw0_Lw0)
        · exact pw_mono (fw_fifth_45 ) (fun _ _ c => gX10.tr c sw_Lw0_Lw0)
      · exact pw_mono (fw_fifth_45 ) (fun _ _ c => gX8.tr c sw_Lw0_Lw0)
    · exact pw_mono (fw_fifth_45 ) (fun _ _ c => gX6.tr c sw_Lw0_Lw0)
  · exact pw_mono (fw_fifth_45 ) (fun _ _ c => gX2.tr c sw_Lw0_Lw0)
theorem fw_plainKind_40 {b0 : Int32} {X : St} : pw (f_plainKind_40 b0 X) (fun _ Y => fq Lw13 X Y) := by
  unfold f_plainKind_40
  refine pw_ite (fun _ => ?_) (fun _ => ?_)
  · refine pw_bd (fw_next ) (fun _ X7 cX7 => ?_)
    have gX7 := (fq.rf (L := Lw13)).tr cX7 sw_Lw11_Lw13
    exact pw_ret gX7
  · refine pw_bd (fw_stray ) (fun _ X8 cX8 => ?_)
    have gX8 := (fq.rf (L := Lw13)).tr cX8 sw_Lw0_Lw13
    exact pw_ret gX8
theorem sw_Lw13_Lw13 : ∀ k ∈ Lw13, k ∈ Lw13 := by exact fun _ h => h
theorem fw_plainKind {X : St} : pw (f_plainKind X) (fun _ Y => fq Lw13 X Y) := by
  unfold f_plainKind
  refine pw_bd (fw_isWord ) (fun x1 X2 cX2 => ?_)
  have gX2 := (fq.rf (L := Lw13)).tr cX2 sw_Lw1_Lw13
  refine pw_ite (fun _ => ?_) (fun _ => ?_)
  · refine pw_bd (fw_isWord ) (fun x3 X4 cX4 => ?_)
    have gX4 := gX2.tr cX4 sw_Lw1_Lw13
    refine pw_ite (fun _ => ?_) (fun _ => ?_)
    · refine pw_bd (fw_isWord ) (fun x5 X6 cX6 => ?_)
      have gX6 := gX4.tr cX6 sw_Lw1_Lw13
      refine pw_ite (fun _ => ?_) (fun _ => ?_)
      · exact pw_mono (fw_plainKind_40 ) (fun _ _ c => gX6.tr c sw_Lw13_Lw13)
      · exact pw_mono (fw_plainKind_40 ) (fun _ _ c => gX6.tr c sw_Lw13_Lw13)
    · exact pw_mono (fw_plainKind_40 ) (fun _ _ c => gX4.tr c sw_Lw13_Lw13)
  · exact pw_mono (fw_plainKind_40 ) (fun _ _ c => gX2.tr c sw_Lw13_Lw13)
theorem mw_6600_Lw16 : (6600 : Nat) ∈ Lw16 := by decide
theorem mw_6800_Lw16 : (6800 : Nat) ∈ Lw16 := by decide
theorem sw_Lw1_Lw16 : ∀ k ∈ Lw1, k ∈ Lw16 := by decide
theorem sw_Lw15_Lw16 : ∀ k ∈ Lw15, k ∈ Lw16 := by decide
theorem fw_kind_84 {r11 : Int32 → Int32 → Int32 → St → Option (Int32 × St)} (hr11 : ∀ (q0 : Int32) (q1 : Int32) (q2 : Int32) (X : St), pw (r11 q0 q1 q2 X) (fun _ Y => fq Lw16 X Y)) {a1 : Int32} {a2 : Int32} {a3 : Int32} {X : St} : pw (f_kind_84 r11 a1 a2 a3 X) (fun _ Y => fq Lw16 X Y) := by
  unfold f_kind_84
  refine pw_ck (fun _ => ?_)
  refine pw_eq (fun X53 eX53 => ?_)
  have gX53 : fq Lw16 X X53 := by rw [eX53]; exact fq.wI (fq.rf (L := Lw16)) (show (6600 : Nat) ∈ Lw16 from mw_6600_Lw16)
  refine pw_eq (fun x54 ex54 => ?_)
  refine pw_ck (fun _ => ?_)
  refine pw_eq (fun X55 eX55 => ?_)
  have gX55 : fq Lw16 X X55 := by rw [eX55]; exact fq.wI gX53 (show (6800 : Nat) ∈ Lw16 from mw_6800_Lw16)
  refine pw_eq (fun x56 ex56 => ?_)
  refine pw_bd (fw_isSign ) (fun x57 X58 cX58 => ?_)
  have gX58 := gX55.tr cX58 sw_Lw1_Lw16
  refine pw_ite (fun _ => ?_) (fun _ => ?_)
  · exact pw_mono (hr11 _ _ _ _) (fun _ _ c => gX58.tr c sw_Lw16_Lw16)
  · refine pw_bd (fw_closes ) (fun _ X59 cX59 => ?_)
    have gX59 := gX58.tr cX59 sw_Lw15_Lw16
    refine pw_eq (fun x60 ex60 => ?_)
    refine pw_ck (fun _ => ?_)
    refine pw_eq (fun X61 eX61 => ?_)
    have gX61 : fq Lw16 X X61 := by rw [eX61]; exact fq.wI gX59 (show (6600 : Nat) ∈ Lw16 from mw_6600_Lw16)
    exact pw_mono (hr11 _ _ _ _) (fun _ _ c => gX61.tr c sw_Lw16_Lw16)
theorem sw_Lw1_Lw15 : ∀ k ∈ Lw1, k ∈ Lw15 := by decide
theorem sw_Lw0_Lw15 : ∀ k ∈ Lw0, k ∈ Lw15 := by decide
theorem sw_Lw4_Lw15 : ∀ k ∈ Lw4, k ∈ Lw15 := by decide
theorem sw_Lw11_Lw15 : ∀ k ∈ Lw11, k ∈ Lw15 := by decide
theorem fw_opens {p1 : Int32} {X : St} : pw (f_opens p1 X) (fun _ Y => fq Lw15 X Y) := by
  unfold f_opens
  refine pw_bd (fw_isSign ) (fun x1 X2 cX2 => ?_)
  have gX2 := (fq.rf (L := Lw15)).tr cX2 sw_Lw1_Lw15
  refine pw_ite (fun _ => ?_) (fun _ => ?_)
  · refine pw_bd (fw_stray ) (fun _ X7 cX7 => ?_)
    have gX7 := gX2.tr cX7 sw_Lw0_Lw15
    exact pw_ret gX7
  · refine pw_bd (fw_nests ) (fun _ X3 cX3 => ?_)
    have gX3 := gX2.tr cX3 sw_Lw4_Lw15
    refine pw_bd (fw_isWell ) (fun x4 X5 cX5 => ?_)
    have gX5 := gX3.tr cX5 sw_Lw1_Lw15
    refine pw_ite (fun _ => ?_) (fun _ => ?_)
    · exact pw_ret gX5
    · refine pw_bd (fw_next ) (fun _ X6 cX6 => ?_)
      have gX6 := gX5.tr cX6 sw_Lw11_Lw15
      exact pw_ret gX6
theorem sw_Lw19_Lw16 : ∀ k ∈ Lw19, k ∈ Lw16 := by decide
theorem mw_2000_Lw16 : (2000 : Nat) ∈ Lw16 := by decide
theorem mw_17_Lw16 : (17 : Nat) ∈ Lw16 := by decide
theorem sw_Lw11_Lw16 : ∀ k ∈ Lw11, k ∈ Lw16 := by decide
theorem sw_Lw0_Lw16 : ∀ k ∈ Lw0, k ∈ Lw16 := by decide
theorem mw_21_Lw16 : (21 : Nat) ∈ Lw16 := by decide
theorem sw_Lw18_Lw16 : ∀ k ∈ Lw18, k ∈ Lw16 := by decide
theorem sw_Lw13_Lw16 : ∀ k ∈ Lw13, k ∈ Lw16 := by decide
theorem sw_Lw4_Lw16 : ∀ k ∈ Lw4, k ∈ Lw16 := by decide
theorem fw_kind_11 (N : Nat) : ∀ (a1 : Int32) (a2 : Int32) (a3 : Int32) (X : St), pw (f_kind_11 N a1 a2 a3 X) (fun _ Y => fq Lw16 X Y) := by
  unfold f_kind_11
  refine lp_ind (P := fun (r : Int32 → Int32 → Int32 → St → Option (Int32 × St)) => ∀ (a1 : Int32) (a2 : Int32) (a3 : Int32) (X : St), pw (r a1 a2 a3 X) (fun _ Y => fq Lw16 X Y)) (fun _ _ _ _ => pw_none) (fun r ih a1 a2 a3 X => ?_) N
  unfold f_kind_11_s
  refine pw_bd (fw_isWell ) (fun x2 X3 cX3 => ?_)
  have gX3 := (fq.rf (L := Lw16)).tr cX3 sw_Lw1_Lw16
  refine pw_ite (fun _ => ?_) (fun _ => ?_)
  · exact pw_mono (fw_kind_346 ) (fun _ _ c => gX3.tr c sw_Lw1_Lw16)
  · refine pw_ite (fun _ => ?_) (fun _ => ?_)
    · refine pw_ite (fun _ => ?_) (fun _ => ?_)
      · refine pw_ite (fun _ => ?_) (fun _ => ?_)
        · exact pw_mono (ih _ _ _ _) (fun _ _ c => gX3.tr c sw_Lw16_Lw16)
        · refine pw_eq (fun x4 ex4 => ?_)
          refine pw_ck (fun _ => ?_)
          refine pw_eq (fun x5 ex5 => ?_)
          refine pw_ite (fun _ => ?_) (fun _ => ?_)
          · refine pw_bd (fw_closes ) (fun _ X38 cX38 => ?_)
            have gX38 := gX3.tr cX38 sw_Lw15_Lw16
            refine pw_bd (fw_isWell ) (fun x39 X40 cX40 => ?_)
            have gX40 := gX38.tr cX40 sw_Lw1_Lw16
            refine pw_ite (fun _ => ?_) (fun _ => ?_)
            · exact pw_mono (fw_kind_185 ih) (fun _ _ c => gX40.tr c sw_Lw16_Lw16)
            · refine pw_bd (fw_rowOf ) (fun x42 X43 cX43 => ?_)
              have gX43 := gX40.tr cX43 sw_Lw19_Lw16
              exact pw_mono (fw_kind_185 ih) (fun _ _ c => gX43.tr c sw_Lw16_Lw16)
          · refine pw_ck (fun _ => ?_)
            refine pw_eq (fun x6 ex6 => ?_)
            refine pw_ite (fun _ => ?_) (fun _ => ?_)
            · refine pw_eq (fun x24 ex24 => ?_)
              refine pw_ck (fun _ => ?_)
              refine pw_eq (fun X25 eX25 => ?_)
              have gX25 : fq Lw16 X X25 := by rw [eX25]; exact fq.wI gX3 (show (2000 : Nat) ∈ Lw16 from mw_2000_Lw16)
              refine pw_eq (fun x26 ex26 => ?_)
              refine pw_eq (fun x27 ex27 => ?_)
              refine pw_eq (fun X28 eX28 => ?_)
              have gX28 : fq Lw16 X X28 := by rw [eX28]; exact fq.wI gX25 (show (17 : Nat) ∈ Lw16 from mw_17_Lw16)
              refine pw_bd (fw_isSign ) (fun x29 X30 cX30 => ?_)
              have gX30 := gX28.tr cX30 sw_Lw1_Lw16
              refine pw_ite (fun _ => ?_) (fun _ => ?_)
              · refine pw_bd (fw_closes ) (fun _ X31 cX31 => ?_)
                have gX31 := gX30.tr cX31 sw_Lw15_Lw16
                refine pw_ck (fun _ => ?_)
                refine pw_eq (fun X32 eX32 => ?_)
                have gX32 : fq Lw16 X X32 := by rw [eX32]; exact fq.wI gX31 (show (6600 : Nat) ∈ Lw16 from mw_6600_Lw16)
                exact pw_mono (fw_kind_343 ih) (fun _ _ c => gX32.tr c sw_Lw16_Lw16)
              · refine pw_bd (fw_next ) (fun _ X33 cX33 => ?_)
                have gX33 := gX30.tr cX33 sw_Lw11_Lw16
                refine pw_eq (fun x34 ex34 => ?_)
                refine pw_ck (fun _ => ?_)
                refine pw_eq (fun x35 ex35 => ?_)
                refine pw_eq (fun x36 ex36 => ?_)
                refine pw_bd (fw_fifth ) (fun _ X37 cX37 => ?_)
                have gX37 := gX33.tr cX37 sw_Lw0_Lw16
                exact pw_mono (fw_kind_343 ih) (fun _ _ c => gX37.tr c sw_Lw16_Lw16)
            · refine pw_eq (fun x7 ex7 => ?_)
              refine pw_ck (fun _ => ?_)
              refine pw_eq (fun X8 eX8 => ?_)
              have gX8 : fq Lw16 X X8 := by rw [eX8]; exact fq.wI gX3 (show (2000 : Nat) ∈ Lw16 from mw_2000_Lw16)
              refine pw_eq (fun x9 ex9 => ?_)
              refine pw_eq (fun x10 ex10 => ?_)
              refine pw_eq (fun X11 eX11 => ?_)
              have gX11 : fq Lw16 X X11 := by rw [eX11]; exact fq.wI gX8 (show (17 : Nat) ∈ Lw16 from mw_17_Lw16)
              refine pw_eq (fun x12 ex12 => ?_)
              refine pw_eq (fun x13 ex13 => ?_)
              refine pw_eq (fun X14 eX14 => ?_)
              have gX14 : fq Lw16 X X14 := by rw [eX14]; exact fq.wI gX11 (show (21 : Nat) ∈ Lw16 from mw_21_Lw16)
              refine pw_ck (fun _ => ?_)
              refine pw_eq (fun x15 ex15 => ?_)
              refine pw_eq (fun x16 ex16 => ?_)
              refine pw_ck (fun _ => ?_)
              refine pw_eq (fun x17 ex17 => ?_)
              refine pw_eq (fun x18 ex18 => ?_)
              refine pw_bd (fw_kindOf ) (fun x19 X20 cX20 => ?_)
              have gX20 := gX14.tr cX20 sw_Lw18_Lw16
              refine pw_ck (fun _ => ?_)
              refine pw_eq (fun x21 ex21 => ?_)
              refine pw_eq (fun X22 eX22 => ?_)
              have gX22 : fq Lw16 X X22 := by rw [eX22]; exact fq.wI gX20 (show (17 : Nat) ∈ Lw16 from mw_17_Lw16)
              refine pw_eq (fun x23 ex23 => ?_)
              exact pw_mono (fw_kind_343 ih) (fun _ _ c => gX22.tr c sw_Lw16_Lw16)
      · refine pw_bd (fw_isSign ) (fun x44 X45 cX45 => ?_)
        have gX45 := gX3.tr cX45 sw_Lw1_Lw16
        refine pw_ite (fun _ => ?_) (fun _ => ?_)
        · refine pw_bd (fw_isWord ) (fun x46 X47 cX47 => ?_)
          have gX47 := gX45.tr cX47 sw_Lw1_Lw16
          refine pw_ite (fun _ => ?_) (fun _ => ?_)
          · refine pw_bd (fw_plainKind ) (fun x48 X49 cX49 => ?_)
            have gX49 := gX47.tr cX49 sw_Lw13_Lw16
            exact pw_mono (ih _ _ _ _) (fun _ _ c => gX49.tr c sw_Lw16_Lw16)
          · refine pw_bd (fw_nests ) (fun _ X50 cX50 => ?_)
            have gX50 := gX47.tr cX50 sw_Lw4_Lw16
            refine pw_bd (fw_isWell ) (fun x51 X52 cX52 => ?_)
            have gX52 := gX50.tr cX52 sw_Lw1_Lw16
            refine pw_ite (fun _ => ?_) (fun _ => ?_)
            · exact pw_mono (fw_kind_84 ih) (fun _ _ c => gX52.tr c sw_Lw16_Lw16)
            · refine pw_bd (fw_next ) (fun _ X62 cX62 => ?_)
              have gX62 := gX52.tr cX62 sw_Lw11_Lw16
              refine pw_bd (fw_opens ) (fun _ X63 cX63 => ?_)
              have gX63 := gX62.tr cX63 sw_Lw15_Lw16
              exact pw_mono (fw_kind_84 ih) (fun _ _ c => gX63.tr c sw_Lw16_Lw16)
        · refine pw_bd (fw_opens ) (fun _ X64 cX64 => ?_)
          have gX64 := gX45.tr cX64 sw_Lw15_Lw16
          refine pw_ck (fun _ => ?_)
          refine pw_eq (fun X65 eX65 => ?_)
          have gX65 : fq Lw16 X X65 := by rw [eX65]; exact fq.wI gX64 (show (6600 : Nat) ∈ Lw16 from mw_6600_Lw16)
          refine pw_eq (fun x66 ex66 => ?_)
          exact pw_mono (ih _ _ _ _) (fun _ _ c => gX65.tr c sw_Lw16_Lw16)
    · exact pw_mono (fw_kind_346 ) (fun _ _ c => gX3.tr c sw_Lw1_Lw16)
theorem fw_kind {X : St} : pw (f_kind X) (fun _ Y => fq Lw16 X Y) := by
  unfold f_kind
  refine pw_eq (fun X1 eX1 => ?_)
  have gX1 : fq Lw16 X X1 := by rw [eX1]; exact fq.wI (fq.rf (L := Lw16)) (show (17 : Nat) ∈ Lw16 from mw_17_Lw16)
  exact pw_mono (fw_kind_11 _ _ _ _ _) (fun _ _ c => gX1.tr c sw_Lw16_Lw16)
def Lw20 : List Nat := [5, 6, 7, 8, 9, 10, 13, 15, 17, 19, 21, 22, 47, 800, 1000, 1200, 1400, 1600, 1800, 2000, 4000, 4200, 4400, 4600, 4800, 5000, 5200, 5400, 5600, 5800, 6600, 6800, 7000, 7200, 7400, 7600, 7800]
theorem sw_Lw2_Lw20 : ∀ k ∈ Lw2, k ∈ Lw20 := by decide
theorem sw_Lw4_Lw20 : ∀ k ∈ Lw4, k ∈ Lw20 := by decide
theorem sw_Lw1_Lw20 : ∀ k ∈ Lw1, k ∈ Lw20 := by decide
theorem sw_Lw11_Lw20 : ∀ k ∈ Lw11, k ∈ Lw20 := by decide
theorem mw_5800_Lw20 : (5800 : Nat) ∈ Lw20 := by decide
theorem mw_4800_Lw20 : (4800 : Nat) ∈ Lw20 := by decide
theorem mw_5000_Lw20 : (5000 : Nat) ∈ Lw20 := by decide
theorem sw_Lw14_Lw20 : ∀ k ∈ Lw14, k ∈ Lw20 := by decide
theorem sw_Lw16_Lw20 : ∀ k ∈ Lw16, k ∈ Lw20 := by decide
theorem sw_Lw0_Lw20 : ∀ k ∈ Lw0, k ∈ Lw20 := by decide
theorem fw_beginsLet {X : St} : pw (f_beginsLet X) (fun _ Y => fq Lw20 X Y) := by
  unfold f_beginsLet
  refine pw_eq (fun x1 ex1 => ?_)
  refine pw_bd (fw_make ) (fun x2 X3 cX3 => ?_)
  have gX3 := (fq.rf (L := Lw20)).tr cX3 sw_Lw2_Lw20
  refine pw_bd (fw_nests ) (fun _ X4 cX4 => ?_)
  have gX4 := gX3.tr cX4 sw_Lw4_Lw20
  refine pw_bd (fw_isWell ) (fun x5 X6 cX6 => ?_)
  have gX6 := gX4.tr cX6 sw_Lw1_Lw20
  refine pw_ite (fun _ => ?_) (fun _ => ?_)
  · exact pw_ret gX6
  · refine pw_bd (fw_next ) (fun _ X7 cX7 => ?_)
    have gX7 := gX6.tr cX7 sw_Lw11_Lw20
    refine pw_eq (fun x8 ex8 => ?_)
    refine pw_ite (fun _ => ?_) (fun _ => ?_)
    · refine pw_eq (fun y9 ey9 => ?_)
      refine pw_ck (fun _ => ?_)
      refine pw_eq (fun X10 eX10 => ?_)
      have gX10 : fq Lw20 X X10 := by rw [eX10]; exact fq.wL gX7 (show (5800 : Nat) ∈ Lw20 from mw_5800_Lw20)
      refine pw_bd (fw_next ) (fun _ X11 cX11 => ?_)
      have gX11 := gX10.tr cX11 sw_Lw11_Lw20
      refine pw_ck (fun _ => ?_)
      refine pw_eq (fun X12 eX12 => ?_)
      have gX12 : fq Lw20 X X12 := by rw [eX12]; exact fq.wI gX11 (show (4800 : Nat) ∈ Lw20 from mw_4800_Lw20)
      refine pw_ck (fun _ => ?_)
      refine pw_eq (fun X13 eX13 => ?_)
      have gX13 : fq Lw20 X X13 := by rw [eX13]; exact fq.wI gX12 (show (5000 : Nat) ∈ Lw20 from mw_5000_Lw20)
      refine pw_bd (fw_isSign ) (fun x14 X15 cX15 => ?_)
      have gX15 := gX13.tr cX15 sw_Lw1_Lw20
      refine pw_ite (fun _ => ?_) (fun _ => ?_)
      · exact pw_mono (fw_beginsLet_91 ) (fun _ _ c => gX15.tr c sw_Lw14_Lw20)
      · refine pw_bd (fw_next ) (fun _ X18 cX18 => ?_)
        have gX18 := gX15.tr cX18 sw_Lw11_Lw20
        refine pw_bd (fw_kind ) (fun x19 X20 cX20 => ?_)
        have gX20 := gX18.tr cX20 sw_Lw16_Lw20
        refine pw_ck (fun _ => ?_)
        refine pw_eq (fun X21 eX21 => ?_)
        have gX21 : fq Lw20 X X21 := by rw [eX21]; exact fq.wI gX20 (show (5000 : Nat) ∈ Lw20 from mw_5000_Lw20)
        exact pw_mono (fw_beginsLet_91 ) (fun _ _ c => gX21.tr c sw_Lw14_Lw20)
    · refine pw_bd (fw_stray ) (fun _ X22 cX22 => ?_)
      have gX22 := gX7.tr cX22 sw_Lw0_Lw20
      exact pw_ret gX22
def Lw21 : List Nat := [5, 6, 7, 8, 9, 10, 13, 15, 17, 19, 21, 22, 23, 47, 800, 1000, 1200, 1400, 1600, 1800, 2000, 4000, 4200, 4400, 4600, 4800, 5000, 5200, 5400, 5600, 5800, 6600, 6800, 7000, 7200, 7400, 7600, 7800]
theorem sw_Lw1_Lw21 : ∀ k ∈ Lw1, k ∈ Lw21 := by decide
theorem sw_Lw0_Lw21 : ∀ k ∈ Lw0, k ∈ Lw21 := by decide
theorem mw_23_Lw21 : (23 : Nat) ∈ Lw21 := by decide
theorem sw_Lw2_Lw21 : ∀ k ∈ Lw2, k ∈ Lw21 := by decide
theorem sw_Lw4_Lw21 : ∀ k ∈ Lw4, k ∈ Lw21 := by decide
theorem sw_Lw11_Lw21 : ∀ k ∈ Lw11, k ∈ Lw21 := by decide
theorem sw_Lw12_Lw21 : ∀ k ∈ Lw12, k ∈ Lw21 := by decide
theorem sw_Lw20_Lw21 : ∀ k ∈ Lw20, k ∈ Lw21 := by decide
theorem fw_begins_65 {b0 : Int32} {X : St} : pw (f_begins_65 b0 X) (fun _ Y => fq Lw21 X Y) := by
  unfold f_begins_65
  refine pw_bd (fw_isBeginning ) (fun x5 X6 cX6 => ?_)
  have gX6 := (fq.rf (L := Lw21)).tr cX6 sw_Lw1_Lw21
  refine pw_ite (fun _ => ?_) (fun _ => ?_)
  · refine pw_bd (fw_stray ) (fun _ X21 cX21 => ?_)
    have gX21 := gX6.tr cX21 sw_Lw0_Lw21
    exact pw_ret gX21
  · refine pw_ite (fun _ => ?_) (fun _ => ?_)
    · refine pw_bd (fw_isWord ) (fun x7 X8 cX8 => ?_)
      have gX8 := gX6.tr cX8 sw_Lw1_Lw21
      refine pw_ite (fun _ => ?_) (fun _ => ?_)
      · refine pw_bd (fw_isWord ) (fun x9 X10 cX10 => ?_)
        have gX10 := gX8.tr cX10 sw_Lw1_Lw21
        refine pw_ite (fun _ => ?_) (fun _ => ?_)
        · refine pw_eq (fun X11 eX11 => ?_)
          have gX11 : fq Lw21 X X11 := by rw [eX11]; exact fq.wI gX10 (show (23 : Nat) ∈ Lw21 from mw_23_Lw21)
          exact pw_ret gX11
        · refine pw_eq (fun x12 ex12 => ?_)
          refine pw_bd (fw_make ) (fun x13 X14 cX14 => ?_)
          have gX14 := gX10.tr cX14 sw_Lw2_Lw21
          refine pw_bd (fw_nests ) (fun _ X15 cX15 => ?_)
          have gX15 := gX14.tr cX15 sw_Lw4_Lw21
          refine pw_bd (fw_next ) (fun _ X16 cX16 => ?_)
          have gX16 := gX15.tr cX16 sw_Lw11_Lw21
          refine pw_bd (fw_enter ) (fun _ X17 cX17 => ?_)
          have gX17 := gX16.tr cX17 sw_Lw12_Lw21
          exact pw_ret gX17
      · refine pw_bd (fw_beginsLet ) (fun _ X18 cX18 => ?_)
        have gX18 := gX8.tr cX18 sw_Lw20_Lw21
        exact pw_ret gX18
    · refine pw_eq (fun x19 ex19 => ?_)
      refine pw_bd (fw_fails ) (fun _ X20 cX20 => ?_)
      have gX20 := gX6.tr cX20 sw_Lw0_Lw21
      exact pw_ret gX20
theorem sw_Lw21_Lw21 : ∀ k ∈ Lw21, k ∈ Lw21 := by exact fun _ h => h
theorem fw_begins_60 {X : St} : pw (f_begins_60 X) (fun _ Y => fq Lw21 X Y) := by
  unfold f_begins_60
  exact pw_mono (fw_begins_65 ) (fun _ _ c => (fq.rf (L := Lw21)).tr c sw_Lw21_Lw21)
theorem fw_begins_64 {X : St} : pw (f_begins_64 X) (fun _ Y => fq Lw21 X Y) := by
  unfold f_begins_64
  exact pw_mono (fw_begins_65 ) (fun _ _ c => (fq.rf (L := Lw21)).tr c sw_Lw21_Lw21)
theorem fw_begins_33 {a1 : Int32} {X : St} : pw (f_begins_33 a1 X) (fun _ Y => fq Lw21 X Y) := by
  unfold f_begins_33
  refine pw_ck (fun _ => ?_)
  refine pw_eq (fun x4 ex4 => ?_)
  refine pw_ite (fun _ => ?_) (fun _ => ?_)
  · refine pw_ck (fun _ => ?_)
    refine pw_eq (fun x22 ex22 => ?_)
    refine pw_ck (fun _ => ?_)
    refine pw_eq (fun x23 ex23 => ?_)
    refine pw_ite (fun _ => ?_) (fun _ => ?_)
    · exact pw_mono (fw_begins_60 ) (fun _ _ c => (fq.rf (L := Lw21)).tr c sw_Lw21_Lw21)
    · exact pw_mono (fw_begins_64 ) (fun _ _ c => (fq.rf (L := Lw21)).tr c sw_Lw21_Lw21)
  · exact pw_mono (fw_begins_64 ) (fun _ _ c => (fq.rf (L := Lw21)).tr c sw_Lw21_Lw21)
theorem fw_begins {X : St} : pw (f_begins X) (fun _ Y => fq Lw21 X Y) := by
  unfold f_begins
  refine pw_eq (fun x1 ex1 => ?_)
  refine pw_eq (fun x2 ex2 => ?_)
  refine pw_ck (fun _ => ?_)
  refine pw_eq (fun x3 ex3 => ?_)
  refine pw_ite (fun _ => ?_) (fun _ => ?_)
  · refine pw_ck (fun _ => ?_)
    refine pw_eq (fun x24 ex24 => ?_)
    refine pw_ck (fun _ => ?_)
    refine pw_eq (fun x25 ex25 => ?_)
    refine pw_ite (fun _ => ?_) (fun _ => ?_)
    · exact pw_mono (fw_begins_60 ) (fun _ _ c => (fq.rf (L := Lw21)).tr c sw_Lw21_Lw21)
    · exact pw_mono (fw_begins_33 ) (fun _ _ c => (fq.rf (L := Lw21)).tr c sw_Lw21_Lw21)
  · exact pw_mono (fw_begins_33 ) (fun _ _ c => (fq.rf (L := Lw21)).tr c sw_Lw21_Lw21)
def Lw22 : List Nat := [22, 23, 7000, 7200, 7400, 7600]
theorem sw_Lw1_Lw22 : ∀ k ∈ Lw1, k ∈ Lw22 := by decide
theorem sw_Lw12_Lw22 : ∀ k ∈ Lw12, k ∈ Lw22 := by decide
theorem mw_23_Lw22 : (23 : Nat) ∈ Lw22 := by decide
theorem fw_opened {p1 : Int32} {p2 : Int32} {X : St} : pw (f_opened p1 p2 X) (fun _ Y => fq Lw22 X Y) := by
  unfold f_opened
  refine pw_bd (fw_isWell ) (fun x1 X2 cX2 => ?_)
  have gX2 := (fq.rf (L := Lw22)).tr cX2 sw_Lw1_Lw22
  refine pw_ite (fun _ => ?_) (fun _ => ?_)
  · exact pw_ret gX2
  · refine pw_bd (fw_enter ) (fun _ X3 cX3 => ?_)
    have gX3 := gX2.tr cX3 sw_Lw12_Lw22
    refine pw_eq (fun X4 eX4 => ?_)
    have gX4 : fq Lw22 X X4 := by rw [eX4]; exact fq.wI gX3 (show (23 : Nat) ∈ Lw22 from mw_23_Lw22)
    exact pw_ret gX4
theorem sw_Lw22_Lw22 : ∀ k ∈ Lw22, k ∈ Lw22 := by exact fun _ h => h
theorem fw_operand_318 {a3 : Int32} {b0 : Int32} {X : St} : pw (f_operand_318 a3 b0 X) (fun _ Y => fq Lw22 X Y) := by
  unfold f_operand_318
  refine pw_bd (fw_opened ) (fun _ X40 cX40 => ?_)
  have gX40 := (fq.rf (L := Lw22)).tr cX40 sw_Lw22_Lw22
  exact pw_ret gX40
def Lw23 : List Nat := [5, 6, 7, 8, 9, 10, 19, 21, 22, 23, 47, 4000, 4200, 4400, 4600, 4800, 5000, 5200, 5400, 5600, 5800, 7000, 7200, 7400, 7600, 7800]
theorem sw_Lw2_Lw23 : ∀ k ∈ Lw2, k ∈ Lw23 := by decide
theorem sw_Lw11_Lw23 : ∀ k ∈ Lw11, k ∈ Lw23 := by decide
theorem sw_Lw15_Lw23 : ∀ k ∈ Lw15, k ∈ Lw23 := by decide
theorem sw_Lw22_Lw23 : ∀ k ∈ Lw22, k ∈ Lw23 := by decide
theorem fw_operand_289 {a1 : Int32} {a2 : Int32} {b0 : Int32} {X : St} : pw (f_operand_289 a1 a2 b0 X) (fun _ Y => fq Lw23 X Y) := by
  unfold f_operand_289
  refine pw_bd (fw_make ) (fun x36 X37 cX37 => ?_)
  have gX37 := (fq.rf (L := Lw23)).tr cX37 sw_Lw2_Lw23
  refine pw_bd (fw_next ) (fun _ X38 cX38 => ?_)
  have gX38 := gX37.tr cX38 sw_Lw11_Lw23
  refine pw_bd (fw_opens ) (fun _ X39 cX39 => ?_)
  have gX39 := gX38.tr cX39 sw_Lw15_Lw23
  refine pw_ite (fun _ => ?_) (fun _ => ?_)
  · exact pw_mono (fw_operand_318 ) (fun _ _ c => gX39.tr c sw_Lw22_Lw23)
  · exact pw_mono (fw_operand_318 ) (fun _ _ c => gX39.tr c sw_Lw22_Lw23)
theorem sw_Lw23_Lw23 : ∀ k ∈ Lw23, k ∈ Lw23 := by exact fun _ h => h
theorem fw_operand_259 {a1 : Int32} {X : St} : pw (f_operand_259 a1 X) (fun _ Y => fq Lw23 X Y) := by
  unfold f_operand_259
  refine pw_eq (fun y34 ey34 => ?_)
  refine pw_eq (fun x35 ex35 => ?_)
  refine pw_ite (fun _ => ?_) (fun _ => ?_)
  · exact pw_mono (fw_operand_289 ) (fun _ _ c => (fq.rf (L := Lw23)).tr c sw_Lw23_Lw23)
  · refine pw_ite (fun _ => ?_) (fun _ => ?_)
    · exact pw_mono (fw_operand_289 ) (fun _ _ c => (fq.rf (L := Lw23)).tr c sw_Lw23_Lw23)
    · exact pw_mono (fw_operand_289 ) (fun _ _ c => (fq.rf (L := Lw23)).tr c sw_Lw23_Lw23)
def Lw24 : List Nat := [23, 24]
theorem mw_24_Lw24 : (24 : Nat) ∈ Lw24 := by decide
theorem mw_23_Lw24 : (23 : Nat) ∈ Lw24 := by decide
theorem fw_done {p1 : Int32} {X : St} : pw (f_done p1 X) (fun _ Y => fq Lw24 X Y) := by
  unfold f_done
  refine pw_eq (fun X1 eX1 => ?_)
  have gX1 : fq Lw24 X X1 := by rw [eX1]; exact fq.wI (fq.rf (L := Lw24)) (show (24 : Nat) ∈ Lw24 from mw_24_Lw24)
  refine pw_eq (fun X2 eX2 => ?_)
  have gX2 : fq Lw24 X X2 := by rw [eX2]; exact fq.wI gX1 (show (23 : Nat) ∈ Lw24 from mw_23_Lw24)
  exact pw_ret gX2
def Lw25 : List Nat := [5, 6, 7, 8, 9, 10, 19, 21, 22, 23, 24, 47, 4000, 4200, 4400, 4600, 4800, 5000, 5200, 5400, 5600, 5800, 7000, 7200, 7400, 7600, 7800]
theorem sw_Lw1_Lw25 : ∀ k ∈ Lw1, k ∈ Lw25 := by decide
theorem sw_Lw0_Lw25 : ∀ k ∈ Lw0, k ∈ Lw25 := by decide
theorem sw_Lw2_Lw25 : ∀ k ∈ Lw2, k ∈ Lw25 := by decide
theorem sw_Lw15_Lw25 : ∀ k ∈ Lw15, k ∈ Lw25 := by decide
theorem sw_Lw22_Lw25 : ∀ k ∈ Lw22, k ∈ Lw25 := by decide
theorem sw_Lw23_Lw25 : ∀ k ∈ Lw23, k ∈ Lw25 := by decide
theorem sw_Lw24_Lw25 : ∀ k ∈ Lw24, k ∈ Lw25 := by decide
theorem fw_operand_177 {a1 : Int32} {X : St} : pw (f_operand_177 a1 X) (fun _ Y => fq Lw25 X Y) := by
  unfold f_operand_177
  refine pw_bd (fw_isSign ) (fun x30 X31 cX31 => ?_)
  have gX31 := (fq.rf (L := Lw25)).tr cX31 sw_Lw1_Lw25
  refine pw_ite (fun _ => ?_) (fun _ => ?_)
  · refine pw_bd (fw_isWord ) (fun x32 X33 cX33 => ?_)
    have gX33 := gX31.tr cX33 sw_Lw1_Lw25
    refine pw_ite (fun _ => ?_) (fun _ => ?_)
    · refine pw_bd (fw_isWord ) (fun x41 X42 cX42 => ?_)
      have gX42 := gX33.tr cX42 sw_Lw1_Lw25
      refine pw_ite (fun _ => ?_) (fun _ => ?_)
      · refine pw_bd (fw_isWord ) (fun x43 X44 cX44 => ?_)
        have gX44 := gX42.tr cX44 sw_Lw1_Lw25
        refine pw_ite (fun _ => ?_) (fun _ => ?_)
        · refine pw_bd (fw_isSign ) (fun x45 X46 cX46 => ?_)
          have gX46 := gX44.tr cX46 sw_Lw1_Lw25
          refine pw_ite (fun _ => ?_) (fun _ => ?_)
          · refine pw_bd (fw_isSign ) (fun x47 X48 cX48 => ?_)
            have gX48 := gX46.tr cX48 sw_Lw1_Lw25
            refine pw_ite (fun _ => ?_) (fun _ => ?_)
            · refine pw_bd (fw_stray ) (fun _ X49 cX49 => ?_)
              have gX49 := gX48.tr cX49 sw_Lw0_Lw25
              exact pw_ret gX49
            · refine pw_bd (fw_make ) (fun x50 X51 cX51 => ?_)
              have gX51 := gX48.tr cX51 sw_Lw2_Lw25
              refine pw_bd (fw_opens ) (fun _ X52 cX52 => ?_)
              have gX52 := gX51.tr cX52 sw_Lw15_Lw25
              refine pw_bd (fw_opened ) (fun _ X53 cX53 => ?_)
              have gX53 := gX52.tr cX53 sw_Lw22_Lw25
              exact pw_ret gX53
          · refine pw_bd (fw_make ) (fun x54 X55 cX55 => ?_)
            have gX55 := gX46.tr cX55 sw_Lw2_Lw25
            refine pw_bd (fw_opens ) (fun _ X56 cX56 => ?_)
            have gX56 := gX55.tr cX56 sw_Lw15_Lw25
            refine pw_bd (fw_opened ) (fun _ X57 cX57 => ?_)
            have gX57 := gX56.tr cX57 sw_Lw22_Lw25
            exact pw_ret gX57
        · exact pw_mono (fw_operand_259 ) (fun _ _ c => gX44.tr c sw_Lw23_Lw25)
      · exact pw_mono (fw_operand_259 ) (fun _ _ c => gX42.tr c sw_Lw23_Lw25)
    · exact pw_mono (fw_operand_259 ) (fun _ _ c => gX33.tr c sw_Lw23_Lw25)
  · refine pw_bd (fw_make ) (fun x58 X59 cX59 => ?_)
    have gX59 := gX31.tr cX59 sw_Lw2_Lw25
    refine pw_bd (fw_opens ) (fun _ X60 cX60 => ?_)
    have gX60 := gX59.tr cX60 sw_Lw15_Lw25
    refine pw_bd (fw_isSign ) (fun x61 X62 cX62 => ?_)
    have gX62 := gX60.tr cX62 sw_Lw1_Lw25
    refine pw_ite (fun _ => ?_) (fun _ => ?_)
    · refine pw_bd (fw_opened ) (fun _ X63 cX63 => ?_)
      have gX63 := gX62.tr cX63 sw_Lw22_Lw25
      exact pw_ret gX63
    · refine pw_bd (fw_closes ) (fun _ X64 cX64 => ?_)
      have gX64 := gX62.tr cX64 sw_Lw15_Lw25
      refine pw_bd (fw_done ) (fun _ X65 cX65 => ?_)
      have gX65 := gX64.tr cX65 sw_Lw24_Lw25
      exact pw_ret gX65
def Lw26 : List Nat := [5, 6, 7, 8, 19, 23, 24, 47, 4000, 4200, 4400, 4600, 4800, 5000, 5200, 5400, 5600, 5800, 7800]
theorem sw_Lw2_Lw26 : ∀ k ∈ Lw2, k ∈ Lw26 := by decide
theorem mw_5200_Lw26 : (5200 : Nat) ∈ Lw26 := by decide
theorem mw_5800_Lw26 : (5800 : Nat) ∈ Lw26 := by decide
theorem sw_Lw11_Lw26 : ∀ k ∈ Lw11, k ∈ Lw26 := by decide
theorem sw_Lw24_Lw26 : ∀ k ∈ Lw24, k ∈ Lw26 := by decide
theorem fw_named_48 {a1 : Int32} {a2 : Int32} {b0 : Int32} {X : St} : pw (f_named_48 a1 a2 b0 X) (fun _ Y => fq Lw26 X Y) := by
  unfold f_named_48
  refine pw_bd (fw_make ) (fun x2 X3 cX3 => ?_)
  have gX3 := (fq.rf (L := Lw26)).tr cX3 sw_Lw2_Lw26
  refine pw_ck (fun _ => ?_)
  refine pw_eq (fun X4 eX4 => ?_)
  have gX4 : fq Lw26 X X4 := by rw [eX4]; exact fq.wI gX3 (show (5200 : Nat) ∈ Lw26 from mw_5200_Lw26)
  refine pw_eq (fun y5 ey5 => ?_)
  refine pw_ck (fun _ => ?_)
  refine pw_eq (fun X6 eX6 => ?_)
  have gX6 : fq Lw26 X X6 := by rw [eX6]; exact fq.wL gX4 (show (5800 : Nat) ∈ Lw26 from mw_5800_Lw26)
  refine pw_bd (fw_next ) (fun _ X7 cX7 => ?_)
  have gX7 := gX6.tr cX7 sw_Lw11_Lw26
  refine pw_bd (fw_done ) (fun _ X8 cX8 => ?_)
  have gX8 := gX7.tr cX8 sw_Lw24_Lw26
  exact pw_ret gX8
theorem sw_Lw26_Lw26 : ∀ k ∈ Lw26, k ∈ Lw26 := by exact fun _ h => h
theorem fw_named_31 {r4 : Int32 → Int32 → Int32 → St → Option (Int32 × St)} (hr4 : ∀ (q0 : Int32) (q1 : Int32) (q2 : Int32) (X : St), pw (r4 q0 q1 q2 X) (fun _ Y => fq Lw26 X Y)) {a1 : Int32} {a3 : Int32} {b0 : Int32} {X : St} : pw (f_named_31 r4 a1 a3 b0 X) (fun _ Y => fq Lw26 X Y) := by
  unfold f_named_31
  refine pw_eq (fun x12 ex12 => ?_)
  exact pw_mono (hr4 _ _ _ _) (fun _ _ c => (fq.rf (L := Lw26)).tr c sw_Lw26_Lw26)
theorem fw_named_4 (N : Nat) : ∀ (a1 : Int32) (a2 : Int32) (a3 : Int32) (X : St), pw (f_named_4 N a1 a2 a3 X) (fun _ Y => fq Lw26 X Y) := by
  unfold f_named_4
  refine lp_ind (P := fun (r : Int32 → Int32 → Int32 → St → Option (Int32 × St)) => ∀ (a1 : Int32) (a2 : Int32) (a3 : Int32) (X : St), pw (r a1 a2 a3 X) (fun _ Y => fq Lw26 X Y)) (fun _ _ _ _ => pw_none) (fun r ih a1 a2 a3 X => ?_) N
  unfold f_named_4_s
  refine pw_eq (fun x1 ex1 => ?_)
  refine pw_ite (fun _ => ?_) (fun _ => ?_)
  · refine pw_ite (fun _ => ?_) (fun _ => ?_)
    · exact pw_mono (fw_named_48 ) (fun _ _ c => (fq.rf (L := Lw26)).tr c sw_Lw26_Lw26)
    · exact pw_mono (fw_named_48 ) (fun _ _ c => (fq.rf (L := Lw26)).tr c sw_Lw26_Lw26)
  · refine pw_ck (fun _ => ?_)
    refine pw_eq (fun y9 ey9 => ?_)
    refine pw_eq (fun y10 ey10 => ?_)
    refine pw_eq (fun x11 ex11 => ?_)
    refine pw_ite (fun _ => ?_) (fun _ => ?_)
    · exact pw_mono (fw_named_31 ih) (fun _ _ c => (fq.rf (L := Lw26)).tr c sw_Lw26_Lw26)
    · exact pw_mono (fw_named_31 ih) (fun _ _ c => (fq.rf (L := Lw26)).tr c sw_Lw26_Lw26)
theorem fw_named {p1 : Int32} {X : St} : pw (f_named p1 X) (fun _ Y => fq Lw26 X Y) := by
  unfold f_named
  exact pw_mono (fw_named_4 _ _ _ _ _) (fun _ _ c => (fq.rf (L := Lw26)).tr c sw_Lw26_Lw26)
def Lw27 : List Nat := [5, 6, 7, 8, 23, 24, 47, 5200]
theorem mw_5200_Lw27 : (5200 : Nat) ∈ Lw27 := by decide
theorem sw_Lw11_Lw27 : ∀ k ∈ Lw11, k ∈ Lw27 := by decide
theorem sw_Lw24_Lw27 : ∀ k ∈ Lw24, k ∈ Lw27 := by decide
theorem fw_operand_141 {a2 : Int32} {b0 : Int32} {b1 : Int32} {X : St} : pw (f_operand_141 a2 b0 b1 X) (fun _ Y => fq Lw27 X Y) := by
  unfold f_operand_141
  refine pw_ck (fun _ => ?_)
  refine pw_eq (fun X23 eX23 => ?_)
  have gX23 : fq Lw27 X X23 := by rw [eX23]; exact fq.wI (fq.rf (L := Lw27)) (show (5200 : Nat) ∈ Lw27 from mw_5200_Lw27)
  refine pw_bd (fw_next ) (fun _ X24 cX24 => ?_)
  have gX24 := gX23.tr cX24 sw_Lw11_Lw27
  refine pw_bd (fw_done ) (fun _ X25 cX25 => ?_)
  have gX25 := gX24.tr cX25 sw_Lw24_Lw27
  exact pw_ret gX25
theorem sw_Lw27_Lw26 : ∀ k ∈ Lw27, k ∈ Lw26 := by decide
theorem fw_operand_113 {a1 : Int32} {X : St} : pw (f_operand_113 a1 X) (fun _ Y => fq Lw26 X Y) := by
  unfold f_operand_113
  refine pw_bd (fw_make ) (fun x19 X20 cX20 => ?_)
  have gX20 := (fq.rf (L := Lw26)).tr cX20 sw_Lw2_Lw26
  refine pw_eq (fun y21 ey21 => ?_)
  refine pw_eq (fun x22 ex22 => ?_)
  refine pw_ite (fun _ => ?_) (fun _ => ?_)
  · exact pw_mono (fw_operand_141 ) (fun _ _ c => gX20.tr c sw_Lw27_Lw26)
  · exact pw_mono (fw_operand_141 ) (fun _ _ c => gX20.tr c sw_Lw27_Lw26)
theorem sw_Lw25_Lw25 : ∀ k ∈ Lw25, k ∈ Lw25 := by exact fun _ h => h
theorem sw_Lw26_Lw25 : ∀ k ∈ Lw26, k ∈ Lw25 := by decide
theorem fw_operand_95 {a1 : Int32} {X : St} : pw (f_operand_95 a1 X) (fun _ Y => fq Lw25 X Y) := by
  unfold f_operand_95
  refine pw_bd (fw_isWord ) (fun x17 X18 cX18 => ?_)
  have gX18 := (fq.rf (L := Lw25)).tr cX18 sw_Lw1_Lw25
  refine pw_ite (fun _ => ?_) (fun _ => ?_)
  · refine pw_bd (fw_isWord ) (fun x26 X27 cX27 => ?_)
    have gX27 := gX18.tr cX27 sw_Lw1_Lw25
    refine pw_ite (fun _ => ?_) (fun _ => ?_)
    · refine pw_bd (fw_isWell ) (fun x28 X29 cX29 => ?_)
      have gX29 := gX27.tr cX29 sw_Lw1_Lw25
      refine pw_ite (fun _ => ?_) (fun _ => ?_)
      · exact pw_mono (fw_operand_177 ) (fun _ _ c => gX29.tr c sw_Lw25_Lw25)
      · refine pw_eq (fun x66 ex66 => ?_)
        refine pw_ite (fun _ => ?_) (fun _ => ?_)
        · refine pw_bd (fw_named ) (fun _ X67 cX67 => ?_)
          have gX67 := gX29.tr cX67 sw_Lw26_Lw25
          exact pw_ret gX67
        · exact pw_mono (fw_operand_177 ) (fun _ _ c => gX29.tr c sw_Lw25_Lw25)
    · exact pw_mono (fw_operand_113 ) (fun _ _ c => gX27.tr c sw_Lw26_Lw25)
  · exact pw_mono (fw_operand_113 ) (fun _ _ c => gX18.tr c sw_Lw26_Lw25)
def Lw28 : List Nat := [5, 6, 7, 8, 9, 10, 19, 23, 24, 47, 4000, 4200, 4400, 4600, 4800, 5000, 5200, 5400, 5600, 5800, 7800]
theorem sw_Lw2_Lw28 : ∀ k ∈ Lw2, k ∈ Lw28 := by decide
theorem mw_5200_Lw28 : (5200 : Nat) ∈ Lw28 := by decide
theorem sw_Lw11_Lw28 : ∀ k ∈ Lw11, k ∈ Lw28 := by decide
theorem sw_Lw24_Lw28 : ∀ k ∈ Lw24, k ∈ Lw28 := by decide
theorem sw_Lw0_Lw28 : ∀ k ∈ Lw0, k ∈ Lw28 := by decide
theorem fw_number {p1 : Int32} {X : St} : pw (f_number p1 X) (fun _ Y => fq Lw28 X Y) := by
  unfold f_number
  refine pw_eq (fun y1 ey1 => ?_)
  refine pw_eq (fun x2 ex2 => ?_)
  refine pw_ite (fun _ => ?_) (fun _ => ?_)
  · refine pw_bd (fw_make ) (fun x3 X4 cX4 => ?_)
    have gX4 := (fq.rf (L := Lw28)).tr cX4 sw_Lw2_Lw28
    refine pw_eq (fun y5 ey5 => ?_)
    refine pw_eq (fun x6 ex6 => ?_)
    refine pw_ck (fun _ => ?_)
    refine pw_eq (fun X7 eX7 => ?_)
    have gX7 : fq Lw28 X X7 := by rw [eX7]; exact fq.wI gX4 (show (5200 : Nat) ∈ Lw28 from mw_5200_Lw28)
    refine pw_bd (fw_next ) (fun _ X8 cX8 => ?_)
    have gX8 := gX7.tr cX8 sw_Lw11_Lw28
    refine pw_bd (fw_done ) (fun _ X9 cX9 => ?_)
    have gX9 := gX8.tr cX9 sw_Lw24_Lw28
    exact pw_ret gX9
  · refine pw_bd (fw_fails ) (fun _ X10 cX10 => ?_)
    have gX10 := (fq.rf (L := Lw28)).tr cX10 sw_Lw0_Lw28
    exact pw_ret gX10
def Lw29 : List Nat := [5, 6, 7, 8, 9, 10, 19, 21, 22, 47, 4000, 4200, 4400, 4600, 4800, 5000, 5200, 5400, 5600, 5800, 7000, 7200, 7400, 7600, 7800]
theorem sw_Lw2_Lw29 : ∀ k ∈ Lw2, k ∈ Lw29 := by decide
theorem sw_Lw4_Lw29 : ∀ k ∈ Lw4, k ∈ Lw29 := by decide
theorem sw_Lw1_Lw29 : ∀ k ∈ Lw1, k ∈ Lw29 := by decide
theorem sw_Lw11_Lw29 : ∀ k ∈ Lw11, k ∈ Lw29 := by decide
theorem sw_Lw12_Lw29 : ∀ k ∈ Lw12, k ∈ Lw29 := by decide
theorem fw_operand_42 {a1 : Int32} {b0 : Int32} {X : St} : pw (f_operand_42 a1 b0 X) (fun _ Y => fq Lw29 X Y) := by
  unfold f_operand_42
  refine pw_bd (fw_make ) (fun x6 X7 cX7 => ?_)
  have gX7 := (fq.rf (L := Lw29)).tr cX7 sw_Lw2_Lw29
  refine pw_bd (fw_nests ) (fun _ X8 cX8 => ?_)
  have gX8 := gX7.tr cX8 sw_Lw4_Lw29
  refine pw_bd (fw_isWell ) (fun x9 X10 cX10 => ?_)
  have gX10 := gX8.tr cX10 sw_Lw1_Lw29
  refine pw_ite (fun _ => ?_) (fun _ => ?_)
  · exact pw_ret gX10
  · refine pw_bd (fw_next ) (fun _ X11 cX11 => ?_)
    have gX11 := gX10.tr cX11 sw_Lw11_Lw29
    refine pw_bd (fw_enter ) (fun _ X12 cX12 => ?_)
    have gX12 := gX11.tr cX12 sw_Lw12_Lw29
    exact pw_ret gX12
theorem sw_Lw29_Lw29 : ∀ k ∈ Lw29, k ∈ Lw29 := by exact fun _ h => h
theorem fw_operand_23 {a1 : Int32} {X : St} : pw (f_operand_23 a1 X) (fun _ Y => fq Lw29 X Y) := by
  unfold f_operand_23
  refine pw_eq (fun y4 ey4 => ?_)
  refine pw_eq (fun x5 ex5 => ?_)
  refine pw_ite (fun _ => ?_) (fun _ => ?_)
  · exact pw_mono (fw_operand_42 ) (fun _ _ c => (fq.rf (L := Lw29)).tr c sw_Lw29_Lw29)
  · exact pw_mono (fw_operand_42 ) (fun _ _ c => (fq.rf (L := Lw29)).tr c sw_Lw29_Lw29)
theorem sw_Lw28_Lw25 : ∀ k ∈ Lw28, k ∈ Lw25 := by decide
theorem sw_Lw29_Lw25 : ∀ k ∈ Lw29, k ∈ Lw25 := by decide
theorem fw_operand {X : St} : pw (f_operand X) (fun _ Y => fq Lw25 X Y) := by
  unfold f_operand
  refine pw_eq (fun x1 ex1 => ?_)
  refine pw_bd (fw_isSign ) (fun x2 X3 cX3 => ?_)
  have gX3 := (fq.rf (L := Lw25)).tr cX3 sw_Lw1_Lw25
  refine pw_ite (fun _ => ?_) (fun _ => ?_)
  · refine pw_bd (fw_isSign ) (fun x13 X14 cX14 => ?_)
    have gX14 := gX3.tr cX14 sw_Lw1_Lw25
    refine pw_ite (fun _ => ?_) (fun _ => ?_)
    · refine pw_bd (fw_isWell ) (fun x15 X16 cX16 => ?_)
      have gX16 := gX14.tr cX16 sw_Lw1_Lw25
      refine pw_ite (fun _ => ?_) (fun _ => ?_)
      · exact pw_mono (fw_operand_95 ) (fun _ _ c => gX16.tr c sw_Lw25_Lw25)
      · refine pw_eq (fun x68 ex68 => ?_)
        refine pw_ite (fun _ => ?_) (fun _ => ?_)
        · refine pw_bd (fw_number ) (fun _ X69 cX69 => ?_)
          have gX69 := gX16.tr cX69 sw_Lw28_Lw25
          exact pw_ret gX69
        · exact pw_mono (fw_operand_95 ) (fun _ _ c => gX16.tr c sw_Lw25_Lw25)
    · exact pw_mono (fw_operand_23 ) (fun _ _ c => gX14.tr c sw_Lw29_Lw25)
  · exact pw_mono (fw_operand_23 ) (fun _ _ c => gX3.tr c sw_Lw29_Lw25)
def Lw30 : List Nat := [23]
theorem mw_23_Lw30 : (23 : Nat) ∈ Lw30 := by decide
theorem fw_behind_288 {X : St} : pw (f_behind_288 X) (fun _ Y => fq Lw30 X Y) := by
  unfold f_behind_288
  refine pw_eq (fun X30 eX30 => ?_)
  have gX30 : fq Lw30 X X30 := by rw [eX30]; exact fq.wI (fq.rf (L := Lw30)) (show (23 : Nat) ∈ Lw30 from mw_23_Lw30)
  exact pw_ret gX30
theorem fw_behind_214 {a3 : Int32} {b0 : Int32} {X : St} : pw (f_behind_214 a3 b0 X) (fun _ Y => fq Lw22 X Y) := by
  unfold f_behind_214
  refine pw_bd (fw_opened ) (fun _ X17 cX17 => ?_)
  have gX17 := (fq.rf (L := Lw22)).tr cX17 sw_Lw22_Lw22
  exact pw_ret gX17
theorem fw_behind_201 {a3 : Int32} {a4 : Int32} {X : St} : pw (f_behind_201 a3 a4 X) (fun _ Y => fq Lw22 X Y) := by
  unfold f_behind_201
  refine pw_ite (fun _ => ?_) (fun _ => ?_)
  · exact pw_mono (fw_behind_214 ) (fun _ _ c => (fq.rf (L := Lw22)).tr c sw_Lw22_Lw22)
  · exact pw_mono (fw_behind_214 ) (fun _ _ c => (fq.rf (L := Lw22)).tr c sw_Lw22_Lw22)
def Lw31 : List Nat := [5, 6, 7, 8, 9, 10, 21, 22, 23, 24, 47, 7000, 7200, 7400, 7600]
theorem sw_Lw15_Lw31 : ∀ k ∈ Lw15, k ∈ Lw31 := by decide
theorem sw_Lw22_Lw31 : ∀ k ∈ Lw22, k ∈ Lw31 := by decide
theorem sw_Lw1_Lw31 : ∀ k ∈ Lw1, k ∈ Lw31 := by decide
theorem sw_Lw24_Lw31 : ∀ k ∈ Lw24, k ∈ Lw31 := by decide
theorem fw_behind_170 {a3 : Int32} {a4 : Int32} {b0 : Int32} {X : St} : pw (f_behind_170 a3 a4 b0 X) (fun _ Y => fq Lw31 X Y) := by
  unfold f_behind_170
  refine pw_bd (fw_opens ) (fun _ X16 cX16 => ?_)
  have gX16 := (fq.rf (L := Lw31)).tr cX16 sw_Lw15_Lw31
  refine pw_ite (fun _ => ?_) (fun _ => ?_)
  · exact pw_mono (fw_behind_201 ) (fun _ _ c => gX16.tr c sw_Lw22_Lw31)
  · refine pw_bd (fw_isSign ) (fun x18 X19 cX19 => ?_)
    have gX19 := gX16.tr cX19 sw_Lw1_Lw31
    refine pw_ite (fun _ => ?_) (fun _ => ?_)
    · exact pw_mono (fw_behind_201 ) (fun _ _ c => gX19.tr c sw_Lw22_Lw31)
    · refine pw_bd (fw_closes ) (fun _ X20 cX20 => ?_)
      have gX20 := gX19.tr cX20 sw_Lw15_Lw31
      refine pw_bd (fw_done ) (fun _ X21 cX21 => ?_)
      have gX21 := gX20.tr cX21 sw_Lw24_Lw31
      exact pw_ret gX21
theorem sw_Lw31_Lw31 : ∀ k ∈ Lw31, k ∈ Lw31 := by exact fun _ h => h
theorem fw_behind_155 {a3 : Int32} {b0 : Int32} {X : St} : pw (f_behind_155 a3 b0 X) (fun _ Y => fq Lw31 X Y) := by
  unfold f_behind_155
  refine pw_ite (fun _ => ?_) (fun _ => ?_)
  · exact pw_mono (fw_behind_170 ) (fun _ _ c => (fq.rf (L := Lw31)).tr c sw_Lw31_Lw31)
  · exact pw_mono (fw_behind_170 ) (fun _ _ c => (fq.rf (L := Lw31)).tr c sw_Lw31_Lw31)
theorem fw_behind_139 {a3 : Int32} {X : St} : pw (f_behind_139 a3 X) (fun _ Y => fq Lw31 X Y) := by
  unfold f_behind_139
  refine pw_ck (fun _ => ?_)
  refine pw_eq (fun x15 ex15 => ?_)
  refine pw_ite (fun _ => ?_) (fun _ => ?_)
  · exact pw_mono (fw_behind_155 ) (fun _ _ c => (fq.rf (L := Lw31)).tr c sw_Lw31_Lw31)
  · exact pw_mono (fw_behind_155 ) (fun _ _ c => (fq.rf (L := Lw31)).tr c sw_Lw31_Lw31)
def Lw32 : List Nat := [5, 6, 7, 8, 9, 10, 21, 22, 23, 24, 47, 7000, 7200, 7400, 7600, 7800]
theorem mw_7800_Lw32 : (7800 : Nat) ∈ Lw32 := by decide
theorem sw_Lw31_Lw32 : ∀ k ∈ Lw31, k ∈ Lw32 := by decide
theorem sw_Lw0_Lw32 : ∀ k ∈ Lw0, k ∈ Lw32 := by decide
theorem fw_behind_118 {a3 : Int32} {b0 : Int32} {b1 : Int32} {X : St} : pw (f_behind_118 a3 b0 b1 X) (fun _ Y => fq Lw32 X Y) := by
  unfold f_behind_118
  refine pw_ck (fun _ => ?_)
  refine pw_eq (fun X13 eX13 => ?_)
  have gX13 : fq Lw32 X X13 := by rw [eX13]; exact fq.wI (fq.rf (L := Lw32)) (show (7800 : Nat) ∈ Lw32 from mw_7800_Lw32)
  refine pw_ck (fun _ => ?_)
  refine pw_eq (fun x14 ex14 => ?_)
  refine pw_ite (fun _ => ?_) (fun _ => ?_)
  · exact pw_mono (fw_behind_139 ) (fun _ _ c => gX13.tr c sw_Lw31_Lw32)
  · refine pw_eq (fun x22 ex22 => ?_)
    refine pw_bd (fw_fails ) (fun _ X23 cX23 => ?_)
    have gX23 := gX13.tr cX23 sw_Lw0_Lw32
    exact pw_mono (fw_behind_139 ) (fun _ _ c => gX23.tr c sw_Lw31_Lw32)
theorem mw_4400_Lw25 : (4400 : Nat) ∈ Lw25 := by decide
theorem mw_4600_Lw25 : (4600 : Nat) ∈ Lw25 := by decide
theorem sw_Lw32_Lw25 : ∀ k ∈ Lw32, k ∈ Lw25 := by decide
theorem fw_behind_70 {a1 : Int32} {a2 : Int32} {b0 : Int32} {X : St} : pw (f_behind_70 a1 a2 b0 X) (fun _ Y => fq Lw25 X Y) := by
  unfold f_behind_70
  refine pw_ck (fun _ => ?_)
  refine pw_eq (fun x7 ex7 => ?_)
  refine pw_bd (fw_make ) (fun x8 X9 cX9 => ?_)
  have gX9 := (fq.rf (L := Lw25)).tr cX9 sw_Lw2_Lw25
  refine pw_eq (fun x10 ex10 => ?_)
  refine pw_ck (fun _ => ?_)
  refine pw_eq (fun X11 eX11 => ?_)
  have gX11 : fq Lw25 X X11 := by rw [eX11]; exact fq.wI gX9 (show (4400 : Nat) ∈ Lw25 from mw_4400_Lw25)
  refine pw_ck (fun _ => ?_)
  refine pw_eq (fun X12 eX12 => ?_)
  have gX12 : fq Lw25 X X12 := by rw [eX12]; exact fq.wI gX11 (show (4600 : Nat) ∈ Lw25 from mw_4600_Lw25)
  refine pw_ite (fun _ => ?_) (fun _ => ?_)
  · exact pw_mono (fw_behind_118 ) (fun _ _ c => gX12.tr c sw_Lw32_Lw25)
  · refine pw_ck (fun _ => ?_)
    refine pw_eq (fun x24 ex24 => ?_)
    refine pw_eq (fun x25 ex25 => ?_)
    exact pw_mono (fw_behind_118 ) (fun _ _ c => gX12.tr c sw_Lw32_Lw25)
theorem fw_behind_51 {a1 : Int32} {a2 : Int32} {X : St} : pw (f_behind_51 a1 a2 X) (fun _ Y => fq Lw25 X Y) := by
  unfold f_behind_51
  refine pw_eq (fun y5 ey5 => ?_)
  refine pw_eq (fun x6 ex6 => ?_)
  refine pw_ite (fun _ => ?_) (fun _ => ?_)
  · exact pw_mono (fw_behind_70 ) (fun _ _ c => (fq.rf (L := Lw25)).tr c sw_Lw25_Lw25)
  · exact pw_mono (fw_behind_70 ) (fun _ _ c => (fq.rf (L := Lw25)).tr c sw_Lw25_Lw25)
theorem sw_Lw30_Lw25 : ∀ k ∈ Lw30, k ∈ Lw25 := by decide
theorem sw_Lw4_Lw25 : ∀ k ∈ Lw4, k ∈ Lw25 := by decide
theorem sw_Lw11_Lw25 : ∀ k ∈ Lw11, k ∈ Lw25 := by decide
theorem sw_Lw12_Lw25 : ∀ k ∈ Lw12, k ∈ Lw25 := by decide
theorem mw_23_Lw25 : (23 : Nat) ∈ Lw25 := by decide
theorem fw_behind_32 {a1 : Int32} {b0 : Int32} {X : St} : pw (f_behind_32 a1 b0 X) (fun _ Y => fq Lw25 X Y) := by
  unfold f_behind_32
  refine pw_bd (fw_isSign ) (fun x3 X4 cX4 => ?_)
  have gX4 := (fq.rf (L := Lw25)).tr cX4 sw_Lw1_Lw25
  refine pw_ite (fun _ => ?_) (fun _ => ?_)
  · refine pw_bd (fw_isSign ) (fun x26 X27 cX27 => ?_)
    have gX27 := gX4.tr cX27 sw_Lw1_Lw25
    refine pw_ite (fun _ => ?_) (fun _ => ?_)
    · refine pw_bd (fw_isWell ) (fun x28 X29 cX29 => ?_)
      have gX29 := gX27.tr cX29 sw_Lw1_Lw25
      refine pw_ite (fun _ => ?_) (fun _ => ?_)
      · exact pw_mono (fw_behind_288 ) (fun _ _ c => gX29.tr c sw_Lw30_Lw25)
      · refine pw_eq (fun x31 ex31 => ?_)
        refine pw_ite (fun _ => ?_) (fun _ => ?_)
        · refine pw_eq (fun y32 ey32 => ?_)
          refine pw_eq (fun x33 ex33 => ?_)
          refine pw_ite (fun _ => ?_) (fun _ => ?_)
          · refine pw_ck (fun _ => ?_)
            refine pw_eq (fun x34 ex34 => ?_)
            refine pw_ite (fun _ => ?_) (fun _ => ?_)
            · refine pw_bd (fw_nests ) (fun _ X35 cX35 => ?_)
              have gX35 := gX29.tr cX35 sw_Lw4_Lw25
              refine pw_bd (fw_isWell ) (fun x36 X37 cX37 => ?_)
              have gX37 := gX35.tr cX37 sw_Lw1_Lw25
              refine pw_ite (fun _ => ?_) (fun _ => ?_)
              · exact pw_ret gX37
              · refine pw_bd (fw_next ) (fun _ X38 cX38 => ?_)
                have gX38 := gX37.tr cX38 sw_Lw11_Lw25
                refine pw_bd (fw_enter ) (fun _ X39 cX39 => ?_)
                have gX39 := gX38.tr cX39 sw_Lw12_Lw25
                refine pw_eq (fun X40 eX40 => ?_)
                have gX40 : fq Lw25 X X40 := by rw [eX40]; exact fq.wI gX39 (show (23 : Nat) ∈ Lw25 from mw_23_Lw25)
                exact pw_ret gX40
            · exact pw_mono (fw_behind_288 ) (fun _ _ c => gX29.tr c sw_Lw30_Lw25)
          · exact pw_mono (fw_behind_288 ) (fun _ _ c => gX29.tr c sw_Lw30_Lw25)
        · exact pw_mono (fw_behind_288 ) (fun _ _ c => gX29.tr c sw_Lw30_Lw25)
    · exact pw_mono (fw_behind_51 ) (fun _ _ c => gX27.tr c sw_Lw25_Lw25)
  · exact pw_mono (fw_behind_51 ) (fun _ _ c => gX4.tr c sw_Lw25_Lw25)
theorem fw_behind_27 {a1 : Int32} {X : St} : pw (f_behind_27 a1 X) (fun _ Y => fq Lw25 X Y) := by
  unfold f_behind_27
  exact pw_mono (fw_behind_32 ) (fun _ _ c => (fq.rf (L := Lw25)).tr c sw_Lw25_Lw25)
theorem fw_behind {X : St} : pw (f_behind X) (fun _ Y => fq Lw25 X Y) := by
  unfold f_behind
  refine pw_eq (fun x1 ex1 => ?_)
  refine pw_ck (fun _ => ?_)
  refine pw_eq (fun x2 ex2 => ?_)
  refine pw_ite (fun _ => ?_) (fun _ => ?_)
  · exact pw_mono (fw_behind_27 ) (fun _ _ c => (fq.rf (L := Lw25)).tr c sw_Lw25_Lw25)
  · refine pw_ck (fun _ => ?_)
    refine pw_eq (fun x41 ex41 => ?_)
    refine pw_ite (fun _ => ?_) (fun _ => ?_)
    · exact pw_mono (fw_behind_27 ) (fun _ _ c => (fq.rf (L := Lw25)).tr c sw_Lw25_Lw25)
    · exact pw_mono (fw_behind_32 ) (fun _ _ c => (fq.rf (L := Lw25)).tr c sw_Lw25_Lw25)
theorem fw_levelOf {q0 : Int64} {X : St} : pw (f_levelOf q0 X) (fun _ Y => fq Lw1 X Y) := by
  unfold f_levelOf
  refine pw_eq (fun x1 ex1 => ?_)
  refine pw_ite (fun _ => ?_) (fun _ => ?_)
  · exact pw_ret (fq.rf (L := Lw1))
  · refine pw_eq (fun x2 ex2 => ?_)
    refine pw_ite (fun _ => ?_) (fun _ => ?_)
    · exact pw_ret (fq.rf (L := Lw1))
    · refine pw_eq (fun x3 ex3 => ?_)
      refine pw_ite (fun _ => ?_) (fun _ => ?_)
      · exact pw_ret (fq.rf (L := Lw1))
      · refine pw_eq (fun x4 ex4 => ?_)
        refine pw_ite (fun _ => ?_) (fun _ => ?_)
        · exact pw_ret (fq.rf (L := Lw1))
        · refine pw_eq (fun x5 ex5 => ?_)
          refine pw_ite (fun _ => ?_) (fun _ => ?_)
          · exact pw_ret (fq.rf (L := Lw1))
          · refine pw_eq (fun x6 ex6 => ?_)
            refine pw_ite (fun _ => ?_) (fun _ => ?_)
            · exact pw_ret (fq.rf (L := Lw1))
            · refine pw_eq (fun x7 ex7 => ?_)
              refine pw_ite (fun _ => ?_) (fun _ => ?_)
              · exact pw_ret (fq.rf (L := Lw1))
              · exact pw_ret (fq.rf (L := Lw1))
def Lw33 : List Nat := [22, 24, 4800]
theorem sw_Lw1_Lw33 : ∀ k ∈ Lw1, k ∈ Lw33 := by decide
theorem mw_22_Lw33 : (22 : Nat) ∈ Lw33 := by decide
theorem mw_4800_Lw33 : (4800 : Nat) ∈ Lw33 := by decide
theorem mw_24_Lw33 : (24 : Nat) ∈ Lw33 := by decide
theorem sw_Lw33_Lw33 : ∀ k ∈ Lw33, k ∈ Lw33 := by exact fun _ h => h
theorem fw_second_0 (N : Nat) : ∀ (a1 : Int32) (X : St), pw (f_second_0 N a1 X) (fun _ Y => fq Lw33 X Y) := by
  unfold f_second_0
  refine lp_ind (P := fun (r : Int32 → St → Option (Int32 × St)) => ∀ (a1 : Int32) (X : St), pw (r a1 X) (fun _ Y => fq Lw33 X Y)) (fun _ _ => pw_none) (fun r ih a1 X => ?_) N
  unfold f_second_0_s
  refine pw_eq (fun x1 ex1 => ?_)
  refine pw_eq (fun x2 ex2 => ?_)
  refine pw_ck (fun _ => ?_)
  refine pw_eq (fun x3 ex3 => ?_)
  refine pw_ite (fun _ => ?_) (fun _ => ?_)
  · refine pw_eq (fun x4 ex4 => ?_)
    refine pw_eq (fun x5 ex5 => ?_)
    refine pw_ck (fun _ => ?_)
    refine pw_eq (fun x6 ex6 => ?_)
    refine pw_ck (fun _ => ?_)
    refine pw_eq (fun x7 ex7 => ?_)
    refine pw_eq (fun y8 ey8 => ?_)
    refine pw_bd (fw_levelOf ) (fun x9 X10 cX10 => ?_)
    have gX10 := (fq.rf (L := Lw33)).tr cX10 sw_Lw1_Lw33
    refine pw_ite (fun _ => ?_) (fun _ => ?_)
    · exact pw_ret gX10
    · refine pw_eq (fun x11 ex11 => ?_)
      refine pw_eq (fun x12 ex12 => ?_)
      refine pw_eq (fun X13 eX13 => ?_)
      have gX13 : fq Lw33 X X13 := by rw [eX13]; exact fq.wI gX10 (show (22 : Nat) ∈ Lw33 from mw_22_Lw33)
      refine pw_eq (fun x14 ex14 => ?_)
      refine pw_ck (fun _ => ?_)
      refine pw_eq (fun x15 ex15 => ?_)
      refine pw_eq (fun x16 ex16 => ?_)
      refine pw_ck (fun _ => ?_)
      refine pw_eq (fun X17 eX17 => ?_)
      have gX17 : fq Lw33 X X17 := by rw [eX17]; exact fq.wI gX13 (show (4800 : Nat) ∈ Lw33 from mw_4800_Lw33)
      refine pw_eq (fun X18 eX18 => ?_)
      have gX18 : fq Lw33 X X18 := by rw [eX18]; exact fq.wI gX17 (show (24 : Nat) ∈ Lw33 from mw_24_Lw33)
      exact pw_mono (ih _ _) (fun _ _ c => gX18.tr c sw_Lw33_Lw33)
  · exact pw_ret (fq.rf (L := Lw33))
theorem fw_second {p1 : Int32} {X : St} : pw (f_second p1 X) (fun _ Y => fq Lw33 X Y) := by
  unfold f_second
  exact pw_mono (fw_second_0 _ _ _) (fun _ _ c => (fq.rf (L := Lw33)).tr c sw_Lw33_Lw33)
theorem fw_word {p1 : Int32} {X : St} : pw (f_word p1 X) (fun _ Y => fq Lw13 X Y) := by
  unfold f_word
  refine pw_bd (fw_isWord ) (fun x1 X2 cX2 => ?_)
  have gX2 := (fq.rf (L := Lw13)).tr cX2 sw_Lw1_Lw13
  refine pw_ite (fun _ => ?_) (fun _ => ?_)
  · refine pw_bd (fw_stray ) (fun _ X3 cX3 => ?_)
    have gX3 := gX2.tr cX3 sw_Lw0_Lw13
    exact pw_ret gX3
  · refine pw_bd (fw_next ) (fun _ X4 cX4 => ?_)
    have gX4 := gX2.tr cX4 sw_Lw11_Lw13
    exact pw_ret gX4
def Lw34 : List Nat := [21, 22, 23, 24]
theorem mw_21_Lw34 : (21 : Nat) ∈ Lw34 := by decide
theorem mw_22_Lw34 : (22 : Nat) ∈ Lw34 := by decide
theorem mw_24_Lw34 : (24 : Nat) ∈ Lw34 := by decide
theorem mw_23_Lw34 : (23 : Nat) ∈ Lw34 := by decide
theorem fw_leaves {p1 : Int32} {X : St} : pw (f_leaves p1 X) (fun _ Y => fq Lw34 X Y) := by
  unfold f_leaves
  refine pw_eq (fun x1 ex1 => ?_)
  refine pw_eq (fun x2 ex2 => ?_)
  refine pw_eq (fun X3 eX3 => ?_)
  have gX3 : fq Lw34 X X3 := by rw [eX3]; exact fq.wI (fq.rf (L := Lw34)) (show (21 : Nat) ∈ Lw34 from mw_21_Lw34)
  refine pw_eq (fun x4 ex4 => ?_)
  refine pw_eq (fun x5 ex5 => ?_)
  refine pw_eq (fun X6 eX6 => ?_)
  have gX6 : fq Lw34 X X6 := by rw [eX6]; exact fq.wI gX3 (show (22 : Nat) ∈ Lw34 from mw_22_Lw34)
  refine pw_eq (fun X7 eX7 => ?_)
  have gX7 : fq Lw34 X X7 := by rw [eX7]; exact fq.wI gX6 (show (24 : Nat) ∈ Lw34 from mw_24_Lw34)
  refine pw_eq (fun X8 eX8 => ?_)
  have gX8 : fq Lw34 X X8 := by rw [eX8]; exact fq.wI gX7 (show (23 : Nat) ∈ Lw34 from mw_23_Lw34)
  exact pw_ret gX8
def Lw35 : List Nat := [5, 6, 7, 8, 9, 10, 21, 22, 23, 24, 47]
theorem sw_Lw15_Lw35 : ∀ k ∈ Lw15, k ∈ Lw35 := by decide
theorem mw_22_Lw35 : (22 : Nat) ∈ Lw35 := by decide
theorem sw_Lw24_Lw35 : ∀ k ∈ Lw24, k ∈ Lw35 := by decide
theorem fw_shuts {p1 : Int32} {p2 : Int32} {X : St} : pw (f_shuts p1 p2 X) (fun _ Y => fq Lw35 X Y) := by
  unfold f_shuts
  refine pw_bd (fw_closes ) (fun _ X1 cX1 => ?_)
  have gX1 := (fq.rf (L := Lw35)).tr cX1 sw_Lw15_Lw35
  refine pw_eq (fun x2 ex2 => ?_)
  refine pw_eq (fun x3 ex3 => ?_)
  refine pw_eq (fun X4 eX4 => ?_)
  have gX4 : fq Lw35 X X4 := by rw [eX4]; exact fq.wI gX1 (show (22 : Nat) ∈ Lw35 from mw_22_Lw35)
  refine pw_bd (fw_done ) (fun _ X5 cX5 => ?_)
  have gX5 := gX4.tr cX5 sw_Lw24_Lw35
  exact pw_ret gX5
def Lw36 : List Nat := [5400, 7400]
theorem mw_7400_Lw36 : (7400 : Nat) ∈ Lw36 := by decide
theorem mw_5400_Lw36 : (5400 : Nat) ∈ Lw36 := by decide
theorem fw_add_45 {a1 : Int32} {a2 : Int32} {X : St} : pw (f_add_45 a1 a2 X) (fun _ Y => fq Lw36 X Y) := by
  unfold f_add_45
  refine pw_eq (fun x6 ex6 => ?_)
  refine pw_ck (fun _ => ?_)
  refine pw_eq (fun X7 eX7 => ?_)
  have gX7 : fq Lw36 X X7 := by rw [eX7]; exact fq.wI (fq.rf (L := Lw36)) (show (7400 : Nat) ∈ Lw36 from mw_7400_Lw36)
  refine pw_ck (fun _ => ?_)
  refine pw_eq (fun x8 ex8 => ?_)
  refine pw_eq (fun x9 ex9 => ?_)
  refine pw_ck (fun _ => ?_)
  refine pw_eq (fun X10 eX10 => ?_)
  have gX10 : fq Lw36 X X10 := by rw [eX10]; exact fq.wI gX7 (show (5400 : Nat) ∈ Lw36 from mw_5400_Lw36)
  exact pw_ret gX10
def Lw37 : List Nat := [4800, 5400, 5600, 7400]
theorem mw_4800_Lw37 : (4800 : Nat) ∈ Lw37 := by decide
theorem sw_Lw36_Lw37 : ∀ k ∈ Lw36, k ∈ Lw37 := by decide
theorem mw_5600_Lw37 : (5600 : Nat) ∈ Lw37 := by decide
theorem fw_add {p1 : Int32} {X : St} : pw (f_add p1 X) (fun _ Y => fq Lw37 X Y) := by
  unfold f_add
  refine pw_ck (fun _ => ?_)
  refine pw_eq (fun x1 ex1 => ?_)
  refine pw_ck (fun _ => ?_)
  refine pw_eq (fun x2 ex2 => ?_)
  refine pw_ite (fun _ => ?_) (fun _ => ?_)
  · refine pw_eq (fun x11 ex11 => ?_)
    refine pw_ck (fun _ => ?_)
    refine pw_eq (fun X12 eX12 => ?_)
    have gX12 : fq Lw37 X X12 := by rw [eX12]; exact fq.wI (fq.rf (L := Lw37)) (show (4800 : Nat) ∈ Lw37 from mw_4800_Lw37)
    exact pw_mono (fw_add_45 ) (fun _ _ c => gX12.tr c sw_Lw36_Lw37)
  · refine pw_ck (fun _ => ?_)
    refine pw_eq (fun x3 ex3 => ?_)
    refine pw_eq (fun x4 ex4 => ?_)
    refine pw_ck (fun _ => ?_)
    refine pw_eq (fun X5 eX5 => ?_)
    have gX5 : fq Lw37 X X5 := by rw [eX5]; exact fq.wI (fq.rf (L := Lw37)) (show (5600 : Nat) ∈ Lw37 from mw_5600_Lw37)
    exact pw_mono (fw_add_45 ) (fun _ _ c => gX5.tr c sw_Lw36_Lw37)
theorem sw_Lw35_Lw35 : ∀ k ∈ Lw35, k ∈ Lw35 := by exact fun _ h => h
theorem fw_endsWithin_291 {a2 : Int32} {b0 : Int32} {X : St} : pw (f_endsWithin_291 a2 b0 X) (fun _ Y => fq Lw35 X Y) := by
  unfold f_endsWithin_291
  refine pw_bd (fw_shuts ) (fun _ X40 cX40 => ?_)
  have gX40 := (fq.rf (L := Lw35)).tr cX40 sw_Lw35_Lw35
  exact pw_ret gX40
theorem sw_Lw1_Lw35 : ∀ k ∈ Lw1, k ∈ Lw35 := by decide
theorem sw_Lw11_Lw35 : ∀ k ∈ Lw11, k ∈ Lw35 := by decide
theorem mw_23_Lw35 : (23 : Nat) ∈ Lw35 := by decide
theorem fw_endsWithin_245 {a1 : Int32} {a2 : Int32} {a3 : Int32} {b0 : Int32} {X : St} : pw (f_endsWithin_245 a1 a2 a3 b0 X) (fun _ Y => fq Lw35 X Y) := by
  unfold f_endsWithin_245
  refine pw_bd (fw_isSign ) (fun x37 X38 cX38 => ?_)
  have gX38 := (fq.rf (L := Lw35)).tr cX38 sw_Lw1_Lw35
  refine pw_ite (fun _ => ?_) (fun _ => ?_)
  · refine pw_ite (fun _ => ?_) (fun _ => ?_)
    · refine pw_ck (fun _ => ?_)
      refine pw_eq (fun x39 ex39 => ?_)
      refine pw_ite (fun _ => ?_) (fun _ => ?_)
      · exact pw_mono (fw_endsWithin_291 ) (fun _ _ c => gX38.tr c sw_Lw35_Lw35)
      · exact pw_mono (fw_endsWithin_291 ) (fun _ _ c => gX38.tr c sw_Lw35_Lw35)
    · exact pw_mono (fw_endsWithin_291 ) (fun _ _ c => gX38.tr c sw_Lw35_Lw35)
  · refine pw_bd (fw_next ) (fun _ X41 cX41 => ?_)
    have gX41 := gX38.tr cX41 sw_Lw11_Lw35
    refine pw_eq (fun X42 eX42 => ?_)
    have gX42 : fq Lw35 X X42 := by rw [eX42]; exact fq.wI gX41 (show (23 : Nat) ∈ Lw35 from mw_23_Lw35)
    exact pw_ret gX42
theorem fw_endsWithin_232 {a1 : Int32} {a2 : Int32} {b0 : Int32} {X : St} : pw (f_endsWithin_232 a1 a2 b0 X) (fun _ Y => fq Lw35 X Y) := by
  unfold f_endsWithin_232
  refine pw_ite (fun _ => ?_) (fun _ => ?_)
  · exact pw_mono (fw_endsWithin_245 ) (fun _ _ c => (fq.rf (L := Lw35)).tr c sw_Lw35_Lw35)
  · exact pw_mono (fw_endsWithin_245 ) (fun _ _ c => (fq.rf (L := Lw35)).tr c sw_Lw35_Lw35)
def Lw38 : List Nat := [5, 6, 7, 8, 9, 10, 21, 22, 23, 24, 47, 4600, 4800, 5000, 5400, 5600, 7000, 7400]
theorem mw_4600_Lw38 : (4600 : Nat) ∈ Lw38 := by decide
theorem sw_Lw35_Lw38 : ∀ k ∈ Lw35, k ∈ Lw38 := by decide
theorem sw_Lw13_Lw38 : ∀ k ∈ Lw13, k ∈ Lw38 := by decide
theorem mw_7000_Lw38 : (7000 : Nat) ∈ Lw38 := by decide
theorem mw_23_Lw38 : (23 : Nat) ∈ Lw38 := by decide
theorem mw_4800_Lw38 : (4800 : Nat) ∈ Lw38 := by decide
theorem mw_5000_Lw38 : (5000 : Nat) ∈ Lw38 := by decide
theorem mw_21_Lw38 : (21 : Nat) ∈ Lw38 := by decide
theorem mw_22_Lw38 : (22 : Nat) ∈ Lw38 := by decide
theorem mw_24_Lw38 : (24 : Nat) ∈ Lw38 := by decide
theorem sw_Lw37_Lw38 : ∀ k ∈ Lw37, k ∈ Lw38 := by decide
theorem fw_endsWithin {p1 : Int32} {p2 : Int32} {X : St} : pw (f_endsWithin p1 p2 X) (fun _ Y => fq Lw38 X Y) := by
  unfold f_endsWithin
  refine pw_ck (fun _ => ?_)
  refine pw_eq (fun x1 ex1 => ?_)
  refine pw_ite (fun _ => ?_) (fun _ => ?_)
  · refine pw_eq (fun x3 ex3 => ?_)
    refine pw_ck (fun _ => ?_)
    refine pw_eq (fun X4 eX4 => ?_)
    have gX4 : fq Lw38 X X4 := by rw [eX4]; exact fq.wI (fq.rf (L := Lw38)) (show (4600 : Nat) ∈ Lw38 from mw_4600_Lw38)
    refine pw_bd (fw_shuts ) (fun _ X5 cX5 => ?_)
    have gX5 := gX4.tr cX5 sw_Lw35_Lw38
    exact pw_ret gX5
  · refine pw_ite (fun _ => ?_) (fun _ => ?_)
    · refine pw_eq (fun x7 ex7 => ?_)
      refine pw_ck (fun _ => ?_)
      refine pw_eq (fun X8 eX8 => ?_)
      have gX8 : fq Lw38 X X8 := by rw [eX8]; exact fq.wI (fq.rf (L := Lw38)) (show (4600 : Nat) ∈ Lw38 from mw_4600_Lw38)
      refine pw_bd (fw_takes ) (fun _ X9 cX9 => ?_)
      have gX9 := gX8.tr cX9 sw_Lw13_Lw38
      refine pw_ck (fun _ => ?_)
      refine pw_eq (fun X10 eX10 => ?_)
      have gX10 : fq Lw38 X X10 := by rw [eX10]; exact fq.wI gX9 (show (7000 : Nat) ∈ Lw38 from mw_7000_Lw38)
      refine pw_eq (fun X11 eX11 => ?_)
      have gX11 : fq Lw38 X X11 := by rw [eX11]; exact fq.wI gX10 (show (23 : Nat) ∈ Lw38 from mw_23_Lw38)
      exact pw_ret gX11
    · refine pw_ite (fun _ => ?_) (fun _ => ?_)
      · refine pw_eq (fun x13 ex13 => ?_)
        refine pw_ck (fun _ => ?_)
        refine pw_eq (fun X14 eX14 => ?_)
        have gX14 : fq Lw38 X X14 := by rw [eX14]; exact fq.wI (fq.rf (L := Lw38)) (show (4800 : Nat) ∈ Lw38 from mw_4800_Lw38)
        refine pw_bd (fw_shuts ) (fun _ X15 cX15 => ?_)
        have gX15 := gX14.tr cX15 sw_Lw35_Lw38
        exact pw_ret gX15
      · refine pw_ite (fun _ => ?_) (fun _ => ?_)
        · refine pw_eq (fun x17 ex17 => ?_)
          refine pw_ck (fun _ => ?_)
          refine pw_eq (fun X18 eX18 => ?_)
          have gX18 : fq Lw38 X X18 := by rw [eX18]; exact fq.wI (fq.rf (L := Lw38)) (show (4600 : Nat) ∈ Lw38 from mw_4600_Lw38)
          refine pw_bd (fw_shuts ) (fun _ X19 cX19 => ?_)
          have gX19 := gX18.tr cX19 sw_Lw35_Lw38
          exact pw_ret gX19
        · refine pw_ite (fun _ => ?_) (fun _ => ?_)
          · refine pw_eq (fun x21 ex21 => ?_)
            refine pw_ck (fun _ => ?_)
            refine pw_eq (fun X22 eX22 => ?_)
            have gX22 : fq Lw38 X X22 := by rw [eX22]; exact fq.wI (fq.rf (L := Lw38)) (show (4800 : Nat) ∈ Lw38 from mw_4800_Lw38)
            refine pw_bd (fw_shuts ) (fun _ X23 cX23 => ?_)
            have gX23 := gX22.tr cX23 sw_Lw35_Lw38
            exact pw_ret gX23
          · refine pw_ite (fun _ => ?_) (fun _ => ?_)
            · refine pw_eq (fun x25 ex25 => ?_)
              refine pw_ck (fun _ => ?_)
              refine pw_eq (fun X26 eX26 => ?_)
              have gX26 : fq Lw38 X X26 := by rw [eX26]; exact fq.wI (fq.rf (L := Lw38)) (show (5000 : Nat) ∈ Lw38 from mw_5000_Lw38)
              refine pw_eq (fun x27 ex27 => ?_)
              refine pw_eq (fun x28 ex28 => ?_)
              refine pw_eq (fun X29 eX29 => ?_)
              have gX29 : fq Lw38 X X29 := by rw [eX29]; exact fq.wI gX26 (show (21 : Nat) ∈ Lw38 from mw_21_Lw38)
              refine pw_eq (fun x30 ex30 => ?_)
              refine pw_eq (fun x31 ex31 => ?_)
              refine pw_eq (fun X32 eX32 => ?_)
              have gX32 : fq Lw38 X X32 := by rw [eX32]; exact fq.wI gX29 (show (22 : Nat) ∈ Lw38 from mw_22_Lw38)
              refine pw_eq (fun X33 eX33 => ?_)
              have gX33 : fq Lw38 X X33 := by rw [eX33]; exact fq.wI gX32 (show (24 : Nat) ∈ Lw38 from mw_24_Lw38)
              refine pw_eq (fun X34 eX34 => ?_)
              have gX34 : fq Lw38 X X34 := by rw [eX34]; exact fq.wI gX33 (show (23 : Nat) ∈ Lw38 from mw_23_Lw38)
              exact pw_ret gX34
            · refine pw_bd (fw_add ) (fun _ X35 cX35 => ?_)
              have gX35 := (fq.rf (L := Lw38)).tr cX35 sw_Lw37_Lw38
              refine pw_ck (fun _ => ?_)
              refine pw_eq (fun x36 ex36 => ?_)
              refine pw_ite (fun _ => ?_) (fun _ => ?_)
              · exact pw_mono (fw_endsWithin_232 ) (fun _ _ c => gX35.tr c sw_Lw35_Lw38)
              · exact pw_mono (fw_endsWithin_232 ) (fun _ _ c => gX35.tr c sw_Lw35_Lw38)
def Lw39 : List Nat := [5, 6, 7, 8, 9, 10, 20, 21, 22, 23, 24, 47, 4600, 4800, 5000, 5200, 5400, 5600, 6000, 7000, 7400]
theorem mw_22_Lw39 : (22 : Nat) ∈ Lw39 := by decide
theorem mw_4600_Lw39 : (4600 : Nat) ∈ Lw39 := by decide
theorem sw_Lw13_Lw39 : ∀ k ∈ Lw13, k ∈ Lw39 := by decide
theorem mw_6000_Lw39 : (6000 : Nat) ∈ Lw39 := by decide
theorem mw_5200_Lw39 : (5200 : Nat) ∈ Lw39 := by decide
theorem mw_20_Lw39 : (20 : Nat) ∈ Lw39 := by decide
theorem mw_7000_Lw39 : (7000 : Nat) ∈ Lw39 := by decide
theorem mw_23_Lw39 : (23 : Nat) ∈ Lw39 := by decide
theorem mw_4800_Lw39 : (4800 : Nat) ∈ Lw39 := by decide
theorem sw_Lw34_Lw39 : ∀ k ∈ Lw34, k ∈ Lw39 := by decide
theorem mw_5000_Lw39 : (5000 : Nat) ∈ Lw39 := by decide
theorem sw_Lw38_Lw39 : ∀ k ∈ Lw38, k ∈ Lw39 := by decide
theorem fw_endsOne {X : St} : pw (f_endsOne X) (fun _ Y => fq Lw39 X Y) := by
  unfold f_endsOne
  refine pw_eq (fun x1 ex1 => ?_)
  refine pw_eq (fun x2 ex2 => ?_)
  refine pw_ck (fun _ => ?_)
  refine pw_eq (fun x3 ex3 => ?_)
  refine pw_ck (fun _ => ?_)
  refine pw_eq (fun x4 ex4 => ?_)
  refine pw_ite (fun _ => ?_) (fun _ => ?_)
  · refine pw_eq (fun x6 ex6 => ?_)
    refine pw_eq (fun x7 ex7 => ?_)
    refine pw_eq (fun X8 eX8 => ?_)
    have gX8 : fq Lw39 X X8 := by rw [eX8]; exact fq.wI (fq.rf (L := Lw39)) (show (22 : Nat) ∈ Lw39 from mw_22_Lw39)
    exact pw_ret gX8
  · refine pw_ite (fun _ => ?_) (fun _ => ?_)
    · refine pw_eq (fun x10 ex10 => ?_)
      refine pw_ck (fun _ => ?_)
      refine pw_eq (fun X11 eX11 => ?_)
      have gX11 : fq Lw39 X X11 := by rw [eX11]; exact fq.wI (fq.rf (L := Lw39)) (show (4600 : Nat) ∈ Lw39 from mw_4600_Lw39)
      refine pw_bd (fw_word ) (fun _ X12 cX12 => ?_)
      have gX12 := gX11.tr cX12 sw_Lw13_Lw39
      refine pw_eq (fun x13 ex13 => ?_)
      refine pw_ck (fun _ => ?_)
      refine pw_eq (fun y14 ey14 => ?_)
      refine pw_ck (fun _ => ?_)
      refine pw_eq (fun X15 eX15 => ?_)
      have gX15 : fq Lw39 X X15 := by rw [eX15]; exact fq.wL gX12 (show (6000 : Nat) ∈ Lw39 from mw_6000_Lw39)
      refine pw_eq (fun x16 ex16 => ?_)
      refine pw_ck (fun _ => ?_)
      refine pw_eq (fun X17 eX17 => ?_)
      have gX17 : fq Lw39 X X17 := by rw [eX17]; exact fq.wI gX15 (show (5200 : Nat) ∈ Lw39 from mw_5200_Lw39)
      refine pw_eq (fun x18 ex18 => ?_)
      refine pw_eq (fun x19 ex19 => ?_)
      refine pw_eq (fun X20 eX20 => ?_)
      have gX20 : fq Lw39 X X20 := by rw [eX20]; exact fq.wI gX17 (show (20 : Nat) ∈ Lw39 from mw_20_Lw39)
      refine pw_ck (fun _ => ?_)
      refine pw_eq (fun X21 eX21 => ?_)
      have gX21 : fq Lw39 X X21 := by rw [eX21]; exact fq.wI gX20 (show (7000 : Nat) ∈ Lw39 from mw_7000_Lw39)
      refine pw_eq (fun X22 eX22 => ?_)
      have gX22 : fq Lw39 X X22 := by rw [eX22]; exact fq.wI gX21 (show (23 : Nat) ∈ Lw39 from mw_23_Lw39)
      exact pw_ret gX22
    · refine pw_ite (fun _ => ?_) (fun _ => ?_)
      · refine pw_eq (fun x24 ex24 => ?_)
        refine pw_ck (fun _ => ?_)
        refine pw_eq (fun X25 eX25 => ?_)
        have gX25 : fq Lw39 X X25 := by rw [eX25]; exact fq.wI (fq.rf (L := Lw39)) (show (4800 : Nat) ∈ Lw39 from mw_4800_Lw39)
        refine pw_eq (fun x26 ex26 => ?_)
        refine pw_eq (fun x27 ex27 => ?_)
        refine pw_eq (fun X28 eX28 => ?_)
        have gX28 : fq Lw39 X X28 := by rw [eX28]; exact fq.wI gX25 (show (20 : Nat) ∈ Lw39 from mw_20_Lw39)
        refine pw_bd (fw_leaves ) (fun _ X29 cX29 => ?_)
        have gX29 := gX28.tr cX29 sw_Lw34_Lw39
        exact pw_ret gX29
      · refine pw_ite (fun _ => ?_) (fun _ => ?_)
        · refine pw_eq (fun x31 ex31 => ?_)
          refine pw_ck (fun _ => ?_)
          refine pw_eq (fun X32 eX32 => ?_)
          have gX32 : fq Lw39 X X32 := by rw [eX32]; exact fq.wI (fq.rf (L := Lw39)) (show (4600 : Nat) ∈ Lw39 from mw_4600_Lw39)
          refine pw_bd (fw_word ) (fun _ X33 cX33 => ?_)
          have gX33 := gX32.tr cX33 sw_Lw13_Lw39
          refine pw_ck (fun _ => ?_)
          refine pw_eq (fun X34 eX34 => ?_)
          have gX34 : fq Lw39 X X34 := by rw [eX34]; exact fq.wI gX33 (show (7000 : Nat) ∈ Lw39 from mw_7000_Lw39)
          refine pw_eq (fun X35 eX35 => ?_)
          have gX35 : fq Lw39 X X35 := by rw [eX35]; exact fq.wI gX34 (show (23 : Nat) ∈ Lw39 from mw_23_Lw39)
          exact pw_ret gX35
        · refine pw_ite (fun _ => ?_) (fun _ => ?_)
          · refine pw_eq (fun x37 ex37 => ?_)
            refine pw_ck (fun _ => ?_)
            refine pw_eq (fun X38 eX38 => ?_)
            have gX38 : fq Lw39 X X38 := by rw [eX38]; exact fq.wI (fq.rf (L := Lw39)) (show (4800 : Nat) ∈ Lw39 from mw_4800_Lw39)
            refine pw_bd (fw_word ) (fun _ X39 cX39 => ?_)
            have gX39 := gX38.tr cX39 sw_Lw13_Lw39
            refine pw_ck (fun _ => ?_)
            refine pw_eq (fun X40 eX40 => ?_)
            have gX40 : fq Lw39 X X40 := by rw [eX40]; exact fq.wI gX39 (show (7000 : Nat) ∈ Lw39 from mw_7000_Lw39)
            refine pw_eq (fun X41 eX41 => ?_)
            have gX41 : fq Lw39 X X41 := by rw [eX41]; exact fq.wI gX40 (show (23 : Nat) ∈ Lw39 from mw_23_Lw39)
            exact pw_ret gX41
          · refine pw_ite (fun _ => ?_) (fun _ => ?_)
            · refine pw_eq (fun x43 ex43 => ?_)
              refine pw_ck (fun _ => ?_)
              refine pw_eq (fun X44 eX44 => ?_)
              have gX44 : fq Lw39 X X44 := by rw [eX44]; exact fq.wI (fq.rf (L := Lw39)) (show (5000 : Nat) ∈ Lw39 from mw_5000_Lw39)
              refine pw_bd (fw_leaves ) (fun _ X45 cX45 => ?_)
              have gX45 := gX44.tr cX45 sw_Lw34_Lw39
              exact pw_ret gX45
            · refine pw_bd (fw_endsWithin ) (fun _ X46 cX46 => ?_)
              have gX46 := (fq.rf (L := Lw39)).tr cX46 sw_Lw38_Lw39
              exact pw_ret gX46
theorem sw_Lw33_Lw39 : ∀ k ∈ Lw33, k ∈ Lw39 := by decide
theorem sw_Lw39_Lw39 : ∀ k ∈ Lw39, k ∈ Lw39 := by exact fun _ h => h
theorem fw_signs_144 {X : St} : pw (f_signs_144 X) (fun _ Y => fq Lw39 X Y) := by
  unfold f_signs_144
  refine pw_bd (fw_second ) (fun _ X6 cX6 => ?_)
  have gX6 := (fq.rf (L := Lw39)).tr cX6 sw_Lw33_Lw39
  refine pw_bd (fw_endsOne ) (fun _ X7 cX7 => ?_)
  have gX7 := gX6.tr cX7 sw_Lw39_Lw39
  exact pw_ret gX7
def Lw40 : List Nat := [5, 6, 7, 8, 22, 23, 47, 7000, 7200, 7400, 7600]
theorem sw_Lw12_Lw40 : ∀ k ∈ Lw12, k ∈ Lw40 := by decide
theorem sw_Lw11_Lw40 : ∀ k ∈ Lw11, k ∈ Lw40 := by decide
theorem mw_23_Lw40 : (23 : Nat) ∈ Lw40 := by decide
theorem fw_signs_284 {a4 : Int32} {X : St} : pw (f_signs_284 a4 X) (fun _ Y => fq Lw40 X Y) := by
  unfold f_signs_284
  refine pw_bd (fw_enter ) (fun _ X20 cX20 => ?_)
  have gX20 := (fq.rf (L := Lw40)).tr cX20 sw_Lw12_Lw40
  refine pw_bd (fw_next ) (fun _ X21 cX21 => ?_)
  have gX21 := gX20.tr cX21 sw_Lw11_Lw40
  refine pw_eq (fun X22 eX22 => ?_)
  have gX22 : fq Lw40 X X22 := by rw [eX22]; exact fq.wI gX21 (show (23 : Nat) ∈ Lw40 from mw_23_Lw40)
  exact pw_ret gX22
def Lw41 : List Nat := [5, 6, 7, 8, 9, 10, 22, 23, 47, 7000, 7200, 7400, 7600, 7800]
theorem mw_7800_Lw41 : (7800 : Nat) ∈ Lw41 := by decide
theorem sw_Lw40_Lw41 : ∀ k ∈ Lw40, k ∈ Lw41 := by decide
theorem sw_Lw0_Lw41 : ∀ k ∈ Lw0, k ∈ Lw41 := by decide
theorem fw_signs_262 {a4 : Int32} {b0 : Int32} {b1 : Int32} {X : St} : pw (f_signs_262 a4 b0 b1 X) (fun _ Y => fq Lw41 X Y) := by
  unfold f_signs_262
  refine pw_ck (fun _ => ?_)
  refine pw_eq (fun X18 eX18 => ?_)
  have gX18 : fq Lw41 X X18 := by rw [eX18]; exact fq.wI (fq.rf (L := Lw41)) (show (7800 : Nat) ∈ Lw41 from mw_7800_Lw41)
  refine pw_ck (fun _ => ?_)
  refine pw_eq (fun x19 ex19 => ?_)
  refine pw_ite (fun _ => ?_) (fun _ => ?_)
  · exact pw_mono (fw_signs_284 ) (fun _ _ c => gX18.tr c sw_Lw40_Lw41)
  · refine pw_eq (fun x23 ex23 => ?_)
    refine pw_bd (fw_fails ) (fun _ X24 cX24 => ?_)
    have gX24 := gX18.tr cX24 sw_Lw0_Lw41
    exact pw_mono (fw_signs_284 ) (fun _ _ c => gX24.tr c sw_Lw40_Lw41)
theorem sw_Lw41_Lw41 : ∀ k ∈ Lw41, k ∈ Lw41 := by exact fun _ h => h
theorem fw_signs_261 {a4 : Int32} {b0 : Int32} {X : St} : pw (f_signs_261 a4 b0 X) (fun _ Y => fq Lw41 X Y) := by
  unfold f_signs_261
  exact pw_mono (fw_signs_262 ) (fun _ _ c => (fq.rf (L := Lw41)).tr c sw_Lw41_Lw41)
def Lw42 : List Nat := [5, 6, 7, 8, 9, 10, 19, 22, 23, 47, 4000, 4200, 4400, 4600, 4800, 5000, 5200, 5400, 5600, 5800, 7000, 7200, 7400, 7600, 7800]
theorem sw_Lw2_Lw42 : ∀ k ∈ Lw2, k ∈ Lw42 := by decide
theorem mw_4400_Lw42 : (4400 : Nat) ∈ Lw42 := by decide
theorem mw_5200_Lw42 : (5200 : Nat) ∈ Lw42 := by decide
theorem mw_4600_Lw42 : (4600 : Nat) ∈ Lw42 := by decide
theorem sw_Lw41_Lw42 : ∀ k ∈ Lw41, k ∈ Lw42 := by decide
theorem sw_Lw1_Lw42 : ∀ k ∈ Lw1, k ∈ Lw42 := by decide
theorem fw_signs_172 {a1 : Int32} {a3 : Int32} {b0 : Int32} {X : St} : pw (f_signs_172 a1 a3 b0 X) (fun _ Y => fq Lw42 X Y) := by
  unfold f_signs_172
  refine pw_ck (fun _ => ?_)
  refine pw_eq (fun x9 ex9 => ?_)
  refine pw_bd (fw_make ) (fun x10 X11 cX11 => ?_)
  have gX11 := (fq.rf (L := Lw42)).tr cX11 sw_Lw2_Lw42
  refine pw_eq (fun x12 ex12 => ?_)
  refine pw_ck (fun _ => ?_)
  refine pw_eq (fun X13 eX13 => ?_)
  have gX13 : fq Lw42 X X13 := by rw [eX13]; exact fq.wI gX11 (show (4400 : Nat) ∈ Lw42 from mw_4400_Lw42)
  refine pw_eq (fun y14 ey14 => ?_)
  refine pw_eq (fun x15 ex15 => ?_)
  refine pw_ck (fun _ => ?_)
  refine pw_eq (fun X16 eX16 => ?_)
  have gX16 : fq Lw42 X X16 := by rw [eX16]; exact fq.wI gX13 (show (5200 : Nat) ∈ Lw42 from mw_5200_Lw42)
  refine pw_ck (fun _ => ?_)
  refine pw_eq (fun X17 eX17 => ?_)
  have gX17 : fq Lw42 X X17 := by rw [eX17]; exact fq.wI gX16 (show (4600 : Nat) ∈ Lw42 from mw_4600_Lw42)
  refine pw_ite (fun _ => ?_) (fun _ => ?_)
  · exact pw_mono (fw_signs_261 ) (fun _ _ c => gX17.tr c sw_Lw41_Lw42)
  · refine pw_ck (fun _ => ?_)
    refine pw_eq (fun x25 ex25 => ?_)
    refine pw_ite (fun _ => ?_) (fun _ => ?_)
    · refine pw_ck (fun _ => ?_)
      refine pw_eq (fun x26 ex26 => ?_)
      refine pw_eq (fun y27 ey27 => ?_)
      refine pw_bd (fw_levelOf ) (fun x28 X29 cX29 => ?_)
      have gX29 := gX17.tr cX29 sw_Lw1_Lw42
      refine pw_ite (fun _ => ?_) (fun _ => ?_)
      · refine pw_ck (fun _ => ?_)
        refine pw_eq (fun x30 ex30 => ?_)
        refine pw_eq (fun x31 ex31 => ?_)
        exact pw_mono (fw_signs_262 ) (fun _ _ c => gX29.tr c sw_Lw41_Lw42)
      · exact pw_mono (fw_signs_261 ) (fun _ _ c => gX29.tr c sw_Lw41_Lw42)
    · exact pw_mono (fw_signs_261 ) (fun _ _ c => gX17.tr c sw_Lw41_Lw42)
def Lw43 : List Nat := [5, 6, 7, 8, 9, 10, 19, 20, 21, 22, 23, 24, 47, 4000, 4200, 4400, 4600, 4800, 5000, 5200, 5400, 5600, 5800, 6000, 7000, 7200, 7400, 7600, 7800]
theorem sw_Lw39_Lw43 : ∀ k ∈ Lw39, k ∈ Lw43 := by decide
theorem sw_Lw42_Lw43 : ∀ k ∈ Lw42, k ∈ Lw43 := by decide
theorem fw_signs_135 {a1 : Int32} {b0 : Int32} {X : St} : pw (f_signs_135 a1 b0 X) (fun _ Y => fq Lw43 X Y) := by
  unfold f_signs_135
  refine pw_ite (fun _ => ?_) (fun _ => ?_)
  · exact pw_mono (fw_signs_144 ) (fun _ _ c => (fq.rf (L := Lw43)).tr c sw_Lw39_Lw43)
  · refine pw_ite (fun _ => ?_) (fun _ => ?_)
    · refine pw_eq (fun x8 ex8 => ?_)
      refine pw_ite (fun _ => ?_) (fun _ => ?_)
      · exact pw_mono (fw_signs_172 ) (fun _ _ c => (fq.rf (L := Lw43)).tr c sw_Lw42_Lw43)
      · exact pw_mono (fw_signs_172 ) (fun _ _ c => (fq.rf (L := Lw43)).tr c sw_Lw42_Lw43)
    · exact pw_mono (fw_signs_144 ) (fun _ _ c => (fq.rf (L := Lw43)).tr c sw_Lw39_Lw43)
theorem sw_Lw43_Lw43 : ∀ k ∈ Lw43, k ∈ Lw43 := by exact fun _ h => h
theorem fw_signs_134 {a1 : Int32} {X : St} : pw (f_signs_134 a1 X) (fun _ Y => fq Lw43 X Y) := by
  unfold f_signs_134
  exact pw_mono (fw_signs_135 ) (fun _ _ c => (fq.rf (L := Lw43)).tr c sw_Lw43_Lw43)
theorem fw_signs_109 {a1 : Int32} {X : St} : pw (f_signs_109 a1 X) (fun _ Y => fq Lw43 X Y) := by
  unfold f_signs_109
  refine pw_ite (fun _ => ?_) (fun _ => ?_)
  · refine pw_eq (fun x32 ex32 => ?_)
    refine pw_eq (fun x33 ex33 => ?_)
    refine pw_ck (fun _ => ?_)
    refine pw_eq (fun x34 ex34 => ?_)
    refine pw_ite (fun _ => ?_) (fun _ => ?_)
    · exact pw_mono (fw_signs_135 ) (fun _ _ c => (fq.rf (L := Lw43)).tr c sw_Lw43_Lw43)
    · exact pw_mono (fw_signs_134 ) (fun _ _ c => (fq.rf (L := Lw43)).tr c sw_Lw43_Lw43)
  · exact pw_mono (fw_signs_134 ) (fun _ _ c => (fq.rf (L := Lw43)).tr c sw_Lw43_Lw43)
theorem sw_Lw33_Lw43 : ∀ k ∈ Lw33, k ∈ Lw43 := by decide
theorem fw_signs_106 {a1 : Int32} {b0 : Int32} {X : St} : pw (f_signs_106 a1 b0 X) (fun _ Y => fq Lw43 X Y) := by
  unfold f_signs_106
  refine pw_bd (fw_second ) (fun _ X35 cX35 => ?_)
  have gX35 := (fq.rf (L := Lw43)).tr cX35 sw_Lw33_Lw43
  exact pw_mono (fw_signs_109 ) (fun _ _ c => gX35.tr c sw_Lw43_Lw43)
theorem fw_signs_90 {b0 : Int32} {X : St} : pw (f_signs_90 b0 X) (fun _ Y => fq Lw43 X Y) := by
  unfold f_signs_90
  refine pw_ite (fun _ => ?_) (fun _ => ?_)
  · exact pw_mono (fw_signs_109 ) (fun _ _ c => (fq.rf (L := Lw43)).tr c sw_Lw43_Lw43)
  · refine pw_ite (fun _ => ?_) (fun _ => ?_)
    · exact pw_mono (fw_signs_106 ) (fun _ _ c => (fq.rf (L := Lw43)).tr c sw_Lw43_Lw43)
    · exact pw_mono (fw_signs_106 ) (fun _ _ c => (fq.rf (L := Lw43)).tr c sw_Lw43_Lw43)
theorem fw_signs_89 {X : St} : pw (f_signs_89 X) (fun _ Y => fq Lw43 X Y) := by
  unfold f_signs_89
  exact pw_mono (fw_signs_90 ) (fun _ _ c => (fq.rf (L := Lw43)).tr c sw_Lw43_Lw43)
theorem mw_22_Lw43 : (22 : Nat) ∈ Lw43 := by decide
theorem mw_21_Lw43 : (21 : Nat) ∈ Lw43 := by decide
theorem mw_4600_Lw43 : (4600 : Nat) ∈ Lw43 := by decide
theorem mw_24_Lw43 : (24 : Nat) ∈ Lw43 := by decide
theorem sw_Lw1_Lw43 : ∀ k ∈ Lw1, k ∈ Lw43 := by decide
theorem fw_signs_0 (N : Nat) : ∀ (X : St), pw (f_signs_0 N X) (fun _ Y => fq Lw43 X Y) := by
  unfold f_signs_0
  refine lp_ind (P := fun (r : St → Option (Int32 × St)) => ∀ (X : St), pw (r X) (fun _ Y => fq Lw43 X Y)) (fun _ => pw_none) (fun r ih  X => ?_) N
  unfold f_signs_0_s
  refine pw_eq (fun x1 ex1 => ?_)
  refine pw_eq (fun x2 ex2 => ?_)
  refine pw_ck (fun _ => ?_)
  refine pw_eq (fun x3 ex3 => ?_)
  refine pw_ite (fun _ => ?_) (fun _ => ?_)
  · refine pw_eq (fun x40 ex40 => ?_)
    refine pw_eq (fun x41 ex41 => ?_)
    refine pw_eq (fun X42 eX42 => ?_)
    have gX42 : fq Lw43 X X42 := by rw [eX42]; exact fq.wI (fq.rf (L := Lw43)) (show (22 : Nat) ∈ Lw43 from mw_22_Lw43)
    refine pw_eq (fun x43 ex43 => ?_)
    refine pw_eq (fun x44 ex44 => ?_)
    refine pw_eq (fun X45 eX45 => ?_)
    have gX45 : fq Lw43 X X45 := by rw [eX45]; exact fq.wI gX42 (show (21 : Nat) ∈ Lw43 from mw_21_Lw43)
    refine pw_eq (fun x46 ex46 => ?_)
    refine pw_ck (fun _ => ?_)
    refine pw_eq (fun x47 ex47 => ?_)
    refine pw_eq (fun x48 ex48 => ?_)
    refine pw_ck (fun _ => ?_)
    refine pw_eq (fun X49 eX49 => ?_)
    have gX49 : fq Lw43 X X49 := by rw [eX49]; exact fq.wI gX45 (show (4600 : Nat) ∈ Lw43 from mw_4600_Lw43)
    refine pw_eq (fun X50 eX50 => ?_)
    have gX50 : fq Lw43 X X50 := by rw [eX50]; exact fq.wI gX49 (show (24 : Nat) ∈ Lw43 from mw_24_Lw43)
    exact pw_mono (ih _) (fun _ _ c => gX50.tr c sw_Lw43_Lw43)
  · refine pw_bd (fw_isWell ) (fun x4 X5 cX5 => ?_)
    have gX5 := (fq.rf (L := Lw43)).tr cX5 sw_Lw1_Lw43
    refine pw_ite (fun _ => ?_) (fun _ => ?_)
    · exact pw_mono (fw_signs_89 ) (fun _ _ c => gX5.tr c sw_Lw43_Lw43)
    · refine pw_eq (fun x36 ex36 => ?_)
      refine pw_ite (fun _ => ?_) (fun _ => ?_)
      · refine pw_eq (fun y37 ey37 => ?_)
        refine pw_bd (fw_levelOf ) (fun x38 X39 cX39 => ?_)
        have gX39 := gX5.tr cX39 sw_Lw1_Lw43
        exact pw_mono (fw_signs_90 ) (fun _ _ c => gX39.tr c sw_Lw43_Lw43)
      · exact pw_mono (fw_signs_89 ) (fun _ _ c => gX5.tr c sw_Lw43_Lw43)
theorem fw_signs {X : St} : pw (f_signs X) (fun _ Y => fq Lw43 X Y) := by
  unfold f_signs
  exact pw_mono (fw_signs_0 _ _) (fun _ _ c => (fq.rf (L := Lw43)).tr c sw_Lw43_Lw43)
def Lw44 : List Nat := [5, 6, 7, 8, 9, 10, 13, 15, 17, 19, 20, 21, 22, 23, 24, 47, 800, 1000, 1200, 1400, 1600, 1800, 2000, 4000, 4200, 4400, 4600, 4800, 5000, 5200, 5400, 5600, 5800, 6000, 6600, 6800, 7000, 7200, 7400, 7600, 7800]
theorem sw_Lw1_Lw44 : ∀ k ∈ Lw1, k ∈ Lw44 := by decide
theorem sw_Lw21_Lw44 : ∀ k ∈ Lw21, k ∈ Lw44 := by decide
theorem sw_Lw44_Lw44 : ∀ k ∈ Lw44, k ∈ Lw44 := by exact fun _ h => h
theorem sw_Lw25_Lw44 : ∀ k ∈ Lw25, k ∈ Lw44 := by decide
theorem sw_Lw43_Lw44 : ∀ k ∈ Lw43, k ∈ Lw44 := by decide
theorem sw_Lw39_Lw44 : ∀ k ∈ Lw39, k ∈ Lw44 := by decide
theorem fw_expression_21 (N : Nat) : ∀ (X : St), pw (f_expression_21 N X) (fun _ Y => fq Lw44 X Y) := by
  unfold f_expression_21
  refine lp_ind (P := fun (r : St → Option (Int32 × St)) => ∀ (X : St), pw (r X) (fun _ Y => fq Lw44 X Y)) (fun _ => pw_none) (fun r ih  X => ?_) N
  unfold f_expression_21_s
  refine pw_bd (fw_isWell ) (fun x5 X6 cX6 => ?_)
  have gX6 := (fq.rf (L := Lw44)).tr cX6 sw_Lw1_Lw44
  refine pw_ite (fun _ => ?_) (fun _ => ?_)
  · refine pw_eq (fun x7 ex7 => ?_)
    exact pw_ret gX6
  · refine pw_eq (fun x8 ex8 => ?_)
    refine pw_ite (fun _ => ?_) (fun _ => ?_)
    · refine pw_eq (fun x9 ex9 => ?_)
      exact pw_ret gX6
    · refine pw_eq (fun x10 ex10 => ?_)
      refine pw_ite (fun _ => ?_) (fun _ => ?_)
      · refine pw_bd (fw_begins ) (fun _ X12 cX12 => ?_)
        have gX12 := gX6.tr cX12 sw_Lw21_Lw44
        exact pw_mono (ih _) (fun _ _ c => gX12.tr c sw_Lw44_Lw44)
      · refine pw_ite (fun _ => ?_) (fun _ => ?_)
        · refine pw_bd (fw_operand ) (fun _ X14 cX14 => ?_)
          have gX14 := gX6.tr cX14 sw_Lw25_Lw44
          exact pw_mono (ih _) (fun _ _ c => gX14.tr c sw_Lw44_Lw44)
        · refine pw_ite (fun _ => ?_) (fun _ => ?_)
          · refine pw_bd (fw_behind ) (fun _ X16 cX16 => ?_)
            have gX16 := gX6.tr cX16 sw_Lw25_Lw44
            exact pw_mono (ih _) (fun _ _ c => gX16.tr c sw_Lw44_Lw44)
          · refine pw_ite (fun _ => ?_) (fun _ => ?_)
            · refine pw_bd (fw_signs ) (fun _ X18 cX18 => ?_)
              have gX18 := gX6.tr cX18 sw_Lw43_Lw44
              exact pw_mono (ih _) (fun _ _ c => gX18.tr c sw_Lw44_Lw44)
            · refine pw_bd (fw_endsOne ) (fun _ X19 cX19 => ?_)
              have gX19 := gX6.tr cX19 sw_Lw39_Lw44
              exact pw_mono (ih _) (fun _ _ c => gX19.tr c sw_Lw44_Lw44)
theorem mw_22_Lw44 : (22 : Nat) ∈ Lw44 := by decide
theorem sw_Lw12_Lw44 : ∀ k ∈ Lw12, k ∈ Lw44 := by decide
theorem mw_23_Lw44 : (23 : Nat) ∈ Lw44 := by decide
theorem mw_24_Lw44 : (24 : Nat) ∈ Lw44 := by decide
theorem fw_expression {X : St} : pw (f_expression X) (fun _ Y => fq Lw44 X Y) := by
  unfold f_expression
  refine pw_eq (fun X1 eX1 => ?_)
  have gX1 : fq Lw44 X X1 := by rw [eX1]; exact fq.wI (fq.rf (L := Lw44)) (show (22 : Nat) ∈ Lw44 from mw_22_Lw44)
  refine pw_bd (fw_enter ) (fun _ X2 cX2 => ?_)
  have gX2 := gX1.tr cX2 sw_Lw12_Lw44
  refine pw_eq (fun X3 eX3 => ?_)
  have gX3 : fq Lw44 X X3 := by rw [eX3]; exact fq.wI gX2 (show (23 : Nat) ∈ Lw44 from mw_23_Lw44)
  refine pw_eq (fun X4 eX4 => ?_)
  have gX4 : fq Lw44 X X4 := by rw [eX4]; exact fq.wI gX3 (show (24 : Nat) ∈ Lw44 from mw_24_Lw44)
  exact pw_mono (fw_expression_21 _ _) (fun _ _ c => gX4.tr c sw_Lw44_Lw44)
theorem fw_part__V_19 {X : St} : pw (f_part__V_19 X) (fun _ Y => fq Lw0 X Y) := by
  unfold f_part__V_19
  refine pw_bd (fw_stray ) (fun _ X4 cX4 => ?_)
  have gX4 := (fq.rf (L := Lw0)).tr cX4 sw_Lw0_Lw0
  exact pw_ret gX4
theorem fw_param_15 {X : St} : pw (f_param_15 X) (fun _ Y => fq Lw0 X Y) := by
  unfold f_param_15
  refine pw_bd (fw_stray ) (fun _ X3 cX3 => ?_)
  have gX3 := (fq.rf (L := Lw0)).tr cX3 sw_Lw0_Lw0
  exact pw_ret gX3
def Lw45 : List Nat := [5, 6, 7, 8, 9, 10, 13, 15, 17, 20, 21, 47, 800, 1000, 1200, 1400, 1600, 1800, 2000, 3000, 3200, 6000, 6600, 6800]
theorem sw_Lw1_Lw45 : ∀ k ∈ Lw1, k ∈ Lw45 := by decide
theorem mw_6000_Lw45 : (6000 : Nat) ∈ Lw45 := by decide
theorem mw_20_Lw45 : (20 : Nat) ∈ Lw45 := by decide
theorem mw_3000_Lw45 : (3000 : Nat) ∈ Lw45 := by decide
theorem mw_3200_Lw45 : (3200 : Nat) ∈ Lw45 := by decide
theorem sw_Lw11_Lw45 : ∀ k ∈ Lw11, k ∈ Lw45 := by decide
theorem sw_Lw16_Lw45 : ∀ k ∈ Lw16, k ∈ Lw45 := by decide
theorem fw_param_76 {a1 : Int32} {X : St} : pw (f_param_76 a1 X) (fun _ Y => fq Lw45 X Y) := by
  unfold f_param_76
  refine pw_bd (fw_isWell ) (fun x7 X8 cX8 => ?_)
  have gX8 := (fq.rf (L := Lw45)).tr cX8 sw_Lw1_Lw45
  refine pw_ite (fun _ => ?_) (fun _ => ?_)
  · exact pw_ret gX8
  · refine pw_eq (fun x9 ex9 => ?_)
    refine pw_eq (fun y10 ey10 => ?_)
    refine pw_ck (fun _ => ?_)
    refine pw_eq (fun X11 eX11 => ?_)
    have gX11 : fq Lw45 X X11 := by rw [eX11]; exact fq.wL gX8 (show (6000 : Nat) ∈ Lw45 from mw_6000_Lw45)
    refine pw_eq (fun x12 ex12 => ?_)
    refine pw_eq (fun x13 ex13 => ?_)
    refine pw_eq (fun X14 eX14 => ?_)
    have gX14 : fq Lw45 X X14 := by rw [eX14]; exact fq.wI gX11 (show (20 : Nat) ∈ Lw45 from mw_20_Lw45)
    refine pw_eq (fun x15 ex15 => ?_)
    refine pw_ck (fun _ => ?_)
    refine pw_eq (fun X16 eX16 => ?_)
    have gX16 : fq Lw45 X X16 := by rw [eX16]; exact fq.wI gX14 (show (3000 : Nat) ∈ Lw45 from mw_3000_Lw45)
    refine pw_eq (fun x17 ex17 => ?_)
    refine pw_eq (fun x18 ex18 => ?_)
    refine pw_eq (fun x19 ex19 => ?_)
    refine pw_eq (fun x20 ex20 => ?_)
    refine pw_ck (fun _ => ?_)
    refine pw_eq (fun X21 eX21 => ?_)
    have gX21 : fq Lw45 X X21 := by rw [eX21]; exact fq.wI gX16 (show (3200 : Nat) ∈ Lw45 from mw_3200_Lw45)
    refine pw_bd (fw_next ) (fun _ X22 cX22 => ?_)
    have gX22 := gX21.tr cX22 sw_Lw11_Lw45
    refine pw_bd (fw_isSign ) (fun x23 X24 cX24 => ?_)
    have gX24 := gX22.tr cX24 sw_Lw1_Lw45
    refine pw_ite (fun _ => ?_) (fun _ => ?_)
    · exact pw_ret gX24
    · refine pw_bd (fw_next ) (fun _ X25 cX25 => ?_)
      have gX25 := gX24.tr cX25 sw_Lw11_Lw45
      refine pw_eq (fun x26 ex26 => ?_)
      refine pw_eq (fun x27 ex27 => ?_)
      refine pw_eq (fun x28 ex28 => ?_)
      refine pw_eq (fun x29 ex29 => ?_)
      refine pw_bd (fw_kind ) (fun x30 X31 cX31 => ?_)
      have gX31 := gX25.tr cX31 sw_Lw16_Lw45
      refine pw_ck (fun _ => ?_)
      refine pw_eq (fun X32 eX32 => ?_)
      have gX32 : fq Lw45 X X32 := by rw [eX32]; exact fq.wI gX31 (show (3200 : Nat) ∈ Lw45 from mw_3200_Lw45)
      exact pw_ret gX32
theorem sw_Lw45_Lw45 : ∀ k ∈ Lw45, k ∈ Lw45 := by exact fun _ h => h
theorem fw_param_53 {r22 : Int32 → Int32 → St → Option (Int32 × St)} (hr22 : ∀ (q0 : Int32) (q1 : Int32) (X : St), pw (r22 q0 q1 X) (fun _ Y => fq Lw45 X Y)) {a1 : Int32} {a2 : Int32} {X : St} : pw (f_param_53 r22 a1 a2 X) (fun _ Y => fq Lw45 X Y) := by
  unfold f_param_53
  refine pw_eq (fun x38 ex38 => ?_)
  exact pw_mono (hr22 _ _ _) (fun _ _ c => (fq.rf (L := Lw45)).tr c sw_Lw45_Lw45)
theorem sw_Lw0_Lw45 : ∀ k ∈ Lw0, k ∈ Lw45 := by decide
theorem fw_param_22 (N : Nat) : ∀ (a1 : Int32) (a2 : Int32) (X : St), pw (f_param_22 N a1 a2 X) (fun _ Y => fq Lw45 X Y) := by
  unfold f_param_22
  refine lp_ind (P := fun (r : Int32 → Int32 → St → Option (Int32 × St)) => ∀ (a1 : Int32) (a2 : Int32) (X : St), pw (r a1 a2 X) (fun _ Y => fq Lw45 X Y)) (fun _ _ _ => pw_none) (fun r ih a1 a2 X => ?_) N
  unfold f_param_22_s
  refine pw_eq (fun x5 ex5 => ?_)
  refine pw_ite (fun _ => ?_) (fun _ => ?_)
  · refine pw_eq (fun x6 ex6 => ?_)
    refine pw_ite (fun _ => ?_) (fun _ => ?_)
    · refine pw_eq (fun x33 ex33 => ?_)
      refine pw_bd (fw_fails ) (fun _ X34 cX34 => ?_)
      have gX34 := (fq.rf (L := Lw45)).tr cX34 sw_Lw0_Lw45
      exact pw_mono (fw_param_76 ) (fun _ _ c => gX34.tr c sw_Lw45_Lw45)
    · exact pw_mono (fw_param_76 ) (fun _ _ c => (fq.rf (L := Lw45)).tr c sw_Lw45_Lw45)
  · refine pw_ck (fun _ => ?_)
    refine pw_eq (fun y35 ey35 => ?_)
    refine pw_eq (fun y36 ey36 => ?_)
    refine pw_eq (fun x37 ex37 => ?_)
    refine pw_ite (fun _ => ?_) (fun _ => ?_)
    · refine pw_eq (fun x39 ex39 => ?_)
      refine pw_bd (fw_fails ) (fun _ X40 cX40 => ?_)
      have gX40 := (fq.rf (L := Lw45)).tr cX40 sw_Lw0_Lw45
      exact pw_mono (fw_param_53 ih) (fun _ _ c => gX40.tr c sw_Lw45_Lw45)
    · exact pw_mono (fw_param_53 ih) (fun _ _ c => (fq.rf (L := Lw45)).tr c sw_Lw45_Lw45)
theorem fw_param {p1 : Int32} {X : St} : pw (f_param p1 X) (fun _ Y => fq Lw45 X Y) := by
  unfold f_param
  refine pw_bd (fw_isWell ) (fun x1 X2 cX2 => ?_)
  have gX2 := (fq.rf (L := Lw45)).tr cX2 sw_Lw1_Lw45
  refine pw_ite (fun _ => ?_) (fun _ => ?_)
  · exact pw_mono (fw_param_15 ) (fun _ _ c => gX2.tr c sw_Lw0_Lw45)
  · refine pw_eq (fun x4 ex4 => ?_)
    refine pw_ite (fun _ => ?_) (fun _ => ?_)
    · exact pw_mono (fw_param_22 _ _ _ _) (fun _ _ c => gX2.tr c sw_Lw45_Lw45)
    · exact pw_mono (fw_param_15 ) (fun _ _ c => gX2.tr c sw_Lw0_Lw45)
def Lw46 : List Nat := [5, 6, 7, 8, 9, 10, 13, 15, 17, 18, 19, 20, 21, 22, 23, 24, 47, 800, 1000, 1200, 1400, 1600, 1800, 2000, 3600, 4000, 4200, 4400, 4600, 4800, 5000, 5200, 5400, 5600, 5800, 6000, 6600, 6800, 7000, 7200, 7400, 7600, 7800]
theorem sw_Lw13_Lw46 : ∀ k ∈ Lw13, k ∈ Lw46 := by decide
theorem sw_Lw1_Lw46 : ∀ k ∈ Lw1, k ∈ Lw46 := by decide
theorem sw_Lw44_Lw46 : ∀ k ∈ Lw44, k ∈ Lw46 := by decide
theorem mw_3600_Lw46 : (3600 : Nat) ∈ Lw46 := by decide
theorem mw_18_Lw46 : (18 : Nat) ∈ Lw46 := by decide
theorem fw_part__V_166 {a1 : Int32} {X : St} : pw (f_part__V_166 a1 X) (fun _ Y => fq Lw46 X Y) := by
  unfold f_part__V_166
  refine pw_bd (fw_takes ) (fun _ X27 cX27 => ?_)
  have gX27 := (fq.rf (L := Lw46)).tr cX27 sw_Lw13_Lw46
  refine pw_bd (fw_isWell ) (fun x28 X29 cX29 => ?_)
  have gX29 := gX27.tr cX29 sw_Lw1_Lw46
  refine pw_ite (fun _ => ?_) (fun _ => ?_)
  · exact pw_ret gX29
  · refine pw_bd (fw_expression ) (fun x30 X31 cX31 => ?_)
    have gX31 := gX29.tr cX31 sw_Lw44_Lw46
    refine pw_ck (fun _ => ?_)
    refine pw_eq (fun X32 eX32 => ?_)
    have gX32 : fq Lw46 X X32 := by rw [eX32]; exact fq.wI gX31 (show (3600 : Nat) ∈ Lw46 from mw_3600_Lw46)
    refine pw_bd (fw_takes ) (fun _ X33 cX33 => ?_)
    have gX33 := gX32.tr cX33 sw_Lw13_Lw46
    refine pw_eq (fun x34 ex34 => ?_)
    refine pw_eq (fun x35 ex35 => ?_)
    refine pw_eq (fun X36 eX36 => ?_)
    have gX36 : fq Lw46 X X36 := by rw [eX36]; exact fq.wI gX33 (show (18 : Nat) ∈ Lw46 from mw_18_Lw46)
    exact pw_ret gX36
def Lw47 : List Nat := [5, 6, 7, 8, 9, 10, 13, 15, 17, 18, 19, 20, 21, 22, 23, 24, 47, 800, 1000, 1200, 1400, 1600, 1800, 2000, 3400, 3600, 4000, 4200, 4400, 4600, 4800, 5000, 5200, 5400, 5600, 5800, 6000, 6600, 6800, 7000, 7200, 7400, 7600, 7800]
theorem sw_Lw1_Lw47 : ∀ k ∈ Lw1, k ∈ Lw47 := by decide
theorem sw_Lw46_Lw47 : ∀ k ∈ Lw46, k ∈ Lw47 := by decide
theorem sw_Lw11_Lw47 : ∀ k ∈ Lw11, k ∈ Lw47 := by decide
theorem sw_Lw16_Lw47 : ∀ k ∈ Lw16, k ∈ Lw47 := by decide
theorem mw_3400_Lw47 : (3400 : Nat) ∈ Lw47 := by decide
theorem fw_part__V_143 {a1 : Int32} {X : St} : pw (f_part__V_143 a1 X) (fun _ Y => fq Lw47 X Y) := by
  unfold f_part__V_143
  refine pw_bd (fw_isSign ) (fun x25 X26 cX26 => ?_)
  have gX26 := (fq.rf (L := Lw47)).tr cX26 sw_Lw1_Lw47
  refine pw_ite (fun _ => ?_) (fun _ => ?_)
  · exact pw_mono (fw_part__V_166 ) (fun _ _ c => gX26.tr c sw_Lw46_Lw47)
  · refine pw_bd (fw_next ) (fun _ X37 cX37 => ?_)
    have gX37 := gX26.tr cX37 sw_Lw11_Lw47
    refine pw_bd (fw_kind ) (fun x38 X39 cX39 => ?_)
    have gX39 := gX37.tr cX39 sw_Lw16_Lw47
    refine pw_ck (fun _ => ?_)
    refine pw_eq (fun X40 eX40 => ?_)
    have gX40 : fq Lw47 X X40 := by rw [eX40]; exact fq.wI gX39 (show (3400 : Nat) ∈ Lw47 from mw_3400_Lw47)
    exact pw_mono (fw_part__V_166 ) (fun _ _ c => gX40.tr c sw_Lw46_Lw47)
def Lw48 : List Nat := [5, 6, 7, 8, 9, 10, 13, 15, 17, 18, 19, 20, 21, 22, 23, 24, 47, 800, 1000, 1200, 1400, 1600, 1800, 2000, 3000, 3200, 3400, 3600, 4000, 4200, 4400, 4600, 4800, 5000, 5200, 5400, 5600, 5800, 6000, 6600, 6800, 7000, 7200, 7400, 7600, 7800]
theorem sw_Lw1_Lw48 : ∀ k ∈ Lw1, k ∈ Lw48 := by decide
theorem sw_Lw15_Lw48 : ∀ k ∈ Lw15, k ∈ Lw48 := by decide
theorem sw_Lw47_Lw48 : ∀ k ∈ Lw47, k ∈ Lw48 := by decide
theorem sw_Lw11_Lw48 : ∀ k ∈ Lw11, k ∈ Lw48 := by decide
theorem sw_Lw45_Lw48 : ∀ k ∈ Lw45, k ∈ Lw48 := by decide
theorem sw_Lw48_Lw48 : ∀ k ∈ Lw48, k ∈ Lw48 := by exact fun _ h => h
theorem fw_part__V_116 (N : Nat) : ∀ (a1 : Int32) (X : St), pw (f_part__V_116 N a1 X) (fun _ Y => fq Lw48 X Y) := by
  unfold f_part__V_116
  refine lp_ind (P := fun (r : Int32 → St → Option (Int32 × St)) => ∀ (a1 : Int32) (X : St), pw (r a1 X) (fun _ Y => fq Lw48 X Y)) (fun _ _ => pw_none) (fun r ih a1 X => ?_) N
  unfold f_part__V_116_s
  refine pw_bd (fw_isSign ) (fun x22 X23 cX23 => ?_)
  have gX23 := (fq.rf (L := Lw48)).tr cX23 sw_Lw1_Lw48
  refine pw_ite (fun _ => ?_) (fun _ => ?_)
  · refine pw_bd (fw_closes ) (fun _ X24 cX24 => ?_)
    have gX24 := gX23.tr cX24 sw_Lw15_Lw48
    exact pw_mono (fw_part__V_143 ) (fun _ _ c => gX24.tr c sw_Lw47_Lw48)
  · refine pw_bd (fw_next ) (fun _ X41 cX41 => ?_)
    have gX41 := gX23.tr cX41 sw_Lw11_Lw48
    refine pw_bd (fw_param ) (fun _ X42 cX42 => ?_)
    have gX42 := gX41.tr cX42 sw_Lw45_Lw48
    exact pw_mono (ih _ _) (fun _ _ c => gX42.tr c sw_Lw48_Lw48)
def Lw49 : List Nat := [5, 6, 7, 8, 9, 10, 13, 15, 17, 18, 19, 20, 21, 22, 23, 24, 47, 800, 1000, 1200, 1400, 1600, 1800, 2000, 2200, 2400, 2600, 3000, 3200, 3400, 3600, 4000, 4200, 4400, 4600, 4800, 5000, 5200, 5400, 5600, 5800, 6000, 6600, 6800, 7000, 7200, 7400, 7600, 7800]
theorem sw_Lw11_Lw49 : ∀ k ∈ Lw11, k ∈ Lw49 := by decide
theorem sw_Lw1_Lw49 : ∀ k ∈ Lw1, k ∈ Lw49 := by decide
theorem sw_Lw0_Lw49 : ∀ k ∈ Lw0, k ∈ Lw49 := by decide
theorem mw_2200_Lw49 : (2200 : Nat) ∈ Lw49 := by decide
theorem mw_2400_Lw49 : (2400 : Nat) ∈ Lw49 := by decide
theorem mw_2600_Lw49 : (2600 : Nat) ∈ Lw49 := by decide
theorem mw_3000_Lw49 : (3000 : Nat) ∈ Lw49 := by decide
theorem mw_3400_Lw49 : (3400 : Nat) ∈ Lw49 := by decide
theorem mw_20_Lw49 : (20 : Nat) ∈ Lw49 := by decide
theorem mw_21_Lw49 : (21 : Nat) ∈ Lw49 := by decide
theorem sw_Lw15_Lw49 : ∀ k ∈ Lw15, k ∈ Lw49 := by decide
theorem sw_Lw45_Lw49 : ∀ k ∈ Lw45, k ∈ Lw49 := by decide
theorem sw_Lw48_Lw49 : ∀ k ∈ Lw48, k ∈ Lw49 := by decide
theorem sw_Lw47_Lw49 : ∀ k ∈ Lw47, k ∈ Lw49 := by decide
theorem fw_part__V {X : St} : pw (f_part__V X) (fun _ Y => fq Lw49 X Y) := by
  unfold f_part__V
  refine pw_bd (fw_next ) (fun _ X1 cX1 => ?_)
  have gX1 := (fq.rf (L := Lw49)).tr cX1 sw_Lw11_Lw49
  refine pw_bd (fw_isWell ) (fun x2 X3 cX3 => ?_)
  have gX3 := gX1.tr cX3 sw_Lw1_Lw49
  refine pw_ite (fun _ => ?_) (fun _ => ?_)
  · exact pw_mono (fw_part__V_19 ) (fun _ _ c => gX3.tr c sw_Lw0_Lw49)
  · refine pw_eq (fun x5 ex5 => ?_)
    refine pw_ite (fun _ => ?_) (fun _ => ?_)
    · refine pw_eq (fun x6 ex6 => ?_)
      refine pw_eq (fun y7 ey7 => ?_)
      refine pw_ck (fun _ => ?_)
      refine pw_eq (fun X8 eX8 => ?_)
      have gX8 : fq Lw49 X X8 := by rw [eX8]; exact fq.wL gX3 (show (2200 : Nat) ∈ Lw49 from mw_2200_Lw49)
      refine pw_eq (fun x9 ex9 => ?_)
      refine pw_ck (fun _ => ?_)
      refine pw_eq (fun X10 eX10 => ?_)
      have gX10 : fq Lw49 X X10 := by rw [eX10]; exact fq.wI gX8 (show (2400 : Nat) ∈ Lw49 from mw_2400_Lw49)
      refine pw_eq (fun x11 ex11 => ?_)
      refine pw_ck (fun _ => ?_)
      refine pw_eq (fun X12 eX12 => ?_)
      have gX12 : fq Lw49 X X12 := by rw [eX12]; exact fq.wI gX10 (show (2600 : Nat) ∈ Lw49 from mw_2600_Lw49)
      refine pw_ck (fun _ => ?_)
      refine pw_eq (fun X13 eX13 => ?_)
      have gX13 : fq Lw49 X X13 := by rw [eX13]; exact fq.wI gX12 (show (3000 : Nat) ∈ Lw49 from mw_3000_Lw49)
      refine pw_ck (fun _ => ?_)
      refine pw_eq (fun X14 eX14 => ?_)
      have gX14 : fq Lw49 X X14 := by rw [eX14]; exact fq.wI gX13 (show (3400 : Nat) ∈ Lw49 from mw_3400_Lw49)
      refine pw_eq (fun X15 eX15 => ?_)
      have gX15 : fq Lw49 X X15 := by rw [eX15]; exact fq.wI gX14 (show (20 : Nat) ∈ Lw49 from mw_20_Lw49)
      refine pw_eq (fun X16 eX16 => ?_)
      have gX16 : fq Lw49 X X16 := by rw [eX16]; exact fq.wI gX15 (show (21 : Nat) ∈ Lw49 from mw_21_Lw49)
      refine pw_bd (fw_next ) (fun _ X17 cX17 => ?_)
      have gX17 := gX16.tr cX17 sw_Lw11_Lw49
      refine pw_bd (fw_opens ) (fun _ X18 cX18 => ?_)
      have gX18 := gX17.tr cX18 sw_Lw15_Lw49
      refine pw_bd (fw_isSign ) (fun x19 X20 cX20 => ?_)
      have gX20 := gX18.tr cX20 sw_Lw1_Lw49
      refine pw_ite (fun _ => ?_) (fun _ => ?_)
      · refine pw_bd (fw_param ) (fun _ X21 cX21 => ?_)
        have gX21 := gX20.tr cX21 sw_Lw45_Lw49
        exact pw_mono (fw_part__V_116 _ _ _) (fun _ _ c => gX21.tr c sw_Lw48_Lw49)
      · refine pw_bd (fw_closes ) (fun _ X43 cX43 => ?_)
        have gX43 := gX20.tr cX43 sw_Lw15_Lw49
        exact pw_mono (fw_part__V_143 ) (fun _ _ c => gX43.tr c sw_Lw47_Lw49)
    · exact pw_mono (fw_part__V_19 ) (fun _ _ c => gX3.tr c sw_Lw0_Lw49)
theorem fw_partOf_33 {r10 : Int64 → Int32 → Int32 → St → Option (Int32 × St)} (hr10 : ∀ (q0 : Int64) (q1 : Int32) (q2 : Int32) (X : St), pw (r10 q0 q1 q2 X) (fun _ Y => fq Lw1 X Y)) {l1 : Int64} {a4 : Int32} {b0 : Int32} {X : St} : pw (f_partOf_33 r10 l1 a4 b0 X) (fun _ Y => fq Lw1 X Y) := by
  unfold f_partOf_33
  refine pw_eq (fun x5 ex5 => ?_)
  exact pw_mono (hr10 _ _ _ _) (fun _ _ c => (fq.rf (L := Lw1)).tr c sw_Lw1_Lw1)
theorem fw_partOf_10 (N : Nat) : ∀ (l1 : Int64) (a3 : Int32) (a4 : Int32) (X : St), pw (f_partOf_10 N l1 a3 a4 X) (fun _ Y => fq Lw1 X Y) := by
  unfold f_partOf_10
  refine lp_ind (P := fun (r : Int64 → Int32 → Int32 → St → Option (Int32 × St)) => ∀ (l1 : Int64) (a3 : Int32) (a4 : Int32) (X : St), pw (r l1 a3 a4 X) (fun _ Y => fq Lw1 X Y)) (fun _ _ _ _ => pw_none) (fun r ih l1 a3 a4 X => ?_) N
  unfold f_partOf_10_s
  refine pw_ite (fun _ => ?_) (fun _ => ?_)
  · exact pw_ret (fq.rf (L := Lw1))
  · refine pw_ck (fun _ => ?_)
    refine pw_eq (fun y3 ey3 => ?_)
    refine pw_eq (fun x4 ex4 => ?_)
    refine pw_ite (fun _ => ?_) (fun _ => ?_)
    · exact pw_mono (fw_partOf_33 ih) (fun _ _ c => (fq.rf (L := Lw1)).tr c sw_Lw1_Lw1)
    · exact pw_mono (fw_partOf_33 ih) (fun _ _ c => (fq.rf (L := Lw1)).tr c sw_Lw1_Lw1)
theorem fw_partOf {q1 : Int64} {X : St} : pw (f_partOf q1 X) (fun _ Y => fq Lw1 X Y) := by
  unfold f_partOf
  refine pw_eq (fun x1 ex1 => ?_)
  refine pw_eq (fun x2 ex2 => ?_)
  exact pw_mono (fw_partOf_10 _ _ _ _ _) (fun _ _ c => (fq.rf (L := Lw1)).tr c sw_Lw1_Lw1)
def Lw50 : List Nat := [9, 10, 5200]
theorem sw_Lw50_Lw50 : ∀ k ∈ Lw50, k ∈ Lw50 := by exact fun _ h => h
theorem fw_knows_126 {r60 : Int32 → Int32 → Int32 → St → Option (Int32 × St)} (hr60 : ∀ (q0 : Int32) (q1 : Int32) (q2 : Int32) (X : St), pw (r60 q0 q1 q2 X) (fun _ Y => fq Lw50 X Y)) {a1 : Int32} {a2 : Int32} {a3 : Int32} {X : St} : pw (f_knows_126 r60 a1 a2 a3 X) (fun _ Y => fq Lw50 X Y) := by
  unfold f_knows_126
  refine pw_eq (fun x12 ex12 => ?_)
  exact pw_mono (hr60 _ _ _ _) (fun _ _ c => (fq.rf (L := Lw50)).tr c sw_Lw50_Lw50)
theorem sw_Lw0_Lw50 : ∀ k ∈ Lw0, k ∈ Lw50 := by decide
theorem sw_Lw1_Lw50 : ∀ k ∈ Lw1, k ∈ Lw50 := by decide
theorem mw_5200_Lw50 : (5200 : Nat) ∈ Lw50 := by decide
theorem fw_knows_60 (N : Nat) : ∀ (a1 : Int32) (a2 : Int32) (a3 : Int32) (X : St), pw (f_knows_60 N a1 a2 a3 X) (fun _ Y => fq Lw50 X Y) := by
  unfold f_knows_60
  refine lp_ind (P := fun (r : Int32 → Int32 → Int32 → St → Option (Int32 × St)) => ∀ (a1 : Int32) (a2 : Int32) (a3 : Int32) (X : St), pw (r a1 a2 a3 X) (fun _ Y => fq Lw50 X Y)) (fun _ _ _ _ => pw_none) (fun r ih a1 a2 a3 X => ?_) N
  unfold f_knows_60_s
  refine pw_eq (fun x4 ex4 => ?_)
  refine pw_ite (fun _ => ?_) (fun _ => ?_)
  · refine pw_ite (fun _ => ?_) (fun _ => ?_)
    · exact pw_ret (fq.rf (L := Lw50))
    · refine pw_bd (fw_fails ) (fun _ X5 cX5 => ?_)
      have gX5 := (fq.rf (L := Lw50)).tr cX5 sw_Lw0_Lw50
      exact pw_ret gX5
  · refine pw_ck (fun _ => ?_)
    refine pw_eq (fun x6 ex6 => ?_)
    refine pw_ite (fun _ => ?_) (fun _ => ?_)
    · refine pw_ck (fun _ => ?_)
      refine pw_eq (fun y7 ey7 => ?_)
      refine pw_bd (fw_partOf ) (fun x8 X9 cX9 => ?_)
      have gX9 := (fq.rf (L := Lw50)).tr cX9 sw_Lw1_Lw50
      refine pw_ck (fun _ => ?_)
      refine pw_eq (fun X10 eX10 => ?_)
      have gX10 : fq Lw50 X X10 := by rw [eX10]; exact fq.wI gX9 (show (5200 : Nat) ∈ Lw50 from mw_5200_Lw50)
      refine pw_ck (fun _ => ?_)
      refine pw_eq (fun x11 ex11 => ?_)
      refine pw_ite (fun _ => ?_) (fun _ => ?_)
      · exact pw_mono (fw_knows_126 ih) (fun _ _ c => gX10.tr c sw_Lw50_Lw50)
      · refine pw_ck (fun _ => ?_)
        refine pw_eq (fun x13 ex13 => ?_)
        refine pw_ite (fun _ => ?_) (fun _ => ?_)
        · exact pw_mono (fw_knows_126 ih) (fun _ _ c => gX10.tr c sw_Lw50_Lw50)
        · refine pw_ck (fun _ => ?_)
          refine pw_eq (fun x14 ex14 => ?_)
          exact pw_mono (fw_knows_126 ih) (fun _ _ c => gX10.tr c sw_Lw50_Lw50)
    · exact pw_mono (fw_knows_126 ih) (fun _ _ c => (fq.rf (L := Lw50)).tr c sw_Lw50_Lw50)
theorem fw_knows_52 {r11 : Int32 → Int32 → Int32 → St → Option (Int32 × St)} (hr11 : ∀ (q0 : Int32) (q1 : Int32) (q2 : Int32) (X : St), pw (r11 q0 q1 q2 X) (fun _ Y => fq Lw50 X Y)) {a1 : Int32} {a2 : Int32} {a3 : Int32} {X : St} : pw (f_knows_52 r11 a1 a2 a3 X) (fun _ Y => fq Lw50 X Y) := by
  unfold f_knows_52
  refine pw_eq (fun x18 ex18 => ?_)
  exact pw_mono (hr11 _ _ _ _) (fun _ _ c => (fq.rf (L := Lw50)).tr c sw_Lw50_Lw50)
theorem fw_knows_11 (N : Nat) : ∀ (a1 : Int32) (a2 : Int32) (a3 : Int32) (X : St), pw (f_knows_11 N a1 a2 a3 X) (fun _ Y => fq Lw50 X Y) := by
  unfold f_knows_11
  refine lp_ind (P := fun (r : Int32 → Int32 → Int32 → St → Option (Int32 × St)) => ∀ (a1 : Int32) (a2 : Int32) (a3 : Int32) (X : St), pw (r a1 a2 a3 X) (fun _ Y => fq Lw50 X Y)) (fun _ _ _ _ => pw_none) (fun r ih a1 a2 a3 X => ?_) N
  unfold f_knows_11_s
  refine pw_eq (fun x3 ex3 => ?_)
  refine pw_ite (fun _ => ?_) (fun _ => ?_)
  · exact pw_mono (fw_knows_60 _ _ _ _ _) (fun _ _ c => (fq.rf (L := Lw50)).tr c sw_Lw50_Lw50)
  · refine pw_ck (fun _ => ?_)
    refine pw_eq (fun y15 ey15 => ?_)
    refine pw_bd (fw_partOf ) (fun x16 X17 cX17 => ?_)
    have gX17 := (fq.rf (L := Lw50)).tr cX17 sw_Lw1_Lw50
    refine pw_ite (fun _ => ?_) (fun _ => ?_)
    · exact pw_mono (fw_knows_52 ih) (fun _ _ c => gX17.tr c sw_Lw50_Lw50)
    · refine pw_ck (fun _ => ?_)
      refine pw_eq (fun x19 ex19 => ?_)
      refine pw_ite (fun _ => ?_) (fun _ => ?_)
      · exact pw_mono (fw_knows_52 ih) (fun _ _ c => gX17.tr c sw_Lw50_Lw50)
      · refine pw_ck (fun _ => ?_)
        refine pw_eq (fun x20 ex20 => ?_)
        exact pw_mono (fw_knows_52 ih) (fun _ _ c => gX17.tr c sw_Lw50_Lw50)
theorem fw_knows {X : St} : pw (f_knows X) (fun _ Y => fq Lw50 X Y) := by
  unfold f_knows
  refine pw_eq (fun x1 ex1 => ?_)
  refine pw_eq (fun x2 ex2 => ?_)
  exact pw_mono (fw_knows_11 _ _ _ _ _) (fun _ _ c => (fq.rf (L := Lw50)).tr c sw_Lw50_Lw50)
def Lw51 : List Nat := [14, 16]
theorem mw_14_Lw51 : (14 : Nat) ∈ Lw51 := by decide
theorem mw_16_Lw51 : (16 : Nat) ∈ Lw51 := by decide
theorem fw_reads_167 {X : St} : pw (f_reads_167 X) (fun _ Y => fq Lw51 X Y) := by
  unfold f_reads_167
  refine pw_eq (fun x18 ex18 => ?_)
  refine pw_eq (fun X19 eX19 => ?_)
  have gX19 : fq Lw51 X X19 := by rw [eX19]; exact fq.wI (fq.rf (L := Lw51)) (show (14 : Nat) ∈ Lw51 from mw_14_Lw51)
  refine pw_eq (fun x20 ex20 => ?_)
  refine pw_eq (fun X21 eX21 => ?_)
  have gX21 : fq Lw51 X X21 := by rw [eX21]; exact fq.wI gX19 (show (16 : Nat) ∈ Lw51 from mw_16_Lw51)
  exact pw_ret gX21
def Lw52 : List Nat := [9, 10, 14, 16]
theorem sw_Lw0_Lw52 : ∀ k ∈ Lw0, k ∈ Lw52 := by decide
theorem sw_Lw51_Lw52 : ∀ k ∈ Lw51, k ∈ Lw52 := by decide
theorem fw_reads_157 {X : St} : pw (f_reads_157 X) (fun _ Y => fq Lw52 X Y) := by
  unfold f_reads_157
  refine pw_eq (fun x23 ex23 => ?_)
  refine pw_bd (fw_fails ) (fun _ X24 cX24 => ?_)
  have gX24 := (fq.rf (L := Lw52)).tr cX24 sw_Lw0_Lw52
  exact pw_mono (fw_reads_167 ) (fun _ _ c => gX24.tr c sw_Lw51_Lw52)
def Lw53 : List Nat := [9, 10, 14, 16, 25]
theorem sw_Lw1_Lw53 : ∀ k ∈ Lw1, k ∈ Lw53 := by decide
theorem mw_25_Lw53 : (25 : Nat) ∈ Lw53 := by decide
theorem sw_Lw51_Lw53 : ∀ k ∈ Lw51, k ∈ Lw53 := by decide
theorem sw_Lw52_Lw53 : ∀ k ∈ Lw52, k ∈ Lw53 := by decide
theorem fw_reads_120 {X : St} : pw (f_reads_120 X) (fun _ Y => fq Lw53 X Y) := by
  unfold f_reads_120
  refine pw_bd (fw_partOf ) (fun x13 X14 cX14 => ?_)
  have gX14 := (fq.rf (L := Lw53)).tr cX14 sw_Lw1_Lw53
  refine pw_eq (fun X15 eX15 => ?_)
  have gX15 : fq Lw53 X X15 := by rw [eX15]; exact fq.wI gX14 (show (25 : Nat) ∈ Lw53 from mw_25_Lw53)
  refine pw_bd (fw_isWell ) (fun x16 X17 cX17 => ?_)
  have gX17 := gX15.tr cX17 sw_Lw1_Lw53
  refine pw_ite (fun _ => ?_) (fun _ => ?_)
  · exact pw_mono (fw_reads_167 ) (fun _ _ c => gX17.tr c sw_Lw51_Lw53)
  · refine pw_eq (fun x22 ex22 => ?_)
    refine pw_ite (fun _ => ?_) (fun _ => ?_)
    · exact pw_mono (fw_reads_157 ) (fun _ _ c => gX17.tr c sw_Lw52_Lw53)
    · refine pw_eq (fun x25 ex25 => ?_)
      refine pw_ck (fun _ => ?_)
      refine pw_eq (fun x26 ex26 => ?_)
      refine pw_ite (fun _ => ?_) (fun _ => ?_)
      · exact pw_mono (fw_reads_167 ) (fun _ _ c => gX17.tr c sw_Lw51_Lw53)
      · exact pw_mono (fw_reads_157 ) (fun _ _ c => gX17.tr c sw_Lw52_Lw53)
def Lw54 : List Nat := [9, 10, 14, 16, 25, 5200]
theorem sw_Lw1_Lw54 : ∀ k ∈ Lw1, k ∈ Lw54 := by decide
theorem sw_Lw53_Lw54 : ∀ k ∈ Lw53, k ∈ Lw54 := by decide
theorem sw_Lw50_Lw54 : ∀ k ∈ Lw50, k ∈ Lw54 := by decide
theorem fw_reads_109 {X : St} : pw (f_reads_109 X) (fun _ Y => fq Lw54 X Y) := by
  unfold f_reads_109
  refine pw_bd (fw_isWell ) (fun x11 X12 cX12 => ?_)
  have gX12 := (fq.rf (L := Lw54)).tr cX12 sw_Lw1_Lw54
  refine pw_ite (fun _ => ?_) (fun _ => ?_)
  · exact pw_mono (fw_reads_120 ) (fun _ _ c => gX12.tr c sw_Lw53_Lw54)
  · refine pw_bd (fw_knows ) (fun _ X27 cX27 => ?_)
    have gX27 := gX12.tr cX27 sw_Lw50_Lw54
    exact pw_mono (fw_reads_120 ) (fun _ _ c => gX27.tr c sw_Lw53_Lw54)
def Lw55 : List Nat := [5, 6, 7, 8, 9, 10, 13, 14, 15, 16, 17, 18, 19, 20, 21, 22, 23, 24, 25, 47, 800, 1000, 1200, 1400, 1600, 1800, 2000, 2200, 2400, 2600, 2800, 3000, 3200, 3400, 3600, 4000, 4200, 4400, 4600, 4800, 5000, 5200, 5400, 5600, 5800, 6000, 6600, 6800, 7000, 7200, 7400, 7600, 7800]
theorem sw_Lw1_Lw55 : ∀ k ∈ Lw1, k ∈ Lw55 := by decide
theorem sw_Lw54_Lw55 : ∀ k ∈ Lw54, k ∈ Lw55 := by decide
theorem sw_Lw0_Lw55 : ∀ k ∈ Lw0, k ∈ Lw55 := by decide
theorem sw_Lw55_Lw55 : ∀ k ∈ Lw55, k ∈ Lw55 := by exact fun _ h => h
theorem mw_2800_Lw55 : (2800 : Nat) ∈ Lw55 := by decide
theorem sw_Lw49_Lw55 : ∀ k ∈ Lw49, k ∈ Lw55 := by decide
theorem fw_reads_39 (N : Nat) : ∀ (X : St), pw (f_reads_39 N X) (fun _ Y => fq Lw55 X Y) := by
  unfold f_reads_39
  refine lp_ind (P := fun (r : St → Option (Int32 × St)) => ∀ (X : St), pw (r X) (fun _ Y => fq Lw55 X Y)) (fun _ => pw_none) (fun r ih  X => ?_) N
  unfold f_reads_39_s
  refine pw_bd (fw_isWell ) (fun x9 X10 cX10 => ?_)
  have gX10 := (fq.rf (L := Lw55)).tr cX10 sw_Lw1_Lw55
  refine pw_ite (fun _ => ?_) (fun _ => ?_)
  · exact pw_mono (fw_reads_109 ) (fun _ _ c => gX10.tr c sw_Lw54_Lw55)
  · refine pw_eq (fun x28 ex28 => ?_)
    refine pw_ite (fun _ => ?_) (fun _ => ?_)
    · exact pw_mono (fw_reads_109 ) (fun _ _ c => gX10.tr c sw_Lw54_Lw55)
    · refine pw_bd (fw_isWord ) (fun x29 X30 cX30 => ?_)
      have gX30 := gX10.tr cX30 sw_Lw1_Lw55
      refine pw_ite (fun _ => ?_) (fun _ => ?_)
      · refine pw_bd (fw_stray ) (fun _ X38 cX38 => ?_)
        have gX38 := gX30.tr cX38 sw_Lw0_Lw55
        exact pw_mono (ih _) (fun _ _ c => gX38.tr c sw_Lw55_Lw55)
      · refine pw_eq (fun x31 ex31 => ?_)
        refine pw_ite (fun _ => ?_) (fun _ => ?_)
        · refine pw_eq (fun x36 ex36 => ?_)
          refine pw_bd (fw_fails ) (fun _ X37 cX37 => ?_)
          have gX37 := gX30.tr cX37 sw_Lw0_Lw55
          exact pw_mono (ih _) (fun _ _ c => gX37.tr c sw_Lw55_Lw55)
        · refine pw_eq (fun x32 ex32 => ?_)
          refine pw_eq (fun x33 ex33 => ?_)
          refine pw_ck (fun _ => ?_)
          refine pw_eq (fun X34 eX34 => ?_)
          have gX34 : fq Lw55 X X34 := by rw [eX34]; exact fq.wI gX30 (show (2800 : Nat) ∈ Lw55 from mw_2800_Lw55)
          refine pw_bd (fw_part__V ) (fun _ X35 cX35 => ?_)
          have gX35 := gX34.tr cX35 sw_Lw49_Lw55
          exact pw_mono (ih _) (fun _ _ c => gX35.tr c sw_Lw55_Lw55)
theorem mw_15_Lw18 : (15 : Nat) ∈ Lw18 := by decide
theorem fw_kinds {p1 : Int32} {X : St} : pw (f_kinds p1 X) (fun _ Y => fq Lw18 X Y) := by
  unfold f_kinds
  refine pw_eq (fun X1 eX1 => ?_)
  have gX1 : fq Lw18 X X1 := by rw [eX1]; exact fq.wI (fq.rf (L := Lw18)) (show (13 : Nat) ∈ Lw18 from mw_13_Lw18)
  refine pw_eq (fun X2 eX2 => ?_)
  have gX2 : fq Lw18 X X2 := by rw [eX2]; exact fq.wI gX1 (show (15 : Nat) ∈ Lw18 from mw_15_Lw18)
  refine pw_bd (fw_kindOf ) (fun x3 X4 cX4 => ?_)
  have gX4 := gX2.tr cX4 sw_Lw18_Lw18
  refine pw_bd (fw_kindOf ) (fun x5 X6 cX6 => ?_)
  have gX6 := gX4.tr cX6 sw_Lw18_Lw18
  refine pw_bd (fw_kindOf ) (fun x7 X8 cX8 => ?_)
  have gX8 := gX6.tr cX8 sw_Lw18_Lw18
  exact pw_ret gX8
def Lw56 : List Nat := [4, 5, 6, 7, 8, 9, 10, 13, 14, 15, 16, 17, 18, 19, 20, 21, 22, 23, 24, 25, 47, 800, 1000, 1200, 1400, 1600, 1800, 2000, 2200, 2400, 2600, 2800, 3000, 3200, 3400, 3600, 4000, 4200, 4400, 4600, 4800, 5000, 5200, 5400, 5600, 5800, 6000, 6600, 6800, 7000, 7200, 7400, 7600, 7800]
theorem mw_5_Lw56 : (5 : Nat) ∈ Lw56 := by decide
theorem mw_9_Lw56 : (9 : Nat) ∈ Lw56 := by decide
theorem mw_10_Lw56 : (10 : Nat) ∈ Lw56 := by decide
theorem mw_18_Lw56 : (18 : Nat) ∈ Lw56 := by decide
theorem mw_19_Lw56 : (19 : Nat) ∈ Lw56 := by decide
theorem mw_4_Lw56 : (4 : Nat) ∈ Lw56 := by decide
theorem sw_Lw18_Lw56 : ∀ k ∈ Lw18, k ∈ Lw56 := by decide
theorem sw_Lw11_Lw56 : ∀ k ∈ Lw11, k ∈ Lw56 := by decide
theorem sw_Lw55_Lw56 : ∀ k ∈ Lw55, k ∈ Lw56 := by decide
theorem fw_reads {X : St} : pw (f_reads X) (fun _ Y => fq Lw56 X Y) := by
  unfold f_reads
  refine pw_eq (fun X1 eX1 => ?_)
  have gX1 : fq Lw56 X X1 := by rw [eX1]; exact fq.wI (fq.rf (L := Lw56)) (show (5 : Nat) ∈ Lw56 from mw_5_Lw56)
  refine pw_eq (fun X2 eX2 => ?_)
  have gX2 : fq Lw56 X X2 := by rw [eX2]; exact fq.wI gX1 (show (9 : Nat) ∈ Lw56 from mw_9_Lw56)
  refine pw_eq (fun X3 eX3 => ?_)
  have gX3 : fq Lw56 X X3 := by rw [eX3]; exact fq.wI gX2 (show (10 : Nat) ∈ Lw56 from mw_10_Lw56)
  refine pw_eq (fun X4 eX4 => ?_)
  have gX4 : fq Lw56 X X4 := by rw [eX4]; exact fq.wI gX3 (show (18 : Nat) ∈ Lw56 from mw_18_Lw56)
  refine pw_eq (fun X5 eX5 => ?_)
  have gX5 : fq Lw56 X X5 := by rw [eX5]; exact fq.wI gX4 (show (19 : Nat) ∈ Lw56 from mw_19_Lw56)
  refine pw_eq (fun X6 eX6 => ?_)
  have gX6 : fq Lw56 X X6 := by rw [eX6]; exact fq.wI gX5 (show (4 : Nat) ∈ Lw56 from mw_4_Lw56)
  refine pw_bd (fw_kinds ) (fun _ X7 cX7 => ?_)
  have gX7 := gX6.tr cX7 sw_Lw18_Lw56
  refine pw_bd (fw_next ) (fun _ X8 cX8 => ?_)
  have gX8 := gX7.tr cX8 sw_Lw11_Lw56
  exact pw_mono (fw_reads_39 _ _) (fun _ _ c => gX8.tr c sw_Lw55_Lw56)
