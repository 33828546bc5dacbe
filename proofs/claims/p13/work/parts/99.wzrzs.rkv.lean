/-! the reference's calls keep the codes of the kinds -/
section RKV
variable {P : Prop}
theorem vkr_isWell {X : St} (h : KVa P X) : pw (f_isWell X) (fun _ Y => KVa P Y) := by
  unfold f_isWell
  refine pw_eq (fun x1 _ => ?_)
  refine pw_ite (fun _ => ?_) (fun _ => ?_)
  · exact pw_ret h
  · exact pw_ret h
theorem vkr_partOf_33 {r10 : Int64 → Int32 → Int32 → St → Option (Int32 × St)} (hr10 : ∀ (q0 : Int64) (q1 : Int32) (q2 : Int32) (X : St), KVa P X → pw (r10 q0 q1 q2 X) (fun _ Y => KVa P Y)) {l1 : Int64} {a4 : Int32} {b0 : Int32} {X : St} (h : KVa P X) : pw (f_partOf_33 r10 l1 a4 b0 X) (fun _ Y => KVa P Y) := by
  unfold f_partOf_33
  refine pw_eq (fun x5 _ => ?_)
  exact hr10 _ _ _ _ h
theorem vkr_partOf_10 (N : Nat) : ∀ (l1 : Int64) (a3 : Int32) (a4 : Int32) (X : St), KVa P X → pw (f_partOf_10 N l1 a3 a4 X) (fun _ Y => KVa P Y) := by
  unfold f_partOf_10
  refine lp_ind (P := fun (r : Int64 → Int32 → Int32 → St → Option (Int32 × St)) => ∀ (l1 : Int64) (a3 : Int32) (a4 : Int32) (X : St), KVa P X → pw (r l1 a3 a4 X) (fun _ Y => KVa P Y)) (fun _ _ _ _ _ => pw_none) (fun r ih l1 a3 a4 X h => ?_) N
  unfold f_partOf_10_s
  refine pw_ite (fun _ => ?_) (fun _ => ?_)
  · exact pw_ret h
  · refine pw_ck (fun _ => ?_)
    refine pw_eq (fun y3 _ => ?_)
    refine pw_eq (fun x4 _ => ?_)
    refine pw_ite (fun _ => ?_) (fun _ => ?_)
    · exact vkr_partOf_33 ih h
    · exact vkr_partOf_33 ih h
theorem vkr_partOf {q1 : Int64} {X : St} (h : KVa P X) : pw (f_partOf q1 X) (fun _ Y => KVa P Y) := by
  unfold f_partOf
  refine pw_eq (fun x1 _ => ?_)
  refine pw_eq (fun x2 _ => ?_)
  exact vkr_partOf_10 _ _ _ _ _ h
theorem vkr_fails {p1 : Int32} {p2 : Int32} {X : St} (h : KVa P X) : pw (f_fails p1 p2 X) (fun _ Y => KVa P Y) := by
  unfold f_fails
  refine pw_eq (fun x1 _ => ?_)
  refine pw_ite (fun _ => ?_) (fun _ => ?_)
  · refine pw_eq (fun X2 eX2 => ?_)
    have dX2 : KVa P X2 := by rw [eX2]; exact KVa_w h (by omega)
    refine pw_eq (fun X3 eX3 => ?_)
    have dX3 : KVa P X3 := by rw [eX3]; exact KVa_w dX2 (by omega)
    exact pw_ret dX3
  · exact pw_ret h
theorem vkr_reads_157 {X : St} (h : KVa False X) : pw (f_reads_157 X) (fun _ Y => KVa True Y) := by
  unfold f_reads_157
  refine pw_eq (fun x23 _ => ?_)
  refine pw_bd (vkr_fails h) (fun _ X24 dX24 => ?_)
  exact v_reads167 dX24
theorem vkr_reads_120 {X : St} (h : KVa False X) : pw (f_reads_120 X) (fun _ Y => KVa True Y) := by
  unfold f_reads_120
  refine pw_bd (vkr_partOf h) (fun x13 X14 dX14 => ?_)
  refine pw_eq (fun X15 eX15 => ?_)
  have dX15 : KVa False X15 := by rw [eX15]; exact KVa_w dX14 (by omega)
  refine pw_bd (vkr_isWell dX15) (fun x16 X17 dX17 => ?_)
  refine pw_ite (fun _ => ?_) (fun _ => ?_)
  · exact v_reads167 dX17
  · refine pw_eq (fun x22 _ => ?_)
    refine pw_ite (fun _ => ?_) (fun _ => ?_)
    · exact vkr_reads_157 dX17
    · refine pw_eq (fun x25 _ => ?_)
      refine pw_ck (fun _ => ?_)
      refine pw_eq (fun x26 _ => ?_)
      refine pw_ite (fun _ => ?_) (fun _ => ?_)
      · exact v_reads167 dX17
      · exact vkr_reads_157 dX17
theorem vkr_knows_126 {r60 : Int32 → Int32 → Int32 → St → Option (Int32 × St)} (hr60 : ∀ (q0 : Int32) (q1 : Int32) (q2 : Int32) (X : St), KVa P X → pw (r60 q0 q1 q2 X) (fun _ Y => KVa P Y)) {a1 : Int32} {a2 : Int32} {a3 : Int32} {X : St} (h : KVa P X) : pw (f_knows_126 r60 a1 a2 a3 X) (fun _ Y => KVa P Y) := by
  unfold f_knows_126
  refine pw_eq (fun x12 _ => ?_)
  exact hr60 _ _ _ _ h
theorem vkr_knows_60 (N : Nat) : ∀ (a1 : Int32) (a2 : Int32) (a3 : Int32) (X : St), KVa P X → pw (f_knows_60 N a1 a2 a3 X) (fun _ Y => KVa P Y) := by
  unfold f_knows_60
  refine lp_ind (P := fun (r : Int32 → Int32 → Int32 → St → Option (Int32 × St)) => ∀ (a1 : Int32) (a2 : Int32) (a3 : Int32) (X : St), KVa P X → pw (r a1 a2 a3 X) (fun _ Y => KVa P Y)) (fun _ _ _ _ _ => pw_none) (fun r ih a1 a2 a3 X h => ?_) N
  unfold f_knows_60_s
  refine pw_eq (fun x4 _ => ?_)
  refine pw_ite (fun _ => ?_) (fun _ => ?_)
  · refine pw_ite (fun _ => ?_) (fun _ => ?_)
    · exact pw_ret h
    · refine pw_bd (vkr_fails h) (fun _ X5 dX5 => ?_)
      exact pw_ret dX5
  · refine pw_ck (fun _ => ?_)
    refine pw_eq (fun x6 _ => ?_)
    refine pw_ite (fun _ => ?_) (fun _ => ?_)
    · refine pw_ck (fun _ => ?_)
      refine pw_eq (fun y7 _ => ?_)
      refine pw_bd (vkr_partOf h) (fun x8 X9 dX9 => ?_)
      refine pw_ck (fun _ => ?_)
      refine pw_eq (fun X10 eX10 => ?_)
      have dX10 : KVa P X10 := by rw [eX10]; exact KVa_w dX9 (by omega)
      refine pw_ck (fun _ => ?_)
      refine pw_eq (fun x11 _ => ?_)
      refine pw_ite (fun _ => ?_) (fun _ => ?_)
      · exact vkr_knows_126 ih dX10
      · refine pw_ck (fun _ => ?_)
        refine pw_eq (fun x13 _ => ?_)
        refine pw_ite (fun _ => ?_) (fun _ => ?_)
        · exact vkr_knows_126 ih dX10
        · refine pw_ck (fun _ => ?_)
          refine pw_eq (fun x14 _ => ?_)
          exact vkr_knows_126 ih dX10
    · exact vkr_knows_126 ih h
theorem vkr_knows_52 {r11 : Int32 → Int32 → Int32 → St → Option (Int32 × St)} (hr11 : ∀ (q0 : Int32) (q1 : Int32) (q2 : Int32) (X : St), KVa P X → pw (r11 q0 q1 q2 X) (fun _ Y => KVa P Y)) {a1 : Int32} {a2 : Int32} {a3 : Int32} {X : St} (h : KVa P X) : pw (f_knows_52 r11 a1 a2 a3 X) (fun _ Y => KVa P Y) := by
  unfold f_knows_52
  refine pw_eq (fun x18 _ => ?_)
  exact hr11 _ _ _ _ h
theorem vkr_knows_11 (N : Nat) : ∀ (a1 : Int32) (a2 : Int32) (a3 : Int32) (X : St), KVa P X → pw (f_knows_11 N a1 a2 a3 X) (fun _ Y => KVa P Y) := by
  unfold f_knows_11
  refine lp_ind (P := fun (r : Int32 → Int32 → Int32 → St → Option (Int32 × St)) => ∀ (a1 : Int32) (a2 : Int32) (a3 : Int32) (X : St), KVa P X → pw (r a1 a2 a3 X) (fun _ Y => KVa P Y)) (fun _ _ _ _ _ => pw_none) (fun r ih a1 a2 a3 X h => ?_) N
  unfold f_knows_11_s
  refine pw_eq (fun x3 _ => ?_)
  refine pw_ite (fun _ => ?_) (fun _ => ?_)
  · exact vkr_knows_60 _ _ _ _ _ h
  · refine pw_ck (fun _ => ?_)
    refine pw_eq (fun y15 _ => ?_)
    refine pw_bd (vkr_partOf h) (fun x16 X17 dX17 => ?_)
    refine pw_ite (fun _ => ?_) (fun _ => ?_)
    · exact vkr_knows_52 ih dX17
    · refine pw_ck (fun _ => ?_)
      refine pw_eq (fun x19 _ => ?_)
      refine pw_ite (fun _ => ?_) (fun _ => ?_)
      · exact vkr_knows_52 ih dX17
      · refine pw_ck (fun _ => ?_)
        refine pw_eq (fun x20 _ => ?_)
        exact vkr_knows_52 ih dX17
theorem vkr_knows {X : St} (h : KVa P X) : pw (f_knows X) (fun _ Y => KVa P Y) := by
  unfold f_knows
  refine pw_eq (fun x1 _ => ?_)
  refine pw_eq (fun x2 _ => ?_)
  exact vkr_knows_11 _ _ _ _ _ h
theorem vkr_reads_109 {X : St} (h : KVa False X) : pw (f_reads_109 X) (fun _ Y => KVa True Y) := by
  unfold f_reads_109
  refine pw_bd (vkr_isWell h) (fun x11 X12 dX12 => ?_)
  refine pw_ite (fun _ => ?_) (fun _ => ?_)
  · exact vkr_reads_120 dX12
  · refine pw_bd (vkr_knows dX12) (fun _ X27 dX27 => ?_)
    exact vkr_reads_120 dX27
theorem vkr_isWord {p1 : Int32} {X : St} (h : KVa P X) : pw (f_isWord p1 X) (fun _ Y => KVa P Y) := by
  unfold f_isWord
  refine pw_bd (vkr_isWell h) (fun x1 X2 dX2 => ?_)
  refine pw_ite (fun _ => ?_) (fun _ => ?_)
  · exact pw_ret dX2
  · refine pw_eq (fun x3 _ => ?_)
    refine pw_ite (fun _ => ?_) (fun _ => ?_)
    · refine pw_eq (fun y4 _ => ?_)
      refine pw_eq (fun y5 _ => ?_)
      refine pw_eq (fun x6 _ => ?_)
      refine pw_ite (fun _ => ?_) (fun _ => ?_)
      · exact pw_ret dX2
      · exact pw_ret dX2
    · exact pw_ret dX2
theorem vkr_stray {X : St} (h : KVa P X) : pw (f_stray X) (fun _ Y => KVa P Y) := by
  unfold f_stray
  refine pw_eq (fun x1 _ => ?_)
  refine pw_bd (vkr_fails h) (fun _ X2 dX2 => ?_)
  exact pw_ret dX2
theorem vkr_in {p0 : Int32} {p1 : Int32} {p2 : Int32} {X : St} (h : KVa P X) : pw (f_in p0 p1 p2 X) (fun _ Y => KVa P Y) := by
  unfold f_in
  refine pw_ite (fun _ => ?_) (fun _ => ?_)
  · exact pw_ret h
  · refine pw_ite (fun _ => ?_) (fun _ => ?_)
    · exact pw_ret h
    · exact pw_ret h
theorem vkr_letterOf {p0 : Int32} {X : St} (h : KVa P X) : pw (f_letterOf p0 X) (fun _ Y => KVa P Y) := by
  unfold f_letterOf
  refine pw_bd (vkr_in h) (fun x1 X2 dX2 => ?_)
  refine pw_ite (fun _ => ?_) (fun _ => ?_)
  · refine pw_bd (vkr_in dX2) (fun x3 X4 dX4 => ?_)
    refine pw_ite (fun _ => ?_) (fun _ => ?_)
    · exact pw_ret dX4
    · refine pw_eq (fun x5 _ => ?_)
      exact pw_ret dX4
  · refine pw_eq (fun x6 _ => ?_)
    exact pw_ret dX2
theorem vkr_sign_70 {a1 : Int32} {X : St} (h : KVa P X) : pw (f_sign_70 a1 X) (fun _ Y => KVa P Y) := by
  unfold f_sign_70
  refine pw_ite (fun _ => ?_) (fun _ => ?_)
  · exact pw_ret h
  · refine pw_ite (fun _ => ?_) (fun _ => ?_)
    · exact pw_ret h
    · refine pw_ite (fun _ => ?_) (fun _ => ?_)
      · exact pw_ret h
      · refine pw_ite (fun _ => ?_) (fun _ => ?_)
        · exact pw_ret h
        · refine pw_ite (fun _ => ?_) (fun _ => ?_)
          · exact pw_ret h
          · refine pw_ite (fun _ => ?_) (fun _ => ?_)
            · exact pw_ret h
            · refine pw_ite (fun _ => ?_) (fun _ => ?_)
              · exact pw_ret h
              · refine pw_ite (fun _ => ?_) (fun _ => ?_)
                · exact pw_ret h
                · refine pw_ite (fun _ => ?_) (fun _ => ?_)
                  · exact pw_ret h
                  · refine pw_ite (fun _ => ?_) (fun _ => ?_)
                    · exact pw_ret h
                    · refine pw_ite (fun _ => ?_) (fun _ => ?_)
                      · exact pw_ret h
                      · refine pw_ite (fun _ => ?_) (fun _ => ?_)
                        · exact pw_ret h
                        · refine pw_ite (fun _ => ?_) (fun _ => ?_)
                          · exact pw_ret h
                          · refine pw_ite (fun _ => ?_) (fun _ => ?_)
                            · exact pw_ret h
                            · refine pw_ite (fun _ => ?_) (fun _ => ?_)
                              · exact pw_ret h
                              · refine pw_ite (fun _ => ?_) (fun _ => ?_)
                                · exact pw_ret h
                                · refine pw_ite (fun _ => ?_) (fun _ => ?_)
                                  · exact pw_ret h
                                  · refine pw_eq (fun X24 eX24 => ?_)
                                    have dX24 : KVa P X24 := by rw [eX24]; exact KVa_w h (by omega)
                                    exact pw_ret dX24
theorem vkr_sign {p1 : Int32} {X : St} (h : KVa P X) : pw (f_sign p1 X) (fun _ Y => KVa P Y) := by
  unfold f_sign
  refine pw_eq (fun X1 eX1 => ?_)
  have dX1 : KVa P X1 := by rw [eX1]; exact KVa_w h (by omega)
  refine pw_eq (fun y2 _ => ?_)
  refine pw_eq (fun X3 eX3 => ?_)
  have dX3 : KVa P X3 := by rw [eX3]; exact KVa.cg dX1 (fun _ _ _ => rfl)
  refine pw_eq (fun x4 _ => ?_)
  refine pw_eq (fun x5 _ => ?_)
  refine pw_eq (fun X6 eX6 => ?_)
  have dX6 : KVa P X6 := by rw [eX6]; exact KVa_w dX3 (by omega)
  refine pw_ite (fun _ => ?_) (fun _ => ?_)
  · refine pw_eq (fun x25 _ => ?_)
    refine pw_eq (fun x26 _ => ?_)
    refine pw_ite (fun _ => ?_) (fun _ => ?_)
    · exact vkr_sign_70 dX6
    · refine pw_eq (fun x27 _ => ?_)
      refine pw_ck (fun _ => ?_)
      refine pw_eq (fun x28 _ => ?_)
      refine pw_ite (fun _ => ?_) (fun _ => ?_)
      · refine pw_eq (fun X29 eX29 => ?_)
        have dX29 : KVa P X29 := by rw [eX29]; exact KVa.cg dX6 (fun _ _ _ => rfl)
        refine pw_eq (fun x30 _ => ?_)
        refine pw_eq (fun x31 _ => ?_)
        refine pw_eq (fun X32 eX32 => ?_)
        have dX32 : KVa P X32 := by rw [eX32]; exact KVa_w dX29 (by omega)
        exact pw_ret dX32
      · exact vkr_sign_70 dX6
  · exact vkr_sign_70 dX6
theorem vkr_next_194 {r122 : St → Option (Int32 × St)} (hr122 : ∀ (X : St), KVa P X → pw (r122 X) (fun _ Y => KVa P Y)) {m0 : Int64} {X : St} (h : KVa P X) : pw (f_next_194 r122 m0 X) (fun _ Y => KVa P Y) := by
  unfold f_next_194
  refine pw_eq (fun X31 eX31 => ?_)
  have dX31 : KVa P X31 := by rw [eX31]; exact KVa.cg h (fun _ _ _ => rfl)
  refine pw_eq (fun x32 _ => ?_)
  refine pw_eq (fun x33 _ => ?_)
  refine pw_eq (fun X34 eX34 => ?_)
  have dX34 : KVa P X34 := by rw [eX34]; exact KVa_w dX31 (by omega)
  exact hr122 _ dX34
theorem vkr_next_122 (N : Nat) : ∀ (X : St), KVa P X → pw (f_next_122 N X) (fun _ Y => KVa P Y) := by
  unfold f_next_122
  refine lp_ind (P := fun (r : St → Option (Int32 × St)) => ∀ (X : St), KVa P X → pw (r X) (fun _ Y => KVa P Y)) (fun _ _ => pw_none) (fun r ih  X h => ?_) N
  unfold f_next_122_s
  refine pw_eq (fun x16 _ => ?_)
  refine pw_eq (fun x17 _ => ?_)
  refine pw_ite (fun _ => ?_) (fun _ => ?_)
  · exact pw_ret h
  · refine pw_eq (fun x18 _ => ?_)
    refine pw_ck (fun _ => ?_)
    refine pw_eq (fun x19 _ => ?_)
    refine pw_bd (vkr_in h) (fun x20 X21 dX21 => ?_)
    refine pw_ite (fun _ => ?_) (fun _ => ?_)
    · exact pw_ret dX21
    · refine pw_eq (fun y22 _ => ?_)
      refine pw_eq (fun x23 _ => ?_)
      refine pw_ite (fun _ => ?_) (fun _ => ?_)
      · refine pw_eq (fun y24 _ => ?_)
        refine pw_eq (fun y25 _ => ?_)
        refine pw_eq (fun x26 _ => ?_)
        refine pw_ck (fun _ => ?_)
        refine pw_eq (fun x27 _ => ?_)
        refine pw_eq (fun y28 _ => ?_)
        refine pw_eq (fun y29 _ => ?_)
        refine pw_eq (fun y30 _ => ?_)
        exact vkr_next_194 ih dX21
      · refine pw_eq (fun y35 _ => ?_)
        exact vkr_next_194 ih dX21
theorem vkr_wordOf {q0 : Int64} {X : St} (h : KVa P X) : pw (f_wordOf q0 X) (fun _ Y => KVa P Y) := by
  unfold f_wordOf
  refine pw_eq (fun x1 _ => ?_)
  refine pw_ite (fun _ => ?_) (fun _ => ?_)
  · refine pw_eq (fun x2 _ => ?_)
    refine pw_ite (fun _ => ?_) (fun _ => ?_)
    · exact pw_ret h
    · refine pw_ite (fun _ => ?_) (fun _ => ?_)
      · exact pw_ret h
      · refine pw_ite (fun _ => ?_) (fun _ => ?_)
        · exact pw_ret h
        · refine pw_ite (fun _ => ?_) (fun _ => ?_)
          · exact pw_ret h
          · refine pw_ite (fun _ => ?_) (fun _ => ?_)
            · exact pw_ret h
            · refine pw_ite (fun _ => ?_) (fun _ => ?_)
              · exact pw_ret h
              · refine pw_ite (fun _ => ?_) (fun _ => ?_)
                · exact pw_ret h
                · refine pw_ite (fun _ => ?_) (fun _ => ?_)
                  · exact pw_ret h
                  · refine pw_ite (fun _ => ?_) (fun _ => ?_)
                    · exact pw_ret h
                    · refine pw_ite (fun _ => ?_) (fun _ => ?_)
                      · exact pw_ret h
                      · refine pw_ite (fun _ => ?_) (fun _ => ?_)
                        · exact pw_ret h
                        · refine pw_ite (fun _ => ?_) (fun _ => ?_)
                          · exact pw_ret h
                          · refine pw_ite (fun _ => ?_) (fun _ => ?_)
                            · exact pw_ret h
                            · refine pw_ite (fun _ => ?_) (fun _ => ?_)
                              · exact pw_ret h
                              · refine pw_ite (fun _ => ?_) (fun _ => ?_)
                                · exact pw_ret h
                                · exact pw_ret h
  · exact pw_ret h
theorem vkr_name_156 {m0 : Int64} {X : St} (h : KVa P X) : pw (f_name_156 m0 X) (fun _ Y => KVa P Y) := by
  unfold f_name_156
  refine pw_eq (fun X11 eX11 => ?_)
  have dX11 : KVa P X11 := by rw [eX11]; exact KVa.cg h (fun _ _ _ => rfl)
  exact pw_ret dX11
theorem vkr_name_139 {a1 : Int32} {b0 : Int32} {X : St} (h : KVa P X) : pw (f_name_139 a1 b0 X) (fun _ Y => KVa P Y) := by
  unfold f_name_139
  refine pw_eq (fun X9 eX9 => ?_)
  have dX9 : KVa P X9 := by rw [eX9]; exact KVa_w h (by omega)
  refine pw_ite (fun _ => ?_) (fun _ => ?_)
  · refine pw_eq (fun y10 _ => ?_)
    exact vkr_name_156 dX9
  · refine pw_eq (fun y12 _ => ?_)
    exact vkr_name_156 dX9
theorem vkr_name_115 {b0 : Int32} {X : St} (h : KVa P X) : pw (f_name_115 b0 X) (fun _ Y => KVa P Y) := by
  unfold f_name_115
  refine pw_ite (fun _ => ?_) (fun _ => ?_)
  · refine pw_eq (fun x8 _ => ?_)
    refine pw_ite (fun _ => ?_) (fun _ => ?_)
    · exact vkr_name_139 h
    · exact vkr_name_139 h
  · exact vkr_name_139 h
theorem vkr_name_96 {X : St} (h : KVa P X) : pw (f_name_96 X) (fun _ Y => KVa P Y) := by
  unfold f_name_96
  refine pw_eq (fun x4 _ => ?_)
  refine pw_ite (fun _ => ?_) (fun _ => ?_)
  · refine pw_eq (fun y5 _ => ?_)
    refine pw_bd (vkr_wordOf h) (fun x6 X7 dX7 => ?_)
    exact vkr_name_115 dX7
  · exact vkr_name_115 h
theorem vkr_name_70 {r5 : St → Option (Int32 × St)} (hr5 : ∀ (X : St), KVa P X → pw (r5 X) (fun _ Y => KVa P Y)) {m0 : Int64} {X : St} (h : KVa P X) : pw (f_name_70 r5 m0 X) (fun _ Y => KVa P Y) := by
  unfold f_name_70
  refine pw_eq (fun X19 eX19 => ?_)
  have dX19 : KVa P X19 := by rw [eX19]; exact KVa.cg h (fun _ _ _ => rfl)
  refine pw_eq (fun x20 _ => ?_)
  refine pw_eq (fun x21 _ => ?_)
  refine pw_eq (fun X22 eX22 => ?_)
  have dX22 : KVa P X22 := by rw [eX22]; exact KVa_w dX19 (by omega)
  refine pw_eq (fun x23 _ => ?_)
  refine pw_eq (fun x24 _ => ?_)
  refine pw_eq (fun X25 eX25 => ?_)
  have dX25 : KVa P X25 := by rw [eX25]; exact KVa_w dX22 (by omega)
  exact hr5 _ dX25
theorem vkr_name_5 (N : Nat) : ∀ (X : St), KVa P X → pw (f_name_5 N X) (fun _ Y => KVa P Y) := by
  unfold f_name_5
  refine lp_ind (P := fun (r : St → Option (Int32 × St)) => ∀ (X : St), KVa P X → pw (r X) (fun _ Y => KVa P Y)) (fun _ _ => pw_none) (fun r ih  X h => ?_) N
  unfold f_name_5_s
  refine pw_eq (fun x2 _ => ?_)
  refine pw_eq (fun x3 _ => ?_)
  refine pw_ite (fun _ => ?_) (fun _ => ?_)
  · exact vkr_name_96 h
  · refine pw_eq (fun x13 _ => ?_)
    refine pw_ck (fun _ => ?_)
    refine pw_eq (fun x14 _ => ?_)
    refine pw_bd (vkr_letterOf h) (fun x15 X16 dX16 => ?_)
    refine pw_ite (fun _ => ?_) (fun _ => ?_)
    · exact vkr_name_96 dX16
    · refine pw_eq (fun x17 _ => ?_)
      refine pw_ite (fun _ => ?_) (fun _ => ?_)
      · refine pw_eq (fun y18 _ => ?_)
        exact vkr_name_70 ih dX16
      · refine pw_eq (fun y26 _ => ?_)
        refine pw_eq (fun y27 _ => ?_)
        refine pw_eq (fun x28 _ => ?_)
        refine pw_ck (fun _ => ?_)
        refine pw_eq (fun x29 _ => ?_)
        refine pw_bd (vkr_letterOf dX16) (fun x30 X31 dX31 => ?_)
        refine pw_eq (fun y32 _ => ?_)
        refine pw_eq (fun y33 _ => ?_)
        exact vkr_name_70 ih dX31
theorem vkr_name {X : St} (h : KVa P X) : pw (f_name X) (fun _ Y => KVa P Y) := by
  unfold f_name
  refine pw_eq (fun X1 eX1 => ?_)
  have dX1 : KVa P X1 := by rw [eX1]; exact KVa_w h (by omega)
  exact vkr_name_5 _ _ dX1
theorem vkr_next_52 {X : St} (h : KVa P X) : pw (f_next_52 X) (fun _ Y => KVa P Y) := by
  unfold f_next_52
  refine pw_eq (fun x3 _ => ?_)
  refine pw_eq (fun X4 eX4 => ?_)
  have dX4 : KVa P X4 := by rw [eX4]; exact KVa_w h (by omega)
  refine pw_eq (fun X5 eX5 => ?_)
  have dX5 : KVa P X5 := by rw [eX5]; exact KVa.cg dX4 (fun _ _ _ => rfl)
  refine pw_eq (fun x6 _ => ?_)
  refine pw_eq (fun x7 _ => ?_)
  refine pw_ite (fun _ => ?_) (fun _ => ?_)
  · refine pw_eq (fun X37 eX37 => ?_)
    have dX37 : KVa P X37 := by rw [eX37]; exact KVa_w dX5 (by omega)
    exact pw_ret dX37
  · refine pw_eq (fun x8 _ => ?_)
    refine pw_ck (fun _ => ?_)
    refine pw_eq (fun x9 _ => ?_)
    refine pw_bd (vkr_letterOf dX5) (fun x10 X11 dX11 => ?_)
    refine pw_ite (fun _ => ?_) (fun _ => ?_)
    · refine pw_bd (vkr_in dX11) (fun x12 X13 dX13 => ?_)
      refine pw_ite (fun _ => ?_) (fun _ => ?_)
      · refine pw_bd (vkr_sign dX13) (fun _ X14 dX14 => ?_)
        exact pw_ret dX14
      · refine pw_eq (fun X15 eX15 => ?_)
        have dX15 : KVa P X15 := by rw [eX15]; exact KVa_w dX13 (by omega)
        exact vkr_next_122 _ _ dX15
    · refine pw_bd (vkr_name dX11) (fun _ X36 dX36 => ?_)
      exact pw_ret dX36
theorem vkr_next_39 {r0 : St → Option (Int32 × St)} (hr0 : ∀ (X : St), KVa P X → pw (r0 X) (fun _ Y => KVa P Y)) {X : St} (h : KVa P X) : pw (f_next_39 r0 X) (fun _ Y => KVa P Y) := by
  unfold f_next_39
  refine pw_eq (fun x40 _ => ?_)
  refine pw_eq (fun x41 _ => ?_)
  refine pw_eq (fun X42 eX42 => ?_)
  have dX42 : KVa P X42 := by rw [eX42]; exact KVa_w h (by omega)
  exact hr0 _ dX42
theorem vkr_next_0 (N : Nat) : ∀ (X : St), KVa P X → pw (f_next_0 N X) (fun _ Y => KVa P Y) := by
  unfold f_next_0
  refine lp_ind (P := fun (r : St → Option (Int32 × St)) => ∀ (X : St), KVa P X → pw (r X) (fun _ Y => KVa P Y)) (fun _ _ => pw_none) (fun r ih  X h => ?_) N
  unfold f_next_0_s
  refine pw_eq (fun x1 _ => ?_)
  refine pw_eq (fun x2 _ => ?_)
  refine pw_ite (fun _ => ?_) (fun _ => ?_)
  · exact vkr_next_52 h
  · refine pw_eq (fun x38 _ => ?_)
    refine pw_ck (fun _ => ?_)
    refine pw_eq (fun x39 _ => ?_)
    refine pw_ite (fun _ => ?_) (fun _ => ?_)
    · exact vkr_next_39 ih h
    · refine pw_eq (fun x43 _ => ?_)
      refine pw_ck (fun _ => ?_)
      refine pw_eq (fun x44 _ => ?_)
      refine pw_ite (fun _ => ?_) (fun _ => ?_)
      · exact vkr_next_39 ih h
      · exact vkr_next_52 h
theorem vkr_next {X : St} (h : KVa P X) : pw (f_next X) (fun _ Y => KVa P Y) := by
  unfold f_next
  exact vkr_next_0 _ _ h
theorem vkr_part__V_19 {X : St} (h : KVa P X) : pw (f_part__V_19 X) (fun _ Y => KVa P Y) := by
  unfold f_part__V_19
  refine pw_bd (vkr_stray h) (fun _ X4 dX4 => ?_)
  exact pw_ret dX4
theorem vkr_isSign {p1 : Int32} {X : St} (h : KVa P X) : pw (f_isSign p1 X) (fun _ Y => KVa P Y) := by
  unfold f_isSign
  refine pw_bd (vkr_isWell h) (fun x1 X2 dX2 => ?_)
  refine pw_ite (fun _ => ?_) (fun _ => ?_)
  · exact pw_ret dX2
  · refine pw_eq (fun x3 _ => ?_)
    refine pw_ite (fun _ => ?_) (fun _ => ?_)
    · refine pw_eq (fun y4 _ => ?_)
      refine pw_eq (fun y5 _ => ?_)
      refine pw_eq (fun x6 _ => ?_)
      refine pw_ite (fun _ => ?_) (fun _ => ?_)
      · exact pw_ret dX2
      · exact pw_ret dX2
    · exact pw_ret dX2
theorem vkr_nests_18 {X : St} (h : KVa P X) : pw (f_nests_18 X) (fun _ Y => KVa P Y) := by
  unfold f_nests_18
  refine pw_eq (fun x2 _ => ?_)
  refine pw_eq (fun x3 _ => ?_)
  refine pw_eq (fun X4 eX4 => ?_)
  have dX4 : KVa P X4 := by rw [eX4]; exact KVa_w h (by omega)
  exact pw_ret dX4
theorem vkr_nests {X : St} (h : KVa P X) : pw (f_nests X) (fun _ Y => KVa P Y) := by
  unfold f_nests
  refine pw_eq (fun x1 _ => ?_)
  refine pw_ite (fun _ => ?_) (fun _ => ?_)
  · refine pw_eq (fun x5 _ => ?_)
    refine pw_bd (vkr_fails h) (fun _ X6 dX6 => ?_)
    exact vkr_nests_18 dX6
  · exact vkr_nests_18 h
theorem vkr_opens {p1 : Int32} {X : St} (h : KVa P X) : pw (f_opens p1 X) (fun _ Y => KVa P Y) := by
  unfold f_opens
  refine pw_bd (vkr_isSign h) (fun x1 X2 dX2 => ?_)
  refine pw_ite (fun _ => ?_) (fun _ => ?_)
  · refine pw_bd (vkr_stray dX2) (fun _ X7 dX7 => ?_)
    exact pw_ret dX7
  · refine pw_bd (vkr_nests dX2) (fun _ X3 dX3 => ?_)
    refine pw_bd (vkr_isWell dX3) (fun x4 X5 dX5 => ?_)
    refine pw_ite (fun _ => ?_) (fun _ => ?_)
    · exact pw_ret dX5
    · refine pw_bd (vkr_next dX5) (fun _ X6 dX6 => ?_)
      exact pw_ret dX6
theorem vkr_param_15 {X : St} (h : KVa P X) : pw (f_param_15 X) (fun _ Y => KVa P Y) := by
  unfold f_param_15
  refine pw_bd (vkr_stray h) (fun _ X3 dX3 => ?_)
  exact pw_ret dX3
theorem vkr_kind_346 {a2 : Int32} {X : St} (h : KVa P X) : pw (f_kind_346 a2 X) (fun _ Y => KVa P Y) := by
  unfold f_kind_346
  refine pw_ite (fun _ => ?_) (fun _ => ?_)
  · exact pw_ret h
  · exact pw_ret h
theorem vkr_takes {p1 : Int32} {X : St} (h : KVa P X) : pw (f_takes p1 X) (fun _ Y => KVa P Y) := by
  unfold f_takes
  refine pw_bd (vkr_isSign h) (fun x1 X2 dX2 => ?_)
  refine pw_ite (fun _ => ?_) (fun _ => ?_)
  · refine pw_bd (vkr_stray dX2) (fun _ X3 dX3 => ?_)
    exact pw_ret dX3
  · refine pw_bd (vkr_next dX2) (fun _ X4 dX4 => ?_)
    exact pw_ret dX4
theorem vkr_closes {p1 : Int32} {X : St} (h : KVa P X) : pw (f_closes p1 X) (fun _ Y => KVa P Y) := by
  unfold f_closes
  refine pw_bd (vkr_takes h) (fun _ X1 dX1 => ?_)
  refine pw_eq (fun x2 _ => ?_)
  refine pw_eq (fun x3 _ => ?_)
  refine pw_eq (fun X4 eX4 => ?_)
  have dX4 : KVa P X4 := by rw [eX4]; exact KVa_w dX1 (by omega)
  exact pw_ret dX4
theorem vkr_kind_343 {r11 : Int32 → Int32 → Int32 → St → Option (Int32 × St)} (hr11 : ∀ (q0 : Int32) (q1 : Int32) (q2 : Int32) (X : St), KVa P X → pw (r11 q0 q1 q2 X) (fun _ Y => KVa P Y)) {a1 : Int32} {a2 : Int32} {a3 : Int32} {X : St} (h : KVa P X) : pw (f_kind_343 r11 a1 a2 a3 X) (fun _ Y => KVa P Y) := by
  unfold f_kind_343
  exact hr11 _ _ _ _ h
theorem vkr_kind_185 {r11 : Int32 → Int32 → Int32 → St → Option (Int32 × St)} (hr11 : ∀ (q0 : Int32) (q1 : Int32) (q2 : Int32) (X : St), KVa P X → pw (r11 q0 q1 q2 X) (fun _ Y => KVa P Y)) {a1 : Int32} {a3 : Int32} {b0 : Int32} {X : St} (h : KVa P X) : pw (f_kind_185 r11 a1 a3 b0 X) (fun _ Y => KVa P Y) := by
  unfold f_kind_185
  refine pw_eq (fun x41 _ => ?_)
  exact vkr_kind_343 hr11 h
theorem vkr_rowOf {p1 : Int32} {X : St} (h : KVa P X) : pw (f_rowOf p1 X) (fun _ Y => KVa P Y) := by
  unfold f_rowOf
  refine pw_ck (fun _ => ?_)
  refine pw_eq (fun X1 eX1 => ?_)
  have dX1 : KVa P X1 := by rw [eX1]; exact KVa_w h (by omega)
  refine pw_bd (v_kof dX1) (fun x2 X3 dX3 => ?_)
  exact pw_ret dX3
theorem vkr_fifth_50 {a1 : Int32} {b0 : Int32} {X : St} (h : KVa P X) : pw (f_fifth_50 a1 b0 X) (fun _ Y => KVa P Y) := by
  unfold f_fifth_50
  refine pw_ite (fun _ => ?_) (fun _ => ?_)
  · refine pw_ite (fun _ => ?_) (fun _ => ?_)
    · exact pw_ret h
    · refine pw_eq (fun x3 _ => ?_)
      refine pw_bd (vkr_fails h) (fun _ X4 dX4 => ?_)
      exact pw_ret dX4
  · exact pw_ret h
theorem vkr_fifth_45 {a1 : Int32} {X : St} (h : KVa P X) : pw (f_fifth_45 a1 X) (fun _ Y => KVa P Y) := by
  unfold f_fifth_45
  exact vkr_fifth_50 h
theorem vkr_fifth {p1 : Int32} {X : St} (h : KVa P X) : pw (f_fifth p1 X) (fun _ Y => KVa P Y) := by
  unfold f_fifth
  refine pw_bd (vkr_isSign h) (fun x1 X2 dX2 => ?_)
  refine pw_ite (fun _ => ?_) (fun _ => ?_)
  · refine pw_bd (vkr_isWord dX2) (fun x5 X6 dX6 => ?_)
    refine pw_ite (fun _ => ?_) (fun _ => ?_)
    · refine pw_bd (vkr_isWord dX6) (fun x7 X8 dX8 => ?_)
      refine pw_ite (fun _ => ?_) (fun _ => ?_)
      · refine pw_bd (vkr_isWord dX8) (fun x9 X10 dX10 => ?_)
        refine pw_ite (fun _ => ?_) (fun _ => ?_)
        · refine pw_bd (vkr_isWord dX10) (fun x11 X12 dX12 => ?_)
          refine pw_ite (fun _ => ?_) (fun _ => ?_)
          · exact vkr_fifth_50 dX12
          · exact vkr_fifth_45 dX12
        · exact vkr_fifth_45 dX10
      · exact vkr_fifth_45 dX8
    · exact vkr_fifth_45 dX6
  · exact vkr_fifth_45 dX2
theorem vkr_plainKind_40 {b0 : Int32} {X : St} (h : KVa P X) : pw (f_plainKind_40 b0 X) (fun _ Y => KVa P Y) := by
  unfold f_plainKind_40
  refine pw_ite (fun _ => ?_) (fun _ => ?_)
  · refine pw_bd (vkr_next h) (fun _ X7 dX7 => ?_)
    exact pw_ret dX7
  · refine pw_bd (vkr_stray h) (fun _ X8 dX8 => ?_)
    exact pw_ret dX8
theorem vkr_plainKind {X : St} (h : KVa P X) : pw (f_plainKind X) (fun _ Y => KVa P Y) := by
  unfold f_plainKind
  refine pw_bd (vkr_isWord h) (fun x1 X2 dX2 => ?_)
  refine pw_ite (fun _ => ?_) (fun _ => ?_)
  · refine pw_bd (vkr_isWord dX2) (fun x3 X4 dX4 => ?_)
    refine pw_ite (fun _ => ?_) (fun _ => ?_)
    · refine pw_bd (vkr_isWord dX4) (fun x5 X6 dX6 => ?_)
      refine pw_ite (fun _ => ?_) (fun _ => ?_)
      · exact vkr_plainKind_40 dX6
      · exact vkr_plainKind_40 dX6
    · exact vkr_plainKind_40 dX4
  · exact vkr_plainKind_40 dX2
theorem vkr_kind_84 {r11 : Int32 → Int32 → Int32 → St → Option (Int32 × St)} (hr11 : ∀ (q0 : Int32) (q1 : Int32) (q2 : Int32) (X : St), KVa P X → pw (r11 q0 q1 q2 X) (fun _ Y => KVa P Y)) {a1 : Int32} {a2 : Int32} {a3 : Int32} {X : St} (h : KVa P X) : pw (f_kind_84 r11 a1 a2 a3 X) (fun _ Y => KVa P Y) := by
  unfold f_kind_84
  refine pw_ck (fun _ => ?_)
  refine pw_eq (fun X53 eX53 => ?_)
  have dX53 : KVa P X53 := by rw [eX53]; exact KVa_w h (by omega)
  refine pw_eq (fun x54 _ => ?_)
  refine pw_ck (fun _ => ?_)
  refine pw_eq (fun X55 eX55 => ?_)
  have dX55 : KVa P X55 := by rw [eX55]; exact KVa_w dX53 (by omega)
  refine pw_eq (fun x56 _ => ?_)
  refine pw_bd (vkr_isSign dX55) (fun x57 X58 dX58 => ?_)
  refine pw_ite (fun _ => ?_) (fun _ => ?_)
  · exact hr11 _ _ _ _ dX58
  · refine pw_bd (vkr_closes dX58) (fun _ X59 dX59 => ?_)
    refine pw_eq (fun x60 _ => ?_)
    refine pw_ck (fun _ => ?_)
    refine pw_eq (fun X61 eX61 => ?_)
    have dX61 : KVa P X61 := by rw [eX61]; exact KVa_w dX59 (by omega)
    exact hr11 _ _ _ _ dX61
theorem vkr_kind_11 (N : Nat) : ∀ (a1 : Int32) (a2 : Int32) (a3 : Int32) (X : St), KVa P X → pw (f_kind_11 N a1 a2 a3 X) (fun _ Y => KVa P Y) := by
  unfold f_kind_11
  refine lp_ind (P := fun (r : Int32 → Int32 → Int32 → St → Option (Int32 × St)) => ∀ (a1 : Int32) (a2 : Int32) (a3 : Int32) (X : St), KVa P X → pw (r a1 a2 a3 X) (fun _ Y => KVa P Y)) (fun _ _ _ _ _ => pw_none) (fun r ih a1 a2 a3 X h => ?_) N
  unfold f_kind_11_s
  refine pw_bd (vkr_isWell h) (fun x2 X3 dX3 => ?_)
  refine pw_ite (fun _ => ?_) (fun _ => ?_)
  · exact vkr_kind_346 dX3
  · refine pw_ite (fun _ => ?_) (fun _ => ?_)
    · refine pw_ite (fun _ => ?_) (fun _ => ?_)
      · refine pw_ite (fun _ => ?_) (fun _ => ?_)
        · exact ih _ _ _ _ dX3
        · refine pw_eq (fun x4 _ => ?_)
          refine pw_ck (fun _ => ?_)
          refine pw_eq (fun x5 _ => ?_)
          refine pw_ite (fun _ => ?_) (fun _ => ?_)
          · refine pw_bd (vkr_closes dX3) (fun _ X38 dX38 => ?_)
            refine pw_bd (vkr_isWell dX38) (fun x39 X40 dX40 => ?_)
            refine pw_ite (fun _ => ?_) (fun _ => ?_)
            · exact vkr_kind_185 ih dX40
            · refine pw_bd (vkr_rowOf dX40) (fun x42 X43 dX43 => ?_)
              exact vkr_kind_185 ih dX43
          · refine pw_ck (fun _ => ?_)
            refine pw_eq (fun x6 _ => ?_)
            refine pw_ite (fun _ => ?_) (fun _ => ?_)
            · refine pw_eq (fun x24 _ => ?_)
              refine pw_ck (fun _ => ?_)
              refine pw_eq (fun X25 eX25 => ?_)
              have dX25 : KVa P X25 := by rw [eX25]; exact KVa_w dX3 (by omega)
              refine pw_eq (fun x26 _ => ?_)
              refine pw_eq (fun x27 _ => ?_)
              refine pw_eq (fun X28 eX28 => ?_)
              have dX28 : KVa P X28 := by rw [eX28]; exact KVa_w dX25 (by omega)
              refine pw_bd (vkr_isSign dX28) (fun x29 X30 dX30 => ?_)
              refine pw_ite (fun _ => ?_) (fun _ => ?_)
              · refine pw_bd (vkr_closes dX30) (fun _ X31 dX31 => ?_)
                refine pw_ck (fun _ => ?_)
                refine pw_eq (fun X32 eX32 => ?_)
                have dX32 : KVa P X32 := by rw [eX32]; exact KVa_w dX31 (by omega)
                exact vkr_kind_343 ih dX32
              · refine pw_bd (vkr_next dX30) (fun _ X33 dX33 => ?_)
                refine pw_eq (fun x34 _ => ?_)
                refine pw_ck (fun _ => ?_)
                refine pw_eq (fun x35 _ => ?_)
                refine pw_eq (fun x36 _ => ?_)
                refine pw_bd (vkr_fifth dX33) (fun _ X37 dX37 => ?_)
                exact vkr_kind_343 ih dX37
            · refine pw_eq (fun x7 _ => ?_)
              refine pw_ck (fun _ => ?_)
              refine pw_eq (fun X8 eX8 => ?_)
              have dX8 : KVa P X8 := by rw [eX8]; exact KVa_w dX3 (by omega)
              refine pw_eq (fun x9 _ => ?_)
              refine pw_eq (fun x10 _ => ?_)
              refine pw_eq (fun X11 eX11 => ?_)
              have dX11 : KVa P X11 := by rw [eX11]; exact KVa_w dX8 (by omega)
              refine pw_eq (fun x12 _ => ?_)
              refine pw_eq (fun x13 _ => ?_)
              refine pw_eq (fun X14 eX14 => ?_)
              have dX14 : KVa P X14 := by rw [eX14]; exact KVa_w dX11 (by omega)
              refine pw_ck (fun _ => ?_)
              refine pw_eq (fun x15 _ => ?_)
              refine pw_eq (fun x16 _ => ?_)
              refine pw_ck (fun _ => ?_)
              refine pw_eq (fun x17 _ => ?_)
              refine pw_eq (fun x18 _ => ?_)
              refine pw_bd (v_kof dX14) (fun x19 X20 dX20 => ?_)
              refine pw_ck (fun _ => ?_)
              refine pw_eq (fun x21 _ => ?_)
              refine pw_eq (fun X22 eX22 => ?_)
              have dX22 : KVa P X22 := by rw [eX22]; exact KVa_w dX20 (by omega)
              refine pw_eq (fun x23 _ => ?_)
              exact vkr_kind_343 ih dX22
      · refine pw_bd (vkr_isSign dX3) (fun x44 X45 dX45 => ?_)
        refine pw_ite (fun _ => ?_) (fun _ => ?_)
        · refine pw_bd (vkr_isWord dX45) (fun x46 X47 dX47 => ?_)
          refine pw_ite (fun _ => ?_) (fun _ => ?_)
          · refine pw_bd (vkr_plainKind dX47) (fun x48 X49 dX49 => ?_)
            exact ih _ _ _ _ dX49
          · refine pw_bd (vkr_nests dX47) (fun _ X50 dX50 => ?_)
            refine pw_bd (vkr_isWell dX50) (fun x51 X52 dX52 => ?_)
            refine pw_ite (fun _ => ?_) (fun _ => ?_)
            · exact vkr_kind_84 ih dX52
            · refine pw_bd (vkr_next dX52) (fun _ X62 dX62 => ?_)
              refine pw_bd (vkr_opens dX62) (fun _ X63 dX63 => ?_)
              exact vkr_kind_84 ih dX63
        · refine pw_bd (vkr_opens dX45) (fun _ X64 dX64 => ?_)
          refine pw_ck (fun _ => ?_)
          refine pw_eq (fun X65 eX65 => ?_)
          have dX65 : KVa P X65 := by rw [eX65]; exact KVa_w dX64 (by omega)
          refine pw_eq (fun x66 _ => ?_)
          exact ih _ _ _ _ dX65
    · exact vkr_kind_346 dX3
theorem vkr_kind {X : St} (h : KVa P X) : pw (f_kind X) (fun _ Y => KVa P Y) := by
  unfold f_kind
  refine pw_eq (fun X1 eX1 => ?_)
  have dX1 : KVa P X1 := by rw [eX1]; exact KVa_w h (by omega)
  exact vkr_kind_11 _ _ _ _ _ dX1
theorem vkr_param_76 {a1 : Int32} {X : St} (h : KVa P X) : pw (f_param_76 a1 X) (fun _ Y => KVa P Y) := by
  unfold f_param_76
  refine pw_bd (vkr_isWell h) (fun x7 X8 dX8 => ?_)
  refine pw_ite (fun _ => ?_) (fun _ => ?_)
  · exact pw_ret dX8
  · refine pw_eq (fun x9 _ => ?_)
    refine pw_eq (fun y10 _ => ?_)
    refine pw_ck (fun _ => ?_)
    refine pw_eq (fun X11 eX11 => ?_)
    have dX11 : KVa P X11 := by rw [eX11]; exact KVa.cg dX8 (fun _ _ _ => rfl)
    refine pw_eq (fun x12 _ => ?_)
    refine pw_eq (fun x13 _ => ?_)
    refine pw_eq (fun X14 eX14 => ?_)
    have dX14 : KVa P X14 := by rw [eX14]; exact KVa_w dX11 (by omega)
    refine pw_eq (fun x15 _ => ?_)
    refine pw_ck (fun _ => ?_)
    refine pw_eq (fun X16 eX16 => ?_)
    have dX16 : KVa P X16 := by rw [eX16]; exact KVa_w dX14 (by omega)
    refine pw_eq (fun x17 _ => ?_)
    refine pw_eq (fun x18 _ => ?_)
    refine pw_eq (fun x19 _ => ?_)
    refine pw_eq (fun x20 _ => ?_)
    refine pw_ck (fun _ => ?_)
    refine pw_eq (fun X21 eX21 => ?_)
    have dX21 : KVa P X21 := by rw [eX21]; exact KVa_w dX16 (by omega)
    refine pw_bd (vkr_next dX21) (fun _ X22 dX22 => ?_)
    refine pw_bd (vkr_isSign dX22) (fun x23 X24 dX24 => ?_)
    refine pw_ite (fun _ => ?_) (fun _ => ?_)
    · exact pw_ret dX24
    · refine pw_bd (vkr_next dX24) (fun _ X25 dX25 => ?_)
      refine pw_eq (fun x26 _ => ?_)
      refine pw_eq (fun x27 _ => ?_)
      refine pw_eq (fun x28 _ => ?_)
      refine pw_eq (fun x29 _ => ?_)
      refine pw_bd (vkr_kind dX25) (fun x30 X31 dX31 => ?_)
      refine pw_ck (fun _ => ?_)
      refine pw_eq (fun X32 eX32 => ?_)
      have dX32 : KVa P X32 := by rw [eX32]; exact KVa_w dX31 (by omega)
      exact pw_ret dX32
theorem vkr_param_53 {r22 : Int32 → Int32 → St → Option (Int32 × St)} (hr22 : ∀ (q0 : Int32) (q1 : Int32) (X : St), KVa P X → pw (r22 q0 q1 X) (fun _ Y => KVa P Y)) {a1 : Int32} {a2 : Int32} {X : St} (h : KVa P X) : pw (f_param_53 r22 a1 a2 X) (fun _ Y => KVa P Y) := by
  unfold f_param_53
  refine pw_eq (fun x38 _ => ?_)
  exact hr22 _ _ _ h
theorem vkr_param_22 (N : Nat) : ∀ (a1 : Int32) (a2 : Int32) (X : St), KVa P X → pw (f_param_22 N a1 a2 X) (fun _ Y => KVa P Y) := by
  unfold f_param_22
  refine lp_ind (P := fun (r : Int32 → Int32 → St → Option (Int32 × St)) => ∀ (a1 : Int32) (a2 : Int32) (X : St), KVa P X → pw (r a1 a2 X) (fun _ Y => KVa P Y)) (fun _ _ _ _ => pw_none) (fun r ih a1 a2 X h => ?_) N
  unfold f_param_22_s
  refine pw_eq (fun x5 _ => ?_)
  refine pw_ite (fun _ => ?_) (fun _ => ?_)
  · refine pw_eq (fun x6 _ => ?_)
    refine pw_ite (fun _ => ?_) (fun _ => ?_)
    · refine pw_eq (fun x33 _ => ?_)
      refine pw_bd (vkr_fails h) (fun _ X34 dX34 => ?_)
      exact vkr_param_76 dX34
    · exact vkr_param_76 h
  · refine pw_ck (fun _ => ?_)
    refine pw_eq (fun y35 _ => ?_)
    refine pw_eq (fun y36 _ => ?_)
    refine pw_eq (fun x37 _ => ?_)
    refine pw_ite (fun _ => ?_) (fun _ => ?_)
    · refine pw_eq (fun x39 _ => ?_)
      refine pw_bd (vkr_fails h) (fun _ X40 dX40 => ?_)
      exact vkr_param_53 ih dX40
    · exact vkr_param_53 ih h
theorem vkr_param {p1 : Int32} {X : St} (h : KVa P X) : pw (f_param p1 X) (fun _ Y => KVa P Y) := by
  unfold f_param
  refine pw_bd (vkr_isWell h) (fun x1 X2 dX2 => ?_)
  refine pw_ite (fun _ => ?_) (fun _ => ?_)
  · exact vkr_param_15 dX2
  · refine pw_eq (fun x4 _ => ?_)
    refine pw_ite (fun _ => ?_) (fun _ => ?_)
    · exact vkr_param_22 _ _ _ _ dX2
    · exact vkr_param_15 dX2
theorem vkr_enter {p1 : Int32} {p2 : Int32} {X : St} (h : KVa P X) : pw (f_enter p1 p2 X) (fun _ Y => KVa P Y) := by
  unfold f_enter
  refine pw_eq (fun x1 _ => ?_)
  refine pw_ck (fun _ => ?_)
  refine pw_eq (fun X2 eX2 => ?_)
  have dX2 : KVa P X2 := by rw [eX2]; exact KVa_w h (by omega)
  refine pw_eq (fun x3 _ => ?_)
  refine pw_ck (fun _ => ?_)
  refine pw_eq (fun X4 eX4 => ?_)
  have dX4 : KVa P X4 := by rw [eX4]; exact KVa_w dX2 (by omega)
  refine pw_eq (fun x5 _ => ?_)
  refine pw_ck (fun _ => ?_)
  refine pw_eq (fun X6 eX6 => ?_)
  have dX6 : KVa P X6 := by rw [eX6]; exact KVa_w dX4 (by omega)
  refine pw_eq (fun x7 _ => ?_)
  refine pw_eq (fun x8 _ => ?_)
  refine pw_ck (fun _ => ?_)
  refine pw_eq (fun X9 eX9 => ?_)
  have dX9 : KVa P X9 := by rw [eX9]; exact KVa_w dX6 (by omega)
  refine pw_eq (fun x10 _ => ?_)
  refine pw_eq (fun x11 _ => ?_)
  refine pw_eq (fun X12 eX12 => ?_)
  have dX12 : KVa P X12 := by rw [eX12]; exact KVa_w dX9 (by omega)
  exact pw_ret dX12
theorem vkr_isBeginning {X : St} (h : KVa P X) : pw (f_isBeginning X) (fun _ Y => KVa P Y) := by
  unfold f_isBeginning
  refine pw_eq (fun x1 _ => ?_)
  refine pw_ite (fun _ => ?_) (fun _ => ?_)
  · exact pw_ret h
  · refine pw_eq (fun x2 _ => ?_)
    refine pw_ite (fun _ => ?_) (fun _ => ?_)
    · exact pw_ret h
    · refine pw_eq (fun x3 _ => ?_)
      refine pw_ite (fun _ => ?_) (fun _ => ?_)
      · refine pw_eq (fun y15 _ => ?_)
        refine pw_eq (fun x16 _ => ?_)
        refine pw_ite (fun _ => ?_) (fun _ => ?_)
        · exact pw_ret h
        · refine pw_eq (fun y17 _ => ?_)
          refine pw_eq (fun x18 _ => ?_)
          refine pw_ite (fun _ => ?_) (fun _ => ?_)
          · exact pw_ret h
          · refine pw_eq (fun y19 _ => ?_)
            refine pw_eq (fun x20 _ => ?_)
            refine pw_ite (fun _ => ?_) (fun _ => ?_)
            · exact pw_ret h
            · refine pw_eq (fun y21 _ => ?_)
              refine pw_eq (fun x22 _ => ?_)
              refine pw_ite (fun _ => ?_) (fun _ => ?_)
              · exact pw_ret h
              · refine pw_eq (fun y23 _ => ?_)
                refine pw_eq (fun x24 _ => ?_)
                refine pw_ite (fun _ => ?_) (fun _ => ?_)
                · exact pw_ret h
                · refine pw_eq (fun y25 _ => ?_)
                  refine pw_eq (fun x26 _ => ?_)
                  refine pw_ite (fun _ => ?_) (fun _ => ?_)
                  · exact pw_ret h
                  · refine pw_eq (fun y27 _ => ?_)
                    refine pw_eq (fun x28 _ => ?_)
                    refine pw_ite (fun _ => ?_) (fun _ => ?_)
                    · exact pw_ret h
                    · exact pw_ret h
      · refine pw_eq (fun x4 _ => ?_)
        refine pw_ite (fun _ => ?_) (fun _ => ?_)
        · refine pw_eq (fun y5 _ => ?_)
          refine pw_eq (fun x6 _ => ?_)
          refine pw_ite (fun _ => ?_) (fun _ => ?_)
          · exact pw_ret h
          · refine pw_eq (fun y7 _ => ?_)
            refine pw_eq (fun x8 _ => ?_)
            refine pw_ite (fun _ => ?_) (fun _ => ?_)
            · exact pw_ret h
            · refine pw_eq (fun y9 _ => ?_)
              refine pw_eq (fun x10 _ => ?_)
              refine pw_ite (fun _ => ?_) (fun _ => ?_)
              · exact pw_ret h
              · refine pw_eq (fun y11 _ => ?_)
                refine pw_eq (fun x12 _ => ?_)
                refine pw_ite (fun _ => ?_) (fun _ => ?_)
                · exact pw_ret h
                · refine pw_eq (fun y13 _ => ?_)
                  refine pw_eq (fun x14 _ => ?_)
                  refine pw_ite (fun _ => ?_) (fun _ => ?_)
                  · exact pw_ret h
                  · exact pw_ret h
        · exact pw_ret h
theorem vkr_make {p1 : Int32} {p2 : Int32} {X : St} (h : KVa P X) : pw (f_make p1 p2 X) (fun _ Y => KVa P Y) := by
  unfold f_make
  refine pw_eq (fun x1 _ => ?_)
  refine pw_eq (fun x2 _ => ?_)
  refine pw_eq (fun x3 _ => ?_)
  refine pw_eq (fun X4 eX4 => ?_)
  have dX4 : KVa P X4 := by rw [eX4]; exact KVa_w h (by omega)
  refine pw_ck (fun _ => ?_)
  refine pw_eq (fun X5 eX5 => ?_)
  have dX5 : KVa P X5 := by rw [eX5]; exact KVa_w dX4 (by omega)
  refine pw_ck (fun _ => ?_)
  refine pw_eq (fun X6 eX6 => ?_)
  have dX6 : KVa P X6 := by rw [eX6]; exact KVa_w dX5 (by omega)
  refine pw_ck (fun _ => ?_)
  refine pw_eq (fun X7 eX7 => ?_)
  have dX7 : KVa P X7 := by rw [eX7]; exact KVa_w dX6 (by omega)
  refine pw_ck (fun _ => ?_)
  refine pw_eq (fun X8 eX8 => ?_)
  have dX8 : KVa P X8 := by rw [eX8]; exact KVa_w dX7 (by omega)
  refine pw_ck (fun _ => ?_)
  refine pw_eq (fun X9 eX9 => ?_)
  have dX9 : KVa P X9 := by rw [eX9]; exact KVa_w dX8 (by omega)
  refine pw_ck (fun _ => ?_)
  refine pw_eq (fun X10 eX10 => ?_)
  have dX10 : KVa P X10 := by rw [eX10]; exact KVa_w dX9 (by omega)
  refine pw_ck (fun _ => ?_)
  refine pw_eq (fun X11 eX11 => ?_)
  have dX11 : KVa P X11 := by rw [eX11]; exact KVa_w dX10 (by omega)
  refine pw_ck (fun _ => ?_)
  refine pw_eq (fun X12 eX12 => ?_)
  have dX12 : KVa P X12 := by rw [eX12]; exact KVa_w dX11 (by omega)
  refine pw_ck (fun _ => ?_)
  refine pw_eq (fun X13 eX13 => ?_)
  have dX13 : KVa P X13 := by rw [eX13]; exact KVa_w dX12 (by omega)
  refine pw_ck (fun _ => ?_)
  refine pw_eq (fun X14 eX14 => ?_)
  have dX14 : KVa P X14 := by rw [eX14]; exact KVa.cg dX13 (fun _ _ _ => rfl)
  refine pw_ck (fun _ => ?_)
  refine pw_eq (fun X15 eX15 => ?_)
  have dX15 : KVa P X15 := by rw [eX15]; exact KVa_w dX14 (by omega)
  exact pw_ret dX15
theorem vkr_beginsLet_91 {a1 : Int32} {X : St} (h : KVa P X) : pw (f_beginsLet_91 a1 X) (fun _ Y => KVa P Y) := by
  unfold f_beginsLet_91
  refine pw_bd (vkr_takes h) (fun _ X16 dX16 => ?_)
  refine pw_bd (vkr_enter dX16) (fun _ X17 dX17 => ?_)
  exact pw_ret dX17
theorem vkr_beginsLet {X : St} (h : KVa P X) : pw (f_beginsLet X) (fun _ Y => KVa P Y) := by
  unfold f_beginsLet
  refine pw_eq (fun x1 _ => ?_)
  refine pw_bd (vkr_make h) (fun x2 X3 dX3 => ?_)
  refine pw_bd (vkr_nests dX3) (fun _ X4 dX4 => ?_)
  refine pw_bd (vkr_isWell dX4) (fun x5 X6 dX6 => ?_)
  refine pw_ite (fun _ => ?_) (fun _ => ?_)
  · exact pw_ret dX6
  · refine pw_bd (vkr_next dX6) (fun _ X7 dX7 => ?_)
    refine pw_eq (fun x8 _ => ?_)
    refine pw_ite (fun _ => ?_) (fun _ => ?_)
    · refine pw_eq (fun y9 _ => ?_)
      refine pw_ck (fun _ => ?_)
      refine pw_eq (fun X10 eX10 => ?_)
      have dX10 : KVa P X10 := by rw [eX10]; exact KVa.cg dX7 (fun _ _ _ => rfl)
      refine pw_bd (vkr_next dX10) (fun _ X11 dX11 => ?_)
      refine pw_ck (fun _ => ?_)
      refine pw_eq (fun X12 eX12 => ?_)
      have dX12 : KVa P X12 := by rw [eX12]; exact KVa_w dX11 (by omega)
      refine pw_ck (fun _ => ?_)
      refine pw_eq (fun X13 eX13 => ?_)
      have dX13 : KVa P X13 := by rw [eX13]; exact KVa_w dX12 (by omega)
      refine pw_bd (vkr_isSign dX13) (fun x14 X15 dX15 => ?_)
      refine pw_ite (fun _ => ?_) (fun _ => ?_)
      · exact vkr_beginsLet_91 dX15
      · refine pw_bd (vkr_next dX15) (fun _ X18 dX18 => ?_)
        refine pw_bd (vkr_kind dX18) (fun x19 X20 dX20 => ?_)
        refine pw_ck (fun _ => ?_)
        refine pw_eq (fun X21 eX21 => ?_)
        have dX21 : KVa P X21 := by rw [eX21]; exact KVa_w dX20 (by omega)
        exact vkr_beginsLet_91 dX21
    · refine pw_bd (vkr_stray dX7) (fun _ X22 dX22 => ?_)
      exact pw_ret dX22
theorem vkr_begins_65 {b0 : Int32} {X : St} (h : KVa P X) : pw (f_begins_65 b0 X) (fun _ Y => KVa P Y) := by
  unfold f_begins_65
  refine pw_bd (vkr_isBeginning h) (fun x5 X6 dX6 => ?_)
  refine pw_ite (fun _ => ?_) (fun _ => ?_)
  · refine pw_bd (vkr_stray dX6) (fun _ X21 dX21 => ?_)
    exact pw_ret dX21
  · refine pw_ite (fun _ => ?_) (fun _ => ?_)
    · refine pw_bd (vkr_isWord dX6) (fun x7 X8 dX8 => ?_)
      refine pw_ite (fun _ => ?_) (fun _ => ?_)
      · refine pw_bd (vkr_isWord dX8) (fun x9 X10 dX10 => ?_)
        refine pw_ite (fun _ => ?_) (fun _ => ?_)
        · refine pw_eq (fun X11 eX11 => ?_)
          have dX11 : KVa P X11 := by rw [eX11]; exact KVa_w dX10 (by omega)
          exact pw_ret dX11
        · refine pw_eq (fun x12 _ => ?_)
          refine pw_bd (vkr_make dX10) (fun x13 X14 dX14 => ?_)
          refine pw_bd (vkr_nests dX14) (fun _ X15 dX15 => ?_)
          refine pw_bd (vkr_next dX15) (fun _ X16 dX16 => ?_)
          refine pw_bd (vkr_enter dX16) (fun _ X17 dX17 => ?_)
          exact pw_ret dX17
      · refine pw_bd (vkr_beginsLet dX8) (fun _ X18 dX18 => ?_)
        exact pw_ret dX18
    · refine pw_eq (fun x19 _ => ?_)
      refine pw_bd (vkr_fails dX6) (fun _ X20 dX20 => ?_)
      exact pw_ret dX20
theorem vkr_begins_60 {X : St} (h : KVa P X) : pw (f_begins_60 X) (fun _ Y => KVa P Y) := by
  unfold f_begins_60
  exact vkr_begins_65 h
theorem vkr_begins_64 {X : St} (h : KVa P X) : pw (f_begins_64 X) (fun _ Y => KVa P Y) := by
  unfold f_begins_64
  exact vkr_begins_65 h
theorem vkr_begins_33 {a1 : Int32} {X : St} (h : KVa P X) : pw (f_begins_33 a1 X) (fun _ Y => KVa P Y) := by
  unfold f_begins_33
  refine pw_ck (fun _ => ?_)
  refine pw_eq (fun x4 _ => ?_)
  refine pw_ite (fun _ => ?_) (fun _ => ?_)
  · refine pw_ck (fun _ => ?_)
    refine pw_eq (fun x22 _ => ?_)
    refine pw_ck (fun _ => ?_)
    refine pw_eq (fun x23 _ => ?_)
    refine pw_ite (fun _ => ?_) (fun _ => ?_)
    · exact vkr_begins_60 h
    · exact vkr_begins_64 h
  · exact vkr_begins_64 h
theorem vkr_begins {X : St} (h : KVa P X) : pw (f_begins X) (fun _ Y => KVa P Y) := by
  unfold f_begins
  refine pw_eq (fun x1 _ => ?_)
  refine pw_eq (fun x2 _ => ?_)
  refine pw_ck (fun _ => ?_)
  refine pw_eq (fun x3 _ => ?_)
  refine pw_ite (fun _ => ?_) (fun _ => ?_)
  · refine pw_ck (fun _ => ?_)
    refine pw_eq (fun x24 _ => ?_)
    refine pw_ck (fun _ => ?_)
    refine pw_eq (fun x25 _ => ?_)
    refine pw_ite (fun _ => ?_) (fun _ => ?_)
    · exact vkr_begins_60 h
    · exact vkr_begins_33 h
  · exact vkr_begins_33 h
theorem vkr_opened {p1 : Int32} {p2 : Int32} {X : St} (h : KVa P X) : pw (f_opened p1 p2 X) (fun _ Y => KVa P Y) := by
  unfold f_opened
  refine pw_bd (vkr_isWell h) (fun x1 X2 dX2 => ?_)
  refine pw_ite (fun _ => ?_) (fun _ => ?_)
  · exact pw_ret dX2
  · refine pw_bd (vkr_enter dX2) (fun _ X3 dX3 => ?_)
    refine pw_eq (fun X4 eX4 => ?_)
    have dX4 : KVa P X4 := by rw [eX4]; exact KVa_w dX3 (by omega)
    exact pw_ret dX4
theorem vkr_operand_318 {a3 : Int32} {b0 : Int32} {X : St} (h : KVa P X) : pw (f_operand_318 a3 b0 X) (fun _ Y => KVa P Y) := by
  unfold f_operand_318
  refine pw_bd (vkr_opened h) (fun _ X40 dX40 => ?_)
  exact pw_ret dX40
theorem vkr_operand_289 {a1 : Int32} {a2 : Int32} {b0 : Int32} {X : St} (h : KVa P X) : pw (f_operand_289 a1 a2 b0 X) (fun _ Y => KVa P Y) := by
  unfold f_operand_289
  refine pw_bd (vkr_make h) (fun x36 X37 dX37 => ?_)
  refine pw_bd (vkr_next dX37) (fun _ X38 dX38 => ?_)
  refine pw_bd (vkr_opens dX38) (fun _ X39 dX39 => ?_)
  refine pw_ite (fun _ => ?_) (fun _ => ?_)
  · exact vkr_operand_318 dX39
  · exact vkr_operand_318 dX39
theorem vkr_operand_259 {a1 : Int32} {X : St} (h : KVa P X) : pw (f_operand_259 a1 X) (fun _ Y => KVa P Y) := by
  unfold f_operand_259
  refine pw_eq (fun y34 _ => ?_)
  refine pw_eq (fun x35 _ => ?_)
  refine pw_ite (fun _ => ?_) (fun _ => ?_)
  · exact vkr_operand_289 h
  · refine pw_ite (fun _ => ?_) (fun _ => ?_)
    · exact vkr_operand_289 h
    · exact vkr_operand_289 h
theorem vkr_done {p1 : Int32} {X : St} (h : KVa P X) : pw (f_done p1 X) (fun _ Y => KVa P Y) := by
  unfold f_done
  refine pw_eq (fun X1 eX1 => ?_)
  have dX1 : KVa P X1 := by rw [eX1]; exact KVa_w h (by omega)
  refine pw_eq (fun X2 eX2 => ?_)
  have dX2 : KVa P X2 := by rw [eX2]; exact KVa_w dX1 (by omega)
  exact pw_ret dX2
theorem vkr_operand_177 {a1 : Int32} {X : St} (h : KVa P X) : pw (f_operand_177 a1 X) (fun _ Y => KVa P Y) := by
  unfold f_operand_177
  refine pw_bd (vkr_isSign h) (fun x30 X31 dX31 => ?_)
  refine pw_ite (fun _ => ?_) (fun _ => ?_)
  · refine pw_bd (vkr_isWord dX31) (fun x32 X33 dX33 => ?_)
    refine pw_ite (fun _ => ?_) (fun _ => ?_)
    · refine pw_bd (vkr_isWord dX33) (fun x41 X42 dX42 => ?_)
      refine pw_ite (fun _ => ?_) (fun _ => ?_)
      · refine pw_bd (vkr_isWord dX42) (fun x43 X44 dX44 => ?_)
        refine pw_ite (fun _ => ?_) (fun _ => ?_)
        · refine pw_bd (vkr_isSign dX44) (fun x45 X46 dX46 => ?_)
          refine pw_ite (fun _ => ?_) (fun _ => ?_)
          · refine pw_bd (vkr_isSign dX46) (fun x47 X48 dX48 => ?_)
            refine pw_ite (fun _ => ?_) (fun _ => ?_)
            · refine pw_bd (vkr_stray dX48) (fun _ X49 dX49 => ?_)
              exact pw_ret dX49
            · refine pw_bd (vkr_make dX48) (fun x50 X51 dX51 => ?_)
              refine pw_bd (vkr_opens dX51) (fun _ X52 dX52 => ?_)
              refine pw_bd (vkr_opened dX52) (fun _ X53 dX53 => ?_)
              exact pw_ret dX53
          · refine pw_bd (vkr_make dX46) (fun x54 X55 dX55 => ?_)
            refine pw_bd (vkr_opens dX55) (fun _ X56 dX56 => ?_)
            refine pw_bd (vkr_opened dX56) (fun _ X57 dX57 => ?_)
            exact pw_ret dX57
        · exact vkr_operand_259 dX44
      · exact vkr_operand_259 dX42
    · exact vkr_operand_259 dX33
  · refine pw_bd (vkr_make dX31) (fun x58 X59 dX59 => ?_)
    refine pw_bd (vkr_opens dX59) (fun _ X60 dX60 => ?_)
    refine pw_bd (vkr_isSign dX60) (fun x61 X62 dX62 => ?_)
    refine pw_ite (fun _ => ?_) (fun _ => ?_)
    · refine pw_bd (vkr_opened dX62) (fun _ X63 dX63 => ?_)
      exact pw_ret dX63
    · refine pw_bd (vkr_closes dX62) (fun _ X64 dX64 => ?_)
      refine pw_bd (vkr_done dX64) (fun _ X65 dX65 => ?_)
      exact pw_ret dX65
theorem vkr_named_48 {a1 : Int32} {a2 : Int32} {b0 : Int32} {X : St} (h : KVa P X) : pw (f_named_48 a1 a2 b0 X) (fun _ Y => KVa P Y) := by
  unfold f_named_48
  refine pw_bd (vkr_make h) (fun x2 X3 dX3 => ?_)
  refine pw_ck (fun _ => ?_)
  refine pw_eq (fun X4 eX4 => ?_)
  have dX4 : KVa P X4 := by rw [eX4]; exact KVa_w dX3 (by omega)
  refine pw_eq (fun y5 _ => ?_)
  refine pw_ck (fun _ => ?_)
  refine pw_eq (fun X6 eX6 => ?_)
  have dX6 : KVa P X6 := by rw [eX6]; exact KVa.cg dX4 (fun _ _ _ => rfl)
  refine pw_bd (vkr_next dX6) (fun _ X7 dX7 => ?_)
  refine pw_bd (vkr_done dX7) (fun _ X8 dX8 => ?_)
  exact pw_ret dX8
theorem vkr_named_31 {r4 : Int32 → Int32 → Int32 → St → Option (Int32 × St)} (hr4 : ∀ (q0 : Int32) (q1 : Int32) (q2 : Int32) (X : St), KVa P X → pw (r4 q0 q1 q2 X) (fun _ Y => KVa P Y)) {a1 : Int32} {a3 : Int32} {b0 : Int32} {X : St} (h : KVa P X) : pw (f_named_31 r4 a1 a3 b0 X) (fun _ Y => KVa P Y) := by
  unfold f_named_31
  refine pw_eq (fun x12 _ => ?_)
  exact hr4 _ _ _ _ h
theorem vkr_named_4 (N : Nat) : ∀ (a1 : Int32) (a2 : Int32) (a3 : Int32) (X : St), KVa P X → pw (f_named_4 N a1 a2 a3 X) (fun _ Y => KVa P Y) := by
  unfold f_named_4
  refine lp_ind (P := fun (r : Int32 → Int32 → Int32 → St → Option (Int32 × St)) => ∀ (a1 : Int32) (a2 : Int32) (a3 : Int32) (X : St), KVa P X → pw (r a1 a2 a3 X) (fun _ Y => KVa P Y)) (fun _ _ _ _ _ => pw_none) (fun r ih a1 a2 a3 X h => ?_) N
  unfold f_named_4_s
  refine pw_eq (fun x1 _ => ?_)
  refine pw_ite (fun _ => ?_) (fun _ => ?_)
  · refine pw_ite (fun _ => ?_) (fun _ => ?_)
    · exact vkr_named_48 h
    · exact vkr_named_48 h
  · refine pw_ck (fun _ => ?_)
    refine pw_eq (fun y9 _ => ?_)
    refine pw_eq (fun y10 _ => ?_)
    refine pw_eq (fun x11 _ => ?_)
    refine pw_ite (fun _ => ?_) (fun _ => ?_)
    · exact vkr_named_31 ih h
    · exact vkr_named_31 ih h
theorem vkr_named {p1 : Int32} {X : St} (h : KVa P X) : pw (f_named p1 X) (fun _ Y => KVa P Y) := by
  unfold f_named
  exact vkr_named_4 _ _ _ _ _ h
theorem vkr_operand_141 {a2 : Int32} {b0 : Int32} {b1 : Int32} {X : St} (h : KVa P X) : pw (f_operand_141 a2 b0 b1 X) (fun _ Y => KVa P Y) := by
  unfold f_operand_141
  refine pw_ck (fun _ => ?_)
  refine pw_eq (fun X23 eX23 => ?_)
  have dX23 : KVa P X23 := by rw [eX23]; exact KVa_w h (by omega)
  refine pw_bd (vkr_next dX23) (fun _ X24 dX24 => ?_)
  refine pw_bd (vkr_done dX24) (fun _ X25 dX25 => ?_)
  exact pw_ret dX25
theorem vkr_operand_113 {a1 : Int32} {X : St} (h : KVa P X) : pw (f_operand_113 a1 X) (fun _ Y => KVa P Y) := by
  unfold f_operand_113
  refine pw_bd (vkr_make h) (fun x19 X20 dX20 => ?_)
  refine pw_eq (fun y21 _ => ?_)
  refine pw_eq (fun x22 _ => ?_)
  refine pw_ite (fun _ => ?_) (fun _ => ?_)
  · exact vkr_operand_141 dX20
  · exact vkr_operand_141 dX20
theorem vkr_operand_95 {a1 : Int32} {X : St} (h : KVa P X) : pw (f_operand_95 a1 X) (fun _ Y => KVa P Y) := by
  unfold f_operand_95
  refine pw_bd (vkr_isWord h) (fun x17 X18 dX18 => ?_)
  refine pw_ite (fun _ => ?_) (fun _ => ?_)
  · refine pw_bd (vkr_isWord dX18) (fun x26 X27 dX27 => ?_)
    refine pw_ite (fun _ => ?_) (fun _ => ?_)
    · refine pw_bd (vkr_isWell dX27) (fun x28 X29 dX29 => ?_)
      refine pw_ite (fun _ => ?_) (fun _ => ?_)
      · exact vkr_operand_177 dX29
      · refine pw_eq (fun x66 _ => ?_)
        refine pw_ite (fun _ => ?_) (fun _ => ?_)
        · refine pw_bd (vkr_named dX29) (fun _ X67 dX67 => ?_)
          exact pw_ret dX67
        · exact vkr_operand_177 dX29
    · exact vkr_operand_113 dX27
  · exact vkr_operand_113 dX18
theorem vkr_number {p1 : Int32} {X : St} (h : KVa P X) : pw (f_number p1 X) (fun _ Y => KVa P Y) := by
  unfold f_number
  refine pw_eq (fun y1 _ => ?_)
  refine pw_eq (fun x2 _ => ?_)
  refine pw_ite (fun _ => ?_) (fun _ => ?_)
  · refine pw_bd (vkr_make h) (fun x3 X4 dX4 => ?_)
    refine pw_eq (fun y5 _ => ?_)
    refine pw_eq (fun x6 _ => ?_)
    refine pw_ck (fun _ => ?_)
    refine pw_eq (fun X7 eX7 => ?_)
    have dX7 : KVa P X7 := by rw [eX7]; exact KVa_w dX4 (by omega)
    refine pw_bd (vkr_next dX7) (fun _ X8 dX8 => ?_)
    refine pw_bd (vkr_done dX8) (fun _ X9 dX9 => ?_)
    exact pw_ret dX9
  · refine pw_bd (vkr_fails h) (fun _ X10 dX10 => ?_)
    exact pw_ret dX10
theorem vkr_operand_42 {a1 : Int32} {b0 : Int32} {X : St} (h : KVa P X) : pw (f_operand_42 a1 b0 X) (fun _ Y => KVa P Y) := by
  unfold f_operand_42
  refine pw_bd (vkr_make h) (fun x6 X7 dX7 => ?_)
  refine pw_bd (vkr_nests dX7) (fun _ X8 dX8 => ?_)
  refine pw_bd (vkr_isWell dX8) (fun x9 X10 dX10 => ?_)
  refine pw_ite (fun _ => ?_) (fun _ => ?_)
  · exact pw_ret dX10
  · refine pw_bd (vkr_next dX10) (fun _ X11 dX11 => ?_)
    refine pw_bd (vkr_enter dX11) (fun _ X12 dX12 => ?_)
    exact pw_ret dX12
theorem vkr_operand_23 {a1 : Int32} {X : St} (h : KVa P X) : pw (f_operand_23 a1 X) (fun _ Y => KVa P Y) := by
  unfold f_operand_23
  refine pw_eq (fun y4 _ => ?_)
  refine pw_eq (fun x5 _ => ?_)
  refine pw_ite (fun _ => ?_) (fun _ => ?_)
  · exact vkr_operand_42 h
  · exact vkr_operand_42 h
theorem vkr_operand {X : St} (h : KVa P X) : pw (f_operand X) (fun _ Y => KVa P Y) := by
  unfold f_operand
  refine pw_eq (fun x1 _ => ?_)
  refine pw_bd (vkr_isSign h) (fun x2 X3 dX3 => ?_)
  refine pw_ite (fun _ => ?_) (fun _ => ?_)
  · refine pw_bd (vkr_isSign dX3) (fun x13 X14 dX14 => ?_)
    refine pw_ite (fun _ => ?_) (fun _ => ?_)
    · refine pw_bd (vkr_isWell dX14) (fun x15 X16 dX16 => ?_)
      refine pw_ite (fun _ => ?_) (fun _ => ?_)
      · exact vkr_operand_95 dX16
      · refine pw_eq (fun x68 _ => ?_)
        refine pw_ite (fun _ => ?_) (fun _ => ?_)
        · refine pw_bd (vkr_number dX16) (fun _ X69 dX69 => ?_)
          exact pw_ret dX69
        · exact vkr_operand_95 dX16
    · exact vkr_operand_23 dX14
  · exact vkr_operand_23 dX3
theorem vkr_behind_288 {X : St} (h : KVa P X) : pw (f_behind_288 X) (fun _ Y => KVa P Y) := by
  unfold f_behind_288
  refine pw_eq (fun X30 eX30 => ?_)
  have dX30 : KVa P X30 := by rw [eX30]; exact KVa_w h (by omega)
  exact pw_ret dX30
theorem vkr_behind_214 {a3 : Int32} {b0 : Int32} {X : St} (h : KVa P X) : pw (f_behind_214 a3 b0 X) (fun _ Y => KVa P Y) := by
  unfold f_behind_214
  refine pw_bd (vkr_opened h) (fun _ X17 dX17 => ?_)
  exact pw_ret dX17
theorem vkr_behind_201 {a3 : Int32} {a4 : Int32} {X : St} (h : KVa P X) : pw (f_behind_201 a3 a4 X) (fun _ Y => KVa P Y) := by
  unfold f_behind_201
  refine pw_ite (fun _ => ?_) (fun _ => ?_)
  · exact vkr_behind_214 h
  · exact vkr_behind_214 h
theorem vkr_behind_170 {a3 : Int32} {a4 : Int32} {b0 : Int32} {X : St} (h : KVa P X) : pw (f_behind_170 a3 a4 b0 X) (fun _ Y => KVa P Y) := by
  unfold f_behind_170
  refine pw_bd (vkr_opens h) (fun _ X16 dX16 => ?_)
  refine pw_ite (fun _ => ?_) (fun _ => ?_)
  · exact vkr_behind_201 dX16
  · refine pw_bd (vkr_isSign dX16) (fun x18 X19 dX19 => ?_)
    refine pw_ite (fun _ => ?_) (fun _ => ?_)
    · exact vkr_behind_201 dX19
    · refine pw_bd (vkr_closes dX19) (fun _ X20 dX20 => ?_)
      refine pw_bd (vkr_done dX20) (fun _ X21 dX21 => ?_)
      exact pw_ret dX21
theorem vkr_behind_155 {a3 : Int32} {b0 : Int32} {X : St} (h : KVa P X) : pw (f_behind_155 a3 b0 X) (fun _ Y => KVa P Y) := by
  unfold f_behind_155
  refine pw_ite (fun _ => ?_) (fun _ => ?_)
  · exact vkr_behind_170 h
  · exact vkr_behind_170 h
theorem vkr_behind_139 {a3 : Int32} {X : St} (h : KVa P X) : pw (f_behind_139 a3 X) (fun _ Y => KVa P Y) := by
  unfold f_behind_139
  refine pw_ck (fun _ => ?_)
  refine pw_eq (fun x15 _ => ?_)
  refine pw_ite (fun _ => ?_) (fun _ => ?_)
  · exact vkr_behind_155 h
  · exact vkr_behind_155 h
theorem vkr_behind_118 {a3 : Int32} {b0 : Int32} {b1 : Int32} {X : St} (h : KVa P X) : pw (f_behind_118 a3 b0 b1 X) (fun _ Y => KVa P Y) := by
  unfold f_behind_118
  refine pw_ck (fun _ => ?_)
  refine pw_eq (fun X13 eX13 => ?_)
  have dX13 : KVa P X13 := by rw [eX13]; exact KVa_w h (by omega)
  refine pw_ck (fun _ => ?_)
  refine pw_eq (fun x14 _ => ?_)
  refine pw_ite (fun _ => ?_) (fun _ => ?_)
  · exact vkr_behind_139 dX13
  · refine pw_eq (fun x22 _ => ?_)
    refine pw_bd (vkr_fails dX13) (fun _ X23 dX23 => ?_)
    exact vkr_behind_139 dX23
theorem vkr_behind_70 {a1 : Int32} {a2 : Int32} {b0 : Int32} {X : St} (h : KVa P X) : pw (f_behind_70 a1 a2 b0 X) (fun _ Y => KVa P Y) := by
  unfold f_behind_70
  refine pw_ck (fun _ => ?_)
  refine pw_eq (fun x7 _ => ?_)
  refine pw_bd (vkr_make h) (fun x8 X9 dX9 => ?_)
  refine pw_eq (fun x10 _ => ?_)
  refine pw_ck (fun _ => ?_)
  refine pw_eq (fun X11 eX11 => ?_)
  have dX11 : KVa P X11 := by rw [eX11]; exact KVa_w dX9 (by omega)
  refine pw_ck (fun _ => ?_)
  refine pw_eq (fun X12 eX12 => ?_)
  have dX12 : KVa P X12 := by rw [eX12]; exact KVa_w dX11 (by omega)
  refine pw_ite (fun _ => ?_) (fun _ => ?_)
  · exact vkr_behind_118 dX12
  · refine pw_ck (fun _ => ?_)
    refine pw_eq (fun x24 _ => ?_)
    refine pw_eq (fun x25 _ => ?_)
    exact vkr_behind_118 dX12
theorem vkr_behind_51 {a1 : Int32} {a2 : Int32} {X : St} (h : KVa P X) : pw (f_behind_51 a1 a2 X) (fun _ Y => KVa P Y) := by
  unfold f_behind_51
  refine pw_eq (fun y5 _ => ?_)
  refine pw_eq (fun x6 _ => ?_)
  refine pw_ite (fun _ => ?_) (fun _ => ?_)
  · exact vkr_behind_70 h
  · exact vkr_behind_70 h
theorem vkr_behind_32 {a1 : Int32} {b0 : Int32} {X : St} (h : KVa P X) : pw (f_behind_32 a1 b0 X) (fun _ Y => KVa P Y) := by
  unfold f_behind_32
  refine pw_bd (vkr_isSign h) (fun x3 X4 dX4 => ?_)
  refine pw_ite (fun _ => ?_) (fun _ => ?_)
  · refine pw_bd (vkr_isSign dX4) (fun x26 X27 dX27 => ?_)
    refine pw_ite (fun _ => ?_) (fun _ => ?_)
    · refine pw_bd (vkr_isWell dX27) (fun x28 X29 dX29 => ?_)
      refine pw_ite (fun _ => ?_) (fun _ => ?_)
      · exact vkr_behind_288 dX29
      · refine pw_eq (fun x31 _ => ?_)
        refine pw_ite (fun _ => ?_) (fun _ => ?_)
        · refine pw_eq (fun y32 _ => ?_)
          refine pw_eq (fun x33 _ => ?_)
          refine pw_ite (fun _ => ?_) (fun _ => ?_)
          · refine pw_ck (fun _ => ?_)
            refine pw_eq (fun x34 _ => ?_)
            refine pw_ite (fun _ => ?_) (fun _ => ?_)
            · refine pw_bd (vkr_nests dX29) (fun _ X35 dX35 => ?_)
              refine pw_bd (vkr_isWell dX35) (fun x36 X37 dX37 => ?_)
              refine pw_ite (fun _ => ?_) (fun _ => ?_)
              · exact pw_ret dX37
              · refine pw_bd (vkr_next dX37) (fun _ X38 dX38 => ?_)
                refine pw_bd (vkr_enter dX38) (fun _ X39 dX39 => ?_)
                refine pw_eq (fun X40 eX40 => ?_)
                have dX40 : KVa P X40 := by rw [eX40]; exact KVa_w dX39 (by omega)
                exact pw_ret dX40
            · exact vkr_behind_288 dX29
          · exact vkr_behind_288 dX29
        · exact vkr_behind_288 dX29
    · exact vkr_behind_51 dX27
  · exact vkr_behind_51 dX4
theorem vkr_behind_27 {a1 : Int32} {X : St} (h : KVa P X) : pw (f_behind_27 a1 X) (fun _ Y => KVa P Y) := by
  unfold f_behind_27
  exact vkr_behind_32 h
theorem vkr_behind {X : St} (h : KVa P X) : pw (f_behind X) (fun _ Y => KVa P Y) := by
  unfold f_behind
  refine pw_eq (fun x1 _ => ?_)
  refine pw_ck (fun _ => ?_)
  refine pw_eq (fun x2 _ => ?_)
  refine pw_ite (fun _ => ?_) (fun _ => ?_)
  · exact vkr_behind_27 h
  · refine pw_ck (fun _ => ?_)
    refine pw_eq (fun x41 _ => ?_)
    refine pw_ite (fun _ => ?_) (fun _ => ?_)
    · exact vkr_behind_27 h
    · exact vkr_behind_32 h
theorem vkr_levelOf {q0 : Int64} {X : St} (h : KVa P X) : pw (f_levelOf q0 X) (fun _ Y => KVa P Y) := by
  unfold f_levelOf
  refine pw_eq (fun x1 _ => ?_)
  refine pw_ite (fun _ => ?_) (fun _ => ?_)
  · exact pw_ret h
  · refine pw_eq (fun x2 _ => ?_)
    refine pw_ite (fun _ => ?_) (fun _ => ?_)
    · exact pw_ret h
    · refine pw_eq (fun x3 _ => ?_)
      refine pw_ite (fun _ => ?_) (fun _ => ?_)
      · exact pw_ret h
      · refine pw_eq (fun x4 _ => ?_)
        refine pw_ite (fun _ => ?_) (fun _ => ?_)
        · exact pw_ret h
        · refine pw_eq (fun x5 _ => ?_)
          refine pw_ite (fun _ => ?_) (fun _ => ?_)
          · exact pw_ret h
          · refine pw_eq (fun x6 _ => ?_)
            refine pw_ite (fun _ => ?_) (fun _ => ?_)
            · exact pw_ret h
            · refine pw_eq (fun x7 _ => ?_)
              refine pw_ite (fun _ => ?_) (fun _ => ?_)
              · exact pw_ret h
              · exact pw_ret h
theorem vkr_second_0 (N : Nat) : ∀ (a1 : Int32) (X : St), KVa P X → pw (f_second_0 N a1 X) (fun _ Y => KVa P Y) := by
  unfold f_second_0
  refine lp_ind (P := fun (r : Int32 → St → Option (Int32 × St)) => ∀ (a1 : Int32) (X : St), KVa P X → pw (r a1 X) (fun _ Y => KVa P Y)) (fun _ _ _ => pw_none) (fun r ih a1 X h => ?_) N
  unfold f_second_0_s
  refine pw_eq (fun x1 _ => ?_)
  refine pw_eq (fun x2 _ => ?_)
  refine pw_ck (fun _ => ?_)
  refine pw_eq (fun x3 _ => ?_)
  refine pw_ite (fun _ => ?_) (fun _ => ?_)
  · refine pw_eq (fun x4 _ => ?_)
    refine pw_eq (fun x5 _ => ?_)
    refine pw_ck (fun _ => ?_)
    refine pw_eq (fun x6 _ => ?_)
    refine pw_ck (fun _ => ?_)
    refine pw_eq (fun x7 _ => ?_)
    refine pw_eq (fun y8 _ => ?_)
    refine pw_bd (vkr_levelOf h) (fun x9 X10 dX10 => ?_)
    refine pw_ite (fun _ => ?_) (fun _ => ?_)
    · exact pw_ret dX10
    · refine pw_eq (fun x11 _ => ?_)
      refine pw_eq (fun x12 _ => ?_)
      refine pw_eq (fun X13 eX13 => ?_)
      have dX13 : KVa P X13 := by rw [eX13]; exact KVa_w dX10 (by omega)
      refine pw_eq (fun x14 _ => ?_)
      refine pw_ck (fun _ => ?_)
      refine pw_eq (fun x15 _ => ?_)
      refine pw_eq (fun x16 _ => ?_)
      refine pw_ck (fun _ => ?_)
      refine pw_eq (fun X17 eX17 => ?_)
      have dX17 : KVa P X17 := by rw [eX17]; exact KVa_w dX13 (by omega)
      refine pw_eq (fun X18 eX18 => ?_)
      have dX18 : KVa P X18 := by rw [eX18]; exact KVa_w dX17 (by omega)
      exact ih _ _ dX18
  · exact pw_ret h
theorem vkr_second {p1 : Int32} {X : St} (h : KVa P X) : pw (f_second p1 X) (fun _ Y => KVa P Y) := by
  unfold f_second
  exact vkr_second_0 _ _ _ h
theorem vkr_word {p1 : Int32} {X : St} (h : KVa P X) : pw (f_word p1 X) (fun _ Y => KVa P Y) := by
  unfold f_word
  refine pw_bd (vkr_isWord h) (fun x1 X2 dX2 => ?_)
  refine pw_ite (fun _ => ?_) (fun _ => ?_)
  · refine pw_bd (vkr_stray dX2) (fun _ X3 dX3 => ?_)
    exact pw_ret dX3
  · refine pw_bd (vkr_next dX2) (fun _ X4 dX4 => ?_)
    exact pw_ret dX4
theorem vkr_leaves {p1 : Int32} {X : St} (h : KVa P X) : pw (f_leaves p1 X) (fun _ Y => KVa P Y) := by
  unfold f_leaves
  refine pw_eq (fun x1 _ => ?_)
  refine pw_eq (fun x2 _ => ?_)
  refine pw_eq (fun X3 eX3 => ?_)
  have dX3 : KVa P X3 := by rw [eX3]; exact KVa_w h (by omega)
  refine pw_eq (fun x4 _ => ?_)
  refine pw_eq (fun x5 _ => ?_)
  refine pw_eq (fun X6 eX6 => ?_)
  have dX6 : KVa P X6 := by rw [eX6]; exact KVa_w dX3 (by omega)
  refine pw_eq (fun X7 eX7 => ?_)
  have dX7 : KVa P X7 := by rw [eX7]; exact KVa_w dX6 (by omega)
  refine pw_eq (fun X8 eX8 => ?_)
  have dX8 : KVa P X8 := by rw [eX8]; exact KVa_w dX7 (by omega)
  exact pw_ret dX8
theorem vkr_shuts {p1 : Int32} {p2 : Int32} {X : St} (h : KVa P X) : pw (f_shuts p1 p2 X) (fun _ Y => KVa P Y) := by
  unfold f_shuts
  refine pw_bd (vkr_closes h) (fun _ X1 dX1 => ?_)
  refine pw_eq (fun x2 _ => ?_)
  refine pw_eq (fun x3 _ => ?_)
  refine pw_eq (fun X4 eX4 => ?_)
  have dX4 : KVa P X4 := by rw [eX4]; exact KVa_w dX1 (by omega)
  refine pw_bd (vkr_done dX4) (fun _ X5 dX5 => ?_)
  exact pw_ret dX5
theorem vkr_add_45 {a1 : Int32} {a2 : Int32} {X : St} (h : KVa P X) : pw (f_add_45 a1 a2 X) (fun _ Y => KVa P Y) := by
  unfold f_add_45
  refine pw_eq (fun x6 _ => ?_)
  refine pw_ck (fun _ => ?_)
  refine pw_eq (fun X7 eX7 => ?_)
  have dX7 : KVa P X7 := by rw [eX7]; exact KVa_w h (by omega)
  refine pw_ck (fun _ => ?_)
  refine pw_eq (fun x8 _ => ?_)
  refine pw_eq (fun x9 _ => ?_)
  refine pw_ck (fun _ => ?_)
  refine pw_eq (fun X10 eX10 => ?_)
  have dX10 : KVa P X10 := by rw [eX10]; exact KVa_w dX7 (by omega)
  exact pw_ret dX10
theorem vkr_add {p1 : Int32} {X : St} (h : KVa P X) : pw (f_add p1 X) (fun _ Y => KVa P Y) := by
  unfold f_add
  refine pw_ck (fun _ => ?_)
  refine pw_eq (fun x1 _ => ?_)
  refine pw_ck (fun _ => ?_)
  refine pw_eq (fun x2 _ => ?_)
  refine pw_ite (fun _ => ?_) (fun _ => ?_)
  · refine pw_eq (fun x11 _ => ?_)
    refine pw_ck (fun _ => ?_)
    refine pw_eq (fun X12 eX12 => ?_)
    have dX12 : KVa P X12 := by rw [eX12]; exact KVa_w h (by omega)
    exact vkr_add_45 dX12
  · refine pw_ck (fun _ => ?_)
    refine pw_eq (fun x3 _ => ?_)
    refine pw_eq (fun x4 _ => ?_)
    refine pw_ck (fun _ => ?_)
    refine pw_eq (fun X5 eX5 => ?_)
    have dX5 : KVa P X5 := by rw [eX5]; exact KVa_w h (by omega)
    exact vkr_add_45 dX5
theorem vkr_endsWithin_291 {a2 : Int32} {b0 : Int32} {X : St} (h : KVa P X) : pw (f_endsWithin_291 a2 b0 X) (fun _ Y => KVa P Y) := by
  unfold f_endsWithin_291
  refine pw_bd (vkr_shuts h) (fun _ X40 dX40 => ?_)
  exact pw_ret dX40
theorem vkr_endsWithin_245 {a1 : Int32} {a2 : Int32} {a3 : Int32} {b0 : Int32} {X : St} (h : KVa P X) : pw (f_endsWithin_245 a1 a2 a3 b0 X) (fun _ Y => KVa P Y) := by
  unfold f_endsWithin_245
  refine pw_bd (vkr_isSign h) (fun x37 X38 dX38 => ?_)
  refine pw_ite (fun _ => ?_) (fun _ => ?_)
  · refine pw_ite (fun _ => ?_) (fun _ => ?_)
    · refine pw_ck (fun _ => ?_)
      refine pw_eq (fun x39 _ => ?_)
      refine pw_ite (fun _ => ?_) (fun _ => ?_)
      · exact vkr_endsWithin_291 dX38
      · exact vkr_endsWithin_291 dX38
    · exact vkr_endsWithin_291 dX38
  · refine pw_bd (vkr_next dX38) (fun _ X41 dX41 => ?_)
    refine pw_eq (fun X42 eX42 => ?_)
    have dX42 : KVa P X42 := by rw [eX42]; exact KVa_w dX41 (by omega)
    exact pw_ret dX42
theorem vkr_endsWithin_232 {a1 : Int32} {a2 : Int32} {b0 : Int32} {X : St} (h : KVa P X) : pw (f_endsWithin_232 a1 a2 b0 X) (fun _ Y => KVa P Y) := by
  unfold f_endsWithin_232
  refine pw_ite (fun _ => ?_) (fun _ => ?_)
  · exact vkr_endsWithin_245 h
  · exact vkr_endsWithin_245 h
theorem vkr_endsWithin {p1 : Int32} {p2 : Int32} {X : St} (h : KVa P X) : pw (f_endsWithin p1 p2 X) (fun _ Y => KVa P Y) := by
  unfold f_endsWithin
  refine pw_ck (fun _ => ?_)
  refine pw_eq (fun x1 _ => ?_)
  refine pw_ite (fun _ => ?_) (fun _ => ?_)
  · refine pw_eq (fun x3 _ => ?_)
    refine pw_ck (fun _ => ?_)
    refine pw_eq (fun X4 eX4 => ?_)
    have dX4 : KVa P X4 := by rw [eX4]; exact KVa_w h (by omega)
    refine pw_bd (vkr_shuts dX4) (fun _ X5 dX5 => ?_)
    exact pw_ret dX5
  · refine pw_ite (fun _ => ?_) (fun _ => ?_)
    · refine pw_eq (fun x7 _ => ?_)
      refine pw_ck (fun _ => ?_)
      refine pw_eq (fun X8 eX8 => ?_)
      have dX8 : KVa P X8 := by rw [eX8]; exact KVa_w h (by omega)
      refine pw_bd (vkr_takes dX8) (fun _ X9 dX9 => ?_)
      refine pw_ck (fun _ => ?_)
      refine pw_eq (fun X10 eX10 => ?_)
      have dX10 : KVa P X10 := by rw [eX10]; exact KVa_w dX9 (by omega)
      refine pw_eq (fun X11 eX11 => ?_)
      have dX11 : KVa P X11 := by rw [eX11]; exact KVa_w dX10 (by omega)
      exact pw_ret dX11
    · refine pw_ite (fun _ => ?_) (fun _ => ?_)
      · refine pw_eq (fun x13 _ => ?_)
        refine pw_ck (fun _ => ?_)
        refine pw_eq (fun X14 eX14 => ?_)
        have dX14 : KVa P X14 := by rw [eX14]; exact KVa_w h (by omega)
        refine pw_bd (vkr_shuts dX14) (fun _ X15 dX15 => ?_)
        exact pw_ret dX15
      · refine pw_ite (fun _ => ?_) (fun _ => ?_)
        · refine pw_eq (fun x17 _ => ?_)
          refine pw_ck (fun _ => ?_)
          refine pw_eq (fun X18 eX18 => ?_)
          have dX18 : KVa P X18 := by rw [eX18]; exact KVa_w h (by omega)
          refine pw_bd (vkr_shuts dX18) (fun _ X19 dX19 => ?_)
          exact pw_ret dX19
        · refine pw_ite (fun _ => ?_) (fun _ => ?_)
          · refine pw_eq (fun x21 _ => ?_)
            refine pw_ck (fun _ => ?_)
            refine pw_eq (fun X22 eX22 => ?_)
            have dX22 : KVa P X22 := by rw [eX22]; exact KVa_w h (by omega)
            refine pw_bd (vkr_shuts dX22) (fun _ X23 dX23 => ?_)
            exact pw_ret dX23
          · refine pw_ite (fun _ => ?_) (fun _ => ?_)
            · refine pw_eq (fun x25 _ => ?_)
              refine pw_ck (fun _ => ?_)
              refine pw_eq (fun X26 eX26 => ?_)
              have dX26 : KVa P X26 := by rw [eX26]; exact KVa_w h (by omega)
              refine pw_eq (fun x27 _ => ?_)
              refine pw_eq (fun x28 _ => ?_)
              refine pw_eq (fun X29 eX29 => ?_)
              have dX29 : KVa P X29 := by rw [eX29]; exact KVa_w dX26 (by omega)
              refine pw_eq (fun x30 _ => ?_)
              refine pw_eq (fun x31 _ => ?_)
              refine pw_eq (fun X32 eX32 => ?_)
              have dX32 : KVa P X32 := by rw [eX32]; exact KVa_w dX29 (by omega)
              refine pw_eq (fun X33 eX33 => ?_)
              have dX33 : KVa P X33 := by rw [eX33]; exact KVa_w dX32 (by omega)
              refine pw_eq (fun X34 eX34 => ?_)
              have dX34 : KVa P X34 := by rw [eX34]; exact KVa_w dX33 (by omega)
              exact pw_ret dX34
            · refine pw_bd (vkr_add h) (fun _ X35 dX35 => ?_)
              refine pw_ck (fun _ => ?_)
              refine pw_eq (fun x36 _ => ?_)
              refine pw_ite (fun _ => ?_) (fun _ => ?_)
              · exact vkr_endsWithin_232 dX35
              · exact vkr_endsWithin_232 dX35
theorem vkr_endsOne {X : St} (h : KVa P X) : pw (f_endsOne X) (fun _ Y => KVa P Y) := by
  unfold f_endsOne
  refine pw_eq (fun x1 _ => ?_)
  refine pw_eq (fun x2 _ => ?_)
  refine pw_ck (fun _ => ?_)
  refine pw_eq (fun x3 _ => ?_)
  refine pw_ck (fun _ => ?_)
  refine pw_eq (fun x4 _ => ?_)
  refine pw_ite (fun _ => ?_) (fun _ => ?_)
  · refine pw_eq (fun x6 _ => ?_)
    refine pw_eq (fun x7 _ => ?_)
    refine pw_eq (fun X8 eX8 => ?_)
    have dX8 : KVa P X8 := by rw [eX8]; exact KVa_w h (by omega)
    exact pw_ret dX8
  · refine pw_ite (fun _ => ?_) (fun _ => ?_)
    · refine pw_eq (fun x10 _ => ?_)
      refine pw_ck (fun _ => ?_)
      refine pw_eq (fun X11 eX11 => ?_)
      have dX11 : KVa P X11 := by rw [eX11]; exact KVa_w h (by omega)
      refine pw_bd (vkr_word dX11) (fun _ X12 dX12 => ?_)
      refine pw_eq (fun x13 _ => ?_)
      refine pw_ck (fun _ => ?_)
      refine pw_eq (fun y14 _ => ?_)
      refine pw_ck (fun _ => ?_)
      refine pw_eq (fun X15 eX15 => ?_)
      have dX15 : KVa P X15 := by rw [eX15]; exact KVa.cg dX12 (fun _ _ _ => rfl)
      refine pw_eq (fun x16 _ => ?_)
      refine pw_ck (fun _ => ?_)
      refine pw_eq (fun X17 eX17 => ?_)
      have dX17 : KVa P X17 := by rw [eX17]; exact KVa_w dX15 (by omega)
      refine pw_eq (fun x18 _ => ?_)
      refine pw_eq (fun x19 _ => ?_)
      refine pw_eq (fun X20 eX20 => ?_)
      have dX20 : KVa P X20 := by rw [eX20]; exact KVa_w dX17 (by omega)
      refine pw_ck (fun _ => ?_)
      refine pw_eq (fun X21 eX21 => ?_)
      have dX21 : KVa P X21 := by rw [eX21]; exact KVa_w dX20 (by omega)
      refine pw_eq (fun X22 eX22 => ?_)
      have dX22 : KVa P X22 := by rw [eX22]; exact KVa_w dX21 (by omega)
      exact pw_ret dX22
    · refine pw_ite (fun _ => ?_) (fun _ => ?_)
      · refine pw_eq (fun x24 _ => ?_)
        refine pw_ck (fun _ => ?_)
        refine pw_eq (fun X25 eX25 => ?_)
        have dX25 : KVa P X25 := by rw [eX25]; exact KVa_w h (by omega)
        refine pw_eq (fun x26 _ => ?_)
        refine pw_eq (fun x27 _ => ?_)
        refine pw_eq (fun X28 eX28 => ?_)
        have dX28 : KVa P X28 := by rw [eX28]; exact KVa_w dX25 (by omega)
        refine pw_bd (vkr_leaves dX28) (fun _ X29 dX29 => ?_)
        exact pw_ret dX29
      · refine pw_ite (fun _ => ?_) (fun _ => ?_)
        · refine pw_eq (fun x31 _ => ?_)
          refine pw_ck (fun _ => ?_)
          refine pw_eq (fun X32 eX32 => ?_)
          have dX32 : KVa P X32 := by rw [eX32]; exact KVa_w h (by omega)
          refine pw_bd (vkr_word dX32) (fun _ X33 dX33 => ?_)
          refine pw_ck (fun _ => ?_)
          refine pw_eq (fun X34 eX34 => ?_)
          have dX34 : KVa P X34 := by rw [eX34]; exact KVa_w dX33 (by omega)
          refine pw_eq (fun X35 eX35 => ?_)
          have dX35 : KVa P X35 := by rw [eX35]; exact KVa_w dX34 (by omega)
          exact pw_ret dX35
        · refine pw_ite (fun _ => ?_) (fun _ => ?_)
          · refine pw_eq (fun x37 _ => ?_)
            refine pw_ck (fun _ => ?_)
            refine pw_eq (fun X38 eX38 => ?_)
            have dX38 : KVa P X38 := by rw [eX38]; exact KVa_w h (by omega)
            refine pw_bd (vkr_word dX38) (fun _ X39 dX39 => ?_)
            refine pw_ck (fun _ => ?_)
            refine pw_eq (fun X40 eX40 => ?_)
            have dX40 : KVa P X40 := by rw [eX40]; exact KVa_w dX39 (by omega)
            refine pw_eq (fun X41 eX41 => ?_)
            have dX41 : KVa P X41 := by rw [eX41]; exact KVa_w dX40 (by omega)
            exact pw_ret dX41
          · refine pw_ite (fun _ => ?_) (fun _ => ?_)
            · refine pw_eq (fun x43 _ => ?_)
              refine pw_ck (fun _ => ?_)
              refine pw_eq (fun X44 eX44 => ?_)
              have dX44 : KVa P X44 := by rw [eX44]; exact KVa_w h (by omega)
              refine pw_bd (vkr_leaves dX44) (fun _ X45 dX45 => ?_)
              exact pw_ret dX45
            · refine pw_bd (vkr_endsWithin h) (fun _ X46 dX46 => ?_)
              exact pw_ret dX46
theorem vkr_signs_144 {X : St} (h : KVa P X) : pw (f_signs_144 X) (fun _ Y => KVa P Y) := by
  unfold f_signs_144
  refine pw_bd (vkr_second h) (fun _ X6 dX6 => ?_)
  refine pw_bd (vkr_endsOne dX6) (fun _ X7 dX7 => ?_)
  exact pw_ret dX7
theorem vkr_signs_284 {a4 : Int32} {X : St} (h : KVa P X) : pw (f_signs_284 a4 X) (fun _ Y => KVa P Y) := by
  unfold f_signs_284
  refine pw_bd (vkr_enter h) (fun _ X20 dX20 => ?_)
  refine pw_bd (vkr_next dX20) (fun _ X21 dX21 => ?_)
  refine pw_eq (fun X22 eX22 => ?_)
  have dX22 : KVa P X22 := by rw [eX22]; exact KVa_w dX21 (by omega)
  exact pw_ret dX22
theorem vkr_signs_262 {a4 : Int32} {b0 : Int32} {b1 : Int32} {X : St} (h : KVa P X) : pw (f_signs_262 a4 b0 b1 X) (fun _ Y => KVa P Y) := by
  unfold f_signs_262
  refine pw_ck (fun _ => ?_)
  refine pw_eq (fun X18 eX18 => ?_)
  have dX18 : KVa P X18 := by rw [eX18]; exact KVa_w h (by omega)
  refine pw_ck (fun _ => ?_)
  refine pw_eq (fun x19 _ => ?_)
  refine pw_ite (fun _ => ?_) (fun _ => ?_)
  · exact vkr_signs_284 dX18
  · refine pw_eq (fun x23 _ => ?_)
    refine pw_bd (vkr_fails dX18) (fun _ X24 dX24 => ?_)
    exact vkr_signs_284 dX24
theorem vkr_signs_261 {a4 : Int32} {b0 : Int32} {X : St} (h : KVa P X) : pw (f_signs_261 a4 b0 X) (fun _ Y => KVa P Y) := by
  unfold f_signs_261
  exact vkr_signs_262 h
theorem vkr_signs_172 {a1 : Int32} {a3 : Int32} {b0 : Int32} {X : St} (h : KVa P X) : pw (f_signs_172 a1 a3 b0 X) (fun _ Y => KVa P Y) := by
  unfold f_signs_172
  refine pw_ck (fun _ => ?_)
  refine pw_eq (fun x9 _ => ?_)
  refine pw_bd (vkr_make h) (fun x10 X11 dX11 => ?_)
  refine pw_eq (fun x12 _ => ?_)
  refine pw_ck (fun _ => ?_)
  refine pw_eq (fun X13 eX13 => ?_)
  have dX13 : KVa P X13 := by rw [eX13]; exact KVa_w dX11 (by omega)
  refine pw_eq (fun y14 _ => ?_)
  refine pw_eq (fun x15 _ => ?_)
  refine pw_ck (fun _ => ?_)
  refine pw_eq (fun X16 eX16 => ?_)
  have dX16 : KVa P X16 := by rw [eX16]; exact KVa_w dX13 (by omega)
  refine pw_ck (fun _ => ?_)
  refine pw_eq (fun X17 eX17 => ?_)
  have dX17 : KVa P X17 := by rw [eX17]; exact KVa_w dX16 (by omega)
  refine pw_ite (fun _ => ?_) (fun _ => ?_)
  · exact vkr_signs_261 dX17
  · refine pw_ck (fun _ => ?_)
    refine pw_eq (fun x25 _ => ?_)
    refine pw_ite (fun _ => ?_) (fun _ => ?_)
    · refine pw_ck (fun _ => ?_)
      refine pw_eq (fun x26 _ => ?_)
      refine pw_eq (fun y27 _ => ?_)
      refine pw_bd (vkr_levelOf dX17) (fun x28 X29 dX29 => ?_)
      refine pw_ite (fun _ => ?_) (fun _ => ?_)
      · refine pw_ck (fun _ => ?_)
        refine pw_eq (fun x30 _ => ?_)
        refine pw_eq (fun x31 _ => ?_)
        exact vkr_signs_262 dX29
      · exact vkr_signs_261 dX29
    · exact vkr_signs_261 dX17
theorem vkr_signs_135 {a1 : Int32} {b0 : Int32} {X : St} (h : KVa P X) : pw (f_signs_135 a1 b0 X) (fun _ Y => KVa P Y) := by
  unfold f_signs_135
  refine pw_ite (fun _ => ?_) (fun _ => ?_)
  · exact vkr_signs_144 h
  · refine pw_ite (fun _ => ?_) (fun _ => ?_)
    · refine pw_eq (fun x8 _ => ?_)
      refine pw_ite (fun _ => ?_) (fun _ => ?_)
      · exact vkr_signs_172 h
      · exact vkr_signs_172 h
    · exact vkr_signs_144 h
theorem vkr_signs_134 {a1 : Int32} {X : St} (h : KVa P X) : pw (f_signs_134 a1 X) (fun _ Y => KVa P Y) := by
  unfold f_signs_134
  exact vkr_signs_135 h
theorem vkr_signs_109 {a1 : Int32} {X : St} (h : KVa P X) : pw (f_signs_109 a1 X) (fun _ Y => KVa P Y) := by
  unfold f_signs_109
  refine pw_ite (fun _ => ?_) (fun _ => ?_)
  · refine pw_eq (fun x32 _ => ?_)
    refine pw_eq (fun x33 _ => ?_)
    refine pw_ck (fun _ => ?_)
    refine pw_eq (fun x34 _ => ?_)
    refine pw_ite (fun _ => ?_) (fun _ => ?_)
    · exact vkr_signs_135 h
    · exact vkr_signs_134 h
  · exact vkr_signs_134 h
theorem vkr_signs_106 {a1 : Int32} {b0 : Int32} {X : St} (h : KVa P X) : pw (f_signs_106 a1 b0 X) (fun _ Y => KVa P Y) := by
  unfold f_signs_106
  refine pw_bd (vkr_second h) (fun _ X35 dX35 => ?_)
  exact vkr_signs_109 dX35
theorem vkr_signs_90 {b0 : Int32} {X : St} (h : KVa P X) : pw (f_signs_90 b0 X) (fun _ Y => KVa P Y) := by
  unfold f_signs_90
  refine pw_ite (fun _ => ?_) (fun _ => ?_)
  · exact vkr_signs_109 h
  · refine pw_ite (fun _ => ?_) (fun _ => ?_)
    · exact vkr_signs_106 h
    · exact vkr_signs_106 h
theorem vkr_signs_89 {X : St} (h : KVa P X) : pw (f_signs_89 X) (fun _ Y => KVa P Y) := by
  unfold f_signs_89
  exact vkr_signs_90 h
theorem vkr_signs_0 (N : Nat) : ∀ (X : St), KVa P X → pw (f_signs_0 N X) (fun _ Y => KVa P Y) := by
  unfold f_signs_0
  refine lp_ind (P := fun (r : St → Option (Int32 × St)) => ∀ (X : St), KVa P X → pw (r X) (fun _ Y => KVa P Y)) (fun _ _ => pw_none) (fun r ih  X h => ?_) N
  unfold f_signs_0_s
  refine pw_eq (fun x1 _ => ?_)
  refine pw_eq (fun x2 _ => ?_)
  refine pw_ck (fun _ => ?_)
  refine pw_eq (fun x3 _ => ?_)
  refine pw_ite (fun _ => ?_) (fun _ => ?_)
  · refine pw_eq (fun x40 _ => ?_)
    refine pw_eq (fun x41 _ => ?_)
    refine pw_eq (fun X42 eX42 => ?_)
    have dX42 : KVa P X42 := by rw [eX42]; exact KVa_w h (by omega)
    refine pw_eq (fun x43 _ => ?_)
    refine pw_eq (fun x44 _ => ?_)
    refine pw_eq (fun X45 eX45 => ?_)
    have dX45 : KVa P X45 := by rw [eX45]; exact KVa_w dX42 (by omega)
    refine pw_eq (fun x46 _ => ?_)
    refine pw_ck (fun _ => ?_)
    refine pw_eq (fun x47 _ => ?_)
    refine pw_eq (fun x48 _ => ?_)
    refine pw_ck (fun _ => ?_)
    refine pw_eq (fun X49 eX49 => ?_)
    have dX49 : KVa P X49 := by rw [eX49]; exact KVa_w dX45 (by omega)
    refine pw_eq (fun X50 eX50 => ?_)
    have dX50 : KVa P X50 := by rw [eX50]; exact KVa_w dX49 (by omega)
    exact ih _ dX50
  · refine pw_bd (vkr_isWell h) (fun x4 X5 dX5 => ?_)
    refine pw_ite (fun _ => ?_) (fun _ => ?_)
    · exact vkr_signs_89 dX5
    · refine pw_eq (fun x36 _ => ?_)
      refine pw_ite (fun _ => ?_) (fun _ => ?_)
      · refine pw_eq (fun y37 _ => ?_)
        refine pw_bd (vkr_levelOf dX5) (fun x38 X39 dX39 => ?_)
        exact vkr_signs_90 dX39
      · exact vkr_signs_89 dX5
theorem vkr_signs {X : St} (h : KVa P X) : pw (f_signs X) (fun _ Y => KVa P Y) := by
  unfold f_signs
  exact vkr_signs_0 _ _ h
theorem vkr_expression_21 (N : Nat) : ∀ (X : St), KVa P X → pw (f_expression_21 N X) (fun _ Y => KVa P Y) := by
  unfold f_expression_21
  refine lp_ind (P := fun (r : St → Option (Int32 × St)) => ∀ (X : St), KVa P X → pw (r X) (fun _ Y => KVa P Y)) (fun _ _ => pw_none) (fun r ih  X h => ?_) N
  unfold f_expression_21_s
  refine pw_bd (vkr_isWell h) (fun x5 X6 dX6 => ?_)
  refine pw_ite (fun _ => ?_) (fun _ => ?_)
  · refine pw_eq (fun x7 _ => ?_)
    exact pw_ret dX6
  · refine pw_eq (fun x8 _ => ?_)
    refine pw_ite (fun _ => ?_) (fun _ => ?_)
    · refine pw_eq (fun x9 _ => ?_)
      exact pw_ret dX6
    · refine pw_eq (fun x10 _ => ?_)
      refine pw_ite (fun _ => ?_) (fun _ => ?_)
      · refine pw_bd (vkr_begins dX6) (fun _ X12 dX12 => ?_)
        exact ih _ dX12
      · refine pw_ite (fun _ => ?_) (fun _ => ?_)
        · refine pw_bd (vkr_operand dX6) (fun _ X14 dX14 => ?_)
          exact ih _ dX14
        · refine pw_ite (fun _ => ?_) (fun _ => ?_)
          · refine pw_bd (vkr_behind dX6) (fun _ X16 dX16 => ?_)
            exact ih _ dX16
          · refine pw_ite (fun _ => ?_) (fun _ => ?_)
            · refine pw_bd (vkr_signs dX6) (fun _ X18 dX18 => ?_)
              exact ih _ dX18
            · refine pw_bd (vkr_endsOne dX6) (fun _ X19 dX19 => ?_)
              exact ih _ dX19
theorem vkr_expression {X : St} (h : KVa P X) : pw (f_expression X) (fun _ Y => KVa P Y) := by
  unfold f_expression
  refine pw_eq (fun X1 eX1 => ?_)
  have dX1 : KVa P X1 := by rw [eX1]; exact KVa_w h (by omega)
  refine pw_bd (vkr_enter dX1) (fun _ X2 dX2 => ?_)
  refine pw_eq (fun X3 eX3 => ?_)
  have dX3 : KVa P X3 := by rw [eX3]; exact KVa_w dX2 (by omega)
  refine pw_eq (fun X4 eX4 => ?_)
  have dX4 : KVa P X4 := by rw [eX4]; exact KVa_w dX3 (by omega)
  exact vkr_expression_21 _ _ dX4
theorem vkr_part__V_166 {a1 : Int32} {X : St} (h : KVa P X) : pw (f_part__V_166 a1 X) (fun _ Y => KVa P Y) := by
  unfold f_part__V_166
  refine pw_bd (vkr_takes h) (fun _ X27 dX27 => ?_)
  refine pw_bd (vkr_isWell dX27) (fun x28 X29 dX29 => ?_)
  refine pw_ite (fun _ => ?_) (fun _ => ?_)
  · exact pw_ret dX29
  · refine pw_bd (vkr_expression dX29) (fun x30 X31 dX31 => ?_)
    refine pw_ck (fun _ => ?_)
    refine pw_eq (fun X32 eX32 => ?_)
    have dX32 : KVa P X32 := by rw [eX32]; exact KVa_w dX31 (by omega)
    refine pw_bd (vkr_takes dX32) (fun _ X33 dX33 => ?_)
    refine pw_eq (fun x34 _ => ?_)
    refine pw_eq (fun x35 _ => ?_)
    refine pw_eq (fun X36 eX36 => ?_)
    have dX36 : KVa P X36 := by rw [eX36]; exact KVa_w dX33 (by omega)
    exact pw_ret dX36
theorem vkr_part__V_143 {a1 : Int32} {X : St} (h : KVa P X) : pw (f_part__V_143 a1 X) (fun _ Y => KVa P Y) := by
  unfold f_part__V_143
  refine pw_bd (vkr_isSign h) (fun x25 X26 dX26 => ?_)
  refine pw_ite (fun _ => ?_) (fun _ => ?_)
  · exact vkr_part__V_166 dX26
  · refine pw_bd (vkr_next dX26) (fun _ X37 dX37 => ?_)
    refine pw_bd (vkr_kind dX37) (fun x38 X39 dX39 => ?_)
    refine pw_ck (fun _ => ?_)
    refine pw_eq (fun X40 eX40 => ?_)
    have dX40 : KVa P X40 := by rw [eX40]; exact KVa_w dX39 (by omega)
    exact vkr_part__V_166 dX40
theorem vkr_part__V_116 (N : Nat) : ∀ (a1 : Int32) (X : St), KVa P X → pw (f_part__V_116 N a1 X) (fun _ Y => KVa P Y) := by
  unfold f_part__V_116
  refine lp_ind (P := fun (r : Int32 → St → Option (Int32 × St)) => ∀ (a1 : Int32) (X : St), KVa P X → pw (r a1 X) (fun _ Y => KVa P Y)) (fun _ _ _ => pw_none) (fun r ih a1 X h => ?_) N
  unfold f_part__V_116_s
  refine pw_bd (vkr_isSign h) (fun x22 X23 dX23 => ?_)
  refine pw_ite (fun _ => ?_) (fun _ => ?_)
  · refine pw_bd (vkr_closes dX23) (fun _ X24 dX24 => ?_)
    exact vkr_part__V_143 dX24
  · refine pw_bd (vkr_next dX23) (fun _ X41 dX41 => ?_)
    refine pw_bd (vkr_param dX41) (fun _ X42 dX42 => ?_)
    exact ih _ _ dX42
theorem vkr_part__V {X : St} (h : KVa P X) : pw (f_part__V X) (fun _ Y => KVa P Y) := by
  unfold f_part__V
  refine pw_bd (vkr_next h) (fun _ X1 dX1 => ?_)
  refine pw_bd (vkr_isWell dX1) (fun x2 X3 dX3 => ?_)
  refine pw_ite (fun _ => ?_) (fun _ => ?_)
  · exact vkr_part__V_19 dX3
  · refine pw_eq (fun x5 _ => ?_)
    refine pw_ite (fun _ => ?_) (fun _ => ?_)
    · refine pw_eq (fun x6 _ => ?_)
      refine pw_eq (fun y7 _ => ?_)
      refine pw_ck (fun _ => ?_)
      refine pw_eq (fun X8 eX8 => ?_)
      have dX8 : KVa P X8 := by rw [eX8]; exact KVa.cg dX3 (fun _ _ _ => rfl)
      refine pw_eq (fun x9 _ => ?_)
      refine pw_ck (fun _ => ?_)
      refine pw_eq (fun X10 eX10 => ?_)
      have dX10 : KVa P X10 := by rw [eX10]; exact KVa_w dX8 (by omega)
      refine pw_eq (fun x11 _ => ?_)
      refine pw_ck (fun _ => ?_)
      refine pw_eq (fun X12 eX12 => ?_)
      have dX12 : KVa P X12 := by rw [eX12]; exact KVa_w dX10 (by omega)
      refine pw_ck (fun _ => ?_)
      refine pw_eq (fun X13 eX13 => ?_)
      have dX13 : KVa P X13 := by rw [eX13]; exact KVa_w dX12 (by omega)
      refine pw_ck (fun _ => ?_)
      refine pw_eq (fun X14 eX14 => ?_)
      have dX14 : KVa P X14 := by rw [eX14]; exact KVa_w dX13 (by omega)
      refine pw_eq (fun X15 eX15 => ?_)
      have dX15 : KVa P X15 := by rw [eX15]; exact KVa_w dX14 (by omega)
      refine pw_eq (fun X16 eX16 => ?_)
      have dX16 : KVa P X16 := by rw [eX16]; exact KVa_w dX15 (by omega)
      refine pw_bd (vkr_next dX16) (fun _ X17 dX17 => ?_)
      refine pw_bd (vkr_opens dX17) (fun _ X18 dX18 => ?_)
      refine pw_bd (vkr_isSign dX18) (fun x19 X20 dX20 => ?_)
      refine pw_ite (fun _ => ?_) (fun _ => ?_)
      · refine pw_bd (vkr_param dX20) (fun _ X21 dX21 => ?_)
        exact vkr_part__V_116 _ _ _ dX21
      · refine pw_bd (vkr_closes dX20) (fun _ X43 dX43 => ?_)
        exact vkr_part__V_143 dX43
    · exact vkr_part__V_19 dX3
theorem vkr_reads_39 (N : Nat) : ∀ (X : St), KVa False X → pw (f_reads_39 N X) (fun _ Y => KVa True Y) := by
  unfold f_reads_39
  refine lp_ind (P := fun (r : St → Option (Int32 × St)) => ∀ (X : St), KVa False X → pw (r X) (fun _ Y => KVa True Y)) (fun _ _ => pw_none) (fun r ih  X h => ?_) N
  unfold f_reads_39_s
  refine pw_bd (vkr_isWell h) (fun x9 X10 dX10 => ?_)
  refine pw_ite (fun _ => ?_) (fun _ => ?_)
  · exact vkr_reads_109 dX10
  · refine pw_eq (fun x28 _ => ?_)
    refine pw_ite (fun _ => ?_) (fun _ => ?_)
    · exact vkr_reads_109 dX10
    · refine pw_bd (vkr_isWord dX10) (fun x29 X30 dX30 => ?_)
      refine pw_ite (fun _ => ?_) (fun _ => ?_)
      · refine pw_bd (vkr_stray dX30) (fun _ X38 dX38 => ?_)
        exact ih _ dX38
      · refine pw_eq (fun x31 _ => ?_)
        refine pw_ite (fun _ => ?_) (fun _ => ?_)
        · refine pw_eq (fun x36 _ => ?_)
          refine pw_bd (vkr_fails dX30) (fun _ X37 dX37 => ?_)
          exact ih _ dX37
        · refine pw_eq (fun x32 _ => ?_)
          refine pw_eq (fun x33 _ => ?_)
          refine pw_ck (fun _ => ?_)
          refine pw_eq (fun X34 eX34 => ?_)
          have dX34 : KVa False X34 := by rw [eX34]; exact KVa_w dX30 (by omega)
          refine pw_bd (vkr_part__V dX34) (fun _ X35 dX35 => ?_)
          exact ih _ dX35
theorem vkr_judges_210 {X : St} (h : KVa P X) : pw (f_judges_210 X) (fun _ Y => KVa P Y) := by
  unfold f_judges_210
  refine pw_bd (vkr_isWell h) (fun x10 X11 dX11 => ?_)
  refine pw_ck (fun _ => ?_)
  refine pw_eq (fun X12 eX12 => ?_)
  have dX12 : KVa P X12 := by rw [eX12]; exact KVa_w dX11 (by omega)
  exact pw_ret dX12
theorem vkr_ownKindOf {p1 : Int32} {X : St} (h : KVa P X) : pw (f_ownKindOf p1 X) (fun _ Y => KVa P Y) := by
  unfold f_ownKindOf
  refine pw_ck (fun _ => ?_)
  refine pw_eq (fun x1 _ => ?_)
  refine pw_ite (fun _ => ?_) (fun _ => ?_)
  · exact pw_ret h
  · refine pw_ck (fun _ => ?_)
    refine pw_eq (fun x2 _ => ?_)
    exact pw_ret h
theorem vkr_judges_204 {r37 : Int32 → St → Option (Int32 × St)} (hr37 : ∀ (q0 : Int32) (X : St), KVa P X → pw (r37 q0 X) (fun _ Y => KVa P Y)) {a1 : Int32} {X : St} (h : KVa P X) : pw (f_judges_204 r37 a1 X) (fun _ Y => KVa P Y) := by
  unfold f_judges_204
  refine pw_eq (fun x27 _ => ?_)
  exact hr37 _ _ h
theorem vkr_push_54 {b0 : Int32} {b1 : Int32} {X : St} (h : KVa P X) : pw (f_push_54 b0 b1 X) (fun _ Y => KVa P Y) := by
  unfold f_push_54
  refine pw_ck (fun _ => ?_)
  refine pw_eq (fun X9 eX9 => ?_)
  have dX9 : KVa P X9 := by rw [eX9]; exact KVa_w h (by omega)
  exact pw_ret dX9
theorem vkr_push_49 {b0 : Int32} {X : St} (h : KVa P X) : pw (f_push_49 b0 X) (fun _ Y => KVa P Y) := by
  unfold f_push_49
  exact vkr_push_54 h
theorem vkr_push {p1 : Int32} {X : St} (h : KVa P X) : pw (f_push p1 X) (fun _ Y => KVa P Y) := by
  unfold f_push
  refine pw_eq (fun x1 _ => ?_)
  refine pw_ck (fun _ => ?_)
  refine pw_eq (fun X2 eX2 => ?_)
  have dX2 : KVa P X2 := by rw [eX2]; exact KVa_w h (by omega)
  refine pw_eq (fun x3 _ => ?_)
  refine pw_eq (fun x4 _ => ?_)
  refine pw_eq (fun X5 eX5 => ?_)
  have dX5 : KVa P X5 := by rw [eX5]; exact KVa_w dX2 (by omega)
  refine pw_eq (fun x6 _ => ?_)
  refine pw_eq (fun x7 _ => ?_)
  refine pw_ck (fun _ => ?_)
  refine pw_eq (fun x8 _ => ?_)
  refine pw_ite (fun _ => ?_) (fun _ => ?_)
  · refine pw_ck (fun _ => ?_)
    refine pw_eq (fun x10 _ => ?_)
    refine pw_ite (fun _ => ?_) (fun _ => ?_)
    · exact vkr_push_54 dX5
    · exact vkr_push_49 dX5
  · exact vkr_push_49 dX5
theorem vkr_paramKindOf {p1 : Int32} {p2 : Int32} {X : St} (h : KVa P X) : pw (f_paramKindOf p1 p2 X) (fun _ Y => KVa P Y) := by
  unfold f_paramKindOf
  refine pw_ck (fun _ => ?_)
  refine pw_eq (fun x1 _ => ?_)
  refine pw_ite (fun _ => ?_) (fun _ => ?_)
  · exact pw_ret h
  · refine pw_eq (fun x2 _ => ?_)
    refine pw_eq (fun x3 _ => ?_)
    refine pw_ck (fun _ => ?_)
    refine pw_eq (fun x4 _ => ?_)
    exact pw_ret h
theorem vkr_functionOf_2 (N : Nat) : ∀ (a1 : Int32) (a2 : Int32) (X : St), KVa P X → pw (f_functionOf_2 N a1 a2 X) (fun _ Y => KVa P Y) := by
  unfold f_functionOf_2
  refine lp_ind (P := fun (r : Int32 → Int32 → St → Option (Int32 × St)) => ∀ (a1 : Int32) (a2 : Int32) (X : St), KVa P X → pw (r a1 a2 X) (fun _ Y => KVa P Y)) (fun _ _ _ _ => pw_none) (fun r ih a1 a2 X h => ?_) N
  unfold f_functionOf_2_s
  refine pw_ck (fun _ => ?_)
  refine pw_eq (fun x1 _ => ?_)
  refine pw_ite (fun _ => ?_) (fun _ => ?_)
  · refine pw_ck (fun _ => ?_)
    refine pw_eq (fun x2 _ => ?_)
    refine pw_eq (fun x3 _ => ?_)
    refine pw_bd (vkr_ownKindOf h) (fun x4 X5 dX5 => ?_)
    refine pw_ck (fun _ => ?_)
    refine pw_eq (fun X6 eX6 => ?_)
    have dX6 : KVa P X6 := by rw [eX6]; exact KVa_w dX5 (by omega)
    refine pw_ck (fun _ => ?_)
    refine pw_eq (fun x7 _ => ?_)
    refine pw_eq (fun x8 _ => ?_)
    refine pw_bd (v_kof dX6) (fun x9 X10 dX10 => ?_)
    exact pw_ret dX10
  · refine pw_eq (fun x11 _ => ?_)
    refine pw_bd (vkr_paramKindOf h) (fun x12 X13 dX13 => ?_)
    refine pw_ck (fun _ => ?_)
    refine pw_eq (fun X14 eX14 => ?_)
    have dX14 : KVa P X14 := by rw [eX14]; exact KVa_w dX13 (by omega)
    refine pw_eq (fun x15 _ => ?_)
    exact ih _ _ _ dX14
theorem vkr_functionOf {p1 : Int32} {X : St} (h : KVa P X) : pw (f_functionOf p1 X) (fun _ Y => KVa P Y) := by
  unfold f_functionOf
  exact vkr_functionOf_2 _ _ _ _ h
theorem vkr_fits_111 {r16 : Int32 → St → Option (Int32 × St)} (hr16 : ∀ (q0 : Int32) (X : St), KVa P X → pw (r16 q0 X) (fun _ Y => KVa P Y)) (N : Nat) : ∀ (a3 : Int32) (a4 : Int32) (a5 : Int32) (a6 : Int32) (X : St), KVa P X → pw (f_fits_111 r16 N a3 a4 a5 a6 X) (fun _ Y => KVa P Y) := by
  unfold f_fits_111
  refine lp_ind (P := fun (r : Int32 → Int32 → Int32 → Int32 → St → Option (Int32 × St)) => ∀ (a3 : Int32) (a4 : Int32) (a5 : Int32) (a6 : Int32) (X : St), KVa P X → pw (r a3 a4 a5 a6 X) (fun _ Y => KVa P Y)) (fun _ _ _ _ _ _ => pw_none) (fun r ih a3 a4 a5 a6 X h => ?_) N
  unfold f_fits_111_s
  refine pw_ck (fun _ => ?_)
  refine pw_eq (fun x11 _ => ?_)
  refine pw_ite (fun _ => ?_) (fun _ => ?_)
  · exact hr16 _ _ h
  · refine pw_ck (fun _ => ?_)
    refine pw_eq (fun x12 _ => ?_)
    refine pw_eq (fun x13 _ => ?_)
    refine pw_ck (fun _ => ?_)
    refine pw_eq (fun x14 _ => ?_)
    refine pw_ck (fun _ => ?_)
    refine pw_eq (fun X15 eX15 => ?_)
    have dX15 : KVa P X15 := by rw [eX15]; exact KVa_w h (by omega)
    refine pw_ck (fun _ => ?_)
    refine pw_eq (fun x16 _ => ?_)
    refine pw_eq (fun x17 _ => ?_)
    refine pw_ck (fun _ => ?_)
    refine pw_eq (fun x18 _ => ?_)
    refine pw_ck (fun _ => ?_)
    refine pw_eq (fun X19 eX19 => ?_)
    have dX19 : KVa P X19 := by rw [eX19]; exact KVa_w dX15 (by omega)
    refine pw_eq (fun x20 _ => ?_)
    refine pw_eq (fun x21 _ => ?_)
    exact ih _ _ _ _ _ dX19
theorem vkr_fits_16 (N : Nat) : ∀ (a3 : Int32) (X : St), KVa P X → pw (f_fits_16 N a3 X) (fun _ Y => KVa P Y) := by
  unfold f_fits_16
  refine lp_ind (P := fun (r : Int32 → St → Option (Int32 × St)) => ∀ (a3 : Int32) (X : St), KVa P X → pw (r a3 X) (fun _ Y => KVa P Y)) (fun _ _ _ => pw_none) (fun r ih a3 X h => ?_) N
  unfold f_fits_16_s
  refine pw_ite (fun _ => ?_) (fun _ => ?_)
  · exact pw_ret h
  · refine pw_eq (fun x3 _ => ?_)
    refine pw_ck (fun _ => ?_)
    refine pw_eq (fun x4 _ => ?_)
    refine pw_ck (fun _ => ?_)
    refine pw_eq (fun x5 _ => ?_)
    refine pw_ite (fun _ => ?_) (fun _ => ?_)
    · exact ih _ _ h
    · refine pw_ite (fun _ => ?_) (fun _ => ?_)
      · exact ih _ _ h
      · refine pw_ite (fun _ => ?_) (fun _ => ?_)
        · exact ih _ _ h
        · refine pw_ck (fun _ => ?_)
          refine pw_eq (fun x6 _ => ?_)
          refine pw_ck (fun _ => ?_)
          refine pw_eq (fun x7 _ => ?_)
          refine pw_ite (fun _ => ?_) (fun _ => ?_)
          · refine pw_ck (fun _ => ?_)
            refine pw_eq (fun x8 _ => ?_)
            refine pw_ite (fun _ => ?_) (fun _ => ?_)
            · exact pw_ret h
            · refine pw_ck (fun _ => ?_)
              refine pw_eq (fun x9 _ => ?_)
              refine pw_ck (fun _ => ?_)
              refine pw_eq (fun x10 _ => ?_)
              refine pw_ite (fun _ => ?_) (fun _ => ?_)
              · exact vkr_fits_111 ih _ _ _ _ _ _ h
              · exact pw_ret h
          · exact pw_ret h
theorem vkr_fits {p1 : Int32} {p2 : Int32} {X : St} (h : KVa P X) : pw (f_fits p1 p2 X) (fun _ Y => KVa P Y) := by
  unfold f_fits
  refine pw_ck (fun _ => ?_)
  refine pw_eq (fun X1 eX1 => ?_)
  have dX1 : KVa P X1 := by rw [eX1]; exact KVa_w h (by omega)
  refine pw_ck (fun _ => ?_)
  refine pw_eq (fun X2 eX2 => ?_)
  have dX2 : KVa P X2 := by rw [eX2]; exact KVa_w dX1 (by omega)
  exact vkr_fits_16 _ _ _ dX2
theorem vkr_guards {p1 : Int32} {p2 : Int32} {p3 : Int32} {p4 : Int32} {p5 : Int32} {X : St} (h : KVa P X) : pw (f_guards p1 p2 p3 p4 p5 X) (fun _ Y => KVa P Y) := by
  unfold f_guards
  refine pw_ite (fun _ => ?_) (fun _ => ?_)
  · exact pw_ret h
  · refine pw_eq (fun x1 _ => ?_)
    refine pw_ck (fun _ => ?_)
    refine pw_eq (fun X2 eX2 => ?_)
    have dX2 : KVa P X2 := by rw [eX2]; exact KVa_w h (by omega)
    refine pw_eq (fun x3 _ => ?_)
    refine pw_ck (fun _ => ?_)
    refine pw_eq (fun X4 eX4 => ?_)
    have dX4 : KVa P X4 := by rw [eX4]; exact KVa_w dX2 (by omega)
    refine pw_eq (fun x5 _ => ?_)
    refine pw_ck (fun _ => ?_)
    refine pw_eq (fun X6 eX6 => ?_)
    have dX6 : KVa P X6 := by rw [eX6]; exact KVa_w dX4 (by omega)
    refine pw_eq (fun x7 _ => ?_)
    refine pw_eq (fun x8 _ => ?_)
    refine pw_ck (fun _ => ?_)
    refine pw_eq (fun X9 eX9 => ?_)
    have dX9 : KVa P X9 := by rw [eX9]; exact KVa_w dX6 (by omega)
    refine pw_eq (fun x10 _ => ?_)
    refine pw_ck (fun _ => ?_)
    refine pw_eq (fun X11 eX11 => ?_)
    have dX11 : KVa P X11 := by rw [eX11]; exact KVa_w dX9 (by omega)
    refine pw_eq (fun x12 _ => ?_)
    refine pw_ck (fun _ => ?_)
    refine pw_eq (fun X13 eX13 => ?_)
    have dX13 : KVa P X13 := by rw [eX13]; exact KVa_w dX11 (by omega)
    refine pw_eq (fun x14 _ => ?_)
    refine pw_eq (fun x15 _ => ?_)
    refine pw_eq (fun X16 eX16 => ?_)
    have dX16 : KVa P X16 := by rw [eX16]; exact KVa_w dX13 (by omega)
    exact pw_ret dX16
theorem vkr_must {p1 : Int32} {p2 : Int32} {p3 : Int32} {p4 : Int32} {X : St} (h : KVa P X) : pw (f_must p1 p2 p3 p4 X) (fun _ Y => KVa P Y) := by
  unfold f_must
  refine pw_eq (fun x1 _ => ?_)
  refine pw_eq (fun x2 _ => ?_)
  refine pw_ck (fun _ => ?_)
  refine pw_eq (fun x3 _ => ?_)
  refine pw_bd (vkr_fits h) (fun x4 X5 dX5 => ?_)
  refine pw_ite (fun _ => ?_) (fun _ => ?_)
  · refine pw_bd (vkr_fails dX5) (fun _ X10 dX10 => ?_)
    exact pw_ret dX10
  · refine pw_bd (vkr_guards dX5) (fun _ X6 dX6 => ?_)
    refine pw_eq (fun x7 _ => ?_)
    refine pw_eq (fun x8 _ => ?_)
    refine pw_ck (fun _ => ?_)
    refine pw_eq (fun X9 eX9 => ?_)
    have dX9 : KVa P X9 := by rw [eX9]; exact KVa_w dX6 (by omega)
    exact pw_ret dX9
theorem vkr_anyFunction_2 (N : Nat) : ∀ (a1 : Int32) (a2 : Int32) (X : St), KVa P X → pw (f_anyFunction_2 N a1 a2 X) (fun _ Y => KVa P Y) := by
  unfold f_anyFunction_2
  refine lp_ind (P := fun (r : Int32 → Int32 → St → Option (Int32 × St)) => ∀ (a1 : Int32) (a2 : Int32) (X : St), KVa P X → pw (r a1 a2 X) (fun _ Y => KVa P Y)) (fun _ _ _ _ => pw_none) (fun r ih a1 a2 X h => ?_) N
  unfold f_anyFunction_2_s
  refine pw_ite (fun _ => ?_) (fun _ => ?_)
  · refine pw_eq (fun x1 _ => ?_)
    refine pw_bd (v_kof h) (fun x2 X3 dX3 => ?_)
    exact pw_ret dX3
  · refine pw_eq (fun x4 _ => ?_)
    refine pw_ck (fun _ => ?_)
    refine pw_eq (fun X5 eX5 => ?_)
    have dX5 : KVa P X5 := by rw [eX5]; exact KVa_w h (by omega)
    refine pw_eq (fun x6 _ => ?_)
    exact ih _ _ _ dX5
theorem vkr_anyFunction {p1 : Int32} {X : St} (h : KVa P X) : pw (f_anyFunction p1 X) (fun _ Y => KVa P Y) := by
  unfold f_anyFunction
  exact vkr_anyFunction_2 _ _ _ _ h
theorem vkr_judgeCallee {p1 : Int32} {p2 : Int32} {X : St} (h : KVa P X) : pw (f_judgeCallee p1 p2 X) (fun _ Y => KVa P Y) := by
  unfold f_judgeCallee
  refine pw_eq (fun x1 _ => ?_)
  refine pw_eq (fun x2 _ => ?_)
  refine pw_ck (fun _ => ?_)
  refine pw_eq (fun x3 _ => ?_)
  refine pw_ite (fun _ => ?_) (fun _ => ?_)
  · refine pw_ck (fun _ => ?_)
    refine pw_eq (fun x12 _ => ?_)
    refine pw_bd (vkr_anyFunction h) (fun x13 X14 dX14 => ?_)
    refine pw_ck (fun _ => ?_)
    refine pw_eq (fun x15 _ => ?_)
    refine pw_eq (fun x16 _ => ?_)
    refine pw_bd (vkr_guards dX14) (fun _ X17 dX17 => ?_)
    refine pw_eq (fun x18 _ => ?_)
    refine pw_eq (fun x19 _ => ?_)
    refine pw_ck (fun _ => ?_)
    refine pw_eq (fun X20 eX20 => ?_)
    have dX20 : KVa P X20 := by rw [eX20]; exact KVa_w dX17 (by omega)
    exact pw_ret dX20
  · refine pw_ck (fun _ => ?_)
    refine pw_eq (fun x4 _ => ?_)
    refine pw_ite (fun _ => ?_) (fun _ => ?_)
    · refine pw_ck (fun _ => ?_)
      refine pw_eq (fun x5 _ => ?_)
      refine pw_eq (fun x6 _ => ?_)
      refine pw_ck (fun _ => ?_)
      refine pw_eq (fun x7 _ => ?_)
      refine pw_ite (fun _ => ?_) (fun _ => ?_)
      · exact pw_ret h
      · refine pw_ck (fun _ => ?_)
        refine pw_eq (fun x8 _ => ?_)
        refine pw_bd (vkr_fails h) (fun _ X9 dX9 => ?_)
        exact pw_ret dX9
    · refine pw_ck (fun _ => ?_)
      refine pw_eq (fun x10 _ => ?_)
      refine pw_bd (vkr_fails h) (fun _ X11 dX11 => ?_)
      exact pw_ret dX11
theorem vkr_judgeRow {p1 : Int32} {p2 : Int32} {X : St} (h : KVa P X) : pw (f_judgeRow p1 p2 X) (fun _ Y => KVa P Y) := by
  unfold f_judgeRow
  refine pw_eq (fun x1 _ => ?_)
  refine pw_eq (fun x2 _ => ?_)
  refine pw_ck (fun _ => ?_)
  refine pw_eq (fun x3 _ => ?_)
  refine pw_ite (fun _ => ?_) (fun _ => ?_)
  · refine pw_bd (vkr_rowOf h) (fun x6 X7 dX7 => ?_)
    refine pw_eq (fun x8 _ => ?_)
    refine pw_bd (vkr_guards dX7) (fun _ X9 dX9 => ?_)
    refine pw_eq (fun x10 _ => ?_)
    refine pw_eq (fun x11 _ => ?_)
    refine pw_ck (fun _ => ?_)
    refine pw_eq (fun X12 eX12 => ?_)
    have dX12 : KVa P X12 := by rw [eX12]; exact KVa_w dX9 (by omega)
    exact pw_ret dX12
  · refine pw_ck (fun _ => ?_)
    refine pw_eq (fun x4 _ => ?_)
    refine pw_ite (fun _ => ?_) (fun _ => ?_)
    · exact pw_ret h
    · refine pw_bd (vkr_fails h) (fun _ X5 dX5 => ?_)
      exact pw_ret dX5
theorem vkr_paramOf {p1 : Int32} {p2 : Int32} {X : St} (h : KVa P X) : pw (f_paramOf p1 p2 X) (fun _ Y => KVa P Y) := by
  unfold f_paramOf
  refine pw_ck (fun _ => ?_)
  refine pw_eq (fun x1 _ => ?_)
  refine pw_eq (fun x2 _ => ?_)
  refine pw_ck (fun _ => ?_)
  refine pw_eq (fun x3 _ => ?_)
  exact pw_ret h
theorem vkr_judgeOne_317 {a1 : Int32} {a2 : Int32} {a4 : Int32} {b0 : Int32} {X : St} (h : KVa P X) : pw (f_judgeOne_317 a1 a2 a4 b0 X) (fun _ Y => KVa P Y) := by
  unfold f_judgeOne_317
  refine pw_eq (fun x39 _ => ?_)
  refine pw_eq (fun x40 _ => ?_)
  refine pw_eq (fun x41 _ => ?_)
  refine pw_ck (fun _ => ?_)
  refine pw_eq (fun x42 _ => ?_)
  refine pw_bd (vkr_paramOf h) (fun x43 X44 dX44 => ?_)
  refine pw_ck (fun _ => ?_)
  refine pw_eq (fun x45 _ => ?_)
  refine pw_bd (vkr_must dX44) (fun _ X46 dX46 => ?_)
  exact pw_ret dX46
theorem vkr_elementOf {p1 : Int32} {X : St} (h : KVa P X) : pw (f_elementOf p1 X) (fun _ Y => KVa P Y) := by
  unfold f_elementOf
  refine pw_ck (fun _ => ?_)
  refine pw_eq (fun x1 _ => ?_)
  refine pw_ck (fun _ => ?_)
  refine pw_eq (fun x2 _ => ?_)
  exact pw_ret h
theorem vkr_toldKind {p1 : Int32} {X : St} (h : KVa P X) : pw (f_toldKind p1 X) (fun _ Y => KVa P Y) := by
  unfold f_toldKind
  refine pw_eq (fun x1 _ => ?_)
  refine pw_ck (fun _ => ?_)
  refine pw_eq (fun x2 _ => ?_)
  refine pw_ite (fun _ => ?_) (fun _ => ?_)
  · exact pw_ret h
  · exact pw_ret h
theorem vkr_judgeMore_182 {b0 : Int32} {b1 : Int32} {X : St} (h : KVa P X) : pw (f_judgeMore_182 b0 b1 X) (fun _ Y => KVa P Y) := by
  unfold f_judgeMore_182
  refine pw_ck (fun _ => ?_)
  refine pw_eq (fun X14 eX14 => ?_)
  have dX14 : KVa P X14 := by rw [eX14]; exact KVa_w h (by omega)
  exact pw_ret dX14
theorem vkr_judgeMore_177 {b0 : Int32} {X : St} (h : KVa P X) : pw (f_judgeMore_177 b0 X) (fun _ Y => KVa P Y) := by
  unfold f_judgeMore_177
  exact vkr_judgeMore_182 h
theorem vkr_judgeJoin_112 {b0 : Int32} {X : St} (h : KVa P X) : pw (f_judgeJoin_112 b0 X) (fun _ Y => KVa P Y) := by
  unfold f_judgeJoin_112
  refine pw_bd (vkr_push h) (fun _ X9 dX9 => ?_)
  exact pw_ret dX9
theorem vkr_judgeJoin_101 {a2 : Int32} {a3 : Int32} {X : St} (h : KVa P X) : pw (f_judgeJoin_101 a2 a3 X) (fun _ Y => KVa P Y) := by
  unfold f_judgeJoin_101
  refine pw_ite (fun _ => ?_) (fun _ => ?_)
  · exact vkr_judgeJoin_112 h
  · exact vkr_judgeJoin_112 h
theorem vkr_judgeJoin {p1 : Int32} {X : St} (h : KVa P X) : pw (f_judgeJoin p1 X) (fun _ Y => KVa P Y) := by
  unfold f_judgeJoin
  refine pw_eq (fun x1 _ => ?_)
  refine pw_eq (fun x2 _ => ?_)
  refine pw_eq (fun X3 eX3 => ?_)
  have dX3 : KVa P X3 := by rw [eX3]; exact KVa_w h (by omega)
  refine pw_eq (fun x4 _ => ?_)
  refine pw_ck (fun _ => ?_)
  refine pw_eq (fun x5 _ => ?_)
  refine pw_eq (fun x6 _ => ?_)
  refine pw_eq (fun x7 _ => ?_)
  refine pw_ck (fun _ => ?_)
  refine pw_eq (fun x8 _ => ?_)
  refine pw_ite (fun _ => ?_) (fun _ => ?_)
  · exact vkr_judgeJoin_101 dX3
  · refine pw_ck (fun _ => ?_)
    refine pw_eq (fun x10 _ => ?_)
    refine pw_ck (fun _ => ?_)
    refine pw_eq (fun x11 _ => ?_)
    refine pw_ck (fun _ => ?_)
    refine pw_eq (fun x12 _ => ?_)
    refine pw_ck (fun _ => ?_)
    refine pw_eq (fun x13 _ => ?_)
    refine pw_eq (fun x14 _ => ?_)
    refine pw_bd (vkr_guards dX3) (fun _ X15 dX15 => ?_)
    refine pw_ck (fun _ => ?_)
    refine pw_eq (fun x16 _ => ?_)
    refine pw_ck (fun _ => ?_)
    refine pw_eq (fun x17 _ => ?_)
    refine pw_ck (fun _ => ?_)
    refine pw_eq (fun x18 _ => ?_)
    refine pw_ck (fun _ => ?_)
    refine pw_eq (fun x19 _ => ?_)
    refine pw_eq (fun x20 _ => ?_)
    refine pw_bd (vkr_guards dX15) (fun _ X21 dX21 => ?_)
    exact vkr_judgeJoin_101 dX21
theorem vkr_judgeElements_168 {b0 : Int32} {X : St} (h : KVa P X) : pw (f_judgeElements_168 b0 X) (fun _ Y => KVa P Y) := by
  unfold f_judgeElements_168
  refine pw_bd (vkr_rowOf h) (fun x8 X9 dX9 => ?_)
  refine pw_bd (vkr_push dX9) (fun _ X10 dX10 => ?_)
  exact pw_ret dX10
theorem vkr_judgeElements_134 {r91 : Int32 → Int32 → Int32 → St → Option (Int32 × St)} (hr91 : ∀ (q0 : Int32) (q1 : Int32) (q2 : Int32) (X : St), KVa P X → pw (r91 q0 q1 q2 X) (fun _ Y => KVa P Y)) {a2 : Int32} {a3 : Int32} {a4 : Int32} {X : St} (h : KVa P X) : pw (f_judgeElements_134 r91 a2 a3 a4 X) (fun _ Y => KVa P Y) := by
  unfold f_judgeElements_134
  refine pw_eq (fun x13 _ => ?_)
  refine pw_ck (fun _ => ?_)
  refine pw_eq (fun x14 _ => ?_)
  exact hr91 _ _ _ _ h
theorem vkr_judgeElements_91 (N : Nat) : ∀ (a2 : Int32) (a3 : Int32) (a4 : Int32) (X : St), KVa P X → pw (f_judgeElements_91 N a2 a3 a4 X) (fun _ Y => KVa P Y) := by
  unfold f_judgeElements_91
  refine lp_ind (P := fun (r : Int32 → Int32 → Int32 → St → Option (Int32 × St)) => ∀ (a2 : Int32) (a3 : Int32) (a4 : Int32) (X : St), KVa P X → pw (r a2 a3 a4 X) (fun _ Y => KVa P Y)) (fun _ _ _ _ _ => pw_none) (fun r ih a2 a3 a4 X h => ?_) N
  unfold f_judgeElements_91_s
  refine pw_ite (fun _ => ?_) (fun _ => ?_)
  · refine pw_ite (fun _ => ?_) (fun _ => ?_)
    · exact vkr_judgeElements_168 h
    · refine pw_eq (fun x11 _ => ?_)
      refine pw_ck (fun _ => ?_)
      refine pw_eq (fun x12 _ => ?_)
      exact vkr_judgeElements_168 h
  · refine pw_ite (fun _ => ?_) (fun _ => ?_)
    · refine pw_ck (fun _ => ?_)
      refine pw_eq (fun x15 _ => ?_)
      refine pw_eq (fun x16 _ => ?_)
      refine pw_eq (fun x17 _ => ?_)
      refine pw_ck (fun _ => ?_)
      refine pw_eq (fun x18 _ => ?_)
      refine pw_ck (fun _ => ?_)
      refine pw_eq (fun x19 _ => ?_)
      refine pw_eq (fun x20 _ => ?_)
      refine pw_bd (vkr_guards h) (fun _ X21 dX21 => ?_)
      exact vkr_judgeElements_134 ih dX21
    · exact vkr_judgeElements_134 ih h
theorem vkr_judgeElements_74 {r32 : Int32 → Int32 → Int32 → St → Option (Int32 × St)} (hr32 : ∀ (q0 : Int32) (q1 : Int32) (q2 : Int32) (X : St), KVa P X → pw (r32 q0 q1 q2 X) (fun _ Y => KVa P Y)) {a1 : Int32} {a3 : Int32} {b0 : Int32} {X : St} (h : KVa P X) : pw (f_judgeElements_74 r32 a1 a3 b0 X) (fun _ Y => KVa P Y) := by
  unfold f_judgeElements_74
  refine pw_eq (fun x22 _ => ?_)
  exact hr32 _ _ _ _ h
theorem vkr_judgeElements_73 {r32 : Int32 → Int32 → Int32 → St → Option (Int32 × St)} (hr32 : ∀ (q0 : Int32) (q1 : Int32) (q2 : Int32) (X : St), KVa P X → pw (r32 q0 q1 q2 X) (fun _ Y => KVa P Y)) {a1 : Int32} {a3 : Int32} {X : St} (h : KVa P X) : pw (f_judgeElements_73 r32 a1 a3 X) (fun _ Y => KVa P Y) := by
  unfold f_judgeElements_73
  exact vkr_judgeElements_74 hr32 h
theorem vkr_judgeElements_32 (N : Nat) : ∀ (a1 : Int32) (a2 : Int32) (a3 : Int32) (X : St), KVa P X → pw (f_judgeElements_32 N a1 a2 a3 X) (fun _ Y => KVa P Y) := by
  unfold f_judgeElements_32
  refine lp_ind (P := fun (r : Int32 → Int32 → Int32 → St → Option (Int32 × St)) => ∀ (a1 : Int32) (a2 : Int32) (a3 : Int32) (X : St), KVa P X → pw (r a1 a2 a3 X) (fun _ Y => KVa P Y)) (fun _ _ _ _ _ => pw_none) (fun r ih a1 a2 a3 X h => ?_) N
  unfold f_judgeElements_32_s
  refine pw_ck (fun _ => ?_)
  refine pw_eq (fun x6 _ => ?_)
  refine pw_ite (fun _ => ?_) (fun _ => ?_)
  · refine pw_ck (fun _ => ?_)
    refine pw_eq (fun x7 _ => ?_)
    exact vkr_judgeElements_91 _ _ _ _ _ h
  · refine pw_ite (fun _ => ?_) (fun _ => ?_)
    · exact vkr_judgeElements_73 ih h
    · refine pw_eq (fun x23 _ => ?_)
      refine pw_eq (fun x24 _ => ?_)
      refine pw_ck (fun _ => ?_)
      refine pw_eq (fun x25 _ => ?_)
      refine pw_eq (fun x26 _ => ?_)
      refine pw_ck (fun _ => ?_)
      refine pw_eq (fun x27 _ => ?_)
      refine pw_ite (fun _ => ?_) (fun _ => ?_)
      · exact vkr_judgeElements_74 ih h
      · exact vkr_judgeElements_73 ih h
theorem vkr_judgeElements_29 {a1 : Int32} {b0 : Int32} {X : St} (h : KVa P X) : pw (f_judgeElements_29 a1 b0 X) (fun _ Y => KVa P Y) := by
  unfold f_judgeElements_29
  exact vkr_judgeElements_32 _ _ _ _ _ h
theorem vkr_judgeElements {p1 : Int32} {X : St} (h : KVa P X) : pw (f_judgeElements p1 X) (fun _ Y => KVa P Y) := by
  unfold f_judgeElements
  refine pw_eq (fun x1 _ => ?_)
  refine pw_ck (fun _ => ?_)
  refine pw_eq (fun x2 _ => ?_)
  refine pw_eq (fun x3 _ => ?_)
  refine pw_eq (fun X4 eX4 => ?_)
  have dX4 : KVa P X4 := by rw [eX4]; exact KVa_w h (by omega)
  refine pw_ck (fun _ => ?_)
  refine pw_eq (fun x5 _ => ?_)
  refine pw_ite (fun _ => ?_) (fun _ => ?_)
  · exact vkr_judgeElements_29 dX4
  · exact vkr_judgeElements_29 dX4
theorem vkr_judgeMore_343 {b0 : Int32} {X : St} (h : KVa P X) : pw (f_judgeMore_343 b0 X) (fun _ Y => KVa P Y) := by
  unfold f_judgeMore_343
  refine pw_bd (vkr_push h) (fun _ X70 dX70 => ?_)
  exact pw_ret dX70
theorem vkr_resultOf {p1 : Int32} {X : St} (h : KVa P X) : pw (f_resultOf p1 X) (fun _ Y => KVa P Y) := by
  unfold f_resultOf
  refine pw_ck (fun _ => ?_)
  refine pw_eq (fun x1 _ => ?_)
  refine pw_ck (fun _ => ?_)
  refine pw_eq (fun x2 _ => ?_)
  refine pw_eq (fun x3 _ => ?_)
  refine pw_eq (fun x4 _ => ?_)
  refine pw_ck (fun _ => ?_)
  refine pw_eq (fun x5 _ => ?_)
  exact pw_ret h
theorem vkr_judgeMore {p1 : Int32} {p2 : Int32} {X : St} (h : KVa P X) : pw (f_judgeMore p1 p2 X) (fun _ Y => KVa P Y) := by
  unfold f_judgeMore
  refine pw_ck (fun _ => ?_)
  refine pw_eq (fun x1 _ => ?_)
  refine pw_ite (fun _ => ?_) (fun _ => ?_)
  · refine pw_ck (fun _ => ?_)
    refine pw_eq (fun x3 _ => ?_)
    refine pw_ite (fun _ => ?_) (fun _ => ?_)
    · exact pw_ret h
    · refine pw_ck (fun _ => ?_)
      refine pw_eq (fun x4 _ => ?_)
      refine pw_bd (vkr_toldKind h) (fun x5 X6 dX6 => ?_)
      refine pw_ck (fun _ => ?_)
      refine pw_eq (fun x7 _ => ?_)
      refine pw_ck (fun _ => ?_)
      refine pw_eq (fun x8 _ => ?_)
      refine pw_eq (fun x9 _ => ?_)
      refine pw_bd (vkr_must dX6) (fun _ X10 dX10 => ?_)
      refine pw_eq (fun x11 _ => ?_)
      refine pw_eq (fun x12 _ => ?_)
      refine pw_ck (fun _ => ?_)
      refine pw_eq (fun x13 _ => ?_)
      refine pw_ite (fun _ => ?_) (fun _ => ?_)
      · refine pw_ck (fun _ => ?_)
        refine pw_eq (fun x15 _ => ?_)
        refine pw_bd (vkr_toldKind dX10) (fun x16 X17 dX17 => ?_)
        refine pw_ck (fun _ => ?_)
        refine pw_eq (fun x18 _ => ?_)
        refine pw_ite (fun _ => ?_) (fun _ => ?_)
        · exact vkr_judgeMore_182 dX17
        · exact vkr_judgeMore_177 dX17
      · exact vkr_judgeMore_177 dX10
  · refine pw_ite (fun _ => ?_) (fun _ => ?_)
    · refine pw_eq (fun x20 _ => ?_)
      refine pw_eq (fun x21 _ => ?_)
      refine pw_eq (fun X22 eX22 => ?_)
      have dX22 : KVa P X22 := by rw [eX22]; exact KVa_w h (by omega)
      refine pw_ck (fun _ => ?_)
      refine pw_eq (fun x23 _ => ?_)
      refine pw_eq (fun x24 _ => ?_)
      refine pw_ck (fun _ => ?_)
      refine pw_eq (fun x25 _ => ?_)
      refine pw_ck (fun _ => ?_)
      refine pw_eq (fun X26 eX26 => ?_)
      have dX26 : KVa P X26 := by rw [eX26]; exact KVa_w dX22 (by omega)
      exact pw_ret dX26
    · refine pw_ite (fun _ => ?_) (fun _ => ?_)
      · refine pw_eq (fun x28 _ => ?_)
        refine pw_eq (fun x29 _ => ?_)
        refine pw_eq (fun X30 eX30 => ?_)
        have dX30 : KVa P X30 := by rw [eX30]; exact KVa_w h (by omega)
        exact pw_ret dX30
      · refine pw_ite (fun _ => ?_) (fun _ => ?_)
        · refine pw_bd (vkr_judgeJoin h) (fun _ X32 dX32 => ?_)
          exact pw_ret dX32
        · refine pw_ite (fun _ => ?_) (fun _ => ?_)
          · refine pw_bd (vkr_judgeElements h) (fun _ X34 dX34 => ?_)
            exact pw_ret dX34
          · refine pw_ite (fun _ => ?_) (fun _ => ?_)
            · refine pw_eq (fun x36 _ => ?_)
              refine pw_eq (fun x37 _ => ?_)
              refine pw_eq (fun X38 eX38 => ?_)
              have dX38 : KVa P X38 := by rw [eX38]; exact KVa_w h (by omega)
              refine pw_eq (fun x39 _ => ?_)
              refine pw_eq (fun x40 _ => ?_)
              refine pw_ck (fun _ => ?_)
              refine pw_eq (fun x41 _ => ?_)
              refine pw_bd (vkr_rowOf dX38) (fun x42 X43 dX43 => ?_)
              refine pw_bd (vkr_push dX43) (fun _ X44 dX44 => ?_)
              exact pw_ret dX44
            · refine pw_ite (fun _ => ?_) (fun _ => ?_)
              · refine pw_eq (fun x46 _ => ?_)
                refine pw_eq (fun x47 _ => ?_)
                refine pw_eq (fun X48 eX48 => ?_)
                have dX48 : KVa P X48 := by rw [eX48]; exact KVa_w h (by omega)
                refine pw_bd (vkr_push dX48) (fun _ X49 dX49 => ?_)
                exact pw_ret dX49
              · refine pw_ite (fun _ => ?_) (fun _ => ?_)
                · refine pw_eq (fun x51 _ => ?_)
                  refine pw_eq (fun x52 _ => ?_)
                  refine pw_eq (fun X53 eX53 => ?_)
                  have dX53 : KVa P X53 := by rw [eX53]; exact KVa_w h (by omega)
                  refine pw_bd (vkr_push dX53) (fun _ X54 dX54 => ?_)
                  exact pw_ret dX54
                · refine pw_ite (fun _ => ?_) (fun _ => ?_)
                  · refine pw_eq (fun x56 _ => ?_)
                    refine pw_eq (fun x57 _ => ?_)
                    refine pw_eq (fun X58 eX58 => ?_)
                    have dX58 : KVa P X58 := by rw [eX58]; exact KVa_w h (by omega)
                    refine pw_bd (vkr_push dX58) (fun _ X59 dX59 => ?_)
                    exact pw_ret dX59
                  · refine pw_ite (fun _ => ?_) (fun _ => ?_)
                    · refine pw_eq (fun x61 _ => ?_)
                      refine pw_eq (fun x62 _ => ?_)
                      refine pw_eq (fun X63 eX63 => ?_)
                      have dX63 : KVa P X63 := by rw [eX63]; exact KVa_w h (by omega)
                      refine pw_bd (vkr_push dX63) (fun _ X64 dX64 => ?_)
                      exact pw_ret dX64
                    · refine pw_ite (fun _ => ?_) (fun _ => ?_)
                      · refine pw_eq (fun x66 _ => ?_)
                        refine pw_eq (fun x67 _ => ?_)
                        refine pw_eq (fun X68 eX68 => ?_)
                        have dX68 : KVa P X68 := by rw [eX68]; exact KVa_w h (by omega)
                        refine pw_ck (fun _ => ?_)
                        refine pw_eq (fun x69 _ => ?_)
                        refine pw_ite (fun _ => ?_) (fun _ => ?_)
                        · exact vkr_judgeMore_343 dX68
                        · exact vkr_judgeMore_343 dX68
                      · refine pw_ite (fun _ => ?_) (fun _ => ?_)
                        · refine pw_eq (fun x72 _ => ?_)
                          refine pw_eq (fun x73 _ => ?_)
                          refine pw_eq (fun X74 eX74 => ?_)
                          have dX74 : KVa P X74 := by rw [eX74]; exact KVa_w h (by omega)
                          refine pw_ck (fun _ => ?_)
                          refine pw_eq (fun x75 _ => ?_)
                          refine pw_ite (fun _ => ?_) (fun _ => ?_)
                          · exact vkr_judgeMore_343 dX74
                          · exact vkr_judgeMore_343 dX74
                        · refine pw_ite (fun _ => ?_) (fun _ => ?_)
                          · refine pw_eq (fun x77 _ => ?_)
                            refine pw_eq (fun x78 _ => ?_)
                            refine pw_eq (fun X79 eX79 => ?_)
                            have dX79 : KVa P X79 := by rw [eX79]; exact KVa_w h (by omega)
                            refine pw_eq (fun x80 _ => ?_)
                            refine pw_ck (fun _ => ?_)
                            refine pw_eq (fun x81 _ => ?_)
                            refine pw_bd (vkr_elementOf dX79) (fun x82 X83 dX83 => ?_)
                            refine pw_bd (vkr_push dX83) (fun _ X84 dX84 => ?_)
                            exact pw_ret dX84
                          · refine pw_ite (fun _ => ?_) (fun _ => ?_)
                            · refine pw_eq (fun x86 _ => ?_)
                              refine pw_eq (fun x87 _ => ?_)
                              refine pw_eq (fun X88 eX88 => ?_)
                              have dX88 : KVa P X88 := by rw [eX88]; exact KVa_w h (by omega)
                              refine pw_eq (fun x89 _ => ?_)
                              refine pw_ck (fun _ => ?_)
                              refine pw_eq (fun x90 _ => ?_)
                              refine pw_bd (vkr_elementOf dX88) (fun x91 X92 dX92 => ?_)
                              refine pw_bd (vkr_push dX92) (fun _ X93 dX93 => ?_)
                              exact pw_ret dX93
                            · refine pw_ite (fun _ => ?_) (fun _ => ?_)
                              · refine pw_eq (fun x95 _ => ?_)
                                refine pw_ck (fun _ => ?_)
                                refine pw_eq (fun x96 _ => ?_)
                                refine pw_eq (fun x97 _ => ?_)
                                refine pw_eq (fun x98 _ => ?_)
                                refine pw_eq (fun X99 eX99 => ?_)
                                have dX99 : KVa P X99 := by rw [eX99]; exact KVa_w h (by omega)
                                refine pw_eq (fun x100 _ => ?_)
                                refine pw_ck (fun _ => ?_)
                                refine pw_eq (fun x101 _ => ?_)
                                refine pw_bd (vkr_resultOf dX99) (fun x102 X103 dX103 => ?_)
                                refine pw_bd (vkr_push dX103) (fun _ X104 dX104 => ?_)
                                exact pw_ret dX104
                              · refine pw_ite (fun _ => ?_) (fun _ => ?_)
                                · refine pw_eq (fun x106 _ => ?_)
                                  refine pw_eq (fun x107 _ => ?_)
                                  refine pw_eq (fun X108 eX108 => ?_)
                                  have dX108 : KVa P X108 := by rw [eX108]; exact KVa_w h (by omega)
                                  exact pw_ret dX108
                                · refine pw_ite (fun _ => ?_) (fun _ => ?_)
                                  · refine pw_eq (fun x110 _ => ?_)
                                    refine pw_eq (fun x111 _ => ?_)
                                    refine pw_eq (fun X112 eX112 => ?_)
                                    have dX112 : KVa P X112 := by rw [eX112]; exact KVa_w h (by omega)
                                    exact pw_ret dX112
                                  · exact pw_ret h
theorem vkr_judgeOne {p1 : Int32} {p2 : Int32} {X : St} (h : KVa P X) : pw (f_judgeOne p1 p2 X) (fun _ Y => KVa P Y) := by
  unfold f_judgeOne
  refine pw_ck (fun _ => ?_)
  refine pw_eq (fun x1 _ => ?_)
  refine pw_ite (fun _ => ?_) (fun _ => ?_)
  · refine pw_bd (vkr_push h) (fun _ X3 dX3 => ?_)
    exact pw_ret dX3
  · refine pw_ite (fun _ => ?_) (fun _ => ?_)
    · refine pw_bd (vkr_push h) (fun _ X5 dX5 => ?_)
      exact pw_ret dX5
    · refine pw_ite (fun _ => ?_) (fun _ => ?_)
      · refine pw_ck (fun _ => ?_)
        refine pw_eq (fun x7 _ => ?_)
        refine pw_ck (fun _ => ?_)
        refine pw_eq (fun x8 _ => ?_)
        refine pw_bd (vkr_push h) (fun _ X9 dX9 => ?_)
        exact pw_ret dX9
      · refine pw_ite (fun _ => ?_) (fun _ => ?_)
        · refine pw_ck (fun _ => ?_)
          refine pw_eq (fun x11 _ => ?_)
          refine pw_bd (vkr_functionOf h) (fun x12 X13 dX13 => ?_)
          refine pw_bd (vkr_push dX13) (fun _ X14 dX14 => ?_)
          exact pw_ret dX14
        · refine pw_ite (fun _ => ?_) (fun _ => ?_)
          · refine pw_ck (fun _ => ?_)
            refine pw_eq (fun x16 _ => ?_)
            refine pw_eq (fun x17 _ => ?_)
            refine pw_bd (vkr_must h) (fun _ X18 dX18 => ?_)
            exact pw_ret dX18
          · refine pw_ite (fun _ => ?_) (fun _ => ?_)
            · refine pw_ck (fun _ => ?_)
              refine pw_eq (fun x20 _ => ?_)
              refine pw_eq (fun x21 _ => ?_)
              refine pw_bd (vkr_must h) (fun _ X22 dX22 => ?_)
              exact pw_ret dX22
            · refine pw_ite (fun _ => ?_) (fun _ => ?_)
              · refine pw_bd (vkr_judgeCallee h) (fun _ X24 dX24 => ?_)
                exact pw_ret dX24
              · refine pw_ite (fun _ => ?_) (fun _ => ?_)
                · refine pw_ck (fun _ => ?_)
                  refine pw_eq (fun x26 _ => ?_)
                  refine pw_bd (vkr_judgeRow h) (fun _ X27 dX27 => ?_)
                  exact pw_ret dX27
                · refine pw_ite (fun _ => ?_) (fun _ => ?_)
                  · refine pw_ck (fun _ => ?_)
                    refine pw_eq (fun x29 _ => ?_)
                    refine pw_bd (vkr_judgeRow h) (fun _ X30 dX30 => ?_)
                    exact pw_ret dX30
                  · refine pw_ite (fun _ => ?_) (fun _ => ?_)
                    · refine pw_ck (fun _ => ?_)
                      refine pw_eq (fun x32 _ => ?_)
                      refine pw_ck (fun _ => ?_)
                      refine pw_eq (fun x33 _ => ?_)
                      refine pw_eq (fun x34 _ => ?_)
                      refine pw_ck (fun _ => ?_)
                      refine pw_eq (fun x36 _ => ?_)
                      refine pw_ck (fun _ => ?_)
                      refine pw_eq (fun x37 _ => ?_)
                      refine pw_ite (fun _ => ?_) (fun _ => ?_)
                      · refine pw_ck (fun _ => ?_)
                        refine pw_eq (fun x47 _ => ?_)
                        refine pw_ck (fun _ => ?_)
                        refine pw_eq (fun x48 _ => ?_)
                        exact vkr_judgeOne_317 h
                      · refine pw_eq (fun x38 _ => ?_)
                        exact vkr_judgeOne_317 h
                    · refine pw_ite (fun _ => ?_) (fun _ => ?_)
                      · refine pw_eq (fun x50 _ => ?_)
                        refine pw_eq (fun x51 _ => ?_)
                        refine pw_ck (fun _ => ?_)
                        refine pw_eq (fun x52 _ => ?_)
                        refine pw_bd (vkr_elementOf h) (fun x53 X54 dX54 => ?_)
                        refine pw_ck (fun _ => ?_)
                        refine pw_eq (fun x55 _ => ?_)
                        refine pw_ck (fun _ => ?_)
                        refine pw_eq (fun x56 _ => ?_)
                        refine pw_eq (fun x57 _ => ?_)
                        refine pw_bd (vkr_must dX54) (fun _ X58 dX58 => ?_)
                        exact pw_ret dX58
                      · refine pw_ite (fun _ => ?_) (fun _ => ?_)
                        · refine pw_bd (vkr_ownKindOf h) (fun x60 X61 dX61 => ?_)
                          refine pw_ck (fun _ => ?_)
                          refine pw_eq (fun x62 _ => ?_)
                          refine pw_ck (fun _ => ?_)
                          refine pw_eq (fun x63 _ => ?_)
                          refine pw_eq (fun x64 _ => ?_)
                          refine pw_bd (vkr_must dX61) (fun _ X65 dX65 => ?_)
                          exact pw_ret dX65
                        · refine pw_bd (vkr_judgeMore h) (fun _ X66 dX66 => ?_)
                          exact pw_ret dX66
theorem vkr_judges_175 {r37 : Int32 → St → Option (Int32 × St)} (hr37 : ∀ (q0 : Int32) (X : St), KVa P X → pw (r37 q0 X) (fun _ Y => KVa P Y)) (N : Nat) : ∀ (a1 : Int32) (a2 : Int32) (a3 : Int32) (X : St), KVa P X → pw (f_judges_175 r37 N a1 a2 a3 X) (fun _ Y => KVa P Y) := by
  unfold f_judges_175
  refine lp_ind (P := fun (r : Int32 → Int32 → Int32 → St → Option (Int32 × St)) => ∀ (a1 : Int32) (a2 : Int32) (a3 : Int32) (X : St), KVa P X → pw (r a1 a2 a3 X) (fun _ Y => KVa P Y)) (fun _ _ _ _ _ => pw_none) (fun r ih a1 a2 a3 X h => ?_) N
  unfold f_judges_175_s
  refine pw_ite (fun _ => ?_) (fun _ => ?_)
  · exact vkr_judges_204 hr37 h
  · refine pw_bd (vkr_isWell h) (fun x28 X29 dX29 => ?_)
    refine pw_ite (fun _ => ?_) (fun _ => ?_)
    · exact vkr_judges_204 hr37 dX29
    · refine pw_ck (fun _ => ?_)
      refine pw_eq (fun x30 _ => ?_)
      refine pw_bd (vkr_judgeOne dX29) (fun _ X31 dX31 => ?_)
      refine pw_eq (fun x32 _ => ?_)
      exact ih _ _ _ _ dX31
theorem vkr_judges_167 {r37 : Int32 → St → Option (Int32 × St)} (hr37 : ∀ (q0 : Int32) (X : St), KVa P X → pw (r37 q0 X) (fun _ Y => KVa P Y)) {a1 : Int32} {b0 : Int32} {X : St} (h : KVa P X) : pw (f_judges_167 r37 a1 b0 X) (fun _ Y => KVa P Y) := by
  unfold f_judges_167
  refine pw_ck (fun _ => ?_)
  refine pw_eq (fun x26 _ => ?_)
  exact vkr_judges_175 hr37 _ _ _ _ _ h
theorem vkr_judges_135 {r37 : Int32 → St → Option (Int32 × St)} {r80 : Int32 → Int32 → St → Option (Int32 × St)} (hr37 : ∀ (q0 : Int32) (X : St), KVa P X → pw (r37 q0 X) (fun _ Y => KVa P Y)) (hr80 : ∀ (q0 : Int32) (q1 : Int32) (X : St), KVa P X → pw (r80 q0 q1 X) (fun _ Y => KVa P Y)) {a1 : Int32} {a2 : Int32} {b0 : Int32} {b1 : Int32} {X : St} (h : KVa P X) : pw (f_judges_135 r37 r80 a1 a2 b0 b1 X) (fun _ Y => KVa P Y) := by
  unfold f_judges_135
  refine pw_ck (fun _ => ?_)
  refine pw_eq (fun X39 eX39 => ?_)
  have dX39 : KVa P X39 := by rw [eX39]; exact KVa_w h (by omega)
  refine pw_eq (fun x40 _ => ?_)
  exact hr80 _ _ _ dX39
theorem vkr_judges_130 {r37 : Int32 → St → Option (Int32 × St)} {r80 : Int32 → Int32 → St → Option (Int32 × St)} (hr37 : ∀ (q0 : Int32) (X : St), KVa P X → pw (r37 q0 X) (fun _ Y => KVa P Y)) (hr80 : ∀ (q0 : Int32) (q1 : Int32) (X : St), KVa P X → pw (r80 q0 q1 X) (fun _ Y => KVa P Y)) {a1 : Int32} {a2 : Int32} {b0 : Int32} {X : St} (h : KVa P X) : pw (f_judges_130 r37 r80 a1 a2 b0 X) (fun _ Y => KVa P Y) := by
  unfold f_judges_130
  exact vkr_judges_135 hr37 hr80 h
theorem vkr_judges_80 {r37 : Int32 → St → Option (Int32 × St)} (hr37 : ∀ (q0 : Int32) (X : St), KVa P X → pw (r37 q0 X) (fun _ Y => KVa P Y)) (N : Nat) : ∀ (a1 : Int32) (a2 : Int32) (X : St), KVa P X → pw (f_judges_80 r37 N a1 a2 X) (fun _ Y => KVa P Y) := by
  unfold f_judges_80
  refine lp_ind (P := fun (r : Int32 → Int32 → St → Option (Int32 × St)) => ∀ (a1 : Int32) (a2 : Int32) (X : St), KVa P X → pw (r a1 a2 X) (fun _ Y => KVa P Y)) (fun _ _ _ _ => pw_none) (fun r ih a1 a2 X h => ?_) N
  unfold f_judges_80_s
  refine pw_ck (fun _ => ?_)
  refine pw_eq (fun x22 _ => ?_)
  refine pw_ite (fun _ => ?_) (fun _ => ?_)
  · refine pw_eq (fun x23 _ => ?_)
    refine pw_eq (fun x24 _ => ?_)
    refine pw_ite (fun _ => ?_) (fun _ => ?_)
    · refine pw_eq (fun x25 _ => ?_)
      exact vkr_judges_167 hr37 h
    · refine pw_eq (fun x33 _ => ?_)
      refine pw_ck (fun _ => ?_)
      refine pw_eq (fun x34 _ => ?_)
      exact vkr_judges_167 hr37 h
  · refine pw_bd (vkr_paramKindOf h) (fun x35 X36 dX36 => ?_)
    refine pw_ck (fun _ => ?_)
    refine pw_eq (fun X37 eX37 => ?_)
    have dX37 : KVa P X37 := by rw [eX37]; exact KVa_w dX36 (by omega)
    refine pw_ck (fun _ => ?_)
    refine pw_eq (fun x38 _ => ?_)
    refine pw_ite (fun _ => ?_) (fun _ => ?_)
    · refine pw_ck (fun _ => ?_)
      refine pw_eq (fun x41 _ => ?_)
      refine pw_ck (fun _ => ?_)
      refine pw_eq (fun x42 _ => ?_)
      refine pw_ite (fun _ => ?_) (fun _ => ?_)
      · exact vkr_judges_135 hr37 ih dX37
      · exact vkr_judges_130 hr37 ih dX37
    · exact vkr_judges_130 hr37 ih dX37
theorem vkr_judges_37 (N : Nat) : ∀ (a1 : Int32) (X : St), KVa P X → pw (f_judges_37 N a1 X) (fun _ Y => KVa P Y) := by
  unfold f_judges_37
  refine lp_ind (P := fun (r : Int32 → St → Option (Int32 × St)) => ∀ (a1 : Int32) (X : St), KVa P X → pw (r a1 X) (fun _ Y => KVa P Y)) (fun _ _ _ => pw_none) (fun r ih a1 X h => ?_) N
  unfold f_judges_37_s
  refine pw_eq (fun x9 _ => ?_)
  refine pw_ite (fun _ => ?_) (fun _ => ?_)
  · exact vkr_judges_210 h
  · refine pw_bd (vkr_isWell h) (fun x14 X15 dX15 => ?_)
    refine pw_ite (fun _ => ?_) (fun _ => ?_)
    · exact vkr_judges_210 dX15
    · refine pw_eq (fun X16 eX16 => ?_)
      have dX16 : KVa P X16 := by rw [eX16]; exact KVa_w dX15 (by omega)
      refine pw_eq (fun X17 eX17 => ?_)
      have dX17 : KVa P X17 := by rw [eX17]; exact KVa_w dX16 (by omega)
      refine pw_bd (vkr_ownKindOf dX17) (fun x18 X19 dX19 => ?_)
      refine pw_ck (fun _ => ?_)
      refine pw_eq (fun x20 _ => ?_)
      refine pw_ck (fun _ => ?_)
      refine pw_eq (fun X21 eX21 => ?_)
      have dX21 : KVa P X21 := by rw [eX21]; exact KVa_w dX19 (by omega)
      exact vkr_judges_80 ih _ _ _ _ dX21
theorem vkr_task {p1 : Int32} {p2 : Int32} {p3 : Int32} {X : St} (h : KVa P X) : pw (f_task p1 p2 p3 X) (fun _ Y => KVa P Y) := by
  unfold f_task
  refine pw_eq (fun x1 _ => ?_)
  refine pw_ck (fun _ => ?_)
  refine pw_eq (fun X2 eX2 => ?_)
  have dX2 : KVa P X2 := by rw [eX2]; exact KVa_w h (by omega)
  refine pw_eq (fun x3 _ => ?_)
  refine pw_ck (fun _ => ?_)
  refine pw_eq (fun X4 eX4 => ?_)
  have dX4 : KVa P X4 := by rw [eX4]; exact KVa_w dX2 (by omega)
  refine pw_eq (fun x5 _ => ?_)
  refine pw_ck (fun _ => ?_)
  refine pw_eq (fun X6 eX6 => ?_)
  have dX6 : KVa P X6 := by rw [eX6]; exact KVa_w dX4 (by omega)
  refine pw_eq (fun x7 _ => ?_)
  refine pw_eq (fun x8 _ => ?_)
  refine pw_eq (fun X9 eX9 => ?_)
  have dX9 : KVa P X9 := by rw [eX9]; exact KVa_w dX6 (by omega)
  exact pw_ret dX9
theorem vkr_order {p1 : Int32} {p2 : Int32} {p3 : Int32} {X : St} (h : KVa P X) : pw (f_order p1 p2 p3 X) (fun _ Y => KVa P Y) := by
  unfold f_order
  refine pw_eq (fun x1 _ => ?_)
  refine pw_ck (fun _ => ?_)
  refine pw_eq (fun X2 eX2 => ?_)
  have dX2 : KVa P X2 := by rw [eX2]; exact KVa_w h (by omega)
  refine pw_eq (fun x3 _ => ?_)
  refine pw_ck (fun _ => ?_)
  refine pw_eq (fun X4 eX4 => ?_)
  have dX4 : KVa P X4 := by rw [eX4]; exact KVa_w dX2 (by omega)
  refine pw_eq (fun x5 _ => ?_)
  refine pw_ck (fun _ => ?_)
  refine pw_eq (fun X6 eX6 => ?_)
  have dX6 : KVa P X6 := by rw [eX6]; exact KVa_w dX4 (by omega)
  refine pw_eq (fun x7 _ => ?_)
  refine pw_ck (fun _ => ?_)
  refine pw_eq (fun X8 eX8 => ?_)
  have dX8 : KVa P X8 := by rw [eX8]; exact KVa_w dX6 (by omega)
  refine pw_eq (fun x9 _ => ?_)
  refine pw_eq (fun x10 _ => ?_)
  refine pw_eq (fun X11 eX11 => ?_)
  have dX11 : KVa P X11 := by rw [eX11]; exact KVa_w dX8 (by omega)
  exact pw_ret dX11
theorem vkr_tells_195 {a1 : Int32} {X : St} (h : KVa P X) : pw (f_tells_195 a1 X) (fun _ Y => KVa P Y) := by
  unfold f_tells_195
  refine pw_bd (vkr_task h) (fun _ X24 dX24 => ?_)
  refine pw_ck (fun _ => ?_)
  refine pw_eq (fun x25 _ => ?_)
  refine pw_bd (vkr_task dX24) (fun _ X26 dX26 => ?_)
  exact pw_ret dX26
theorem vkr_taskOfCall_7 (N : Nat) : ∀ (a1 : Int32) (a2 : Int32) (X : St), KVa P X → pw (f_taskOfCall_7 N a1 a2 X) (fun _ Y => KVa P Y) := by
  unfold f_taskOfCall_7
  refine lp_ind (P := fun (r : Int32 → Int32 → St → Option (Int32 × St)) => ∀ (a1 : Int32) (a2 : Int32) (X : St), KVa P X → pw (r a1 a2 X) (fun _ Y => KVa P Y)) (fun _ _ _ _ => pw_none) (fun r ih a1 a2 X h => ?_) N
  unfold f_taskOfCall_7_s
  refine pw_ite (fun _ => ?_) (fun _ => ?_)
  · refine pw_ck (fun _ => ?_)
    refine pw_eq (fun x2 _ => ?_)
    refine pw_bd (vkr_task h) (fun _ X3 dX3 => ?_)
    exact pw_ret dX3
  · refine pw_ck (fun _ => ?_)
    refine pw_eq (fun X4 eX4 => ?_)
    have dX4 : KVa P X4 := by rw [eX4]; exact KVa_w h (by omega)
    refine pw_ck (fun _ => ?_)
    refine pw_eq (fun x5 _ => ?_)
    exact ih _ _ _ dX4
theorem vkr_taskOfCall {p1 : Int32} {X : St} (h : KVa P X) : pw (f_taskOfCall p1 X) (fun _ Y => KVa P Y) := by
  unfold f_taskOfCall
  refine pw_ck (fun _ => ?_)
  refine pw_eq (fun x1 _ => ?_)
  exact vkr_taskOfCall_7 _ _ _ _ h
theorem vkr_tellsMore_173 {a1 : Int32} {b0 : Int32} {X : St} (h : KVa P X) : pw (f_tellsMore_173 a1 b0 X) (fun _ Y => KVa P Y) := by
  unfold f_tellsMore_173
  refine pw_bd (vkr_task h) (fun _ X18 dX18 => ?_)
  refine pw_ck (fun _ => ?_)
  refine pw_eq (fun x19 _ => ?_)
  refine pw_bd (vkr_task dX18) (fun _ X20 dX20 => ?_)
  refine pw_ck (fun _ => ?_)
  refine pw_eq (fun x21 _ => ?_)
  refine pw_bd (vkr_task dX20) (fun _ X22 dX22 => ?_)
  exact pw_ret dX22
theorem vkr_tellsMore_372 {a1 : Int32} {X : St} (h : KVa P X) : pw (f_tellsMore_372 a1 X) (fun _ Y => KVa P Y) := by
  unfold f_tellsMore_372
  refine pw_ck (fun _ => ?_)
  refine pw_eq (fun x27 _ => ?_)
  refine pw_bd (vkr_task h) (fun _ X28 dX28 => ?_)
  refine pw_ck (fun _ => ?_)
  refine pw_eq (fun x29 _ => ?_)
  refine pw_bd (vkr_task dX28) (fun _ X30 dX30 => ?_)
  refine pw_bd (vkr_task dX30) (fun _ X31 dX31 => ?_)
  refine pw_ck (fun _ => ?_)
  refine pw_eq (fun x32 _ => ?_)
  refine pw_bd (vkr_task dX31) (fun _ X33 dX33 => ?_)
  exact pw_ret dX33
theorem vkr_tellsMore_337 {a1 : Int32} {b0 : Int32} {X : St} (h : KVa P X) : pw (f_tellsMore_337 a1 b0 X) (fun _ Y => KVa P Y) := by
  unfold f_tellsMore_337
  refine pw_bd (vkr_task h) (fun _ X25 dX25 => ?_)
  refine pw_ck (fun _ => ?_)
  refine pw_eq (fun x26 _ => ?_)
  refine pw_ite (fun _ => ?_) (fun _ => ?_)
  · exact vkr_tellsMore_372 dX25
  · refine pw_bd (vkr_task dX25) (fun _ X34 dX34 => ?_)
    refine pw_ck (fun _ => ?_)
    refine pw_eq (fun x35 _ => ?_)
    refine pw_bd (vkr_task dX34) (fun _ X36 dX36 => ?_)
    exact vkr_tellsMore_372 dX36
theorem vkr_tellsMore_262 {a1 : Int32} {b0 : Int32} {X : St} (h : KVa P X) : pw (f_tellsMore_262 a1 b0 X) (fun _ Y => KVa P Y) := by
  unfold f_tellsMore_262
  refine pw_bd (vkr_task h) (fun _ X47 dX47 => ?_)
  refine pw_ck (fun _ => ?_)
  refine pw_eq (fun x48 _ => ?_)
  refine pw_bd (vkr_task dX47) (fun _ X49 dX49 => ?_)
  refine pw_ck (fun _ => ?_)
  refine pw_eq (fun x50 _ => ?_)
  refine pw_bd (vkr_task dX49) (fun _ X51 dX51 => ?_)
  refine pw_ck (fun _ => ?_)
  refine pw_eq (fun x52 _ => ?_)
  refine pw_bd (vkr_task dX51) (fun _ X53 dX53 => ?_)
  refine pw_ck (fun _ => ?_)
  refine pw_eq (fun x54 _ => ?_)
  refine pw_bd (vkr_task dX53) (fun _ X55 dX55 => ?_)
  exact pw_ret dX55
theorem vkr_tellsMore {p1 : Int32} {X : St} (h : KVa P X) : pw (f_tellsMore p1 X) (fun _ Y => KVa P Y) := by
  unfold f_tellsMore
  refine pw_ck (fun _ => ?_)
  refine pw_eq (fun x1 _ => ?_)
  refine pw_ite (fun _ => ?_) (fun _ => ?_)
  · refine pw_bd (vkr_task h) (fun _ X3 dX3 => ?_)
    refine pw_ck (fun _ => ?_)
    refine pw_eq (fun x4 _ => ?_)
    refine pw_bd (vkr_task dX3) (fun _ X5 dX5 => ?_)
    refine pw_ck (fun _ => ?_)
    refine pw_eq (fun x6 _ => ?_)
    refine pw_bd (vkr_task dX5) (fun _ X7 dX7 => ?_)
    refine pw_ck (fun _ => ?_)
    refine pw_eq (fun x8 _ => ?_)
    refine pw_bd (vkr_task dX7) (fun _ X9 dX9 => ?_)
    exact pw_ret dX9
  · refine pw_ite (fun _ => ?_) (fun _ => ?_)
    · refine pw_bd (vkr_task h) (fun _ X11 dX11 => ?_)
      refine pw_ck (fun _ => ?_)
      refine pw_eq (fun x12 _ => ?_)
      refine pw_bd (vkr_task dX11) (fun _ X13 dX13 => ?_)
      refine pw_ck (fun _ => ?_)
      refine pw_eq (fun x14 _ => ?_)
      refine pw_bd (vkr_task dX13) (fun _ X15 dX15 => ?_)
      exact pw_ret dX15
    · refine pw_ite (fun _ => ?_) (fun _ => ?_)
      · refine pw_ck (fun _ => ?_)
        refine pw_eq (fun x17 _ => ?_)
        refine pw_ite (fun _ => ?_) (fun _ => ?_)
        · exact vkr_tellsMore_173 h
        · exact vkr_tellsMore_173 h
      · refine pw_ite (fun _ => ?_) (fun _ => ?_)
        · refine pw_ck (fun _ => ?_)
          refine pw_eq (fun x24 _ => ?_)
          refine pw_ite (fun _ => ?_) (fun _ => ?_)
          · exact vkr_tellsMore_337 h
          · exact vkr_tellsMore_337 h
        · refine pw_ite (fun _ => ?_) (fun _ => ?_)
          · refine pw_ck (fun _ => ?_)
            refine pw_eq (fun x38 _ => ?_)
            refine pw_ite (fun _ => ?_) (fun _ => ?_)
            · exact vkr_tellsMore_173 h
            · exact vkr_tellsMore_173 h
          · refine pw_ite (fun _ => ?_) (fun _ => ?_)
            · refine pw_bd (vkr_task h) (fun _ X40 dX40 => ?_)
              refine pw_ck (fun _ => ?_)
              refine pw_eq (fun x41 _ => ?_)
              refine pw_bd (vkr_task dX40) (fun _ X42 dX42 => ?_)
              refine pw_ck (fun _ => ?_)
              refine pw_eq (fun x43 _ => ?_)
              refine pw_bd (vkr_task dX42) (fun _ X44 dX44 => ?_)
              exact pw_ret dX44
            · refine pw_ite (fun _ => ?_) (fun _ => ?_)
              · refine pw_ck (fun _ => ?_)
                refine pw_eq (fun x46 _ => ?_)
                refine pw_ite (fun _ => ?_) (fun _ => ?_)
                · exact vkr_tellsMore_262 h
                · exact vkr_tellsMore_262 h
              · refine pw_ite (fun _ => ?_) (fun _ => ?_)
                · refine pw_ck (fun _ => ?_)
                  refine pw_eq (fun x57 _ => ?_)
                  refine pw_ite (fun _ => ?_) (fun _ => ?_)
                  · exact vkr_tellsMore_262 h
                  · exact vkr_tellsMore_262 h
                · refine pw_ite (fun _ => ?_) (fun _ => ?_)
                  · refine pw_bd (vkr_task h) (fun _ X59 dX59 => ?_)
                    refine pw_ck (fun _ => ?_)
                    refine pw_eq (fun x60 _ => ?_)
                    refine pw_bd (vkr_task dX59) (fun _ X61 dX61 => ?_)
                    refine pw_ck (fun _ => ?_)
                    refine pw_eq (fun x62 _ => ?_)
                    refine pw_bd (vkr_task dX61) (fun _ X63 dX63 => ?_)
                    refine pw_bd (vkr_task dX63) (fun _ X64 dX64 => ?_)
                    refine pw_ck (fun _ => ?_)
                    refine pw_eq (fun x65 _ => ?_)
                    refine pw_bd (vkr_task dX64) (fun _ X66 dX66 => ?_)
                    refine pw_ck (fun _ => ?_)
                    refine pw_eq (fun x67 _ => ?_)
                    refine pw_bd (vkr_task dX66) (fun _ X68 dX68 => ?_)
                    refine pw_bd (vkr_task dX68) (fun _ X69 dX69 => ?_)
                    refine pw_ck (fun _ => ?_)
                    refine pw_eq (fun x70 _ => ?_)
                    refine pw_bd (vkr_task dX69) (fun _ X71 dX71 => ?_)
                    refine pw_ck (fun _ => ?_)
                    refine pw_eq (fun x72 _ => ?_)
                    refine pw_bd (vkr_task dX71) (fun _ X73 dX73 => ?_)
                    exact pw_ret dX73
                  · refine pw_ck (fun _ => ?_)
                    refine pw_eq (fun x74 _ => ?_)
                    refine pw_bd (vkr_task h) (fun _ X75 dX75 => ?_)
                    refine pw_bd (vkr_task dX75) (fun _ X76 dX76 => ?_)
                    refine pw_bd (vkr_task dX76) (fun _ X77 dX77 => ?_)
                    refine pw_ck (fun _ => ?_)
                    refine pw_eq (fun x78 _ => ?_)
                    refine pw_bd (vkr_task dX77) (fun _ X79 dX79 => ?_)
                    exact pw_ret dX79
theorem vkr_tells {p1 : Int32} {X : St} (h : KVa P X) : pw (f_tells p1 X) (fun _ Y => KVa P Y) := by
  unfold f_tells
  refine pw_ck (fun _ => ?_)
  refine pw_eq (fun x1 _ => ?_)
  refine pw_ite (fun _ => ?_) (fun _ => ?_)
  · refine pw_bd (vkr_task h) (fun _ X3 dX3 => ?_)
    exact pw_ret dX3
  · refine pw_ite (fun _ => ?_) (fun _ => ?_)
    · refine pw_bd (vkr_task h) (fun _ X5 dX5 => ?_)
      exact pw_ret dX5
    · refine pw_ite (fun _ => ?_) (fun _ => ?_)
      · refine pw_bd (vkr_task h) (fun _ X7 dX7 => ?_)
        exact pw_ret dX7
      · refine pw_ite (fun _ => ?_) (fun _ => ?_)
        · refine pw_bd (vkr_task h) (fun _ X9 dX9 => ?_)
          exact pw_ret dX9
        · refine pw_ite (fun _ => ?_) (fun _ => ?_)
          · refine pw_bd (vkr_task h) (fun _ X11 dX11 => ?_)
            refine pw_ck (fun _ => ?_)
            refine pw_eq (fun x12 _ => ?_)
            refine pw_ite (fun _ => ?_) (fun _ => ?_)
            · exact pw_ret dX11
            · refine pw_ck (fun _ => ?_)
              refine pw_eq (fun x13 _ => ?_)
              refine pw_bd (vkr_task dX11) (fun _ X14 dX14 => ?_)
              exact pw_ret dX14
          · refine pw_ite (fun _ => ?_) (fun _ => ?_)
            · refine pw_ck (fun _ => ?_)
              refine pw_eq (fun x16 _ => ?_)
              refine pw_bd (vkr_task h) (fun _ X17 dX17 => ?_)
              exact pw_ret dX17
            · refine pw_ite (fun _ => ?_) (fun _ => ?_)
              · refine pw_ck (fun _ => ?_)
                refine pw_eq (fun x19 _ => ?_)
                refine pw_bd (vkr_task h) (fun _ X20 dX20 => ?_)
                exact pw_ret dX20
              · refine pw_ite (fun _ => ?_) (fun _ => ?_)
                · refine pw_bd (vkr_task h) (fun _ X22 dX22 => ?_)
                  refine pw_ck (fun _ => ?_)
                  refine pw_eq (fun x23 _ => ?_)
                  refine pw_ite (fun _ => ?_) (fun _ => ?_)
                  · exact vkr_tells_195 dX22
                  · refine pw_bd (vkr_taskOfCall dX22) (fun _ X27 dX27 => ?_)
                    exact vkr_tells_195 dX27
                · refine pw_bd (vkr_tellsMore h) (fun _ X28 dX28 => ?_)
                  exact pw_ret dX28
theorem vkr_goesOn_122 {a2 : Int32} {X : St} (h : KVa P X) : pw (f_goesOn_122 a2 X) (fun _ Y => KVa P Y) := by
  unfold f_goesOn_122
  refine pw_bd (vkr_task h) (fun _ X18 dX18 => ?_)
  exact pw_ret dX18
theorem vkr_goesOn_110 {a2 : Int32} {a3 : Int32} {X : St} (h : KVa P X) : pw (f_goesOn_110 a2 a3 X) (fun _ Y => KVa P Y) := by
  unfold f_goesOn_110
  refine pw_ite (fun _ => ?_) (fun _ => ?_)
  · refine pw_bd (vkr_task h) (fun _ X19 dX19 => ?_)
    exact vkr_goesOn_122 dX19
  · exact vkr_goesOn_122 h
theorem vkr_goesOn_158 {a2 : Int32} {a3 : Int32} {X : St} (h : KVa P X) : pw (f_goesOn_158 a2 a3 X) (fun _ Y => KVa P Y) := by
  unfold f_goesOn_158
  refine pw_bd (vkr_task h) (fun _ X25 dX25 => ?_)
  refine pw_bd (vkr_task dX25) (fun _ X26 dX26 => ?_)
  exact pw_ret dX26
theorem vkr_goesOn {p1 : Int32} {p2 : Int32} {p3 : Int32} {X : St} (h : KVa P X) : pw (f_goesOn p1 p2 p3 X) (fun _ Y => KVa P Y) := by
  unfold f_goesOn
  refine pw_ite (fun _ => ?_) (fun _ => ?_)
  · refine pw_eq (fun x2 _ => ?_)
    refine pw_ck (fun _ => ?_)
    refine pw_eq (fun X3 eX3 => ?_)
    have dX3 : KVa P X3 := by rw [eX3]; exact KVa_w h (by omega)
    refine pw_bd (vkr_order dX3) (fun _ X4 dX4 => ?_)
    exact pw_ret dX4
  · refine pw_ite (fun _ => ?_) (fun _ => ?_)
    · refine pw_bd (vkr_order h) (fun _ X6 dX6 => ?_)
      refine pw_eq (fun x7 _ => ?_)
      refine pw_ck (fun _ => ?_)
      refine pw_eq (fun X8 eX8 => ?_)
      have dX8 : KVa P X8 := by rw [eX8]; exact KVa_w dX6 (by omega)
      exact pw_ret dX8
    · refine pw_ite (fun _ => ?_) (fun _ => ?_)
      · refine pw_bd (vkr_order h) (fun _ X10 dX10 => ?_)
        refine pw_eq (fun x11 _ => ?_)
        refine pw_ck (fun _ => ?_)
        refine pw_eq (fun X12 eX12 => ?_)
        have dX12 : KVa P X12 := by rw [eX12]; exact KVa_w dX10 (by omega)
        exact pw_ret dX12
      · refine pw_ite (fun _ => ?_) (fun _ => ?_)
        · refine pw_bd (vkr_order h) (fun _ X14 dX14 => ?_)
          refine pw_bd (vkr_tells dX14) (fun _ X15 dX15 => ?_)
          exact pw_ret dX15
        · refine pw_ite (fun _ => ?_) (fun _ => ?_)
          · refine pw_ck (fun _ => ?_)
            refine pw_eq (fun x17 _ => ?_)
            refine pw_ite (fun _ => ?_) (fun _ => ?_)
            · exact vkr_goesOn_110 h
            · refine pw_ck (fun _ => ?_)
              refine pw_eq (fun x20 _ => ?_)
              refine pw_bd (vkr_task h) (fun _ X21 dX21 => ?_)
              refine pw_ite (fun _ => ?_) (fun _ => ?_)
              · refine pw_bd (vkr_task dX21) (fun _ X22 dX22 => ?_)
                exact vkr_goesOn_110 dX22
              · exact vkr_goesOn_110 dX21
          · refine pw_ite (fun _ => ?_) (fun _ => ?_)
            · refine pw_ck (fun _ => ?_)
              refine pw_eq (fun x24 _ => ?_)
              refine pw_ite (fun _ => ?_) (fun _ => ?_)
              · exact vkr_goesOn_158 h
              · refine pw_ck (fun _ => ?_)
                refine pw_eq (fun x27 _ => ?_)
                refine pw_eq (fun x28 _ => ?_)
                refine pw_bd (vkr_task h) (fun _ X29 dX29 => ?_)
                exact vkr_goesOn_158 dX29
            · refine pw_bd (vkr_order h) (fun _ X30 dX30 => ?_)
              exact pw_ret dX30
theorem vkr_compiles_59 {r7 : Int32 → St → Option (Int32 × St)} (hr7 : ∀ (q0 : Int32) (X : St), KVa P X → pw (r7 q0 X) (fun _ Y => KVa P Y)) (N : Nat) : ∀ (a1 : Int32) (X : St), KVa P X → pw (f_compiles_59 r7 N a1 X) (fun _ Y => KVa P Y) := by
  unfold f_compiles_59
  refine lp_ind (P := fun (r : Int32 → St → Option (Int32 × St)) => ∀ (a1 : Int32) (X : St), KVa P X → pw (r a1 X) (fun _ Y => KVa P Y)) (fun _ _ _ => pw_none) (fun r ih a1 X h => ?_) N
  unfold f_compiles_59_s
  refine pw_eq (fun x10 _ => ?_)
  refine pw_ite (fun _ => ?_) (fun _ => ?_)
  · refine pw_eq (fun x11 _ => ?_)
    exact hr7 _ _ h
  · refine pw_eq (fun x12 _ => ?_)
    refine pw_eq (fun x13 _ => ?_)
    refine pw_eq (fun X14 eX14 => ?_)
    have dX14 : KVa P X14 := by rw [eX14]; exact KVa_w h (by omega)
    refine pw_eq (fun x15 _ => ?_)
    refine pw_ck (fun _ => ?_)
    refine pw_eq (fun x16 _ => ?_)
    refine pw_eq (fun x17 _ => ?_)
    refine pw_ck (fun _ => ?_)
    refine pw_eq (fun x18 _ => ?_)
    refine pw_eq (fun x19 _ => ?_)
    refine pw_ck (fun _ => ?_)
    refine pw_eq (fun x20 _ => ?_)
    refine pw_bd (vkr_goesOn dX14) (fun _ X21 dX21 => ?_)
    exact ih _ _ dX21
theorem vkr_compiles_7 (N : Nat) : ∀ (a1 : Int32) (X : St), KVa P X → pw (f_compiles_7 N a1 X) (fun _ Y => KVa P Y) := by
  unfold f_compiles_7
  refine lp_ind (P := fun (r : Int32 → St → Option (Int32 × St)) => ∀ (a1 : Int32) (X : St), KVa P X → pw (r a1 X) (fun _ Y => KVa P Y)) (fun _ _ _ => pw_none) (fun r ih a1 X h => ?_) N
  unfold f_compiles_7_s
  refine pw_eq (fun x2 _ => ?_)
  refine pw_ite (fun _ => ?_) (fun _ => ?_)
  · exact pw_ret h
  · refine pw_eq (fun x3 _ => ?_)
    refine pw_ck (fun _ => ?_)
    refine pw_eq (fun X4 eX4 => ?_)
    have dX4 : KVa P X4 := by rw [eX4]; exact KVa_w h (by omega)
    refine pw_eq (fun X5 eX5 => ?_)
    have dX5 : KVa P X5 := by rw [eX5]; exact KVa_w dX4 (by omega)
    refine pw_bd (vkr_task dX5) (fun _ X6 dX6 => ?_)
    refine pw_bd (vkr_task dX6) (fun _ X7 dX7 => ?_)
    refine pw_ck (fun _ => ?_)
    refine pw_eq (fun x8 _ => ?_)
    refine pw_bd (vkr_task dX7) (fun _ X9 dX9 => ?_)
    exact vkr_compiles_59 ih _ _ _ dX9
theorem vkr_compiles {X : St} (h : KVa P X) : pw (f_compiles X) (fun _ Y => KVa P Y) := by
  unfold f_compiles
  refine pw_eq (fun X1 eX1 => ?_)
  have dX1 : KVa P X1 := by rw [eX1]; exact KVa_w h (by omega)
  exact vkr_compiles_7 _ _ _ dX1
theorem vkr_ends {p1 : Int32} {p2 : Int32} {X : St} (h : KVa P X) : pw (f_ends p1 p2 X) (fun _ Y => KVa P Y) := by
  unfold f_ends
  refine pw_eq (fun x1 _ => ?_)
  refine pw_ite (fun _ => ?_) (fun _ => ?_)
  · exact pw_ret h
  · refine pw_eq (fun X2 eX2 => ?_)
    have dX2 : KVa P X2 := by rw [eX2]; exact KVa_w h (by omega)
    refine pw_eq (fun X3 eX3 => ?_)
    have dX3 : KVa P X3 := by rw [eX3]; exact KVa_w dX2 (by omega)
    exact pw_ret dX3
theorem vkr_calls_92 (N : Nat) : ∀ (a4 : Int32) (X : St), KVa P X → pw (f_calls_92 N a4 X) (fun _ Y => KVa P Y) := by
  unfold f_calls_92
  refine lp_ind (P := fun (r : Int32 → St → Option (Int32 × St)) => ∀ (a4 : Int32) (X : St), KVa P X → pw (r a4 X) (fun _ Y => KVa P Y)) (fun _ _ _ => pw_none) (fun r ih a4 X h => ?_) N
  unfold f_calls_92_s
  refine pw_ite (fun _ => ?_) (fun _ => ?_)
  · exact pw_ret h
  · refine pw_eq (fun x21 _ => ?_)
    refine pw_eq (fun x22 _ => ?_)
    refine pw_eq (fun X23 eX23 => ?_)
    have dX23 : KVa P X23 := by rw [eX23]; exact KVa_w h (by omega)
    refine pw_eq (fun x24 _ => ?_)
    refine pw_eq (fun x25 _ => ?_)
    refine pw_eq (fun x26 _ => ?_)
    refine pw_ck (fun _ => ?_)
    refine pw_eq (fun x27 _ => ?_)
    refine pw_ck (fun _ => ?_)
    refine pw_eq (fun X28 eX28 => ?_)
    have dX28 : KVa P X28 := by rw [eX28]; exact KVa_w dX23 (by omega)
    refine pw_eq (fun x29 _ => ?_)
    refine pw_eq (fun x30 _ => ?_)
    refine pw_eq (fun x31 _ => ?_)
    refine pw_ck (fun _ => ?_)
    refine pw_eq (fun x32 _ => ?_)
    refine pw_ck (fun _ => ?_)
    refine pw_eq (fun X33 eX33 => ?_)
    have dX33 : KVa P X33 := by rw [eX33]; exact KVa_w dX28 (by omega)
    refine pw_eq (fun x34 _ => ?_)
    exact ih _ _ dX33
theorem vkr_calls {p1 : Int32} {p2 : Int32} {p3 : Int32} {X : St} (h : KVa P X) : pw (f_calls p1 p2 p3 X) (fun _ Y => KVa P Y) := by
  unfold f_calls
  refine pw_eq (fun x1 _ => ?_)
  refine pw_ite (fun _ => ?_) (fun _ => ?_)
  · refine pw_bd (vkr_ends h) (fun _ X35 dX35 => ?_)
    exact pw_ret dX35
  · refine pw_eq (fun x2 _ => ?_)
    refine pw_eq (fun x3 _ => ?_)
    refine pw_eq (fun X4 eX4 => ?_)
    have dX4 : KVa P X4 := by rw [eX4]; exact KVa_w h (by omega)
    refine pw_eq (fun x5 _ => ?_)
    refine pw_ck (fun _ => ?_)
    refine pw_eq (fun X6 eX6 => ?_)
    have dX6 : KVa P X6 := by rw [eX6]; exact KVa_w dX4 (by omega)
    refine pw_eq (fun x7 _ => ?_)
    refine pw_ck (fun _ => ?_)
    refine pw_eq (fun X8 eX8 => ?_)
    have dX8 : KVa P X8 := by rw [eX8]; exact KVa_w dX6 (by omega)
    refine pw_eq (fun x9 _ => ?_)
    refine pw_eq (fun x10 _ => ?_)
    refine pw_ck (fun _ => ?_)
    refine pw_eq (fun X11 eX11 => ?_)
    have dX11 : KVa P X11 := by rw [eX11]; exact KVa_w dX8 (by omega)
    refine pw_eq (fun x12 _ => ?_)
    refine pw_eq (fun x13 _ => ?_)
    refine pw_eq (fun X14 eX14 => ?_)
    have dX14 : KVa P X14 := by rw [eX14]; exact KVa_w dX11 (by omega)
    refine pw_eq (fun x15 _ => ?_)
    refine pw_eq (fun x16 _ => ?_)
    refine pw_eq (fun x17 _ => ?_)
    refine pw_eq (fun X18 eX18 => ?_)
    have dX18 : KVa P X18 := by rw [eX18]; exact KVa_w dX14 (by omega)
    refine pw_ck (fun _ => ?_)
    refine pw_eq (fun x19 _ => ?_)
    refine pw_eq (fun x20 _ => ?_)
    exact vkr_calls_92 _ _ _ dX18
theorem vkr_isOn {X : St} (h : KVa P X) : pw (f_isOn X) (fun _ Y => KVa P Y) := by
  unfold f_isOn
  refine pw_eq (fun x1 _ => ?_)
  refine pw_ite (fun _ => ?_) (fun _ => ?_)
  · exact pw_ret h
  · exact pw_ret h
theorem vkr_starts_132 {X : St} (h : KVa P X) : pw (f_starts_132 X) (fun _ Y => KVa P Y) := by
  unfold f_starts_132
  refine pw_bd (vkr_isOn h) (fun x19 X20 dX20 => ?_)
  refine pw_ite (fun _ => ?_) (fun _ => ?_)
  · refine pw_eq (fun x21 _ => ?_)
    exact pw_ret dX20
  · refine pw_eq (fun X22 eX22 => ?_)
    have dX22 : KVa P X22 := by rw [eX22]; exact KVa_w dX20 (by omega)
    refine pw_eq (fun x23 _ => ?_)
    exact pw_ret dX22
theorem vkr_value {p1 : Int32} {p2 : Int32} {X : St} (h : KVa P X) : pw (f_value p1 p2 X) (fun _ Y => KVa P Y) := by
  unfold f_value
  refine pw_eq (fun x1 _ => ?_)
  refine pw_ck (fun _ => ?_)
  refine pw_eq (fun X2 eX2 => ?_)
  have dX2 : KVa P X2 := by rw [eX2]; exact KVa_w h (by omega)
  refine pw_eq (fun x3 _ => ?_)
  refine pw_ck (fun _ => ?_)
  refine pw_eq (fun X4 eX4 => ?_)
  have dX4 : KVa P X4 := by rw [eX4]; exact KVa_w dX2 (by omega)
  refine pw_eq (fun x5 _ => ?_)
  refine pw_eq (fun x6 _ => ?_)
  refine pw_eq (fun X7 eX7 => ?_)
  have dX7 : KVa P X7 := by rw [eX7]; exact KVa_w dX4 (by omega)
  exact pw_ret dX7
theorem vkr_asks_110 {r9 : Int32 → Int32 → Int32 → Int32 → Int32 → Int32 → Int32 → St → Option (Int32 × St)} (hr9 : ∀ (q0 : Int32) (q1 : Int32) (q2 : Int32) (q3 : Int32) (q4 : Int32) (q5 : Int32) (q6 : Int32) (X : St), KVa P X → pw (r9 q0 q1 q2 q3 q4 q5 q6 X) (fun _ Y => KVa P Y)) {a1 : Int32} {a4 : Int32} {a5 : Int32} {a6 : Int32} {a7 : Int32} {a9 : Int32} {b0 : Int32} {X : St} (h : KVa P X) : pw (f_asks_110 r9 a1 a4 a5 a6 a7 a9 b0 X) (fun _ Y => KVa P Y) := by
  unfold f_asks_110
  exact hr9 _ _ _ _ _ _ _ _ h
theorem vkr_asks_60 {r9 : Int32 → Int32 → Int32 → Int32 → Int32 → Int32 → Int32 → St → Option (Int32 × St)} (hr9 : ∀ (q0 : Int32) (q1 : Int32) (q2 : Int32) (q3 : Int32) (q4 : Int32) (q5 : Int32) (q6 : Int32) (X : St), KVa P X → pw (r9 q0 q1 q2 q3 q4 q5 q6 X) (fun _ Y => KVa P Y)) {a1 : Int32} {a4 : Int32} {a5 : Int32} {a6 : Int32} {a7 : Int32} {a8 : Int32} {b0 : Int32} {X : St} (h : KVa P X) : pw (f_asks_60 r9 a1 a4 a5 a6 a7 a8 b0 X) (fun _ Y => KVa P Y) := by
  unfold f_asks_60
  refine pw_ck (fun _ => ?_)
  refine pw_eq (fun x23 _ => ?_)
  refine pw_ite (fun _ => ?_) (fun _ => ?_)
  · refine pw_bd (vkr_rowOf h) (fun x29 X30 dX30 => ?_)
    exact vkr_asks_110 hr9 dX30
  · refine pw_ck (fun _ => ?_)
    refine pw_eq (fun x24 _ => ?_)
    refine pw_ite (fun _ => ?_) (fun _ => ?_)
    · refine pw_ck (fun _ => ?_)
      refine pw_eq (fun x25 _ => ?_)
      refine pw_eq (fun x26 _ => ?_)
      refine pw_bd (vkr_anyFunction h) (fun x27 X28 dX28 => ?_)
      exact vkr_asks_110 hr9 dX28
    · exact vkr_asks_110 hr9 h
theorem vkr_within_44 {r2 : Int32 → Int32 → St → Option (Int32 × St)} (hr2 : ∀ (q0 : Int32) (q1 : Int32) (X : St), KVa P X → pw (r2 q0 q1 X) (fun _ Y => KVa P Y)) {a1 : Int32} {b0 : Int32} {X : St} (h : KVa P X) : pw (f_within_44 r2 a1 b0 X) (fun _ Y => KVa P Y) := by
  unfold f_within_44
  refine pw_ck (fun _ => ?_)
  refine pw_eq (fun x2 _ => ?_)
  exact hr2 _ _ _ h
theorem vkr_within_27 {r2 : Int32 → Int32 → St → Option (Int32 × St)} (hr2 : ∀ (q0 : Int32) (q1 : Int32) (X : St), KVa P X → pw (r2 q0 q1 X) (fun _ Y => KVa P Y)) {a1 : Int32} {a3 : Int32} {X : St} (h : KVa P X) : pw (f_within_27 r2 a1 a3 X) (fun _ Y => KVa P Y) := by
  unfold f_within_27
  refine pw_ite (fun _ => ?_) (fun _ => ?_)
  · exact vkr_within_44 hr2 h
  · refine pw_eq (fun x1 _ => ?_)
    exact vkr_within_44 hr2 h
theorem vkr_within_16 {r2 : Int32 → Int32 → St → Option (Int32 × St)} (hr2 : ∀ (q0 : Int32) (q1 : Int32) (X : St), KVa P X → pw (r2 q0 q1 X) (fun _ Y => KVa P Y)) {a1 : Int32} {a3 : Int32} {X : St} (h : KVa P X) : pw (f_within_16 r2 a1 a3 X) (fun _ Y => KVa P Y) := by
  unfold f_within_16
  refine pw_ite (fun _ => ?_) (fun _ => ?_)
  · refine pw_ite (fun _ => ?_) (fun _ => ?_)
    · exact pw_ret h
    · exact vkr_within_27 hr2 h
  · exact pw_ret h
theorem vkr_within_2 (N : Nat) : ∀ (a1 : Int32) (a3 : Int32) (X : St), KVa P X → pw (f_within_2 N a1 a3 X) (fun _ Y => KVa P Y) := by
  unfold f_within_2
  refine lp_ind (P := fun (r : Int32 → Int32 → St → Option (Int32 × St)) => ∀ (a1 : Int32) (a3 : Int32) (X : St), KVa P X → pw (r a1 a3 X) (fun _ Y => KVa P Y)) (fun _ _ _ _ => pw_none) (fun r ih a1 a3 X h => ?_) N
  unfold f_within_2_s
  refine pw_ite (fun _ => ?_) (fun _ => ?_)
  · refine pw_ck (fun _ => ?_)
    refine pw_eq (fun x3 _ => ?_)
    refine pw_ite (fun _ => ?_) (fun _ => ?_)
    · exact vkr_within_16 ih h
    · exact vkr_within_27 ih h
  · exact vkr_within_16 ih h
theorem vkr_within {p1 : Int32} {p2 : Int32} {X : St} (h : KVa P X) : pw (f_within p1 p2 X) (fun _ Y => KVa P Y) := by
  unfold f_within
  exact vkr_within_2 _ _ _ _ h
theorem vkr_isOfSort {p1 : Int32} {p2 : Int32} {X : St} (h : KVa P X) : pw (f_isOfSort p1 p2 X) (fun _ Y => KVa P Y) := by
  unfold f_isOfSort
  refine pw_ck (fun _ => ?_)
  refine pw_eq (fun x1 _ => ?_)
  refine pw_ck (fun _ => ?_)
  refine pw_eq (fun x2 _ => ?_)
  refine pw_ite (fun _ => ?_) (fun _ => ?_)
  · refine pw_ite (fun _ => ?_) (fun _ => ?_)
    · exact pw_ret h
    · exact pw_ret h
  · refine pw_ite (fun _ => ?_) (fun _ => ?_)
    · refine pw_ite (fun _ => ?_) (fun _ => ?_)
      · exact pw_ret h
      · exact pw_ret h
    · refine pw_ite (fun _ => ?_) (fun _ => ?_)
      · refine pw_ite (fun _ => ?_) (fun _ => ?_)
        · exact pw_ret h
        · exact pw_ret h
      · refine pw_ite (fun _ => ?_) (fun _ => ?_)
        · refine pw_ck (fun _ => ?_)
          refine pw_eq (fun x6 _ => ?_)
          refine pw_bd (vkr_within h) (fun x7 X8 dX8 => ?_)
          refine pw_ck (fun _ => ?_)
          refine pw_eq (fun x9 _ => ?_)
          refine pw_ck (fun _ => ?_)
          refine pw_eq (fun x10 _ => ?_)
          refine pw_eq (fun x11 _ => ?_)
          refine pw_ite (fun _ => ?_) (fun _ => ?_)
          · exact pw_ret dX8
          · exact pw_ret dX8
        · exact pw_ret h
theorem vkr_asks_217 {r9 : Int32 → Int32 → Int32 → Int32 → Int32 → Int32 → Int32 → St → Option (Int32 × St)} (hr9 : ∀ (q0 : Int32) (q1 : Int32) (q2 : Int32) (q3 : Int32) (q4 : Int32) (q5 : Int32) (q6 : Int32) (X : St), KVa P X → pw (r9 q0 q1 q2 q3 q4 q5 q6 X) (fun _ Y => KVa P Y)) {a1 : Int32} {a4 : Int32} {a5 : Int32} {a6 : Int32} {a8 : Int32} {a9 : Int32} {b0 : Int32} {X : St} (h : KVa P X) : pw (f_asks_217 r9 a1 a4 a5 a6 a8 a9 b0 X) (fun _ Y => KVa P Y) := by
  unfold f_asks_217
  exact hr9 _ _ _ _ _ _ _ _ h
theorem vkr_asks_167 {r9 : Int32 → Int32 → Int32 → Int32 → Int32 → Int32 → Int32 → St → Option (Int32 × St)} (hr9 : ∀ (q0 : Int32) (q1 : Int32) (q2 : Int32) (q3 : Int32) (q4 : Int32) (q5 : Int32) (q6 : Int32) (X : St), KVa P X → pw (r9 q0 q1 q2 q3 q4 q5 q6 X) (fun _ Y => KVa P Y)) {a1 : Int32} {a4 : Int32} {a5 : Int32} {a6 : Int32} {a7 : Int32} {a8 : Int32} {b0 : Int32} {X : St} (h : KVa P X) : pw (f_asks_167 r9 a1 a4 a5 a6 a7 a8 b0 X) (fun _ Y => KVa P Y) := by
  unfold f_asks_167
  refine pw_ck (fun _ => ?_)
  refine pw_eq (fun x10 _ => ?_)
  refine pw_ite (fun _ => ?_) (fun _ => ?_)
  · refine pw_bd (vkr_rowOf h) (fun x16 X17 dX17 => ?_)
    exact vkr_asks_217 hr9 dX17
  · refine pw_ck (fun _ => ?_)
    refine pw_eq (fun x11 _ => ?_)
    refine pw_ite (fun _ => ?_) (fun _ => ?_)
    · refine pw_ck (fun _ => ?_)
      refine pw_eq (fun x12 _ => ?_)
      refine pw_eq (fun x13 _ => ?_)
      refine pw_bd (vkr_anyFunction h) (fun x14 X15 dX15 => ?_)
      exact vkr_asks_217 hr9 dX15
    · exact vkr_asks_217 hr9 h
theorem vkr_asks_166 {r9 : Int32 → Int32 → Int32 → Int32 → Int32 → Int32 → Int32 → St → Option (Int32 × St)} (hr9 : ∀ (q0 : Int32) (q1 : Int32) (q2 : Int32) (q3 : Int32) (q4 : Int32) (q5 : Int32) (q6 : Int32) (X : St), KVa P X → pw (r9 q0 q1 q2 q3 q4 q5 q6 X) (fun _ Y => KVa P Y)) {a1 : Int32} {a4 : Int32} {a5 : Int32} {a6 : Int32} {a7 : Int32} {a8 : Int32} {X : St} (h : KVa P X) : pw (f_asks_166 r9 a1 a4 a5 a6 a7 a8 X) (fun _ Y => KVa P Y) := by
  unfold f_asks_166
  exact vkr_asks_167 hr9 h
theorem vkr_asks_144 {r9 : Int32 → Int32 → Int32 → Int32 → Int32 → Int32 → Int32 → St → Option (Int32 × St)} (hr9 : ∀ (q0 : Int32) (q1 : Int32) (q2 : Int32) (q3 : Int32) (q4 : Int32) (q5 : Int32) (q6 : Int32) (X : St), KVa P X → pw (r9 q0 q1 q2 q3 q4 q5 q6 X) (fun _ Y => KVa P Y)) {a1 : Int32} {a4 : Int32} {a5 : Int32} {a6 : Int32} {a7 : Int32} {a8 : Int32} {X : St} (h : KVa P X) : pw (f_asks_144 r9 a1 a4 a5 a6 a7 a8 X) (fun _ Y => KVa P Y) := by
  unfold f_asks_144
  refine pw_ck (fun _ => ?_)
  refine pw_eq (fun x9 _ => ?_)
  refine pw_ite (fun _ => ?_) (fun _ => ?_)
  · exact vkr_asks_166 hr9 h
  · refine pw_bd (vkr_isOn h) (fun x18 X19 dX19 => ?_)
    refine pw_ite (fun _ => ?_) (fun _ => ?_)
    · exact vkr_asks_166 hr9 dX19
    · exact vkr_asks_167 hr9 dX19
theorem vkr_deep {p1 : Int32} {p2 : Int32} {X : St} (h : KVa P X) : pw (f_deep p1 p2 X) (fun _ Y => KVa P Y) := by
  unfold f_deep
  refine pw_ite (fun _ => ?_) (fun _ => ?_)
  · refine pw_ck (fun _ => ?_)
    refine pw_eq (fun x3 _ => ?_)
    refine pw_ite (fun _ => ?_) (fun _ => ?_)
    · exact pw_ret h
    · refine pw_ck (fun _ => ?_)
      refine pw_eq (fun x4 _ => ?_)
      exact pw_ret h
  · refine pw_ite (fun _ => ?_) (fun _ => ?_)
    · refine pw_ite (fun _ => ?_) (fun _ => ?_)
      · exact pw_ret h
      · refine pw_eq (fun x1 _ => ?_)
        refine pw_ck (fun _ => ?_)
        refine pw_eq (fun x2 _ => ?_)
        exact pw_ret h
    · exact pw_ret h
theorem vkr_wraps_39 {a6 : Int32} {X : St} (h : KVa P X) : pw (f_wraps_39 a6 X) (fun _ Y => KVa P Y) := by
  unfold f_wraps_39
  refine pw_bd (vkr_ends h) (fun _ X6 dX6 => ?_)
  exact pw_ret dX6
theorem vkr_wraps_164 {b0 : Int32} {b1 : Int32} {X : St} (h : KVa P X) : pw (f_wraps_164 b0 b1 X) (fun _ Y => KVa P Y) := by
  unfold f_wraps_164
  refine pw_ck (fun _ => ?_)
  refine pw_eq (fun X27 eX27 => ?_)
  have dX27 : KVa P X27 := by rw [eX27]; exact KVa_w h (by omega)
  refine pw_eq (fun x28 _ => ?_)
  refine pw_eq (fun x29 _ => ?_)
  refine pw_eq (fun X30 eX30 => ?_)
  have dX30 : KVa P X30 := by rw [eX30]; exact KVa_w dX27 (by omega)
  refine pw_eq (fun x31 _ => ?_)
  refine pw_eq (fun x32 _ => ?_)
  refine pw_eq (fun X33 eX33 => ?_)
  have dX33 : KVa P X33 := by rw [eX33]; exact KVa_w dX30 (by omega)
  exact pw_ret dX33
theorem vkr_wraps {p1 : Int32} {p2 : Int32} {p3 : Int32} {p4 : Int32} {p5 : Int32} {p6 : Int32} {X : St} (h : KVa P X) : pw (f_wraps p1 p2 p3 p4 p5 p6 X) (fun _ Y => KVa P Y) := by
  unfold f_wraps
  refine pw_ck (fun _ => ?_)
  refine pw_eq (fun x1 _ => ?_)
  refine pw_ck (fun _ => ?_)
  refine pw_eq (fun x2 _ => ?_)
  refine pw_bd (vkr_deep h) (fun x3 X4 dX4 => ?_)
  refine pw_eq (fun x5 _ => ?_)
  refine pw_ite (fun _ => ?_) (fun _ => ?_)
  · exact vkr_wraps_39 dX4
  · refine pw_ite (fun _ => ?_) (fun _ => ?_)
    · exact vkr_wraps_39 dX4
    · refine pw_eq (fun x7 _ => ?_)
      refine pw_ck (fun _ => ?_)
      refine pw_eq (fun X8 eX8 => ?_)
      have dX8 : KVa P X8 := by rw [eX8]; exact KVa_w dX4 (by omega)
      refine pw_eq (fun x9 _ => ?_)
      refine pw_ck (fun _ => ?_)
      refine pw_eq (fun x10 _ => ?_)
      refine pw_ck (fun _ => ?_)
      refine pw_eq (fun X11 eX11 => ?_)
      have dX11 : KVa P X11 := by rw [eX11]; exact KVa_w dX8 (by omega)
      refine pw_eq (fun x12 _ => ?_)
      refine pw_ck (fun _ => ?_)
      refine pw_eq (fun X13 eX13 => ?_)
      have dX13 : KVa P X13 := by rw [eX13]; exact KVa_w dX11 (by omega)
      refine pw_eq (fun x14 _ => ?_)
      refine pw_ck (fun _ => ?_)
      refine pw_eq (fun X15 eX15 => ?_)
      have dX15 : KVa P X15 := by rw [eX15]; exact KVa_w dX13 (by omega)
      refine pw_eq (fun x16 _ => ?_)
      refine pw_ck (fun _ => ?_)
      refine pw_eq (fun X17 eX17 => ?_)
      have dX17 : KVa P X17 := by rw [eX17]; exact KVa_w dX15 (by omega)
      refine pw_eq (fun x18 _ => ?_)
      refine pw_ck (fun _ => ?_)
      refine pw_eq (fun X19 eX19 => ?_)
      have dX19 : KVa P X19 := by rw [eX19]; exact KVa_w dX17 (by omega)
      refine pw_eq (fun x20 _ => ?_)
      refine pw_ck (fun _ => ?_)
      refine pw_eq (fun X21 eX21 => ?_)
      have dX21 : KVa P X21 := by rw [eX21]; exact KVa_w dX19 (by omega)
      refine pw_eq (fun x22 _ => ?_)
      refine pw_eq (fun x23 _ => ?_)
      refine pw_ck (fun _ => ?_)
      refine pw_eq (fun X24 eX24 => ?_)
      have dX24 : KVa P X24 := by rw [eX24]; exact KVa_w dX21 (by omega)
      refine pw_ite (fun _ => ?_) (fun _ => ?_)
      · refine pw_eq (fun x34 _ => ?_)
        exact vkr_wraps_164 dX24
      · refine pw_eq (fun x25 _ => ?_)
        refine pw_eq (fun x26 _ => ?_)
        exact vkr_wraps_164 dX24
theorem vkr_asks_9 (N : Nat) : ∀ (a1 : Int32) (a4 : Int32) (a5 : Int32) (a6 : Int32) (a7 : Int32) (a8 : Int32) (a9 : Int32) (X : St), KVa P X → pw (f_asks_9 N a1 a4 a5 a6 a7 a8 a9 X) (fun _ Y => KVa P Y) := by
  unfold f_asks_9
  refine lp_ind (P := fun (r : Int32 → Int32 → Int32 → Int32 → Int32 → Int32 → Int32 → St → Option (Int32 × St)) => ∀ (a1 : Int32) (a4 : Int32) (a5 : Int32) (a6 : Int32) (a7 : Int32) (a8 : Int32) (a9 : Int32) (X : St), KVa P X → pw (r a1 a4 a5 a6 a7 a8 a9 X) (fun _ Y => KVa P Y)) (fun _ _ _ _ _ _ _ _ _ => pw_none) (fun r ih a1 a4 a5 a6 a7 a8 a9 X h => ?_) N
  unfold f_asks_9_s
  refine pw_ite (fun _ => ?_) (fun _ => ?_)
  · exact pw_ret h
  · refine pw_ite (fun _ => ?_) (fun _ => ?_)
    · exact pw_ret h
    · refine pw_eq (fun x1 _ => ?_)
      refine pw_eq (fun x2 _ => ?_)
      refine pw_ck (fun _ => ?_)
      refine pw_eq (fun x3 _ => ?_)
      refine pw_eq (fun x4 _ => ?_)
      refine pw_ck (fun _ => ?_)
      refine pw_eq (fun X5 eX5 => ?_)
      have dX5 : KVa P X5 := by rw [eX5]; exact KVa_w h (by omega)
      refine pw_ite (fun _ => ?_) (fun _ => ?_)
      · refine pw_ck (fun _ => ?_)
        refine pw_eq (fun x22 _ => ?_)
        refine pw_ite (fun _ => ?_) (fun _ => ?_)
        · exact vkr_asks_60 ih dX5
        · exact vkr_asks_60 ih dX5
      · refine pw_ite (fun _ => ?_) (fun _ => ?_)
        · refine pw_bd (vkr_isOfSort dX5) (fun x7 X8 dX8 => ?_)
          refine pw_ite (fun _ => ?_) (fun _ => ?_)
          · refine pw_eq (fun X20 eX20 => ?_)
            have dX20 : KVa P X20 := by rw [eX20]; exact KVa_w dX8 (by omega)
            refine pw_bd (vkr_ends dX20) (fun _ X21 dX21 => ?_)
            exact vkr_asks_144 ih dX21
          · exact vkr_asks_144 ih dX8
        · refine pw_bd (vkr_wraps dX5) (fun _ X6 dX6 => ?_)
          exact ih _ _ _ _ _ _ _ _ dX6
theorem vkr_asks {p1 : Int32} {p2 : Int32} {p3 : Int32} {p4 : Int32} {p5 : Int32} {p6 : Int32} {X : St} (h : KVa P X) : pw (f_asks p1 p2 p3 p4 p5 p6 X) (fun _ Y => KVa P Y) := by
  unfold f_asks
  exact vkr_asks_9 _ _ _ _ _ _ _ _ _ h
theorem vkr_guarded {p1 : Int32} {p2 : Int32} {p3 : Int32} {X : St} (h : KVa P X) : pw (f_guarded p1 p2 p3 X) (fun _ Y => KVa P Y) := by
  unfold f_guarded
  refine pw_eq (fun x1 _ => ?_)
  refine pw_ite (fun _ => ?_) (fun _ => ?_)
  · refine pw_ite (fun _ => ?_) (fun _ => ?_)
    · exact pw_ret h
    · refine pw_eq (fun x2 _ => ?_)
      refine pw_eq (fun x3 _ => ?_)
      refine pw_ck (fun _ => ?_)
      refine pw_eq (fun x4 _ => ?_)
      refine pw_ite (fun _ => ?_) (fun _ => ?_)
      · exact pw_ret h
      · refine pw_bd (vkr_ends h) (fun _ X5 dX5 => ?_)
        exact pw_ret dX5
  · refine pw_ck (fun _ => ?_)
    refine pw_eq (fun x6 _ => ?_)
    refine pw_ite (fun _ => ?_) (fun _ => ?_)
    · exact pw_ret h
    · refine pw_eq (fun x7 _ => ?_)
      refine pw_eq (fun x8 _ => ?_)
      refine pw_ck (fun _ => ?_)
      refine pw_eq (fun x9 _ => ?_)
      refine pw_ck (fun _ => ?_)
      refine pw_eq (fun x10 _ => ?_)
      refine pw_ck (fun _ => ?_)
      refine pw_eq (fun x11 _ => ?_)
      refine pw_ck (fun _ => ?_)
      refine pw_eq (fun x12 _ => ?_)
      refine pw_ck (fun _ => ?_)
      refine pw_eq (fun x13 _ => ?_)
      refine pw_bd (vkr_asks h) (fun _ X14 dX14 => ?_)
      exact pw_ret dX14
theorem vkr_call_220 {a5 : Int32} {b0 : Int32} {X : St} (h : KVa P X) : pw (f_call_220 a5 b0 X) (fun _ Y => KVa P Y) := by
  unfold f_call_220
  refine pw_eq (fun X16 eX16 => ?_)
  have dX16 : KVa P X16 := by rw [eX16]; exact KVa_w h (by omega)
  refine pw_ck (fun _ => ?_)
  refine pw_eq (fun x17 _ => ?_)
  exact pw_ret dX16
theorem vkr_call_166 {a1 : Int32} {a2 : Int32} {a4 : Int32} {X : St} (h : KVa P X) : pw (f_call_166 a1 a2 a4 X) (fun _ Y => KVa P Y) := by
  unfold f_call_166
  refine pw_bd (vkr_isOn h) (fun x7 X8 dX8 => ?_)
  refine pw_ite (fun _ => ?_) (fun _ => ?_)
  · exact pw_ret dX8
  · refine pw_ck (fun _ => ?_)
    refine pw_eq (fun x9 _ => ?_)
    refine pw_eq (fun x10 _ => ?_)
    refine pw_ck (fun _ => ?_)
    refine pw_eq (fun x11 _ => ?_)
    refine pw_bd (vkr_calls dX8) (fun _ X12 dX12 => ?_)
    refine pw_bd (vkr_isOn dX12) (fun x13 X14 dX14 => ?_)
    refine pw_ite (fun _ => ?_) (fun _ => ?_)
    · refine pw_eq (fun x15 _ => ?_)
      exact vkr_call_220 dX14
    · refine pw_eq (fun x18 _ => ?_)
      refine pw_eq (fun x19 _ => ?_)
      exact vkr_call_220 dX14
theorem vkr_call_128 {r17 : Int32 → Int32 → Int32 → Int32 → St → Option (Int32 × St)} (hr17 : ∀ (q0 : Int32) (q1 : Int32) (q2 : Int32) (q3 : Int32) (X : St), KVa P X → pw (r17 q0 q1 q2 q3 X) (fun _ Y => KVa P Y)) {a1 : Int32} {a2 : Int32} {a3 : Int32} {a4 : Int32} {a5 : Int32} {X : St} (h : KVa P X) : pw (f_call_128 r17 a1 a2 a3 a4 a5 X) (fun _ Y => KVa P Y) := by
  unfold f_call_128
  refine pw_eq (fun x23 _ => ?_)
  refine pw_ck (fun _ => ?_)
  refine pw_eq (fun X24 eX24 => ?_)
  have dX24 : KVa P X24 := by rw [eX24]; exact KVa_w h (by omega)
  refine pw_eq (fun x25 _ => ?_)
  refine pw_eq (fun x26 _ => ?_)
  refine pw_eq (fun X27 eX27 => ?_)
  have dX27 : KVa P X27 := by rw [eX27]; exact KVa_w dX24 (by omega)
  refine pw_ck (fun _ => ?_)
  refine pw_eq (fun x28 _ => ?_)
  refine pw_ck (fun _ => ?_)
  refine pw_eq (fun X29 eX29 => ?_)
  have dX29 : KVa P X29 := by rw [eX29]; exact KVa_w dX27 (by omega)
  exact hr17 _ _ _ _ _ dX29
theorem vkr_call_51 {r17 : Int32 → Int32 → Int32 → Int32 → St → Option (Int32 × St)} (hr17 : ∀ (q0 : Int32) (q1 : Int32) (q2 : Int32) (q3 : Int32) (X : St), KVa P X → pw (r17 q0 q1 q2 q3 X) (fun _ Y => KVa P Y)) (N : Nat) : ∀ (a1 : Int32) (a2 : Int32) (a3 : Int32) (a4 : Int32) (a5 : Int32) (a6 : Int32) (X : St), KVa P X → pw (f_call_51 r17 N a1 a2 a3 a4 a5 a6 X) (fun _ Y => KVa P Y) := by
  unfold f_call_51
  refine lp_ind (P := fun (r : Int32 → Int32 → Int32 → Int32 → Int32 → Int32 → St → Option (Int32 × St)) => ∀ (a1 : Int32) (a2 : Int32) (a3 : Int32) (a4 : Int32) (a5 : Int32) (a6 : Int32) (X : St), KVa P X → pw (r a1 a2 a3 a4 a5 a6 X) (fun _ Y => KVa P Y)) (fun _ _ _ _ _ _ _ _ => pw_none) (fun r ih a1 a2 a3 a4 a5 a6 X h => ?_) N
  unfold f_call_51_s
  refine pw_ite (fun _ => ?_) (fun _ => ?_)
  · exact vkr_call_128 hr17 h
  · refine pw_bd (vkr_isOn h) (fun x30 X31 dX31 => ?_)
    refine pw_ite (fun _ => ?_) (fun _ => ?_)
    · exact vkr_call_128 hr17 dX31
    · refine pw_eq (fun x32 _ => ?_)
      refine pw_eq (fun x33 _ => ?_)
      refine pw_ck (fun _ => ?_)
      refine pw_eq (fun x34 _ => ?_)
      refine pw_bd (vkr_paramOf dX31) (fun x35 X36 dX36 => ?_)
      refine pw_ck (fun _ => ?_)
      refine pw_eq (fun x37 _ => ?_)
      refine pw_bd (vkr_paramOf dX36) (fun x38 X39 dX39 => ?_)
      refine pw_ck (fun _ => ?_)
      refine pw_eq (fun x40 _ => ?_)
      refine pw_ck (fun _ => ?_)
      refine pw_eq (fun x41 _ => ?_)
      refine pw_ck (fun _ => ?_)
      refine pw_eq (fun x42 _ => ?_)
      refine pw_bd (vkr_asks dX39) (fun _ X43 dX43 => ?_)
      refine pw_eq (fun x44 _ => ?_)
      exact ih _ _ _ _ _ _ _ dX43
theorem vkr_call_17 (N : Nat) : ∀ (a1 : Int32) (a2 : Int32) (a3 : Int32) (a4 : Int32) (X : St), KVa P X → pw (f_call_17 N a1 a2 a3 a4 X) (fun _ Y => KVa P Y) := by
  unfold f_call_17
  refine lp_ind (P := fun (r : Int32 → Int32 → Int32 → Int32 → St → Option (Int32 × St)) => ∀ (a1 : Int32) (a2 : Int32) (a3 : Int32) (a4 : Int32) (X : St), KVa P X → pw (r a1 a2 a3 a4 X) (fun _ Y => KVa P Y)) (fun _ _ _ _ _ _ => pw_none) (fun r ih a1 a2 a3 a4 X h => ?_) N
  unfold f_call_17_s
  refine pw_bd (vkr_isOn h) (fun x5 X6 dX6 => ?_)
  refine pw_ite (fun _ => ?_) (fun _ => ?_)
  · exact vkr_call_166 dX6
  · refine pw_ck (fun _ => ?_)
    refine pw_eq (fun x20 _ => ?_)
    refine pw_ite (fun _ => ?_) (fun _ => ?_)
    · exact vkr_call_166 dX6
    · refine pw_ck (fun _ => ?_)
      refine pw_eq (fun x21 _ => ?_)
      refine pw_eq (fun x22 _ => ?_)
      exact vkr_call_51 ih _ _ _ _ _ _ _ _ dX6
theorem vkr_call {p1 : Int32} {p2 : Int32} {X : St} (h : KVa P X) : pw (f_call p1 p2 X) (fun _ Y => KVa P Y) := by
  unfold f_call
  refine pw_ck (fun _ => ?_)
  refine pw_eq (fun x1 _ => ?_)
  refine pw_eq (fun x2 _ => ?_)
  refine pw_eq (fun x3 _ => ?_)
  refine pw_eq (fun x4 _ => ?_)
  exact vkr_call_17 _ _ _ _ _ _ h
theorem vkr_goesBack_43 (N : Nat) : ∀ (a1 : Int32) (X : St), KVa P X → pw (f_goesBack_43 N a1 X) (fun _ Y => KVa P Y) := by
  unfold f_goesBack_43
  refine lp_ind (P := fun (r : Int32 → St → Option (Int32 × St)) => ∀ (a1 : Int32) (X : St), KVa P X → pw (r a1 X) (fun _ Y => KVa P Y)) (fun _ _ _ => pw_none) (fun r ih a1 X h => ?_) N
  unfold f_goesBack_43_s
  refine pw_bd (vkr_isOn h) (fun x12 X13 dX13 => ?_)
  refine pw_ite (fun _ => ?_) (fun _ => ?_)
  · exact pw_ret dX13
  · refine pw_eq (fun x14 _ => ?_)
    refine pw_ite (fun _ => ?_) (fun _ => ?_)
    · exact pw_ret dX13
    · refine pw_eq (fun x15 _ => ?_)
      refine pw_eq (fun x16 _ => ?_)
      refine pw_ck (fun _ => ?_)
      refine pw_eq (fun x17 _ => ?_)
      refine pw_ite (fun _ => ?_) (fun _ => ?_)
      · exact pw_ret dX13
      · refine pw_eq (fun x18 _ => ?_)
        refine pw_eq (fun x19 _ => ?_)
        refine pw_eq (fun X20 eX20 => ?_)
        have dX20 : KVa P X20 := by rw [eX20]; exact KVa_w dX13 (by omega)
        refine pw_eq (fun x21 _ => ?_)
        refine pw_ck (fun _ => ?_)
        refine pw_eq (fun x22 _ => ?_)
        refine pw_eq (fun x23 _ => ?_)
        refine pw_eq (fun x24 _ => ?_)
        refine pw_ck (fun _ => ?_)
        refine pw_eq (fun x25 _ => ?_)
        refine pw_bd (vkr_resultOf dX20) (fun x26 X27 dX27 => ?_)
        refine pw_ck (fun _ => ?_)
        refine pw_eq (fun x28 _ => ?_)
        refine pw_bd (vkr_resultOf dX27) (fun x29 X30 dX30 => ?_)
        refine pw_ck (fun _ => ?_)
        refine pw_eq (fun x31 _ => ?_)
        refine pw_ck (fun _ => ?_)
        refine pw_eq (fun x32 _ => ?_)
        refine pw_ck (fun _ => ?_)
        refine pw_eq (fun x33 _ => ?_)
        refine pw_bd (vkr_asks dX30) (fun _ X34 dX34 => ?_)
        exact ih _ _ dX34
theorem vkr_goesBack {X : St} (h : KVa P X) : pw (f_goesBack X) (fun _ Y => KVa P Y) := by
  unfold f_goesBack
  refine pw_eq (fun x1 _ => ?_)
  refine pw_eq (fun x2 _ => ?_)
  refine pw_eq (fun X3 eX3 => ?_)
  have dX3 : KVa P X3 := by rw [eX3]; exact KVa_w h (by omega)
  refine pw_eq (fun x4 _ => ?_)
  refine pw_ck (fun _ => ?_)
  refine pw_eq (fun x5 _ => ?_)
  refine pw_eq (fun x6 _ => ?_)
  refine pw_ck (fun _ => ?_)
  refine pw_eq (fun x7 _ => ?_)
  refine pw_eq (fun X8 eX8 => ?_)
  have dX8 : KVa P X8 := by rw [eX8]; exact KVa_w dX3 (by omega)
  refine pw_eq (fun x9 _ => ?_)
  refine pw_eq (fun x10 _ => ?_)
  refine pw_eq (fun X11 eX11 => ?_)
  have dX11 : KVa P X11 := by rw [eX11]; exact KVa_w dX8 (by omega)
  exact vkr_goesBack_43 _ _ _ dX11
theorem vkr_row_22 {a2 : Int32} {X : St} (h : KVa P X) : pw (f_row_22 a2 X) (fun _ Y => KVa P Y) := by
  unfold f_row_22
  refine pw_bd (vkr_ends h) (fun _ X3 dX3 => ?_)
  exact pw_ret dX3
theorem vkr_row {p1 : Int32} {p2 : Int32} {X : St} (h : KVa P X) : pw (f_row p1 p2 X) (fun _ Y => KVa P Y) := by
  unfold f_row
  refine pw_eq (fun x1 _ => ?_)
  refine pw_eq (fun x2 _ => ?_)
  refine pw_ite (fun _ => ?_) (fun _ => ?_)
  · exact vkr_row_22 h
  · refine pw_eq (fun x4 _ => ?_)
    refine pw_ite (fun _ => ?_) (fun _ => ?_)
    · exact vkr_row_22 h
    · refine pw_eq (fun x5 _ => ?_)
      refine pw_ck (fun _ => ?_)
      refine pw_eq (fun X6 eX6 => ?_)
      have dX6 : KVa P X6 := by rw [eX6]; exact KVa_w h (by omega)
      refine pw_eq (fun x7 _ => ?_)
      refine pw_eq (fun x8 _ => ?_)
      refine pw_ck (fun _ => ?_)
      refine pw_eq (fun X9 eX9 => ?_)
      have dX9 : KVa P X9 := by rw [eX9]; exact KVa_w dX6 (by omega)
      refine pw_eq (fun x10 _ => ?_)
      refine pw_ck (fun _ => ?_)
      refine pw_eq (fun X11 eX11 => ?_)
      have dX11 : KVa P X11 := by rw [eX11]; exact KVa_w dX9 (by omega)
      refine pw_eq (fun x12 _ => ?_)
      refine pw_eq (fun x13 _ => ?_)
      refine pw_eq (fun X14 eX14 => ?_)
      have dX14 : KVa P X14 := by rw [eX14]; exact KVa_w dX11 (by omega)
      refine pw_eq (fun x15 _ => ?_)
      refine pw_eq (fun x16 _ => ?_)
      refine pw_eq (fun X17 eX17 => ?_)
      have dX17 : KVa P X17 := by rw [eX17]; exact KVa_w dX14 (by omega)
      refine pw_eq (fun x18 _ => ?_)
      refine pw_eq (fun x19 _ => ?_)
      refine pw_eq (fun X20 eX20 => ?_)
      have dX20 : KVa P X20 := by rw [eX20]; exact KVa_w dX17 (by omega)
      refine pw_eq (fun x21 _ => ?_)
      refine pw_eq (fun x22 _ => ?_)
      exact pw_ret dX20
theorem vkr_works_98 (N : Nat) : ∀ (a2 : Int32) (a3 : Int32) (a4 : Int32) (X : St), KVa P X → pw (f_works_98 N a2 a3 a4 X) (fun _ Y => KVa P Y) := by
  unfold f_works_98
  refine lp_ind (P := fun (r : Int32 → Int32 → Int32 → St → Option (Int32 × St)) => ∀ (a2 : Int32) (a3 : Int32) (a4 : Int32) (X : St), KVa P X → pw (r a2 a3 a4 X) (fun _ Y => KVa P Y)) (fun _ _ _ _ _ => pw_none) (fun r ih a2 a3 a4 X h => ?_) N
  unfold f_works_98_s
  refine pw_ck (fun _ => ?_)
  refine pw_eq (fun x12 _ => ?_)
  refine pw_ite (fun _ => ?_) (fun _ => ?_)
  · refine pw_bd (vkr_value h) (fun _ X13 dX13 => ?_)
    exact pw_ret dX13
  · refine pw_ck (fun _ => ?_)
    refine pw_eq (fun x14 _ => ?_)
    refine pw_eq (fun x15 _ => ?_)
    refine pw_eq (fun x16 _ => ?_)
    refine pw_eq (fun x17 _ => ?_)
    refine pw_ck (fun _ => ?_)
    refine pw_eq (fun x18 _ => ?_)
    refine pw_ck (fun _ => ?_)
    refine pw_eq (fun X19 eX19 => ?_)
    have dX19 : KVa P X19 := by rw [eX19]; exact KVa_w h (by omega)
    refine pw_ck (fun _ => ?_)
    refine pw_eq (fun x20 _ => ?_)
    refine pw_eq (fun x21 _ => ?_)
    refine pw_eq (fun x22 _ => ?_)
    refine pw_eq (fun x23 _ => ?_)
    refine pw_ck (fun _ => ?_)
    refine pw_eq (fun x24 _ => ?_)
    refine pw_ck (fun _ => ?_)
    refine pw_eq (fun X25 eX25 => ?_)
    have dX25 : KVa P X25 := by rw [eX25]; exact KVa_w dX19 (by omega)
    refine pw_eq (fun x26 _ => ?_)
    exact ih _ _ _ _ dX25
theorem vkr_makes_58 (N : Nat) : ∀ (a2 : Int32) (a3 : Int32) (a4 : Int32) (X : St), KVa P X → pw (f_makes_58 N a2 a3 a4 X) (fun _ Y => KVa P Y) := by
  unfold f_makes_58
  refine lp_ind (P := fun (r : Int32 → Int32 → Int32 → St → Option (Int32 × St)) => ∀ (a2 : Int32) (a3 : Int32) (a4 : Int32) (X : St), KVa P X → pw (r a2 a3 a4 X) (fun _ Y => KVa P Y)) (fun _ _ _ _ _ => pw_none) (fun r ih a2 a3 a4 X h => ?_) N
  unfold f_makes_58_s
  refine pw_ite (fun _ => ?_) (fun _ => ?_)
  · refine pw_eq (fun x11 _ => ?_)
    refine pw_eq (fun x12 _ => ?_)
    refine pw_eq (fun X13 eX13 => ?_)
    have dX13 : KVa P X13 := by rw [eX13]; exact KVa_w h (by omega)
    refine pw_bd (vkr_value dX13) (fun _ X14 dX14 => ?_)
    exact pw_ret dX14
  · refine pw_ck (fun _ => ?_)
    refine pw_eq (fun x15 _ => ?_)
    refine pw_eq (fun x16 _ => ?_)
    refine pw_eq (fun x17 _ => ?_)
    refine pw_eq (fun x18 _ => ?_)
    refine pw_ck (fun _ => ?_)
    refine pw_eq (fun x19 _ => ?_)
    refine pw_ck (fun _ => ?_)
    refine pw_eq (fun X20 eX20 => ?_)
    have dX20 : KVa P X20 := by rw [eX20]; exact KVa_w h (by omega)
    refine pw_ck (fun _ => ?_)
    refine pw_eq (fun x21 _ => ?_)
    refine pw_eq (fun x22 _ => ?_)
    refine pw_eq (fun x23 _ => ?_)
    refine pw_eq (fun x24 _ => ?_)
    refine pw_ck (fun _ => ?_)
    refine pw_eq (fun x25 _ => ?_)
    refine pw_ck (fun _ => ?_)
    refine pw_eq (fun X26 eX26 => ?_)
    have dX26 : KVa P X26 := by rw [eX26]; exact KVa_w dX20 (by omega)
    refine pw_eq (fun x27 _ => ?_)
    exact ih _ _ _ _ dX26
theorem vkr_makes {p1 : Int32} {X : St} (h : KVa P X) : pw (f_makes p1 X) (fun _ Y => KVa P Y) := by
  unfold f_makes
  refine pw_eq (fun x1 _ => ?_)
  refine pw_eq (fun x2 _ => ?_)
  refine pw_ck (fun _ => ?_)
  refine pw_eq (fun x3 _ => ?_)
  refine pw_bd (vkr_in h) (fun x4 X5 dX5 => ?_)
  refine pw_ite (fun _ => ?_) (fun _ => ?_)
  · refine pw_ck (fun _ => ?_)
    refine pw_eq (fun x28 _ => ?_)
    refine pw_bd (vkr_ends dX5) (fun _ X29 dX29 => ?_)
    exact pw_ret dX29
  · refine pw_ck (fun _ => ?_)
    refine pw_eq (fun x6 _ => ?_)
    refine pw_bd (vkr_row dX5) (fun x7 X8 dX8 => ?_)
    refine pw_bd (vkr_isOn dX8) (fun x9 X10 dX10 => ?_)
    refine pw_ite (fun _ => ?_) (fun _ => ?_)
    · exact pw_ret dX10
    · exact vkr_makes_58 _ _ _ _ _ dX10
theorem vkr_sums_70 {a1 : Int32} {a2 : Int32} {a3 : Int32} {X : St} (h : KVa P X) : pw (f_sums_70 a1 a2 a3 X) (fun _ Y => KVa P Y) := by
  unfold f_sums_70
  refine pw_ck (fun _ => ?_)
  refine pw_eq (fun x10 _ => ?_)
  refine pw_ite (fun _ => ?_) (fun _ => ?_)
  · refine pw_eq (fun x12 _ => ?_)
    refine pw_bd (vkr_value h) (fun _ X13 dX13 => ?_)
    exact pw_ret dX13
  · refine pw_ite (fun _ => ?_) (fun _ => ?_)
    · refine pw_eq (fun x15 _ => ?_)
      refine pw_bd (vkr_value h) (fun _ X16 dX16 => ?_)
      exact pw_ret dX16
    · refine pw_ite (fun _ => ?_) (fun _ => ?_)
      · refine pw_eq (fun x18 _ => ?_)
        refine pw_bd (vkr_value h) (fun _ X19 dX19 => ?_)
        exact pw_ret dX19
      · refine pw_ite (fun _ => ?_) (fun _ => ?_)
        · refine pw_ck (fun _ => ?_)
          refine pw_eq (fun x21 _ => ?_)
          refine pw_bd (vkr_value h) (fun _ X23 dX23 => ?_)
          exact pw_ret dX23
        · refine pw_ck (fun _ => ?_)
          refine pw_eq (fun x24 _ => ?_)
          refine pw_bd (vkr_value h) (fun _ X26 dX26 => ?_)
          exact pw_ret dX26
theorem vkr_sums_54 {a1 : Int32} {a2 : Int32} {a3 : Int32} {X : St} (h : KVa P X) : pw (f_sums_54 a1 a2 a3 X) (fun _ Y => KVa P Y) := by
  unfold f_sums_54
  refine pw_ite (fun _ => ?_) (fun _ => ?_)
  · refine pw_ck (fun _ => ?_)
    refine pw_eq (fun x27 _ => ?_)
    refine pw_bd (vkr_ends h) (fun _ X28 dX28 => ?_)
    exact pw_ret dX28
  · exact vkr_sums_70 h
theorem vkr_sums {p1 : Int32} {X : St} (h : KVa P X) : pw (f_sums p1 X) (fun _ Y => KVa P Y) := by
  unfold f_sums
  refine pw_eq (fun x1 _ => ?_)
  refine pw_eq (fun x2 _ => ?_)
  refine pw_eq (fun X3 eX3 => ?_)
  have dX3 : KVa P X3 := by rw [eX3]; exact KVa_w h (by omega)
  refine pw_eq (fun x4 _ => ?_)
  refine pw_ck (fun _ => ?_)
  refine pw_eq (fun x5 _ => ?_)
  refine pw_eq (fun x6 _ => ?_)
  refine pw_eq (fun x7 _ => ?_)
  refine pw_ck (fun _ => ?_)
  refine pw_eq (fun x8 _ => ?_)
  refine pw_ck (fun _ => ?_)
  refine pw_eq (fun x9 _ => ?_)
  refine pw_ite (fun _ => ?_) (fun _ => ?_)
  · exact vkr_sums_54 dX3
  · refine pw_ck (fun _ => ?_)
    refine pw_eq (fun x29 _ => ?_)
    refine pw_ite (fun _ => ?_) (fun _ => ?_)
    · exact vkr_sums_54 dX3
    · exact vkr_sums_70 dX3
theorem vkr_works_432 {b0 : Int32} {b1 : Int32} {X : St} (h : KVa P X) : pw (f_works_432 b0 b1 X) (fun _ Y => KVa P Y) := by
  unfold f_works_432
  refine pw_bd (vkr_value h) (fun _ X79 dX79 => ?_)
  exact pw_ret dX79
theorem vkr_works_420 {b0 : Int32} {X : St} (h : KVa P X) : pw (f_works_420 b0 X) (fun _ Y => KVa P Y) := by
  unfold f_works_420
  refine pw_ite (fun _ => ?_) (fun _ => ?_)
  · exact vkr_works_432 h
  · exact vkr_works_432 h
theorem vkr_aroundOf_4 (N : Nat) : ∀ (a2 : Int32) (a3 : Int32) (X : St), KVa P X → pw (f_aroundOf_4 N a2 a3 X) (fun _ Y => KVa P Y) := by
  unfold f_aroundOf_4
  refine lp_ind (P := fun (r : Int32 → Int32 → St → Option (Int32 × St)) => ∀ (a2 : Int32) (a3 : Int32) (X : St), KVa P X → pw (r a2 a3 X) (fun _ Y => KVa P Y)) (fun _ _ _ _ => pw_none) (fun r ih a2 a3 X h => ?_) N
  unfold f_aroundOf_4_s
  refine pw_ck (fun _ => ?_)
  refine pw_eq (fun x1 _ => ?_)
  refine pw_ite (fun _ => ?_) (fun _ => ?_)
  · exact pw_ret h
  · refine pw_ck (fun _ => ?_)
    refine pw_eq (fun X2 eX2 => ?_)
    have dX2 : KVa P X2 := by rw [eX2]; exact KVa_w h (by omega)
    refine pw_eq (fun x3 _ => ?_)
    refine pw_ck (fun _ => ?_)
    refine pw_eq (fun x4 _ => ?_)
    exact ih _ _ _ dX2
theorem vkr_aroundOf {p1 : Int32} {X : St} (h : KVa P X) : pw (f_aroundOf p1 X) (fun _ Y => KVa P Y) := by
  unfold f_aroundOf
  exact vkr_aroundOf_4 _ _ _ _ h
theorem vkr_readsPlace_126 (N : Nat) : ∀ (a2 : Int32) (a6 : Int32) (X : St), KVa P X → pw (f_readsPlace_126 N a2 a6 X) (fun _ Y => KVa P Y) := by
  unfold f_readsPlace_126
  refine lp_ind (P := fun (r : Int32 → Int32 → St → Option (Int32 × St)) => ∀ (a2 : Int32) (a6 : Int32) (X : St), KVa P X → pw (r a2 a6 X) (fun _ Y => KVa P Y)) (fun _ _ _ _ => pw_none) (fun r ih a2 a6 X h => ?_) N
  unfold f_readsPlace_126_s
  refine pw_ite (fun _ => ?_) (fun _ => ?_)
  · exact pw_ret h
  · refine pw_bd (vkr_isOn h) (fun x27 X28 dX28 => ?_)
    refine pw_ite (fun _ => ?_) (fun _ => ?_)
    · exact pw_ret dX28
    · refine pw_ck (fun _ => ?_)
      refine pw_eq (fun x29 _ => ?_)
      refine pw_ck (fun _ => ?_)
      refine pw_eq (fun x30 _ => ?_)
      refine pw_bd (vkr_elementOf dX28) (fun x31 X32 dX32 => ?_)
      refine pw_ck (fun _ => ?_)
      refine pw_eq (fun x33 _ => ?_)
      refine pw_bd (vkr_elementOf dX32) (fun x34 X35 dX35 => ?_)
      refine pw_ck (fun _ => ?_)
      refine pw_eq (fun x36 _ => ?_)
      refine pw_ck (fun _ => ?_)
      refine pw_eq (fun x37 _ => ?_)
      refine pw_ck (fun _ => ?_)
      refine pw_eq (fun x38 _ => ?_)
      refine pw_bd (vkr_asks dX35) (fun _ X39 dX39 => ?_)
      refine pw_eq (fun x40 _ => ?_)
      exact ih _ _ _ dX39
theorem vkr_readsPlace {p1 : Int32} {X : St} (h : KVa P X) : pw (f_readsPlace p1 X) (fun _ Y => KVa P Y) := by
  unfold f_readsPlace
  refine pw_eq (fun x1 _ => ?_)
  refine pw_eq (fun x2 _ => ?_)
  refine pw_ck (fun _ => ?_)
  refine pw_eq (fun x3 _ => ?_)
  refine pw_bd (vkr_within h) (fun x4 X5 dX5 => ?_)
  refine pw_eq (fun x6 _ => ?_)
  refine pw_eq (fun x7 _ => ?_)
  refine pw_ck (fun _ => ?_)
  refine pw_eq (fun x8 _ => ?_)
  refine pw_ck (fun _ => ?_)
  refine pw_eq (fun x9 _ => ?_)
  refine pw_eq (fun x10 _ => ?_)
  refine pw_bd (vkr_in dX5) (fun x11 X12 dX12 => ?_)
  refine pw_ite (fun _ => ?_) (fun _ => ?_)
  · refine pw_ck (fun _ => ?_)
    refine pw_eq (fun x41 _ => ?_)
    refine pw_bd (vkr_ends dX12) (fun _ X42 dX42 => ?_)
    exact pw_ret dX42
  · refine pw_eq (fun x13 _ => ?_)
    refine pw_eq (fun x14 _ => ?_)
    refine pw_eq (fun X15 eX15 => ?_)
    have dX15 : KVa P X15 := by rw [eX15]; exact KVa_w dX12 (by omega)
    refine pw_ck (fun _ => ?_)
    refine pw_eq (fun x16 _ => ?_)
    refine pw_eq (fun x17 _ => ?_)
    refine pw_ck (fun _ => ?_)
    refine pw_eq (fun x18 _ => ?_)
    refine pw_ck (fun _ => ?_)
    refine pw_eq (fun X19 eX19 => ?_)
    have dX19 : KVa P X19 := by rw [eX19]; exact KVa_w dX15 (by omega)
    refine pw_ck (fun _ => ?_)
    refine pw_eq (fun x20 _ => ?_)
    refine pw_eq (fun x21 _ => ?_)
    refine pw_ck (fun _ => ?_)
    refine pw_eq (fun x22 _ => ?_)
    refine pw_ck (fun _ => ?_)
    refine pw_eq (fun X23 eX23 => ?_)
    have dX23 : KVa P X23 := by rw [eX23]; exact KVa_w dX19 (by omega)
    refine pw_bd (vkr_aroundOf dX23) (fun x24 X25 dX25 => ?_)
    refine pw_eq (fun x26 _ => ?_)
    exact vkr_readsPlace_126 _ _ _ _ dX25
theorem vkr_writes_242 {a2 : Int32} {a6 : Int32} {a7 : Int32} {X : St} (h : KVa P X) : pw (f_writes_242 a2 a6 a7 X) (fun _ Y => KVa P Y) := by
  unfold f_writes_242
  refine pw_eq (fun X23 eX23 => ?_)
  have dX23 : KVa P X23 := by rw [eX23]; exact KVa_w h (by omega)
  refine pw_bd (vkr_value dX23) (fun _ X24 dX24 => ?_)
  exact pw_ret dX24
theorem vkr_writes_183 {a2 : Int32} {a4 : Int32} {a5 : Int32} {a6 : Int32} {a7 : Int32} {X : St} (h : KVa P X) : pw (f_writes_183 a2 a4 a5 a6 a7 X) (fun _ Y => KVa P Y) := by
  unfold f_writes_183
  refine pw_bd (vkr_isOn h) (fun x21 X22 dX22 => ?_)
  refine pw_ite (fun _ => ?_) (fun _ => ?_)
  · exact vkr_writes_242 dX22
  · refine pw_ck (fun _ => ?_)
    refine pw_eq (fun x25 _ => ?_)
    refine pw_eq (fun x26 _ => ?_)
    refine pw_eq (fun x27 _ => ?_)
    refine pw_eq (fun x28 _ => ?_)
    refine pw_ck (fun _ => ?_)
    refine pw_eq (fun x29 _ => ?_)
    refine pw_ck (fun _ => ?_)
    refine pw_eq (fun X30 eX30 => ?_)
    have dX30 : KVa P X30 := by rw [eX30]; exact KVa_w dX22 (by omega)
    refine pw_ck (fun _ => ?_)
    refine pw_eq (fun x31 _ => ?_)
    refine pw_eq (fun x32 _ => ?_)
    refine pw_eq (fun x33 _ => ?_)
    refine pw_eq (fun x34 _ => ?_)
    refine pw_ck (fun _ => ?_)
    refine pw_eq (fun x35 _ => ?_)
    refine pw_ck (fun _ => ?_)
    refine pw_eq (fun X36 eX36 => ?_)
    have dX36 : KVa P X36 := by rw [eX36]; exact KVa_w dX30 (by omega)
    exact vkr_writes_242 dX36
theorem vkr_writes_101 (N : Nat) : ∀ (a2 : Int32) (a4 : Int32) (a5 : Int32) (a6 : Int32) (a7 : Int32) (a8 : Int32) (a9 : Int32) (X : St), KVa P X → pw (f_writes_101 N a2 a4 a5 a6 a7 a8 a9 X) (fun _ Y => KVa P Y) := by
  unfold f_writes_101
  refine lp_ind (P := fun (r : Int32 → Int32 → Int32 → Int32 → Int32 → Int32 → Int32 → St → Option (Int32 × St)) => ∀ (a2 : Int32) (a4 : Int32) (a5 : Int32) (a6 : Int32) (a7 : Int32) (a8 : Int32) (a9 : Int32) (X : St), KVa P X → pw (r a2 a4 a5 a6 a7 a8 a9 X) (fun _ Y => KVa P Y)) (fun _ _ _ _ _ _ _ _ _ => pw_none) (fun r ih a2 a4 a5 a6 a7 a8 a9 X h => ?_) N
  unfold f_writes_101_s
  refine pw_ite (fun _ => ?_) (fun _ => ?_)
  · exact vkr_writes_183 h
  · refine pw_bd (vkr_isOn h) (fun x37 X38 dX38 => ?_)
    refine pw_ite (fun _ => ?_) (fun _ => ?_)
    · exact vkr_writes_183 dX38
    · refine pw_ck (fun _ => ?_)
      refine pw_eq (fun x39 _ => ?_)
      refine pw_eq (fun x40 _ => ?_)
      refine pw_eq (fun x41 _ => ?_)
      refine pw_ck (fun _ => ?_)
      refine pw_eq (fun x42 _ => ?_)
      refine pw_bd (vkr_elementOf dX38) (fun x43 X44 dX44 => ?_)
      refine pw_ck (fun _ => ?_)
      refine pw_eq (fun x45 _ => ?_)
      refine pw_bd (vkr_elementOf dX44) (fun x46 X47 dX47 => ?_)
      refine pw_ck (fun _ => ?_)
      refine pw_eq (fun x48 _ => ?_)
      refine pw_ck (fun _ => ?_)
      refine pw_eq (fun x49 _ => ?_)
      refine pw_ck (fun _ => ?_)
      refine pw_eq (fun x50 _ => ?_)
      refine pw_bd (vkr_asks dX47) (fun _ X51 dX51 => ?_)
      refine pw_eq (fun x52 _ => ?_)
      exact ih _ _ _ _ _ _ _ _ dX51
theorem vkr_writes {p1 : Int32} {X : St} (h : KVa P X) : pw (f_writes p1 X) (fun _ Y => KVa P Y) := by
  unfold f_writes
  refine pw_eq (fun x1 _ => ?_)
  refine pw_eq (fun x2 _ => ?_)
  refine pw_ck (fun _ => ?_)
  refine pw_eq (fun x3 _ => ?_)
  refine pw_bd (vkr_within h) (fun x4 X5 dX5 => ?_)
  refine pw_eq (fun x6 _ => ?_)
  refine pw_eq (fun x7 _ => ?_)
  refine pw_ck (fun _ => ?_)
  refine pw_eq (fun x8 _ => ?_)
  refine pw_ck (fun _ => ?_)
  refine pw_eq (fun x9 _ => ?_)
  refine pw_eq (fun x10 _ => ?_)
  refine pw_bd (vkr_in dX5) (fun x11 X12 dX12 => ?_)
  refine pw_ite (fun _ => ?_) (fun _ => ?_)
  · refine pw_ck (fun _ => ?_)
    refine pw_eq (fun x53 _ => ?_)
    refine pw_bd (vkr_ends dX12) (fun _ X54 dX54 => ?_)
    exact pw_ret dX54
  · refine pw_eq (fun x13 _ => ?_)
    refine pw_eq (fun x14 _ => ?_)
    refine pw_ck (fun _ => ?_)
    refine pw_eq (fun x15 _ => ?_)
    refine pw_eq (fun x16 _ => ?_)
    refine pw_eq (fun x17 _ => ?_)
    refine pw_ck (fun _ => ?_)
    refine pw_eq (fun x18 _ => ?_)
    refine pw_bd (vkr_aroundOf dX12) (fun x19 X20 dX20 => ?_)
    exact vkr_writes_101 _ _ _ _ _ _ _ _ _ dX20
theorem vkr_works {p1 : Int32} {p2 : Int32} {X : St} (h : KVa P X) : pw (f_works p1 p2 X) (fun _ Y => KVa P Y) := by
  unfold f_works
  refine pw_ite (fun _ => ?_) (fun _ => ?_)
  · refine pw_ck (fun _ => ?_)
    refine pw_eq (fun x2 _ => ?_)
    refine pw_ck (fun _ => ?_)
    refine pw_eq (fun x3 _ => ?_)
    refine pw_bd (vkr_row h) (fun x4 X5 dX5 => ?_)
    refine pw_bd (vkr_isOn dX5) (fun x6 X7 dX7 => ?_)
    refine pw_ite (fun _ => ?_) (fun _ => ?_)
    · exact pw_ret dX7
    · refine pw_eq (fun x8 _ => ?_)
      refine pw_ck (fun _ => ?_)
      refine pw_eq (fun x9 _ => ?_)
      refine pw_eq (fun x10 _ => ?_)
      refine pw_eq (fun X11 eX11 => ?_)
      have dX11 : KVa P X11 := by rw [eX11]; exact KVa_w dX7 (by omega)
      exact vkr_works_98 _ _ _ _ _ dX11
  · refine pw_ite (fun _ => ?_) (fun _ => ?_)
    · refine pw_bd (vkr_makes h) (fun _ X28 dX28 => ?_)
      exact pw_ret dX28
    · refine pw_ite (fun _ => ?_) (fun _ => ?_)
      · refine pw_eq (fun x30 _ => ?_)
        refine pw_eq (fun x31 _ => ?_)
        refine pw_eq (fun X32 eX32 => ?_)
        have dX32 : KVa P X32 := by rw [eX32]; exact KVa_w h (by omega)
        refine pw_eq (fun x33 _ => ?_)
        refine pw_ck (fun _ => ?_)
        refine pw_eq (fun x34 _ => ?_)
        refine pw_bd (vkr_within dX32) (fun x35 X36 dX36 => ?_)
        refine pw_ck (fun _ => ?_)
        refine pw_eq (fun x37 _ => ?_)
        refine pw_bd (vkr_value dX36) (fun _ X38 dX38 => ?_)
        exact pw_ret dX38
      · refine pw_ite (fun _ => ?_) (fun _ => ?_)
        · refine pw_eq (fun x40 _ => ?_)
          refine pw_ite (fun _ => ?_) (fun _ => ?_)
          · refine pw_ck (fun _ => ?_)
            refine pw_eq (fun x49 _ => ?_)
            refine pw_bd (vkr_ends h) (fun _ X50 dX50 => ?_)
            exact pw_ret dX50
          · refine pw_eq (fun x41 _ => ?_)
            refine pw_eq (fun x42 _ => ?_)
            refine pw_eq (fun x43 _ => ?_)
            refine pw_ck (fun _ => ?_)
            refine pw_eq (fun x44 _ => ?_)
            refine pw_ck (fun _ => ?_)
            refine pw_eq (fun X45 eX45 => ?_)
            have dX45 : KVa P X45 := by rw [eX45]; exact KVa_w h (by omega)
            refine pw_eq (fun x46 _ => ?_)
            refine pw_eq (fun x47 _ => ?_)
            refine pw_eq (fun X48 eX48 => ?_)
            have dX48 : KVa P X48 := by rw [eX48]; exact KVa_w dX45 (by omega)
            exact pw_ret dX48
        · refine pw_ite (fun _ => ?_) (fun _ => ?_)
          · refine pw_eq (fun x52 _ => ?_)
            refine pw_eq (fun x53 _ => ?_)
            refine pw_eq (fun x54 _ => ?_)
            refine pw_eq (fun x55 _ => ?_)
            refine pw_ck (fun _ => ?_)
            refine pw_eq (fun x56 _ => ?_)
            refine pw_eq (fun x57 _ => ?_)
            refine pw_ck (fun _ => ?_)
            refine pw_eq (fun X58 eX58 => ?_)
            have dX58 : KVa P X58 := by rw [eX58]; exact KVa_w h (by omega)
            exact pw_ret dX58
          · refine pw_ite (fun _ => ?_) (fun _ => ?_)
            · refine pw_eq (fun x60 _ => ?_)
              refine pw_eq (fun x61 _ => ?_)
              refine pw_eq (fun x62 _ => ?_)
              refine pw_eq (fun x63 _ => ?_)
              refine pw_ck (fun _ => ?_)
              refine pw_eq (fun x64 _ => ?_)
              refine pw_eq (fun x65 _ => ?_)
              refine pw_ck (fun _ => ?_)
              refine pw_eq (fun X66 eX66 => ?_)
              have dX66 : KVa P X66 := by rw [eX66]; exact KVa_w h (by omega)
              exact pw_ret dX66
            · refine pw_ite (fun _ => ?_) (fun _ => ?_)
              · refine pw_bd (vkr_sums h) (fun _ X68 dX68 => ?_)
                exact pw_ret dX68
              · refine pw_ite (fun _ => ?_) (fun _ => ?_)
                · refine pw_eq (fun x70 _ => ?_)
                  refine pw_eq (fun x71 _ => ?_)
                  refine pw_eq (fun X72 eX72 => ?_)
                  have dX72 : KVa P X72 := by rw [eX72]; exact KVa_w h (by omega)
                  refine pw_ck (fun _ => ?_)
                  refine pw_eq (fun x73 _ => ?_)
                  refine pw_ite (fun _ => ?_) (fun _ => ?_)
                  · refine pw_eq (fun x80 _ => ?_)
                    refine pw_ck (fun _ => ?_)
                    refine pw_eq (fun x81 _ => ?_)
                    refine pw_eq (fun x82 _ => ?_)
                    refine pw_eq (fun x83 _ => ?_)
                    refine pw_ck (fun _ => ?_)
                    refine pw_eq (fun x84 _ => ?_)
                    refine pw_ite (fun _ => ?_) (fun _ => ?_)
                    · exact vkr_works_420 dX72
                    · exact vkr_works_420 dX72
                  · refine pw_eq (fun x74 _ => ?_)
                    refine pw_ck (fun _ => ?_)
                    refine pw_eq (fun x75 _ => ?_)
                    refine pw_eq (fun x76 _ => ?_)
                    refine pw_eq (fun x77 _ => ?_)
                    refine pw_ck (fun _ => ?_)
                    refine pw_eq (fun x78 _ => ?_)
                    refine pw_ite (fun _ => ?_) (fun _ => ?_)
                    · exact vkr_works_420 dX72
                    · exact vkr_works_420 dX72
                · refine pw_ite (fun _ => ?_) (fun _ => ?_)
                  · refine pw_bd (vkr_readsPlace h) (fun _ X86 dX86 => ?_)
                    exact pw_ret dX86
                  · refine pw_ite (fun _ => ?_) (fun _ => ?_)
                    · refine pw_bd (vkr_writes h) (fun _ X88 dX88 => ?_)
                      exact pw_ret dX88
                    · exact pw_ret h
theorem vkr_does {p1 : Int32} {p2 : Int32} {X : St} (h : KVa P X) : pw (f_does p1 p2 X) (fun _ Y => KVa P Y) := by
  unfold f_does
  refine pw_ck (fun _ => ?_)
  refine pw_eq (fun x1 _ => ?_)
  refine pw_ite (fun _ => ?_) (fun _ => ?_)
  · refine pw_eq (fun x3 _ => ?_)
    refine pw_eq (fun x4 _ => ?_)
    refine pw_ite (fun _ => ?_) (fun _ => ?_)
    · refine pw_ck (fun _ => ?_)
      refine pw_eq (fun x9 _ => ?_)
      refine pw_bd (vkr_ends h) (fun _ X10 dX10 => ?_)
      refine pw_eq (fun x11 _ => ?_)
      exact pw_ret dX10
    · refine pw_eq (fun x5 _ => ?_)
      refine pw_eq (fun x6 _ => ?_)
      refine pw_eq (fun X7 eX7 => ?_)
      have dX7 : KVa P X7 := by rw [eX7]; exact KVa_w h (by omega)
      refine pw_eq (fun x8 _ => ?_)
      exact pw_ret dX7
  · refine pw_ite (fun _ => ?_) (fun _ => ?_)
    · refine pw_ck (fun _ => ?_)
      refine pw_eq (fun x13 _ => ?_)
      refine pw_bd (vkr_value h) (fun _ X14 dX14 => ?_)
      refine pw_eq (fun x15 _ => ?_)
      exact pw_ret dX14
    · refine pw_ite (fun _ => ?_) (fun _ => ?_)
      · refine pw_ck (fun _ => ?_)
        refine pw_eq (fun x17 _ => ?_)
        refine pw_bd (vkr_value h) (fun _ X18 dX18 => ?_)
        refine pw_eq (fun x19 _ => ?_)
        exact pw_ret dX18
      · refine pw_ite (fun _ => ?_) (fun _ => ?_)
        · refine pw_eq (fun x21 _ => ?_)
          refine pw_ck (fun _ => ?_)
          refine pw_eq (fun x22 _ => ?_)
          refine pw_eq (fun x23 _ => ?_)
          refine pw_ck (fun _ => ?_)
          refine pw_eq (fun x24 _ => ?_)
          refine pw_eq (fun x25 _ => ?_)
          refine pw_ck (fun _ => ?_)
          refine pw_eq (fun x26 _ => ?_)
          refine pw_eq (fun x27 _ => ?_)
          refine pw_ck (fun _ => ?_)
          refine pw_eq (fun x28 _ => ?_)
          refine pw_bd (vkr_value h) (fun _ X29 dX29 => ?_)
          refine pw_eq (fun x30 _ => ?_)
          exact pw_ret dX29
        · refine pw_ite (fun _ => ?_) (fun _ => ?_)
          · refine pw_ck (fun _ => ?_)
            refine pw_eq (fun x32 _ => ?_)
            refine pw_bd (vkr_value h) (fun _ X33 dX33 => ?_)
            refine pw_eq (fun x34 _ => ?_)
            exact pw_ret dX33
          · refine pw_ite (fun _ => ?_) (fun _ => ?_)
            · refine pw_ck (fun _ => ?_)
              refine pw_eq (fun x36 _ => ?_)
              refine pw_bd (vkr_guarded h) (fun _ X37 dX37 => ?_)
              refine pw_eq (fun x38 _ => ?_)
              exact pw_ret dX37
            · refine pw_ite (fun _ => ?_) (fun _ => ?_)
              · refine pw_ck (fun _ => ?_)
                refine pw_eq (fun x40 _ => ?_)
                refine pw_bd (vkr_guarded h) (fun _ X41 dX41 => ?_)
                refine pw_eq (fun x42 _ => ?_)
                exact pw_ret dX41
              · refine pw_ite (fun _ => ?_) (fun _ => ?_)
                · refine pw_ck (fun _ => ?_)
                  refine pw_eq (fun x44 _ => ?_)
                  refine pw_bd (vkr_guarded h) (fun _ X45 dX45 => ?_)
                  refine pw_bd (vkr_isOn dX45) (fun x46 X47 dX47 => ?_)
                  refine pw_ite (fun _ => ?_) (fun _ => ?_)
                  · refine pw_eq (fun x48 _ => ?_)
                    exact pw_ret dX47
                  · refine pw_eq (fun x49 _ => ?_)
                    refine pw_ite (fun _ => ?_) (fun _ => ?_)
                    · refine pw_eq (fun x51 _ => ?_)
                      refine pw_eq (fun x52 _ => ?_)
                      refine pw_ck (fun _ => ?_)
                      refine pw_eq (fun x53 _ => ?_)
                      refine pw_ck (fun _ => ?_)
                      refine pw_eq (fun x54 _ => ?_)
                      refine pw_ck (fun _ => ?_)
                      refine pw_eq (fun x55 _ => ?_)
                      refine pw_ite (fun _ => ?_) (fun _ => ?_)
                      · refine pw_eq (fun x56 _ => ?_)
                        exact pw_ret dX47
                      · refine pw_ck (fun _ => ?_)
                        refine pw_eq (fun x57 _ => ?_)
                        refine pw_bd (vkr_ends dX47) (fun _ X58 dX58 => ?_)
                        refine pw_eq (fun x59 _ => ?_)
                        exact pw_ret dX58
                    · refine pw_eq (fun x50 _ => ?_)
                      exact pw_ret dX47
                · refine pw_ite (fun _ => ?_) (fun _ => ?_)
                  · refine pw_ck (fun _ => ?_)
                    refine pw_eq (fun x61 _ => ?_)
                    refine pw_bd (vkr_guarded h) (fun _ X62 dX62 => ?_)
                    refine pw_eq (fun x63 _ => ?_)
                    exact pw_ret dX62
                  · refine pw_ite (fun _ => ?_) (fun _ => ?_)
                    · refine pw_ck (fun _ => ?_)
                      refine pw_eq (fun x65 _ => ?_)
                      refine pw_bd (vkr_guarded h) (fun _ X66 dX66 => ?_)
                      refine pw_eq (fun x67 _ => ?_)
                      exact pw_ret dX66
                    · refine pw_ite (fun _ => ?_) (fun _ => ?_)
                      · refine pw_bd (vkr_guarded h) (fun _ X69 dX69 => ?_)
                        refine pw_eq (fun x70 _ => ?_)
                        exact pw_ret dX69
                      · refine pw_ite (fun _ => ?_) (fun _ => ?_)
                        · refine pw_bd (vkr_guarded h) (fun _ X72 dX72 => ?_)
                          refine pw_eq (fun x73 _ => ?_)
                          exact pw_ret dX72
                        · refine pw_ite (fun _ => ?_) (fun _ => ?_)
                          · refine pw_bd (vkr_guarded h) (fun _ X75 dX75 => ?_)
                            refine pw_eq (fun x76 _ => ?_)
                            exact pw_ret dX75
                          · refine pw_ite (fun _ => ?_) (fun _ => ?_)
                            · refine pw_eq (fun x78 _ => ?_)
                              refine pw_eq (fun x79 _ => ?_)
                              refine pw_eq (fun X80 eX80 => ?_)
                              have dX80 : KVa P X80 := by rw [eX80]; exact KVa_w h (by omega)
                              refine pw_eq (fun x81 _ => ?_)
                              refine pw_ck (fun _ => ?_)
                              refine pw_eq (fun x82 _ => ?_)
                              refine pw_eq (fun x83 _ => ?_)
                              refine pw_eq (fun x84 _ => ?_)
                              refine pw_ck (fun _ => ?_)
                              refine pw_eq (fun x85 _ => ?_)
                              refine pw_ck (fun _ => ?_)
                              refine pw_eq (fun X86 eX86 => ?_)
                              have dX86 : KVa P X86 := by rw [eX86]; exact KVa_w dX80 (by omega)
                              refine pw_eq (fun x87 _ => ?_)
                              refine pw_ck (fun _ => ?_)
                              refine pw_eq (fun x88 _ => ?_)
                              refine pw_eq (fun x89 _ => ?_)
                              refine pw_eq (fun x90 _ => ?_)
                              refine pw_ck (fun _ => ?_)
                              refine pw_eq (fun x91 _ => ?_)
                              refine pw_ck (fun _ => ?_)
                              refine pw_eq (fun X92 eX92 => ?_)
                              have dX92 : KVa P X92 := by rw [eX92]; exact KVa_w dX86 (by omega)
                              refine pw_eq (fun x93 _ => ?_)
                              exact pw_ret dX92
                            · refine pw_ite (fun _ => ?_) (fun _ => ?_)
                              · refine pw_bd (vkr_guarded h) (fun _ X95 dX95 => ?_)
                                refine pw_eq (fun x96 _ => ?_)
                                exact pw_ret dX95
                              · refine pw_ite (fun _ => ?_) (fun _ => ?_)
                                · refine pw_eq (fun x98 _ => ?_)
                                  refine pw_eq (fun x99 _ => ?_)
                                  refine pw_eq (fun X100 eX100 => ?_)
                                  have dX100 : KVa P X100 := by rw [eX100]; exact KVa_w h (by omega)
                                  refine pw_eq (fun x101 _ => ?_)
                                  refine pw_ck (fun _ => ?_)
                                  refine pw_eq (fun x102 _ => ?_)
                                  refine pw_ite (fun _ => ?_) (fun _ => ?_)
                                  · refine pw_eq (fun x104 _ => ?_)
                                    exact pw_ret dX100
                                  · refine pw_ck (fun _ => ?_)
                                    refine pw_eq (fun x103 _ => ?_)
                                    exact pw_ret dX100
                                · refine pw_ite (fun _ => ?_) (fun _ => ?_)
                                  · refine pw_ck (fun _ => ?_)
                                    refine pw_eq (fun x106 _ => ?_)
                                    exact pw_ret h
                                  · refine pw_ite (fun _ => ?_) (fun _ => ?_)
                                    · refine pw_bd (vkr_call h) (fun x108 X109 dX109 => ?_)
                                      exact pw_ret dX109
                                    · refine pw_ite (fun _ => ?_) (fun _ => ?_)
                                      · refine pw_eq (fun x111 _ => ?_)
                                        refine pw_eq (fun x112 _ => ?_)
                                        refine pw_eq (fun X113 eX113 => ?_)
                                        have dX113 : KVa P X113 := by rw [eX113]; exact KVa_w h (by omega)
                                        refine pw_eq (fun x114 _ => ?_)
                                        exact pw_ret dX113
                                      · refine pw_ite (fun _ => ?_) (fun _ => ?_)
                                        · refine pw_bd (vkr_guarded h) (fun _ X116 dX116 => ?_)
                                          refine pw_eq (fun x117 _ => ?_)
                                          exact pw_ret dX116
                                        · refine pw_ite (fun _ => ?_) (fun _ => ?_)
                                          · refine pw_bd (vkr_goesBack h) (fun x119 X120 dX120 => ?_)
                                            exact pw_ret dX120
                                          · refine pw_ck (fun _ => ?_)
                                            refine pw_eq (fun x121 _ => ?_)
                                            refine pw_bd (vkr_works h) (fun _ X122 dX122 => ?_)
                                            refine pw_eq (fun x123 _ => ?_)
                                            exact pw_ret dX122
theorem vkr_starts_106 (N : Nat) : ∀ (a2 : Int32) (X : St), KVa P X → pw (f_starts_106 N a2 X) (fun _ Y => KVa P Y) := by
  unfold f_starts_106
  refine lp_ind (P := fun (r : Int32 → St → Option (Int32 × St)) => ∀ (a2 : Int32) (X : St), KVa P X → pw (r a2 X) (fun _ Y => KVa P Y)) (fun _ _ _ => pw_none) (fun r ih a2 X h => ?_) N
  unfold f_starts_106_s
  refine pw_bd (vkr_isOn h) (fun x17 X18 dX18 => ?_)
  refine pw_ite (fun _ => ?_) (fun _ => ?_)
  · exact vkr_starts_132 dX18
  · refine pw_ite (fun _ => ?_) (fun _ => ?_)
    · exact vkr_starts_132 dX18
    · refine pw_ck (fun _ => ?_)
      refine pw_eq (fun x24 _ => ?_)
      refine pw_bd (vkr_does dX18) (fun x25 X26 dX26 => ?_)
      exact ih _ _ dX26
theorem vkr_starts_72 (N : Nat) : ∀ (a1 : Int32) (a2 : Int32) (X : St), KVa P X → pw (f_starts_72 N a1 a2 X) (fun _ Y => KVa P Y) := by
  unfold f_starts_72
  refine lp_ind (P := fun (r : Int32 → Int32 → St → Option (Int32 × St)) => ∀ (a1 : Int32) (a2 : Int32) (X : St), KVa P X → pw (r a1 a2 X) (fun _ Y => KVa P Y)) (fun _ _ _ _ => pw_none) (fun r ih a1 a2 X h => ?_) N
  unfold f_starts_72_s
  refine pw_ite (fun _ => ?_) (fun _ => ?_)
  · refine pw_bd (vkr_calls h) (fun _ X15 dX15 => ?_)
    refine pw_ck (fun _ => ?_)
    refine pw_eq (fun x16 _ => ?_)
    exact vkr_starts_106 _ _ _ dX15
  · refine pw_ck (fun _ => ?_)
    refine pw_eq (fun X27 eX27 => ?_)
    have dX27 : KVa P X27 := by rw [eX27]; exact KVa_w h (by omega)
    refine pw_eq (fun x28 _ => ?_)
    exact ih _ _ _ dX27
theorem vkr_starts {p1 : Int32} {X : St} (h : KVa P X) : pw (f_starts p1 X) (fun _ Y => KVa P Y) := by
  unfold f_starts
  refine pw_eq (fun X1 eX1 => ?_)
  have dX1 : KVa P X1 := by rw [eX1]; exact KVa_w h (by omega)
  refine pw_eq (fun X2 eX2 => ?_)
  have dX2 : KVa P X2 := by rw [eX2]; exact KVa_w dX1 (by omega)
  refine pw_eq (fun X3 eX3 => ?_)
  have dX3 : KVa P X3 := by rw [eX3]; exact KVa_w dX2 (by omega)
  refine pw_eq (fun X4 eX4 => ?_)
  have dX4 : KVa P X4 := by rw [eX4]; exact KVa_w dX3 (by omega)
  refine pw_eq (fun X5 eX5 => ?_)
  have dX5 : KVa P X5 := by rw [eX5]; exact KVa_w dX4 (by omega)
  refine pw_eq (fun X6 eX6 => ?_)
  have dX6 : KVa P X6 := by rw [eX6]; exact KVa_w dX5 (by omega)
  refine pw_eq (fun X7 eX7 => ?_)
  have dX7 : KVa P X7 := by rw [eX7]; exact KVa_w dX6 (by omega)
  refine pw_eq (fun X8 eX8 => ?_)
  have dX8 : KVa P X8 := by rw [eX8]; exact KVa_w dX7 (by omega)
  refine pw_eq (fun X9 eX9 => ?_)
  have dX9 : KVa P X9 := by rw [eX9]; exact KVa_w dX8 (by omega)
  refine pw_eq (fun X10 eX10 => ?_)
  have dX10 : KVa P X10 := by rw [eX10]; exact KVa_w dX9 (by omega)
  refine pw_eq (fun X11 eX11 => ?_)
  have dX11 : KVa P X11 := by rw [eX11]; exact KVa_w dX10 (by omega)
  refine pw_eq (fun X12 eX12 => ?_)
  have dX12 : KVa P X12 := by rw [eX12]; exact KVa_w dX11 (by omega)
  refine pw_eq (fun X13 eX13 => ?_)
  have dX13 : KVa P X13 := by rw [eX13]; exact KVa_w dX12 (by omega)
  refine pw_eq (fun X14 eX14 => ?_)
  have dX14 : KVa P X14 := by rw [eX14]; exact KVa_w dX13 (by omega)
  exact vkr_starts_72 _ _ _ _ dX14
theorem vkr_run {p1 : Int32} {X : St} (h : KVa P X) : pw (f_run p1 X) (fun _ Y => KVa P Y) := by
  unfold f_run
  refine pw_eq (fun x1 _ => ?_)
  refine pw_ite (fun _ => ?_) (fun _ => ?_)
  · exact pw_ret h
  · refine pw_bd (vkr_in h) (fun x2 X3 dX3 => ?_)
    refine pw_ite (fun _ => ?_) (fun _ => ?_)
    · exact pw_ret dX3
    · refine pw_eq (fun X4 eX4 => ?_)
      have dX4 : KVa P X4 := by rw [eX4]; exact KVa_w dX3 (by omega)
      refine pw_eq (fun X5 eX5 => ?_)
      have dX5 : KVa P X5 := by rw [eX5]; exact KVa_w dX4 (by omega)
      refine pw_eq (fun x6 _ => ?_)
      refine pw_bd (vkr_starts dX5) (fun x7 X8 dX8 => ?_)
      exact pw_ret dX8
theorem vkr_runUntold_31 {a1 : Int32} {X : St} (h : KVa P X) : pw (f_runUntold_31 a1 X) (fun _ Y => KVa P Y) := by
  unfold f_runUntold_31
  refine pw_eq (fun X5 eX5 => ?_)
  have dX5 : KVa P X5 := by rw [eX5]; exact KVa_w h (by omega)
  refine pw_eq (fun X6 eX6 => ?_)
  have dX6 : KVa P X6 := by rw [eX6]; exact KVa_w dX5 (by omega)
  refine pw_eq (fun x7 _ => ?_)
  refine pw_bd (vkr_starts dX6) (fun x8 X9 dX9 => ?_)
  exact pw_ret dX9
theorem vkr_runUntold {p1 : Int32} {X : St} (h : KVa P X) : pw (f_runUntold p1 X) (fun _ Y => KVa P Y) := by
  unfold f_runUntold
  refine pw_eq (fun x1 _ => ?_)
  refine pw_ite (fun _ => ?_) (fun _ => ?_)
  · exact pw_ret h
  · refine pw_bd (vkr_in h) (fun x2 X3 dX3 => ?_)
    refine pw_ite (fun _ => ?_) (fun _ => ?_)
    · exact pw_ret dX3
    · refine pw_eq (fun x4 _ => ?_)
      refine pw_ite (fun _ => ?_) (fun _ => ?_)
      · refine pw_bd (vkr_compiles dX3) (fun _ X10 dX10 => ?_)
        exact vkr_runUntold_31 dX10
      · exact vkr_runUntold_31 dX3
theorem vkr_told_51 {a1 : Int32} {a2 : Int32} {a3 : Int32} {b0 : Int32} {X : St} (h : KVa P X) : pw (f_told_51 a1 a2 a3 b0 X) (fun _ Y => KVa P Y) := by
  unfold f_told_51
  refine pw_ite (fun _ => ?_) (fun _ => ?_)
  · refine pw_eq (fun x4 _ => ?_)
    exact pw_ret h
  · refine pw_ite (fun _ => ?_) (fun _ => ?_)
    · refine pw_eq (fun x6 _ => ?_)
      exact pw_ret h
    · refine pw_ite (fun _ => ?_) (fun _ => ?_)
      · refine pw_eq (fun x8 _ => ?_)
        exact pw_ret h
      · refine pw_ite (fun _ => ?_) (fun _ => ?_)
        · refine pw_eq (fun x10 _ => ?_)
          exact pw_ret h
        · refine pw_ite (fun _ => ?_) (fun _ => ?_)
          · exact pw_ret h
          · refine pw_ite (fun _ => ?_) (fun _ => ?_)
            · refine pw_ite (fun _ => ?_) (fun _ => ?_)
              · refine pw_bd (vkr_within h) (fun x15 X16 dX16 => ?_)
                refine pw_ck (fun _ => ?_)
                refine pw_eq (fun x17 _ => ?_)
                exact pw_ret dX16
              · refine pw_ite (fun _ => ?_) (fun _ => ?_)
                · refine pw_bd (vkr_within h) (fun x13 X14 dX14 => ?_)
                  exact pw_ret dX14
                · exact pw_ret h
            · refine pw_ite (fun _ => ?_) (fun _ => ?_)
              · refine pw_ite (fun _ => ?_) (fun _ => ?_)
                · exact pw_ret h
                · refine pw_bd (vkr_deep h) (fun x19 X20 dX20 => ?_)
                  exact pw_ret dX20
              · refine pw_ite (fun _ => ?_) (fun _ => ?_)
                · refine pw_eq (fun x22 _ => ?_)
                  exact pw_ret h
                · refine pw_ite (fun _ => ?_) (fun _ => ?_)
                  · refine pw_eq (fun x24 _ => ?_)
                    exact pw_ret h
                  · refine pw_ite (fun _ => ?_) (fun _ => ?_)
                    · refine pw_eq (fun x26 _ => ?_)
                      exact pw_ret h
                    · exact pw_ret h
theorem vkr_told_36 {a1 : Int32} {a2 : Int32} {b0 : Int32} {X : St} (h : KVa P X) : pw (f_told_36 a1 a2 b0 X) (fun _ Y => KVa P Y) := by
  unfold f_told_36
  refine pw_ite (fun _ => ?_) (fun _ => ?_)
  · exact vkr_told_51 h
  · refine pw_ck (fun _ => ?_)
    refine pw_eq (fun x27 _ => ?_)
    exact vkr_told_51 h
theorem vkr_told_21 {a1 : Int32} {b0 : Int32} {X : St} (h : KVa P X) : pw (f_told_21 a1 b0 X) (fun _ Y => KVa P Y) := by
  unfold f_told_21
  refine pw_ite (fun _ => ?_) (fun _ => ?_)
  · exact vkr_told_36 h
  · refine pw_ck (fun _ => ?_)
    refine pw_eq (fun x28 _ => ?_)
    exact vkr_told_36 h
theorem vkr_told {p1 : Int32} {X : St} (h : KVa P X) : pw (f_told p1 X) (fun _ Y => KVa P Y) := by
  unfold f_told
  refine pw_eq (fun x1 _ => ?_)
  refine pw_ite (fun _ => ?_) (fun _ => ?_)
  · exact pw_ret h
  · refine pw_eq (fun x2 _ => ?_)
    refine pw_ite (fun _ => ?_) (fun _ => ?_)
    · exact vkr_told_21 h
    · exact vkr_told_21 h
theorem vkr_out {p1 : Int32} {X : St} (h : KVa P X) : pw (f_out p1 X) (fun _ Y => KVa P Y) := by
  unfold f_out
  refine pw_eq (fun x1 _ => ?_)
  refine pw_ite (fun _ => ?_) (fun _ => ?_)
  · exact pw_ret h
  · refine pw_eq (fun x2 _ => ?_)
    refine pw_eq (fun x3 _ => ?_)
    refine pw_bd (vkr_in h) (fun x4 X5 dX5 => ?_)
    refine pw_ite (fun _ => ?_) (fun _ => ?_)
    · exact pw_ret dX5
    · refine pw_ck (fun _ => ?_)
      refine pw_eq (fun x6 _ => ?_)
      exact pw_ret dX5
theorem vkr_asked {p1 : Int32} {p2 : Int32} {X : St} (h : KVa P X) : pw (f_asked p1 p2 X) (fun _ Y => KVa P Y) := by
  unfold f_asked
  refine pw_eq (fun x1 _ => ?_)
  refine pw_ite (fun _ => ?_) (fun _ => ?_)
  · exact pw_ret h
  · refine pw_eq (fun x2 _ => ?_)
    refine pw_eq (fun x3 _ => ?_)
    refine pw_bd (vkr_in h) (fun x4 X5 dX5 => ?_)
    refine pw_ite (fun _ => ?_) (fun _ => ?_)
    · exact pw_ret dX5
    · refine pw_eq (fun x6 _ => ?_)
      refine pw_eq (fun x7 _ => ?_)
      refine pw_bd (vkr_in dX5) (fun x8 X9 dX9 => ?_)
      refine pw_ite (fun _ => ?_) (fun _ => ?_)
      · exact pw_ret dX9
      · refine pw_eq (fun x10 _ => ?_)
        refine pw_eq (fun x11 _ => ?_)
        refine pw_ck (fun _ => ?_)
        refine pw_eq (fun x12 _ => ?_)
        exact pw_ret dX9
theorem vkr_about {p1 : Int32} {X : St} (h : KVa P X) : pw (f_about p1 X) (fun _ Y => KVa P Y) := by
  unfold f_about
  refine pw_ite (fun _ => ?_) (fun _ => ?_)
  · refine pw_eq (fun x2 _ => ?_)
    exact pw_ret h
  · refine pw_ite (fun _ => ?_) (fun _ => ?_)
    · refine pw_eq (fun x4 _ => ?_)
      exact pw_ret h
    · refine pw_ite (fun _ => ?_) (fun _ => ?_)
      · refine pw_eq (fun x6 _ => ?_)
        refine pw_ite (fun _ => ?_) (fun _ => ?_)
        · exact pw_ret h
        · exact pw_ret h
      · refine pw_ite (fun _ => ?_) (fun _ => ?_)
        · refine pw_eq (fun x8 _ => ?_)
          refine pw_ite (fun _ => ?_) (fun _ => ?_)
          · exact pw_ret h
          · refine pw_eq (fun x9 _ => ?_)
            exact pw_ret h
        · exact pw_ret h
theorem vkr_end {p1 : Int32} {X : St} (h : KVa P X) : pw (f_end p1 X) (fun _ Y => KVa P Y) := by
  unfold f_end
  refine pw_eq (fun x1 _ => ?_)
  refine pw_bd (vkr_in h) (fun x2 X3 dX3 => ?_)
  refine pw_ite (fun _ => ?_) (fun _ => ?_)
  · exact pw_ret dX3
  · refine pw_eq (fun X4 eX4 => ?_)
    have dX4 : KVa P X4 := by rw [eX4]; exact KVa_w dX3 (by omega)
    exact pw_ret dX4
theorem vkr_fault {p1 : Int32} {X : St} (h : KVa P X) : pw (f_fault p1 X) (fun _ Y => KVa P Y) := by
  unfold f_fault
  refine pw_ite (fun _ => ?_) (fun _ => ?_)
  · refine pw_eq (fun x2 _ => ?_)
    exact pw_ret h
  · refine pw_ite (fun _ => ?_) (fun _ => ?_)
    · refine pw_eq (fun x1 _ => ?_)
      exact pw_ret h
    · exact pw_ret h
theorem vkr_tell {p1 : Int32} {p2 : Int32} {X : St} (h : KVa P X) : pw (f_tell p1 p2 X) (fun _ Y => KVa P Y) := by
  unfold f_tell
  refine pw_eq (fun x1 _ => ?_)
  refine pw_ite (fun _ => ?_) (fun _ => ?_)
  · exact pw_ret h
  · refine pw_eq (fun x2 _ => ?_)
    refine pw_eq (fun x3 _ => ?_)
    refine pw_bd (vkr_in h) (fun x4 X5 dX5 => ?_)
    refine pw_ite (fun _ => ?_) (fun _ => ?_)
    · exact pw_ret dX5
    · refine pw_ck (fun _ => ?_)
      refine pw_eq (fun X6 eX6 => ?_)
      have dX6 : KVa P X6 := by rw [eX6]; exact KVa_w dX5 (by omega)
      refine pw_eq (fun X7 eX7 => ?_)
      have dX7 : KVa P X7 := by rw [eX7]; exact KVa_w dX6 (by omega)
      exact pw_ret dX7
theorem vkr_guard {p1 : Int32} {p2 : Int32} {X : St} (h : KVa P X) : pw (f_guard p1 p2 X) (fun _ Y => KVa P Y) := by
  unfold f_guard
  refine pw_eq (fun x1 _ => ?_)
  refine pw_ite (fun _ => ?_) (fun _ => ?_)
  · exact pw_ret h
  · refine pw_eq (fun x2 _ => ?_)
    refine pw_eq (fun x3 _ => ?_)
    refine pw_bd (vkr_in h) (fun x4 X5 dX5 => ?_)
    refine pw_ite (fun _ => ?_) (fun _ => ?_)
    · exact pw_ret dX5
    · refine pw_ite (fun _ => ?_) (fun _ => ?_)
      · refine pw_ck (fun _ => ?_)
        refine pw_eq (fun x7 _ => ?_)
        exact pw_ret dX5
      · refine pw_ite (fun _ => ?_) (fun _ => ?_)
        · refine pw_ck (fun _ => ?_)
          refine pw_eq (fun x9 _ => ?_)
          exact pw_ret dX5
        · refine pw_ite (fun _ => ?_) (fun _ => ?_)
          · refine pw_ck (fun _ => ?_)
            refine pw_eq (fun x11 _ => ?_)
            exact pw_ret dX5
          · refine pw_ite (fun _ => ?_) (fun _ => ?_)
            · refine pw_ck (fun _ => ?_)
              refine pw_eq (fun x13 _ => ?_)
              refine pw_ck (fun _ => ?_)
              refine pw_eq (fun x14 _ => ?_)
              exact pw_ret dX5
            · refine pw_ite (fun _ => ?_) (fun _ => ?_)
              · refine pw_ck (fun _ => ?_)
                refine pw_eq (fun x16 _ => ?_)
                refine pw_ck (fun _ => ?_)
                refine pw_eq (fun x17 _ => ?_)
                exact pw_ret dX5
              · exact pw_ret dX5
theorem vkr_part_II_I {p1 : Int32} {p2 : Int32} {X : St} (h : KVa P X) : pw (f_part_II_I p1 p2 X) (fun _ Y => KVa P Y) := by
  unfold f_part_II_I
  refine pw_eq (fun x1 _ => ?_)
  refine pw_ite (fun _ => ?_) (fun _ => ?_)
  · exact pw_ret h
  · refine pw_eq (fun x2 _ => ?_)
    refine pw_eq (fun x3 _ => ?_)
    refine pw_bd (vkr_in h) (fun x4 X5 dX5 => ?_)
    refine pw_ite (fun _ => ?_) (fun _ => ?_)
    · exact pw_ret dX5
    · refine pw_ite (fun _ => ?_) (fun _ => ?_)
      · refine pw_ck (fun _ => ?_)
        refine pw_eq (fun x7 _ => ?_)
        refine pw_ite (fun _ => ?_) (fun _ => ?_)
        · exact pw_ret dX5
        · exact pw_ret dX5
      · refine pw_ite (fun _ => ?_) (fun _ => ?_)
        · refine pw_ck (fun _ => ?_)
          refine pw_eq (fun x9 _ => ?_)
          exact pw_ret dX5
        · refine pw_ite (fun _ => ?_) (fun _ => ?_)
          · refine pw_ck (fun _ => ?_)
            refine pw_eq (fun x11 _ => ?_)
            exact pw_ret dX5
          · refine pw_ite (fun _ => ?_) (fun _ => ?_)
            · refine pw_eq (fun x13 _ => ?_)
              refine pw_ite (fun _ => ?_) (fun _ => ?_)
              · exact pw_ret dX5
              · refine pw_ck (fun _ => ?_)
                refine pw_eq (fun x14 _ => ?_)
                refine pw_ite (fun _ => ?_) (fun _ => ?_)
                · exact pw_ret dX5
                · exact pw_ret dX5
            · refine pw_ite (fun _ => ?_) (fun _ => ?_)
              · refine pw_ck (fun _ => ?_)
                refine pw_eq (fun x16 _ => ?_)
                exact pw_ret dX5
              · refine pw_ck (fun _ => ?_)
                refine pw_eq (fun x17 _ => ?_)
                refine pw_eq (fun x18 _ => ?_)
                refine pw_bd (vkr_in dX5) (fun x19 X20 dX20 => ?_)
                refine pw_ite (fun _ => ?_) (fun _ => ?_)
                · exact pw_ret dX20
                · refine pw_ck (fun _ => ?_)
                  refine pw_eq (fun x21 _ => ?_)
                  refine pw_eq (fun x22 _ => ?_)
                  refine pw_eq (fun x23 _ => ?_)
                  refine pw_ck (fun _ => ?_)
                  refine pw_eq (fun x24 _ => ?_)
                  exact pw_ret dX20
theorem vkr_put {p1 : Int32} {X : St} (h : KVa P X) : pw (f_put p1 X) (fun _ Y => KVa P Y) := by
  unfold f_put
  refine pw_eq (fun x1 _ => ?_)
  refine pw_eq (fun x2 _ => ?_)
  refine pw_eq (fun x3 _ => ?_)
  refine pw_ck (fun _ => ?_)
  refine pw_eq (fun X4 eX4 => ?_)
  have dX4 : KVa P X4 := by rw [eX4]; exact KVa_w h (by omega)
  refine pw_eq (fun x5 _ => ?_)
  refine pw_eq (fun x6 _ => ?_)
  refine pw_eq (fun x7 _ => ?_)
  refine pw_eq (fun x8 _ => ?_)
  refine pw_ck (fun _ => ?_)
  refine pw_eq (fun X9 eX9 => ?_)
  have dX9 : KVa P X9 := by rw [eX9]; exact KVa_w dX4 (by omega)
  refine pw_eq (fun x10 _ => ?_)
  refine pw_eq (fun x11 _ => ?_)
  refine pw_eq (fun x12 _ => ?_)
  refine pw_eq (fun x13 _ => ?_)
  refine pw_ck (fun _ => ?_)
  refine pw_eq (fun X14 eX14 => ?_)
  have dX14 : KVa P X14 := by rw [eX14]; exact KVa_w dX9 (by omega)
  refine pw_eq (fun x15 _ => ?_)
  refine pw_eq (fun x16 _ => ?_)
  refine pw_eq (fun x17 _ => ?_)
  refine pw_ck (fun _ => ?_)
  refine pw_eq (fun X18 eX18 => ?_)
  have dX18 : KVa P X18 := by rw [eX18]; exact KVa_w dX14 (by omega)
  refine pw_eq (fun x19 _ => ?_)
  refine pw_eq (fun x20 _ => ?_)
  refine pw_eq (fun X21 eX21 => ?_)
  have dX21 : KVa P X21 := by rw [eX21]; exact KVa_w dX18 (by omega)
  exact pw_ret dX21
theorem vkr_feed {p1 : Int32} {p2 : Int32} {p3 : Int32} {p4 : Int32} {p5 : Int32} {X : St} (h : KVa P X) : pw (f_feed p1 p2 p3 p4 p5 X) (fun _ Y => KVa P Y) := by
  unfold f_feed
  refine pw_eq (fun x1 _ => ?_)
  refine pw_eq (fun x2 _ => ?_)
  refine pw_ite (fun _ => ?_) (fun _ => ?_)
  · refine pw_bd (vkr_put h) (fun _ X3 dX3 => ?_)
    refine pw_bd (vkr_put dX3) (fun _ X4 dX4 => ?_)
    refine pw_bd (vkr_put dX4) (fun _ X5 dX5 => ?_)
    refine pw_bd (vkr_put dX5) (fun _ X6 dX6 => ?_)
    refine pw_bd (vkr_put dX6) (fun _ X7 dX7 => ?_)
    refine pw_eq (fun x8 _ => ?_)
    exact pw_ret dX7
  · exact pw_ret h
theorem vkr_read_116 (N : Nat) : ∀ (a2 : Int32) (X : St), KVa P X → pw (f_read_116 N a2 X) (fun _ Y => KVa P Y) := by
  unfold f_read_116
  refine lp_ind (P := fun (r : Int32 → St → Option (Int32 × St)) => ∀ (a2 : Int32) (X : St), KVa P X → pw (r a2 X) (fun _ Y => KVa P Y)) (fun _ _ _ => pw_none) (fun r ih a2 X h => ?_) N
  unfold f_read_116_s
  refine pw_eq (fun x26 _ => ?_)
  refine pw_ite (fun _ => ?_) (fun _ => ?_)
  · refine pw_eq (fun X27 eX27 => ?_)
    have dX27 : KVa P X27 := by rw [eX27]; exact KVa_w h (by omega)
    refine pw_eq (fun x28 _ => ?_)
    exact pw_ret dX27
  · refine pw_ck (fun _ => ?_)
    refine pw_eq (fun X29 eX29 => ?_)
    have dX29 : KVa P X29 := by rw [eX29]; exact KVa_w h (by omega)
    refine pw_eq (fun x30 _ => ?_)
    exact ih _ _ dX29
theorem vkr_read_88 (N : Nat) : ∀ (a2 : Int32) (X : St), KVa P X → pw (f_read_88 N a2 X) (fun _ Y => KVa P Y) := by
  unfold f_read_88
  refine lp_ind (P := fun (r : Int32 → St → Option (Int32 × St)) => ∀ (a2 : Int32) (X : St), KVa P X → pw (r a2 X) (fun _ Y => KVa P Y)) (fun _ _ _ => pw_none) (fun r ih a2 X h => ?_) N
  unfold f_read_88_s
  refine pw_eq (fun x25 _ => ?_)
  refine pw_ite (fun _ => ?_) (fun _ => ?_)
  · exact vkr_read_116 _ _ _ h
  · refine pw_ck (fun _ => ?_)
    refine pw_eq (fun x31 _ => ?_)
    refine pw_ck (fun _ => ?_)
    refine pw_eq (fun X32 eX32 => ?_)
    have dX32 : KVa P X32 := by rw [eX32]; exact KVa_w h (by omega)
    refine pw_eq (fun x33 _ => ?_)
    exact ih _ _ dX32
theorem v_reads {X : St} : pw (f_reads X) (fun _ Y => KVa True Y) := by
  unfold f_reads
  exact pw_let (pw_let (pw_let (pw_let (pw_let (pw_let (pw_bd v_kinds (fun _ _ h7 => pw_bd (vkr_next h7) (fun _ _ h8 => vkr_reads_39 BIG _ h8))))))))
theorem v_judges {X : St} (h : KVa True X) : pw (f_judges X) (fun _ Y => KVa True Y) := by
  unfold f_judges
  refine pw_eq (fun x1 e1 => pw_eq (fun X2 e2 => pw_eq (fun x3 e3 => pw_eq (fun X4 e4 => pw_eq (fun X5 e5 => pw_eq (fun X6 e6 => pw_eq (fun X7 e7 => ?_)))))))
  have r : ∀ e j, ¬ (e = 0 ∧ (j = 13 ∨ j = 15)) → X4.1 e j = X.1 e j := fun e j z => by rw [e4, wI_ne _ _ _ _ _ _ (by omega), e2, wI_ne _ _ _ _ _ _ (by omega)]
  have h4 : KVa True X4 := h.tx (fun e j z _ => r e j z) (by rw [e4, wI_ne _ _ _ _ _ _ (by omega), e2, wI_at, e1]) (by rw [e4, wI_at, e3, e2, wI_ne _ _ _ _ _ _ (by omega)])
  have h7 : KVa True X7 := by
    rw [e7, e6, e5]
    exact KVa_w (KVa_w (KVa_w h4 (by omega)) (by omega)) (by omega)
  exact pw_bd (vkr_compiles h7) (fun _ _ h8 => vkr_judges_37 BIG _ _ h8)
theorem v_judge {X : St} (h : KVa True X) : pw (f_judge X) (fun _ Y => KVa True Y) := by
  unfold f_judge
  refine pw_let (pw_ite (fun _ => pw_ret h) (fun _ => pw_bd (v_judges h) (fun _ X2 h2 => pw_let (pw_eq (fun X4 e4 => pw_let (pw_eq (fun X6 e6 => pw_let ?_)))))))
  have h6 : KVa True X6 := by
    rw [e6, e4]
    exact KVa_w (KVa_w h2 (by omega)) (by omega)
  exact pw_ite (fun _ => pw_ret h6) (fun _ => pw_let (pw_ret h6))
end RKV
