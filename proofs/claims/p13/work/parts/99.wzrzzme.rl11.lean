/-! the reference's easy calls leave what the last run left -/
theorem RLq_w {X0 X : St} {e k : Nat} {v : Int32} (h : RLq X0 X) (hk : e = 1 ∨ (e = 0 ∧ k = 0)) : RLq X0 (_root_.Jvm.Pilot.CBlameCourtLaw_law_r8381_f30dd1.wI X e k v) := by
  have r : ∀ e1 k1, ¬ (e1 = e ∧ k1 = k) → (_root_.Jvm.Pilot.CBlameCourtLaw_law_r8381_f30dd1.wI X e k v).1 e1 k1 = X.1 e1 k1 := fun e1 k1 z => wI_ne _ _ _ _ _ _ z
  exact ⟨fun k1 a b => (r 0 k1 (by omega)).trans (h.1 k1 a b), fun e1 k1 a b => (r e1 k1 (by omega)).trans (h.2 e1 k1 a b)⟩
section RLEEP11
variable {X0 : St}
theorem rl11_in {p0 : Int32} {p1 : Int32} {p2 : Int32} {X : St} (h : RLq X0 X) : pw (f_in p0 p1 p2 X) (fun _ Y => RLq X0 Y) := by
  unfold f_in
  refine pw_ite (fun _ => ?_) (fun _ => ?_)
  · exact pw_ret h
  · refine pw_ite (fun _ => ?_) (fun _ => ?_)
    · exact pw_ret h
    · exact pw_ret h
theorem rl11_end {p1 : Int32} {X : St} (h : RLq X0 X) : pw (f_end p1 X) (fun _ Y => RLq X0 Y) := by
  unfold f_end
  refine pw_eq (fun x1 _ => ?_)
  refine pw_bd (rl11_in h) (fun x2 X3 dX3 => ?_)
  refine pw_ite (fun _ => ?_) (fun _ => ?_)
  · exact pw_ret dX3
  · refine pw_eq (fun X4 eX4 => ?_)
    have dX4 : RLq X0 X4 := by rw [eX4]; exact RLq_w dX3 (by omega)
    exact pw_ret dX4
theorem rl11_fault {p1 : Int32} {X : St} (h : RLq X0 X) : pw (f_fault p1 X) (fun _ Y => RLq X0 Y) := by
  unfold f_fault
  refine pw_ite (fun _ => ?_) (fun _ => ?_)
  · refine pw_eq (fun x2 _ => ?_)
    exact pw_ret h
  · refine pw_ite (fun _ => ?_) (fun _ => ?_)
    · refine pw_eq (fun x1 _ => ?_)
      exact pw_ret h
    · exact pw_ret h
theorem rl11_guard {p1 : Int32} {p2 : Int32} {X : St} (h : RLq X0 X) : pw (f_guard p1 p2 X) (fun _ Y => RLq X0 Y) := by
  unfold f_guard
  refine pw_eq (fun x1 _ => ?_)
  refine pw_ite (fun _ => ?_) (fun _ => ?_)
  · exact pw_ret h
  · refine pw_eq (fun x2 _ => ?_)
    refine pw_eq (fun x3 _ => ?_)
    refine pw_bd (rl11_in h) (fun x4 X5 dX5 => ?_)
    refine pw_ite (fun _ => ?_) (fun _ => ?_)
    · exact pw_ret dX5
    · refine pw_ite (fun _ => ?_) (fun _ => ?_)
      · refine pw_ck (fun _ => ?_)
        refine pw_eq (fun x7 _ => ?_)
        exact pw_ret dX5
      · refine pw_ite (fun _ => ?_) (fun _ => ?_)
        · refine pw_ck (fun _ => ?_)
          refine pw_eq (fun x9 _ => ?_)
          exact pw_ret dX5
        · refine pw_ite (fun _ => ?_) (fun _ => ?_)
          · refine pw_ck (fun _ => ?_)
            refine pw_eq (fun x11 _ => ?_)
            exact pw_ret dX5
          · refine pw_ite (fun _ => ?_) (fun _ => ?_)
            · refine pw_ck (fun _ => ?_)
              refine pw_eq (fun x13 _ => ?_)
              refine pw_ck (fun _ => ?_)
              refine pw_eq (fun x14 _ => ?_)
              exact pw_ret dX5
            · refine pw_ite (fun _ => ?_) (fun _ => ?_)
              · refine pw_ck (fun _ => ?_)
                refine pw_eq (fun x16 _ => ?_)
                refine pw_ck (fun _ => ?_)
                refine pw_eq (fun x17 _ => ?_)
                exact pw_ret dX5
              · exact pw_ret dX5
theorem rl11_part_II_I {p1 : Int32} {p2 : Int32} {X : St} (h : RLq X0 X) : pw (f_part_II_I p1 p2 X) (fun _ Y => RLq X0 Y) := by
  unfold f_part_II_I
  refine pw_eq (fun x1 _ => ?_)
  refine pw_ite (fun _ => ?_) (fun _ => ?_)
  · exact pw_ret h
  · refine pw_eq (fun x2 _ => ?_)
    refine pw_eq (fun x3 _ => ?_)
    refine pw_bd (rl11_in h) (fun x4 X5 dX5 => ?_)
    refine pw_ite (fun _ => ?_) (fun _ => ?_)
    · exact pw_ret dX5
    · refine pw_ite (fun _ => ?_) (fun _ => ?_)
      · refine pw_ck (fun _ => ?_)
        refine pw_eq (fun x7 _ => ?_)
        refine pw_ite (fun _ => ?_) (fun _ => ?_)
        · exact pw_ret dX5
        · exact pw_ret dX5
      · refine pw_ite (fun _ => ?_) (fun _ => ?_)
        · refine pw_ck (fun _ => ?_)
          refine pw_eq (fun x9 _ => ?_)
          exact pw_ret dX5
        · refine pw_ite (fun _ => ?_) (fun _ => ?_)
          · refine pw_ck (fun _ => ?_)
            refine pw_eq (fun x11 _ => ?_)
            exact pw_ret dX5
          · refine pw_ite (fun _ => ?_) (fun _ => ?_)
            · refine pw_eq (fun x13 _ => ?_)
              refine pw_ite (fun _ => ?_) (fun _ => ?_)
              · exact pw_ret dX5
              · refine pw_ck (fun _ => ?_)
                refine pw_eq (fun x14 _ => ?_)
                refine pw_ite (fun _ => ?_) (fun _ => ?_)
                · exact pw_ret dX5
                · exact pw_ret dX5
            · refine pw_ite (fun _ => ?_) (fun _ => ?_)
              · refine pw_ck (fun _ => ?_)
                refine pw_eq (fun x16 _ => ?_)
                exact pw_ret dX5
              · refine pw_ck (fun _ => ?_)
                refine pw_eq (fun x17 _ => ?_)
                refine pw_eq (fun x18 _ => ?_)
                refine pw_bd (rl11_in dX5) (fun x19 X20 dX20 => ?_)
                refine pw_ite (fun _ => ?_) (fun _ => ?_)
                · exact pw_ret dX20
                · refine pw_ck (fun _ => ?_)
                  refine pw_eq (fun x21 _ => ?_)
                  refine pw_eq (fun x22 _ => ?_)
                  refine pw_eq (fun x23 _ => ?_)
                  refine pw_ck (fun _ => ?_)
                  refine pw_eq (fun x24 _ => ?_)
                  exact pw_ret dX20
theorem rl11_within_44 {r2 : Int32 → Int32 → St → Option (Int32 × St)} (hr2 : ∀ (q0 : Int32) (q1 : Int32) (X : St), RLq X0 X → pw (r2 q0 q1 X) (fun _ Y => RLq X0 Y)) {a1 : Int32} {b0 : Int32} {X : St} (h : RLq X0 X) : pw (f_within_44 r2 a1 b0 X) (fun _ Y => RLq X0 Y) := by
  unfold f_within_44
  refine pw_ck (fun _ => ?_)
  refine pw_eq (fun x2 _ => ?_)
  exact hr2 _ _ _ h
theorem rl11_within_27 {r2 : Int32 → Int32 → St → Option (Int32 × St)} (hr2 : ∀ (q0 : Int32) (q1 : Int32) (X : St), RLq X0 X → pw (r2 q0 q1 X) (fun _ Y => RLq X0 Y)) {a1 : Int32} {a3 : Int32} {X : St} (h : RLq X0 X) : pw (f_within_27 r2 a1 a3 X) (fun _ Y => RLq X0 Y) := by
  unfold f_within_27
  refine pw_ite (fun _ => ?_) (fun _ => ?_)
  · exact rl11_within_44 hr2 h
  · refine pw_eq (fun x1 _ => ?_)
    exact rl11_within_44 hr2 h
theorem rl11_within_16 {r2 : Int32 → Int32 → St → Option (Int32 × St)} (hr2 : ∀ (q0 : Int32) (q1 : Int32) (X : St), RLq X0 X → pw (r2 q0 q1 X) (fun _ Y => RLq X0 Y)) {a1 : Int32} {a3 : Int32} {X : St} (h : RLq X0 X) : pw (f_within_16 r2 a1 a3 X) (fun _ Y => RLq X0 Y) := by
  unfold f_within_16
  refine pw_ite (fun _ => ?_) (fun _ => ?_)
  · refine pw_ite (fun _ => ?_) (fun _ => ?_)
    · exact pw_ret h
    · exact rl11_within_27 hr2 h
  · exact pw_ret h
theorem rl11_within_2 (N : Nat) : ∀ (a1 : Int32) (a3 : Int32) (X : St), RLq X0 X → pw (f_within_2 N a1 a3 X) (fun _ Y => RLq X0 Y) := by
  unfold f_within_2
  refine lp_ind (P := fun (r : Int32 → Int32 → St → Option (Int32 × St)) => ∀ (a1 : Int32) (a3 : Int32) (X : St), RLq X0 X → pw (r a1 a3 X) (fun _ Y => RLq X0 Y)) (fun _ _ _ _ => pw_none) (fun r ih a1 a3 X h => ?_) N
  unfold f_within_2_s
  refine pw_ite (fun _ => ?_) (fun _ => ?_)
  · refine pw_ck (fun _ => ?_)
    refine pw_eq (fun x3 _ => ?_)
    refine pw_ite (fun _ => ?_) (fun _ => ?_)
    · exact rl11_within_16 ih h
    · exact rl11_within_27 ih h
  · exact rl11_within_16 ih h
theorem rl11_within {p1 : Int32} {p2 : Int32} {X : St} (h : RLq X0 X) : pw (f_within p1 p2 X) (fun _ Y => RLq X0 Y) := by
  unfold f_within
  exact rl11_within_2 _ _ _ _ h
theorem rl11_deep {p1 : Int32} {p2 : Int32} {X : St} (h : RLq X0 X) : pw (f_deep p1 p2 X) (fun _ Y => RLq X0 Y) := by
  unfold f_deep
  refine pw_ite (fun _ => ?_) (fun _ => ?_)
  · refine pw_ck (fun _ => ?_)
    refine pw_eq (fun x3 _ => ?_)
    refine pw_ite (fun _ => ?_) (fun _ => ?_)
    · exact pw_ret h
    · refine pw_ck (fun _ => ?_)
      refine pw_eq (fun x4 _ => ?_)
      exact pw_ret h
  · refine pw_ite (fun _ => ?_) (fun _ => ?_)
    · refine pw_ite (fun _ => ?_) (fun _ => ?_)
      · exact pw_ret h
      · refine pw_eq (fun x1 _ => ?_)
        refine pw_ck (fun _ => ?_)
        refine pw_eq (fun x2 _ => ?_)
        exact pw_ret h
    · exact pw_ret h
theorem rl11_told_51 {a1 : Int32} {a2 : Int32} {a3 : Int32} {b0 : Int32} {X : St} (h : RLq X0 X) : pw (f_told_51 a1 a2 a3 b0 X) (fun _ Y => RLq X0 Y) := by
  unfold f_told_51
  refine pw_ite (fun _ => ?_) (fun _ => ?_)
  · refine pw_eq (fun x4 _ => ?_)
    exact pw_ret h
  · refine pw_ite (fun _ => ?_) (fun _ => ?_)
    · refine pw_eq (fun x6 _ => ?_)
      exact pw_ret h
    · refine pw_ite (fun _ => ?_) (fun _ => ?_)
      · refine pw_eq (fun x8 _ => ?_)
        exact pw_ret h
      · refine pw_ite (fun _ => ?_) (fun _ => ?_)
        · refine pw_eq (fun x10 _ => ?_)
          exact pw_ret h
        · refine pw_ite (fun _ => ?_) (fun _ => ?_)
          · exact pw_ret h
          · refine pw_ite (fun _ => ?_) (fun _ => ?_)
            · refine pw_ite (fun _ => ?_) (fun _ => ?_)
              · refine pw_bd (rl11_within h) (fun x15 X16 dX16 => ?_)
                refine pw_ck (fun _ => ?_)
                refine pw_eq (fun x17 _ => ?_)
                exact pw_ret dX16
              · refine pw_ite (fun _ => ?_) (fun _ => ?_)
                · refine pw_bd (rl11_within h) (fun x13 X14 dX14 => ?_)
                  exact pw_ret dX14
                · exact pw_ret h
            · refine pw_ite (fun _ => ?_) (fun _ => ?_)
              · refine pw_ite (fun _ => ?_) (fun _ => ?_)
                · exact pw_ret h
                · refine pw_bd (rl11_deep h) (fun x19 X20 dX20 => ?_)
                  exact pw_ret dX20
              · refine pw_ite (fun _ => ?_) (fun _ => ?_)
                · refine pw_eq (fun x22 _ => ?_)
                  exact pw_ret h
                · refine pw_ite (fun _ => ?_) (fun _ => ?_)
                  · refine pw_eq (fun x24 _ => ?_)
                    exact pw_ret h
                  · refine pw_ite (fun _ => ?_) (fun _ => ?_)
                    · refine pw_eq (fun x26 _ => ?_)
                      exact pw_ret h
                    · exact pw_ret h
theorem rl11_told_36 {a1 : Int32} {a2 : Int32} {b0 : Int32} {X : St} (h : RLq X0 X) : pw (f_told_36 a1 a2 b0 X) (fun _ Y => RLq X0 Y) := by
  unfold f_told_36
  refine pw_ite (fun _ => ?_) (fun _ => ?_)
  · exact rl11_told_51 h
  · refine pw_ck (fun _ => ?_)
    refine pw_eq (fun x27 _ => ?_)
    exact rl11_told_51 h
theorem rl11_told_21 {a1 : Int32} {b0 : Int32} {X : St} (h : RLq X0 X) : pw (f_told_21 a1 b0 X) (fun _ Y => RLq X0 Y) := by
  unfold f_told_21
  refine pw_ite (fun _ => ?_) (fun _ => ?_)
  · exact rl11_told_36 h
  · refine pw_ck (fun _ => ?_)
    refine pw_eq (fun x28 _ => ?_)
    exact rl11_told_36 h
theorem rl11_told {p1 : Int32} {X : St} (h : RLq X0 X) : pw (f_told p1 X) (fun _ Y => RLq X0 Y) := by
  unfold f_told
  refine pw_eq (fun x1 _ => ?_)
  refine pw_ite (fun _ => ?_) (fun _ => ?_)
  · exact pw_ret h
  · refine pw_eq (fun x2 _ => ?_)
    refine pw_ite (fun _ => ?_) (fun _ => ?_)
    · exact rl11_told_21 h
    · exact rl11_told_21 h
theorem rl11_out {p1 : Int32} {X : St} (h : RLq X0 X) : pw (f_out p1 X) (fun _ Y => RLq X0 Y) := by
  unfold f_out
  refine pw_eq (fun x1 _ => ?_)
  refine pw_ite (fun _ => ?_) (fun _ => ?_)
  · exact pw_ret h
  · refine pw_eq (fun x2 _ => ?_)
    refine pw_eq (fun x3 _ => ?_)
    refine pw_bd (rl11_in h) (fun x4 X5 dX5 => ?_)
    refine pw_ite (fun _ => ?_) (fun _ => ?_)
    · exact pw_ret dX5
    · refine pw_ck (fun _ => ?_)
      refine pw_eq (fun x6 _ => ?_)
      exact pw_ret dX5
theorem rl11_asked {p1 : Int32} {p2 : Int32} {X : St} (h : RLq X0 X) : pw (f_asked p1 p2 X) (fun _ Y => RLq X0 Y) := by
  unfold f_asked
  refine pw_eq (fun x1 _ => ?_)
  refine pw_ite (fun _ => ?_) (fun _ => ?_)
  · exact pw_ret h
  · refine pw_eq (fun x2 _ => ?_)
    refine pw_eq (fun x3 _ => ?_)
    refine pw_bd (rl11_in h) (fun x4 X5 dX5 => ?_)
    refine pw_ite (fun _ => ?_) (fun _ => ?_)
    · exact pw_ret dX5
    · refine pw_eq (fun x6 _ => ?_)
      refine pw_eq (fun x7 _ => ?_)
      refine pw_bd (rl11_in dX5) (fun x8 X9 dX9 => ?_)
      refine pw_ite (fun _ => ?_) (fun _ => ?_)
      · exact pw_ret dX9
      · refine pw_eq (fun x10 _ => ?_)
        refine pw_eq (fun x11 _ => ?_)
        refine pw_ck (fun _ => ?_)
        refine pw_eq (fun x12 _ => ?_)
        exact pw_ret dX9
theorem rl11_about {p1 : Int32} {X : St} (h : RLq X0 X) : pw (f_about p1 X) (fun _ Y => RLq X0 Y) := by
  unfold f_about
  refine pw_ite (fun _ => ?_) (fun _ => ?_)
  · refine pw_eq (fun x2 _ => ?_)
    exact pw_ret h
  · refine pw_ite (fun _ => ?_) (fun _ => ?_)
    · refine pw_eq (fun x4 _ => ?_)
      exact pw_ret h
    · refine pw_ite (fun _ => ?_) (fun _ => ?_)
      · refine pw_eq (fun x6 _ => ?_)
        refine pw_ite (fun _ => ?_) (fun _ => ?_)
        · exact pw_ret h
        · exact pw_ret h
      · refine pw_ite (fun _ => ?_) (fun _ => ?_)
        · refine pw_eq (fun x8 _ => ?_)
          refine pw_ite (fun _ => ?_) (fun _ => ?_)
          · exact pw_ret h
          · refine pw_eq (fun x9 _ => ?_)
            exact pw_ret h
        · exact pw_ret h
theorem rl11_put {p1 : Int32} {X : St} (h : RLq X0 X) : pw (f_put p1 X) (fun _ Y => RLq X0 Y) := by
  unfold f_put
  refine pw_eq (fun x1 _ => ?_)
  refine pw_eq (fun x2 _ => ?_)
  refine pw_eq (fun x3 _ => ?_)
  refine pw_ck (fun _ => ?_)
  refine pw_eq (fun X4 eX4 => ?_)
  have dX4 : RLq X0 X4 := by rw [eX4]; exact RLq_w h (by omega)
  refine pw_eq (fun x5 _ => ?_)
  refine pw_eq (fun x6 _ => ?_)
  refine pw_eq (fun x7 _ => ?_)
  refine pw_eq (fun x8 _ => ?_)
  refine pw_ck (fun _ => ?_)
  refine pw_eq (fun X9 eX9 => ?_)
  have dX9 : RLq X0 X9 := by rw [eX9]; exact RLq_w dX4 (by omega)
  refine pw_eq (fun x10 _ => ?_)
  refine pw_eq (fun x11 _ => ?_)
  refine pw_eq (fun x12 _ => ?_)
  refine pw_eq (fun x13 _ => ?_)
  refine pw_ck (fun _ => ?_)
  refine pw_eq (fun X14 eX14 => ?_)
  have dX14 : RLq X0 X14 := by rw [eX14]; exact RLq_w dX9 (by omega)
  refine pw_eq (fun x15 _ => ?_)
  refine pw_eq (fun x16 _ => ?_)
  refine pw_eq (fun x17 _ => ?_)
  refine pw_ck (fun _ => ?_)
  refine pw_eq (fun X18 eX18 => ?_)
  have dX18 : RLq X0 X18 := by rw [eX18]; exact RLq_w dX14 (by omega)
  refine pw_eq (fun x19 _ => ?_)
  refine pw_eq (fun x20 _ => ?_)
  refine pw_eq (fun X21 eX21 => ?_)
  have dX21 : RLq X0 X21 := by rw [eX21]; exact RLq_w dX18 (by omega)
  exact pw_ret dX21
theorem rl11_feed {p1 : Int32} {p2 : Int32} {p3 : Int32} {p4 : Int32} {p5 : Int32} {X : St} (h : RLq X0 X) : pw (f_feed p1 p2 p3 p4 p5 X) (fun _ Y => RLq X0 Y) := by
  unfold f_feed
  refine pw_eq (fun x1 _ => ?_)
  refine pw_eq (fun x2 _ => ?_)
  refine pw_ite (fun _ => ?_) (fun _ => ?_)
  · refine pw_bd (rl11_put h) (fun _ X3 dX3 => ?_)
    refine pw_bd (rl11_put dX3) (fun _ X4 dX4 => ?_)
    refine pw_bd (rl11_put dX4) (fun _ X5 dX5 => ?_)
    refine pw_bd (rl11_put dX5) (fun _ X6 dX6 => ?_)
    refine pw_bd (rl11_put dX6) (fun _ X7 dX7 => ?_)
    refine pw_eq (fun x8 _ => ?_)
    exact pw_ret dX7
  · exact pw_ret h
end RLEEP11
