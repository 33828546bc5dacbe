/-! the reference's easy calls leave the guards as they are -/
theorem R8k_w {X0 X : St} {e k : Nat} {v : Int32} (h : R8k X0 X) (hk : e = 1 ∨ (e = 0 ∧ k = 0)) : R8k X0 (_root_.Jvm.Pilot.CBlameCourtLaw_law_r8381_f30dd1.wI X e k v) := by
  have r : ∀ e1 k1, ¬ (e1 = e ∧ k1 = k) → (_root_.Jvm.Pilot.CBlameCourtLaw_law_r8381_f30dd1.wI X e k v).1 e1 k1 = X.1 e1 k1 := fun e1 k1 z => wI_ne _ _ _ _ _ _ z
  obtain ⟨a, b, c, d1, d2, d3, d4⟩ := h
  refine ⟨(r 0 4 (by omega)).trans a, (r 0 28 (by omega)).trans b, fun e1 k1 q => (r e1 k1 (by omega)).trans (c e1 k1 q), ?_, ?_, fun k1 q => ⟨(r 4 k1 (by omega)).trans (d3 k1 q).1, (r 5 k1 (by omega)).trans (d3 k1 q).2.1, (r 6 k1 (by omega)).trans (d3 k1 q).2.2⟩, fun k1 q => (r 9 k1 (by omega)).trans (d4 k1 q)⟩
  · rw [r 0 13 (by omega)]; exact d1
  · rw [r 0 15 (by omega)]; exact d2
section RGUARD
variable {X0 : St}
theorem rg8_in {p0 : Int32} {p1 : Int32} {p2 : Int32} {X : St} (h : R8k X0 X) : pw (f_in p0 p1 p2 X) (fun _ Y => R8k X0 Y) := by
  unfold f_in
  refine pw_ite (fun _ => ?_) (fun _ => ?_)
  · exact pw_ret h
  · refine pw_ite (fun _ => ?_) (fun _ => ?_)
    · exact pw_ret h
    · exact pw_ret h
theorem rg8_end {p1 : Int32} {X : St} (h : R8k X0 X) : pw (f_end p1 X) (fun _ Y => R8k X0 Y) := by
  unfold f_end
  refine pw_eq (fun x1 _ => ?_)
  refine pw_bd (rg8_in h) (fun x2 X3 dX3 => ?_)
  refine pw_ite (fun _ => ?_) (fun _ => ?_)
  · exact pw_ret dX3
  · refine pw_eq (fun X4 eX4 => ?_)
    have dX4 : R8k X0 X4 := by rw [eX4]; exact R8k_w dX3 (by omega)
    exact pw_ret dX4
theorem rg8_fault {p1 : Int32} {X : St} (h : R8k X0 X) : pw (f_fault p1 X) (fun _ Y => R8k X0 Y) := by
  unfold f_fault
  refine pw_ite (fun _ => ?_) (fun _ => ?_)
  · refine pw_eq (fun x2 _ => ?_)
    exact pw_ret h
  · refine pw_ite (fun _ => ?_) (fun _ => ?_)
    · refine pw_eq (fun x1 _ => ?_)
      exact pw_ret h
    · exact pw_ret h
theorem rg8_guard {p1 : Int32} {p2 : Int32} {X : St} (h : R8k X0 X) : pw (f_guard p1 p2 X) (fun _ Y => R8k X0 Y) := by
  unfold f_guard
  refine pw_eq (fun x1 _ => ?_)
  refine pw_ite (fun _ => ?_) (fun _ => ?_)
  · exact pw_ret h
  · refine pw_eq (fun x2 _ => ?_)
    refine pw_eq (fun x3 _ => ?_)
    refine pw_bd (rg8_in h) (fun x4 X5 dX5 => ?_)
    refine pw_ite (fun _ => ?_) (fun _ => ?_)
    · exact pw_ret dX5
    · refine pw_ite (fun _ => ?_) (fun _ => ?_)
      · refine pw_ck (fun _ => ?_)
        refine pw_eq (fun x7 _ => ?_)
        exact pw_ret dX5
      · refine pw_ite (fun _ => ?_) (fun _ => ?_)
        · refine pw_ck (fun _ => ?_)
          refine pw_eq (fun x9 _ => ?_)
          exact pw_ret dX5
        · refine pw_ite (fun _ => ?_) (fun _ => ?_)
          · refine pw_ck (fun _ => ?_)
            refine pw_eq (fun x11 _ => ?_)
            exact pw_ret dX5
          · refine pw_ite (fun _ => ?_) (fun _ => ?_)
            · refine pw_ck (fun _ => ?_)
              refine pw_eq (fun x13 _ => ?_)
              refine pw_ck (fun _ => ?_)
              refine pw_eq (fun x14 _ => ?_)
              exact pw_ret dX5
            · refine pw_ite (fun _ => ?_) (fun _ => ?_)
              · refine pw_ck (fun _ => ?_)
                refine pw_eq (fun x16 _ => ?_)
                refine pw_ck (fun _ => ?_)
                refine pw_eq (fun x17 _ => ?_)
                exact pw_ret dX5
              · exact pw_ret dX5
theorem rg8_part_II_I {p1 : Int32} {p2 : Int32} {X : St} (h : R8k X0 X) : pw (f_part_II_I p1 p2 X) (fun _ Y => R8k X0 Y) := by
  unfold f_part_II_I
  refine pw_eq (fun x1 _ => ?_)
  refine pw_ite (fun _ => ?_) (fun _ => ?_)
  · exact pw_ret h
  · refine pw_eq (fun x2 _ => ?_)
    refine pw_eq (fun x3 _ => ?_)
    refine pw_bd (rg8_in h) (fun x4 X5 dX5 => ?_)
    refine pw_ite (fun _ => ?_) (fun _ => ?_)
    · exact pw_ret dX5
    · refine pw_ite (fun _ => ?_) (fun _ => ?_)
      · refine pw_ck (fun _ => ?_)
        refine pw_eq (fun x7 _ => ?_)
        refine pw_ite (fun _ => ?_) (fun _ => ?_)
        · exact pw_ret dX5
        · exact pw_ret dX5
      · refine pw_ite (fun _ => ?_) (fun _ => ?_)
        · refine pw_ck (fun _ => ?_)
          refine pw_eq (fun x9 _ => ?_)
          exact pw_ret dX5
        · refine pw_ite (fun _ => ?_) (fun _ => ?_)
          · refine pw_ck (fun _ => ?_)
            refine pw_eq (fun x11 _ => ?_)
            exact pw_ret dX5
          · refine pw_ite (fun _ => ?_) (fun _ => ?_)
            · refine pw_eq (fun x13 _ => ?_)
              refine pw_ite (fun _ => ?_) (fun _ => ?_)
              · exact pw_ret dX5
              · refine pw_ck (fun _ => ?_)
                refine pw_eq (fun x14 _ => ?_)
                refine pw_ite (fun _ => ?_) (fun _ => ?_)
                · exact pw_ret dX5
                · exact pw_ret dX5
            · refine pw_ite (fun _ => ?_) (fun _ => ?_)
              · refine pw_ck (fun _ => ?_)
                refine pw_eq (fun x16 _ => ?_)
                exact pw_ret dX5
              · refine pw_ck (fun _ => ?_)
                refine pw_eq (fun x17 _ => ?_)
                refine pw_eq (fun x18 _ => ?_)
                refine pw_bd (rg8_in dX5) (fun x19 X20 dX20 => ?_)
                refine pw_ite (fun _ => ?_) (fun _ => ?_)
                · exact pw_ret dX20
                · refine pw_ck (fun _ => ?_)
                  refine pw_eq (fun x21 _ => ?_)
                  refine pw_eq (fun x22 _ => ?_)
                  refine pw_eq (fun x23 _ => ?_)
                  refine pw_ck (fun _ => ?_)
                  refine pw_eq (fun x24 _ => ?_)
                  exact pw_ret dX20
theorem rg8_within_44 {r2 : Int32 → Int32 → St → Option (Int32 × St)} (hr2 : ∀ (q0 : Int32) (q1 : Int32) (X : St), R8k X0 X → pw (r2 q0 q1 X) (fun _ Y => R8k X0 Y)) {a1 : Int32} {b0 : Int32} {X : St} (h : R8k X0 X) : pw (f_within_44 r2 a1 b0 X) (fun _ Y => R8k X0 Y) := by
  unfold f_within_44
  refine pw_ck (fun _ => ?_)
  refine pw_eq (fun x2 _ => ?_)
  exact hr2 _ _ _ h
theorem rg8_within_27 {r2 : Int32 → Int32 → St → Option (Int32 × St)} (hr2 : ∀ (q0 : Int32) (q1 : Int32) (X : St), R8k X0 X → pw (r2 q0 q1 X) (fun _ Y => R8k X0 Y)) {a1 : Int32} {a3 : Int32} {X : St} (h : R8k X0 X) : pw (f_within_27 r2 a1 a3 X) (fun _ Y => R8k X0 Y) := by
  unfold f_within_27
  refine pw_ite (fun _ => ?_) (fun _ => ?_)
  · exact rg8_within_44 hr2 h
  · refine pw_eq (fun x1 _ => ?_)
    exact rg8_within_44 hr2 h
theorem rg8_within_16 {r2 : Int32 → Int32 → St → Option (Int32 × St)} (hr2 : ∀ (q0 : Int32) (q1 : Int32) (X : St), R8k X0 X → pw (r2 q0 q1 X) (fun _ Y => R8k X0 Y)) {a1 : Int32} {a3 : Int32} {X : St} (h : R8k X0 X) : pw (f_within_16 r2 a1 a3 X) (fun _ Y => R8k X0 Y) := by
  unfold f_within_16
  refine pw_ite (fun _ => ?_) (fun _ => ?_)
  · refine pw_ite (fun _ => ?_) (fun _ => ?_)
    · exact pw_ret h
    · exact rg8_within_27 hr2 h
  · exact pw_ret h
theorem rg8_within_2 (N : Nat) : ∀ (a1 : Int32) (a3 : Int32) (X : St), R8k X0 X → pw (f_within_2 N a1 a3 X) (fun _ Y => R8k X0 Y) := by
  unfold f_within_2
  refine lp_ind (P := fun (r : Int32 → Int32 → St → Option (Int32 × St)) => ∀ (a1 : Int32) (a3 : Int32) (X : St), R8k X0 X → pw (r a1 a3 X) (fun _ Y => R8k X0 Y)) (fun _ _ _ _ => pw_none) (fun r ih a1 a3 X h => ?_) N
  unfold f_within_2_s
  refine pw_ite (fun _ => ?_) (fun _ => ?_)
  · refine pw_ck (fun _ => ?_)
    refine pw_eq (fun x3 _ => ?_)
    refine pw_ite (fun _ => ?_) (fun _ => ?_)
    · exact rg8_within_16 ih h
    · exact rg8_within_27 ih h
  · exact rg8_within_16 ih h
theorem rg8_within {p1 : Int32} {p2 : Int32} {X : St} (h : R8k X0 X) : pw (f_within p1 p2 X) (fun _ Y => R8k X0 Y) := by
  unfold f_within
  exact rg8_within_2 _ _ _ _ h
theorem rg8_deep {p1 : Int32} {p2 : Int32} {X : St} (h : R8k X0 X) : pw (f_deep p1 p2 X) (fun _ Y => R8k X0 Y) := by
  unfold f_deep
  refine pw_ite (fun _ => ?_) (fun _ => ?_)
  · refine pw_ck (fun _ => ?_)
    refine pw_eq (fun x3 _ => ?_)
    refine pw_ite (fun _ => ?_) (fun _ => ?_)
    · exact pw_ret h
    · refine pw_ck (fun _ => ?_)
      refine pw_eq (fun x4 _ => ?_)
      exact pw_ret h
  · refine pw_ite (fun _ => ?_) (fun _ => ?_)
    · refine pw_ite (fun _ => ?_) (fun _ => ?_)
      · exact pw_ret h
      · refine pw_eq (fun x1 _ => ?_)
        refine pw_ck (fun _ => ?_)
        refine pw_eq (fun x2 _ => ?_)
        exact pw_ret h
    · exact pw_ret h
theorem rg8_told_51 {a1 : Int32} {a2 : Int32} {a3 : Int32} {b0 : Int32} {X : St} (h : R8k X0 X) : pw (f_told_51 a1 a2 a3 b0 X) (fun _ Y => R8k X0 Y) := by
  unfold f_told_51
  refine pw_ite (fun _ => ?_) (fun _ => ?_)
  · refine pw_eq (fun x4 _ => ?_)
    exact pw_ret h
  · refine pw_ite (fun _ => ?_) (fun _ => ?_)
    · refine pw_eq (fun x6 _ => ?_)
      exact pw_ret h
    · refine pw_ite (fun _ => ?_) (fun _ => ?_)
      · refine pw_eq (fun x8 _ => ?_)
        exact pw_ret h
      · refine pw_ite (fun _ => ?_) (fun _ => ?_)
        · refine pw_eq (fun x10 _ => ?_)
          exact pw_ret h
        · refine pw_ite (fun _ => ?_) (fun _ => ?_)
          · exact pw_ret h
          · refine pw_ite (fun _ => ?_) (fun _ => ?_)
            · refine pw_ite (fun _ => ?_) (fun _ => ?_)
              · refine pw_bd (rg8_within h) (fun x15 X16 dX16 => ?_)
                refine pw_ck (fun _ => ?_)
                refine pw_eq (fun x17 _ => ?_)
                exact pw_ret dX16
              · refine pw_ite (fun _ => ?_) (fun _ => ?_)
                · refine pw_bd (rg8_within h) (fun x13 X14 dX14 => ?_)
                  exact pw_ret dX14
                · exact pw_ret h
            · refine pw_ite (fun _ => ?_) (fun _ => ?_)
              · refine pw_ite (fun _ => ?_) (fun _ => ?_)
                · exact pw_ret h
                · refine pw_bd (rg8_deep h) (fun x19 X20 dX20 => ?_)
                  exact pw_ret dX20
              · refine pw_ite (fun _ => ?_) (fun _ => ?_)
                · refine pw_eq (fun x22 _ => ?_)
                  exact pw_ret h
                · refine pw_ite (fun _ => ?_) (fun _ => ?_)
                  · refine pw_eq (fun x24 _ => ?_)
                    exact pw_ret h
                  · refine pw_ite (fun _ => ?_) (fun _ => ?_)
                    · refine pw_eq (fun x26 _ => ?_)
                      exact pw_ret h
                    · exact pw_ret h
theorem rg8_told_36 {a1 : Int32} {a2 : Int32} {b0 : Int32} {X : St} (h : R8k X0 X) : pw (f_told_36 a1 a2 b0 X) (fun _ Y => R8k X0 Y) := by
  unfold f_told_36
  refine pw_ite (fun _ => ?_) (fun _ => ?_)
  · exact rg8_told_51 h
  · refine pw_ck (fun _ => ?_)
    refine pw_eq (fun x27 _ => ?_)
    exact rg8_told_51 h
theorem rg8_told_21 {a1 : Int32} {b0 : Int32} {X : St} (h : R8k X0 X) : pw (f_told_21 a1 b0 X) (fun _ Y => R8k X0 Y) := by
  unfold f_told_21
  refine pw_ite (fun _ => ?_) (fun _ => ?_)
  · exact rg8_told_36 h
  · refine pw_ck (fun _ => ?_)
    refine pw_eq (fun x28 _ => ?_)
    exact rg8_told_36 h
theorem rg8_told {p1 : Int32} {X : St} (h : R8k X0 X) : pw (f_told p1 X) (fun _ Y => R8k X0 Y) := by
  unfold f_told
  refine pw_eq (fun x1 _ => ?_)
  refine pw_ite (fun _ => ?_) (fun _ => ?_)
  · exact pw_ret h
  · refine pw_eq (fun x2 _ => ?_)
    refine pw_ite (fun _ => ?_) (fun _ => ?_)
    · exact rg8_told_21 h
    · exact rg8_told_21 h
theorem rg8_out {p1 : Int32} {X : St} (h : R8k X0 X) : pw (f_out p1 X) (fun _ Y => R8k X0 Y) := by
  unfold f_out
  refine pw_eq (fun x1 _ => ?_)
  refine pw_ite (fun _ => ?_) (fun _ => ?_)
  · exact pw_ret h
  · refine pw_eq (fun x2 _ => ?_)
    refine pw_eq (fun x3 _ => ?_)
    refine pw_bd (rg8_in h) (fun x4 X5 dX5 => ?_)
    refine pw_ite (fun _ => ?_) (fun _ => ?_)
    · exact pw_ret dX5
    · refine pw_ck (fun _ => ?_)
      refine pw_eq (fun x6 _ => ?_)
      exact pw_ret dX5
theorem rg8_asked {p1 : Int32} {p2 : Int32} {X : St} (h : R8k X0 X) : pw (f_asked p1 p2 X) (fun _ Y => R8k X0 Y) := by
  unfold f_asked
  refine pw_eq (fun x1 _ => ?_)
  refine pw_ite (fun _ => ?_) (fun _ => ?_)
  · exact pw_ret h
  · refine pw_eq (fun x2 _ => ?_)
    refine pw_eq (fun x3 _ => ?_)
    refine pw_bd (rg8_in h) (fun x4 X5 dX5 => ?_)
    refine pw_ite (fun _ => ?_) (fun _ => ?_)
    · exact pw_ret dX5
    · refine pw_eq (fun x6 _ => ?_)
      refine pw_eq (fun x7 _ => ?_)
      refine pw_bd (rg8_in dX5) (fun x8 X9 dX9 => ?_)
      refine pw_ite (fun _ => ?_) (fun _ => ?_)
      · exact pw_ret dX9
      · refine pw_eq (fun x10 _ => ?_)
        refine pw_eq (fun x11 _ => ?_)
        refine pw_ck (fun _ => ?_)
        refine pw_eq (fun x12 _ => ?_)
        exact pw_ret dX9
theorem rg8_about {p1 : Int32} {X : St} (h : R8k X0 X) : pw (f_about p1 X) (fun _ Y => R8k X0 Y) := by
  unfold f_about
  refine pw_ite (fun _ => ?_) (fun _ => ?_)
  · refine pw_eq (fun x2 _ => ?_)
    exact pw_ret h
  · refine pw_ite (fun _ => ?_) (fun _ => ?_)
    · refine pw_eq (fun x4 _ => ?_)
      exact pw_ret h
    · refine pw_ite (fun _ => ?_) (fun _ => ?_)
      · refine pw_eq (fun x6 _ => ?_)
        refine pw_ite (fun _ => ?_) (fun _ => ?_)
        · exact pw_ret h
        · exact pw_ret h
      · refine pw_ite (fun _ => ?_) (fun _ => ?_)
        · refine pw_eq (fun x8 _ => ?_)
          refine pw_ite (fun _ => ?_) (fun _ => ?_)
          · exact pw_ret h
          · refine pw_eq (fun x9 _ => ?_)
            exact pw_ret h
        · exact pw_ret h
theorem rg8_put {p1 : Int32} {X : St} (h : R8k X0 X) : pw (f_put p1 X) (fun _ Y => R8k X0 Y) := by
  unfold f_put
  refine pw_eq (fun x1 _ => ?_)
  refine pw_eq (fun x2 _ => ?_)
  refine pw_eq (fun x3 _ => ?_)
  refine pw_ck (fun _ => ?_)
  refine pw_eq (fun X4 eX4 => ?_)
  have dX4 : R8k X0 X4 := by rw [eX4]; exact R8k_w h (by omega)
  refine pw_eq (fun x5 _ => ?_)
  refine pw_eq (fun x6 _ => ?_)
  refine pw_eq (fun x7 _ => ?_)
  refine pw_eq (fun x8 _ => ?_)
  refine pw_ck (fun _ => ?_)
  refine pw_eq (fun X9 eX9 => ?_)
  have dX9 : R8k X0 X9 := by rw [eX9]; exact R8k_w dX4 (by omega)
  refine pw_eq (fun x10 _ => ?_)
  refine pw_eq (fun x11 _ => ?_)
  refine pw_eq (fun x12 _ => ?_)
  refine pw_eq (fun x13 _ => ?_)
  refine pw_ck (fun _ => ?_)
  refine pw_eq (fun X14 eX14 => ?_)
  have dX14 : R8k X0 X14 := by rw [eX14]; exact R8k_w dX9 (by omega)
  refine pw_eq (fun x15 _ => ?_)
  refine pw_eq (fun x16 _ => ?_)
  refine pw_eq (fun x17 _ => ?_)
  refine pw_ck (fun _ => ?_)
  refine pw_eq (fun X18 eX18 => ?_)
  have dX18 : R8k X0 X18 := by rw [eX18]; exact R8k_w dX14 (by omega)
  refine pw_eq (fun x19 _ => ?_)
  refine pw_eq (fun x20 _ => ?_)
  refine pw_eq (fun X21 eX21 => ?_)
  have dX21 : R8k X0 X21 := by rw [eX21]; exact R8k_w dX18 (by omega)
  exact pw_ret dX21
theorem rg8_feed {p1 : Int32} {p2 : Int32} {p3 : Int32} {p4 : Int32} {p5 : Int32} {X : St} (h : R8k X0 X) : pw (f_feed p1 p2 p3 p4 p5 X) (fun _ Y => R8k X0 Y) := by
  unfold f_feed
  refine pw_eq (fun x1 _ => ?_)
  refine pw_eq (fun x2 _ => ?_)
  refine pw_ite (fun _ => ?_) (fun _ => ?_)
  · refine pw_bd (rg8_put h) (fun _ X3 dX3 => ?_)
    refine pw_bd (rg8_put dX3) (fun _ X4 dX4 => ?_)
    refine pw_bd (rg8_put dX4) (fun _ X5 dX5 => ?_)
    refine pw_bd (rg8_put dX5) (fun _ X6 dX6 => ?_)
    refine pw_bd (rg8_put dX6) (fun _ X7 dX7 => ?_)
    refine pw_eq (fun x8 _ => ?_)
    exact pw_ret dX7
  · exact pw_ret h
end RGUARD
