/-! what the reference's calls leave of a program -/
def R7 (X Y : St) : Prop := (∀ e k, (e = 0 ∧ (k = 1 ∨ k = 2 ∨ k = 3 ∨ k = 14 ∨ k = 16 ∨ k = 18 ∨ k = 25)) ∨ e = 2 ∨ e = 3 ∨ (11 ≤ e ∧ e ≤ 18) ∨ (20 ≤ e ∧ e ≤ 28) → Y.1 e k = X.1 e k) ∧ (∀ k, Y.2.1 11 k = X.2.1 11 k ∧ Y.2.1 29 k = X.2.1 29 k) ∧ (∀ k : Nat, (k : Int) < (X.1 0 14).toInt → Y.1 4 k = X.1 4 k ∧ Y.1 5 k = X.1 5 k ∧ Y.1 6 k = X.1 6 k) ∧ ∀ k : Nat, (k : Int) < (X.1 0 16).toInt → Y.1 9 k = X.1 9 k
/-- and which parts are told -/
def R7k (X Y : St) : Prop := R7 X Y ∧ ∀ k, Y.1 19 k = X.1 19 k
theorem R7.rf {X : St} : R7 X X := ⟨fun _ _ _ => rfl, fun _ => ⟨rfl, rfl⟩, fun _ _ => ⟨rfl, rfl, rfl⟩, fun _ _ => rfl⟩
theorem R7k.rf {X : St} : R7k X X := ⟨R7.rf, fun _ => rfl⟩
theorem R7.wr {X0 X : St} {e k : Nat} {v : Int32} (h : R7 X0 X) (hk : e = 1 ∨ e = 19 ∨ (e = 0 ∧ (k = 0 ∨ k = 4 ∨ k = 11 ∨ k = 12 ∨ k = 41))) : R7 X0 (_root_.Jvm.Pilot.CBlameCourtLaw_law_r8381_f30dd1.wI X e k v) := by
  have r : ∀ e1 k1, ¬ (e1 = e ∧ k1 = k) → (_root_.Jvm.Pilot.CBlameCourtLaw_law_r8381_f30dd1.wI X e k v).1 e1 k1 = X.1 e1 k1 := fun e1 k1 z => wI_ne _ _ _ _ _ _ z
  obtain ⟨a, b, c, d⟩ := h
  exact ⟨fun e1 k1 q => (r e1 k1 (by omega)).trans (a e1 k1 q), b, fun k1 q => ⟨(r 4 k1 (by omega)).trans (c k1 q).1, (r 5 k1 (by omega)).trans (c k1 q).2.1, (r 6 k1 (by omega)).trans (c k1 q).2.2⟩, fun k1 q => (r 9 k1 (by omega)).trans (d k1 q)⟩
theorem R7k_w {X0 X : St} {e k : Nat} {v : Int32} (h : R7k X0 X) (hk : e = 1 ∨ (e = 0 ∧ k = 0)) : R7k X0 (_root_.Jvm.Pilot.CBlameCourtLaw_law_r8381_f30dd1.wI X e k v) := ⟨h.1.wr (by omega), fun k1 => (wI_ne _ _ _ _ _ _ (by omega)).trans (h.2 k1)⟩
theorem R7.tr {X Y Z : St} (h : R7 X Y) (g : R7 Y Z) : R7 X Z := by
  obtain ⟨a, b, c, d⟩ := h
  obtain ⟨a1, b1, c1, d1⟩ := g
  exact ⟨fun e k q => (a1 e k q).trans (a e k q), fun k => ⟨(b1 k).1.trans (b k).1, (b1 k).2.trans (b k).2⟩, fun k q => by
    obtain ⟨x, y, z⟩ := c1 k (by rw [a 0 14 (by omega)]; exact q)
    obtain ⟨x1, y1, z1⟩ := c k q
    exact ⟨x.trans x1, y.trans y1, z.trans z1⟩, fun k q => (d1 k (by rw [a 0 16 (by omega)]; exact q)).trans (d k q)⟩
theorem R7k.tr {X Y Z : St} (h : R7k X Y) (g : R7k Y Z) : R7k X Z := ⟨h.1.tr g.1, fun k => (g.2 k).trans (h.2 k)⟩
section RPROG
variable {X0 : St}
theorem rc_in {p0 : Int32} {p1 : Int32} {p2 : Int32} {X : St} (h : R7k X0 X) : pw (f_in p0 p1 p2 X) (fun _ Y => R7k X0 Y) := by
  unfold f_in
  refine pw_ite (fun _ => ?_) (fun _ => ?_)
  · exact pw_ret h
  · refine pw_ite (fun _ => ?_) (fun _ => ?_)
    · exact pw_ret h
    · exact pw_ret h
theorem rc_end {p1 : Int32} {X : St} (h : R7k X0 X) : pw (f_end p1 X) (fun _ Y => R7k X0 Y) := by
  unfold f_end
  refine pw_eq (fun x1 _ => ?_)
  refine pw_bd (rc_in h) (fun x2 X3 dX3 => ?_)
  refine pw_ite (fun _ => ?_) (fun _ => ?_)
  · exact pw_ret dX3
  · refine pw_eq (fun X4 eX4 => ?_)
    have dX4 : R7k X0 X4 := by rw [eX4]; exact R7k_w dX3 (by omega)
    exact pw_ret dX4
theorem rc_fault {p1 : Int32} {X : St} (h : R7k X0 X) : pw (f_fault p1 X) (fun _ Y => R7k X0 Y) := by
  unfold f_fault
  refine pw_ite (fun _ => ?_) (fun _ => ?_)
  · refine pw_eq (fun x2 _ => ?_)
    exact pw_ret h
  · refine pw_ite (fun _ => ?_) (fun _ => ?_)
    · refine pw_eq (fun x1 _ => ?_)
      exact pw_ret h
    · exact pw_ret h
theorem rc_guard {p1 : Int32} {p2 : Int32} {X : St} (h : R7k X0 X) : pw (f_guard p1 p2 X) (fun _ Y => R7k X0 Y) := by
  unfold f_guard
  refine pw_eq (fun x1 _ => ?_)
  refine pw_ite (fun _ => ?_) (fun _ => ?_)
  · exact pw_ret h
  · refine pw_eq (fun x2 _ => ?_)
    refine pw_eq (fun x3 _ => ?_)
    refine pw_bd (rc_in h) (fun x4 X5 dX5 => ?_)
    refine pw_ite (fun _ => ?_) (fun _ => ?_)
    · exact pw_ret dX5
    · refine pw_ite (fun _ => ?_) (fun _ => ?_)
      · refine pw_ck (fun _ => ?_)
        refine pw_eq (fun x7 _ => ?_)
        exact pw_ret dX5
      · refine pw_ite (fun _ => ?_) (fun _ => ?_)
        · refine pw_ck (fun _ => ?_)
          refine pw_eq (fun x9 _ => ?_)
          exact pw_ret dX5
        · refine pw_ite (fun _ => ?_) (fun _ => ?_)
          · refine pw_ck (fun _ => ?_)
            refine pw_eq (fun x11 _ => ?_)
            exact pw_ret dX5
          · refine pw_ite (fun _ => ?_) (fun _ => ?_)
            · refine pw_ck (fun _ => ?_)
              refine pw_eq (fun x13 _ => ?_)
              refine pw_ck (fun _ => ?_)
              refine pw_eq (fun x14 _ => ?_)
              exact pw_ret dX5
            · refine pw_ite (fun _ => ?_) (fun _ => ?_)
              · refine pw_ck (fun _ => ?_)
                refine pw_eq (fun x16 _ => ?_)
                refine pw_ck (fun _ => ?_)
                refine pw_eq (fun x17 _ => ?_)
                exact pw_ret dX5
              · exact pw_ret dX5
theorem rc_part_II_I {p1 : Int32} {p2 : Int32} {X : St} (h : R7k X0 X) : pw (f_part_II_I p1 p2 X) (fun _ Y => R7k X0 Y) := by
  unfold f_part_II_I
  refine pw_eq (fun x1 _ => ?_)
  refine pw_ite (fun _ => ?_) (fun _ => ?_)
  · exact pw_ret h
  · refine pw_eq (fun x2 _ => ?_)
    refine pw_eq (fun x3 _ => ?_)
    refine pw_bd (rc_in h) (fun x4 X5 dX5 => ?_)
    refine pw_ite (fun _ => ?_) (fun _ => ?_)
    · exact pw_ret dX5
    · refine pw_ite (fun _ => ?_) (fun _ => ?_)
      · refine pw_ck (fun _ => ?_)
        refine pw_eq (fun x7 _ => ?_)
        refine pw_ite (fun _ => ?_) (fun _ => ?_)
        · exact pw_ret dX5
        · exact pw_ret dX5
      · refine pw_ite (fun _ => ?_) (fun _ => ?_)
        · refine pw_ck (fun _ => ?_)
          refine pw_eq (fun x9 _ => ?_)
          exact pw_ret dX5
        · refine pw_ite (fun _ => ?_) (fun _ => ?_)
          · refine pw_ck (fun _ => ?_)
            refine pw_eq (fun x11 _ => ?_)
            exact pw_ret dX5
          · refine pw_ite (fun _ => ?_) (fun _ => ?_)
            · refine pw_eq (fun x13 _ => ?_)
              refine pw_ite (fun _ => ?_) (fun _ => ?_)
              · exact pw_ret dX5
              · refine pw_ck (fun _ => ?_)
                refine pw_eq (fun x14 _ => ?_)
                refine pw_ite (fun _ => ?_) (fun _ => ?_)
                · exact pw_ret dX5
                · exact pw_ret dX5
            · refine pw_ite (fun _ => ?_) (fun _ => ?_)
              · refine pw_ck (fun _ => ?_)
                refine pw_eq (fun x16 _ => ?_)
                exact pw_ret dX5
              · refine pw_ck (fun _ => ?_)
                refine pw_eq (fun x17 _ => ?_)
                refine pw_eq (fun x18 _ => ?_)
                refine pw_bd (rc_in dX5) (fun x19 X20 dX20 => ?_)
                refine pw_ite (fun _ => ?_) (fun _ => ?_)
                · exact pw_ret dX20
                · refine pw_ck (fun _ => ?_)
                  refine pw_eq (fun x21 _ => ?_)
                  refine pw_eq (fun x22 _ => ?_)
                  refine pw_eq (fun x23 _ => ?_)
                  refine pw_ck (fun _ => ?_)
                  refine pw_eq (fun x24 _ => ?_)
                  exact pw_ret dX20
theorem rc_within_44 {r2 : Int32 → Int32 → St → Option (Int32 × St)} (hr2 : ∀ (q0 : Int32) (q1 : Int32) (X : St), R7k X0 X → pw (r2 q0 q1 X) (fun _ Y => R7k X0 Y)) {a1 : Int32} {b0 : Int32} {X : St} (h : R7k X0 X) : pw (f_within_44 r2 a1 b0 X) (fun _ Y => R7k X0 Y) := by
  unfold f_within_44
  refine pw_ck (fun _ => ?_)
  refine pw_eq (fun x2 _ => ?_)
  exact hr2 _ _ _ h
theorem rc_within_27 {r2 : Int32 → Int32 → St → Option (Int32 × St)} (hr2 : ∀ (q0 : Int32) (q1 : Int32) (X : St), R7k X0 X → pw (r2 q0 q1 X) (fun _ Y => R7k X0 Y)) {a1 : Int32} {a3 : Int32} {X : St} (h : R7k X0 X) : pw (f_within_27 r2 a1 a3 X) (fun _ Y => R7k X0 Y) := by
  unfold f_within_27
  refine pw_ite (fun _ => ?_) (fun _ => ?_)
  · exact rc_within_44 hr2 h
  · refine pw_eq (fun x1 _ => ?_)
    exact rc_within_44 hr2 h
theorem rc_within_16 {r2 : Int32 → Int32 → St → Option (Int32 × St)} (hr2 : ∀ (q0 : Int32) (q1 : Int32) (X : St), R7k X0 X → pw (r2 q0 q1 X) (fun _ Y => R7k X0 Y)) {a1 : Int32} {a3 : Int32} {X : St} (h : R7k X0 X) : pw (f_within_16 r2 a1 a3 X) (fun _ Y => R7k X0 Y) := by
  unfold f_within_16
  refine pw_ite (fun _ => ?_) (fun _ => ?_)
  · refine pw_ite (fun _ => ?_) (fun _ => ?_)
    · exact pw_ret h
    · exact rc_within_27 hr2 h
  · exact pw_ret h
theorem rc_within_2 (N : Nat) : ∀ (a1 : Int32) (a3 : Int32) (X : St), R7k X0 X → pw (f_within_2 N a1 a3 X) (fun _ Y => R7k X0 Y) := by
  unfold f_within_2
  refine lp_ind (P := fun (r : Int32 → Int32 → St → Option (Int32 × St)) => ∀ (a1 : Int32) (a3 : Int32) (X : St), R7k X0 X → pw (r a1 a3 X) (fun _ Y => R7k X0 Y)) (fun _ _ _ _ => pw_none) (fun r ih a1 a3 X h => ?_) N
  unfold f_within_2_s
  refine pw_ite (fun _ => ?_) (fun _ => ?_)
  · refine pw_ck (fun _ => ?_)
    refine pw_eq (fun x3 _ => ?_)
    refine pw_ite (fun _ => ?_) (fun _ => ?_)
    · exact rc_within_16 ih h
    · exact rc_within_27 ih h
  · exact rc_within_16 ih h
theorem rc_within {p1 : Int32} {p2 : Int32} {X : St} (h : R7k X0 X) : pw (f_within p1 p2 X) (fun _ Y => R7k X0 Y) := by
  unfold f_within
  exact rc_within_2 _ _ _ _ h
theorem rc_deep {p1 : Int32} {p2 : Int32} {X : St} (h : R7k X0 X) : pw (f_deep p1 p2 X) (fun _ Y => R7k X0 Y) := by
  unfold f_deep
  refine pw_ite (fun _ => ?_) (fun _ => ?_)
  · refine pw_ck (fun _ => ?_)
    refine pw_eq (fun x3 _ => ?_)
    refine pw_ite (fun _ => ?_) (fun _ => ?_)
    · exact pw_ret h
    · refine pw_ck (fun _ => ?_)
      refine pw_eq (fun x4 _ => ?_)
      exact pw_ret h
  · refine pw_ite (fun _ => ?_) (fun _ => ?_)
    · refine pw_ite (fun _ => ?_) (fun _ => ?_)
      · exact pw_ret h
      · refine pw_eq (fun x1 _ => ?_)
        refine pw_ck (fun _ => ?_)
        refine pw_eq (fun x2 _ => ?_)
        exact pw_ret h
    · exact pw_ret h
theorem rc_told_51 {a1 : Int32} {a2 : Int32} {a3 : Int32} {b0 : Int32} {X : St} (h : R7k X0 X) : pw (f_told_51 a1 a2 a3 b0 X) (fun _ Y => R7k X0 Y) := by
  unfold f_told_51
  refine pw_ite (fun _ => ?_) (fun _ => ?_)
  · refine pw_eq (fun x4 _ => ?_)
    exact pw_ret h
  · refine pw_ite (fun _ => ?_) (fun _ => ?_)
    · refine pw_eq (fun x6 _ => ?_)
      exact pw_ret h
    · refine pw_ite (fun _ => ?_) (fun _ => ?_)
      · refine pw_eq (fun x8 _ => ?_)
        exact pw_ret h
      · refine pw_ite (fun _ => ?_) (fun _ => ?_)
        · refine pw_eq (fun x10 _ => ?_)
          exact pw_ret h
        · refine pw_ite (fun _ => ?_) (fun _ => ?_)
          · exact pw_ret h
          · refine pw_ite (fun _ => ?_) (fun _ => ?_)
            · refine pw_ite (fun _ => ?_) (fun _ => ?_)
              · refine pw_bd (rc_within h) (fun x15 X16 dX16 => ?_)
                refine pw_ck (fun _ => ?_)
                refine pw_eq (fun x17 _ => ?_)
                exact pw_ret dX16
              · refine pw_ite (fun _ => ?_) (fun _ => ?_)
                · refine pw_bd (rc_within h) (fun x13 X14 dX14 => ?_)
                  exact pw_ret dX14
                · exact pw_ret h
            · refine pw_ite (fun _ => ?_) (fun _ => ?_)
              · refine pw_ite (fun _ => ?_) (fun _ => ?_)
                · exact pw_ret h
                · refine pw_bd (rc_deep h) (fun x19 X20 dX20 => ?_)
                  exact pw_ret dX20
              · refine pw_ite (fun _ => ?_) (fun _ => ?_)
                · refine pw_eq (fun x22 _ => ?_)
                  exact pw_ret h
                · refine pw_ite (fun _ => ?_) (fun _ => ?_)
                  · refine pw_eq (fun x24 _ => ?_)
                    exact pw_ret h
                  · refine pw_ite (fun _ => ?_) (fun _ => ?_)
                    · refine pw_eq (fun x26 _ => ?_)
                      exact pw_ret h
                    · exact pw_ret h
theorem rc_told_36 {a1 : Int32} {a2 : Int32} {b0 : Int32} {X : St} (h : R7k X0 X) : pw (f_told_36 a1 a2 b0 X) (fun _ Y => R7k X0 Y) := by
  unfold f_told_36
  refine pw_ite (fun _ => ?_) (fun _ => ?_)
  · exact rc_told_51 h
  · refine pw_ck (fun _ => ?_)
    refine pw_eq (fun x27 _ => ?_)
    exact rc_told_51 h
theorem rc_told_21 {a1 : Int32} {b0 : Int32} {X : St} (h : R7k X0 X) : pw (f_told_21 a1 b0 X) (fun _ Y => R7k X0 Y) := by
  unfold f_told_21
  refine pw_ite (fun _ => ?_) (fun _ => ?_)
  · exact rc_told_36 h
  · refine pw_ck (fun _ => ?_)
    refine pw_eq (fun x28 _ => ?_)
    exact rc_told_36 h
theorem rc_told {p1 : Int32} {X : St} (h : R7k X0 X) : pw (f_told p1 X) (fun _ Y => R7k X0 Y) := by
  unfold f_told
  refine pw_eq (fun x1 _ => ?_)
  refine pw_ite (fun _ => ?_) (fun _ => ?_)
  · exact pw_ret h
  · refine pw_eq (fun x2 _ => ?_)
    refine pw_ite (fun _ => ?_) (fun _ => ?_)
    · exact rc_told_21 h
    · exact rc_told_21 h
theorem rc_out {p1 : Int32} {X : St} (h : R7k X0 X) : pw (f_out p1 X) (fun _ Y => R7k X0 Y) := by
  unfold f_out
  refine pw_eq (fun x1 _ => ?_)
  refine pw_ite (fun _ => ?_) (fun _ => ?_)
  · exact pw_ret h
  · refine pw_eq (fun x2 _ => ?_)
    refine pw_eq (fun x3 _ => ?_)
    refine pw_bd (rc_in h) (fun x4 X5 dX5 => ?_)
    refine pw_ite (fun _ => ?_) (fun _ => ?_)
    · exact pw_ret dX5
    · refine pw_ck (fun _ => ?_)
      refine pw_eq (fun x6 _ => ?_)
      exact pw_ret dX5
theorem rc_asked {p1 : Int32} {p2 : Int32} {X : St} (h : R7k X0 X) : pw (f_asked p1 p2 X) (fun _ Y => R7k X0 Y) := by
  unfold f_asked
  refine pw_eq (fun x1 _ => ?_)
  refine pw_ite (fun _ => ?_) (fun _ => ?_)
  · exact pw_ret h
  · refine pw_eq (fun x2 _ => ?_)
    refine pw_eq (fun x3 _ => ?_)
    refine pw_bd (rc_in h) (fun x4 X5 dX5 => ?_)
    refine pw_ite (fun _ => ?_) (fun _ => ?_)
    · exact pw_ret dX5
    · refine pw_eq (fun x6 _ => ?_)
      refine pw_eq (fun x7 _ => ?_)
      refine pw_bd (rc_in dX5) (fun x8 X9 dX9 => ?_)
      refine pw_ite (fun _ => ?_) (fun _ => ?_)
      · exact pw_ret dX9
      · refine pw_eq (fun x10 _ => ?_)
        refine pw_eq (fun x11 _ => ?_)
        refine pw_ck (fun _ => ?_)
        refine pw_eq (fun x12 _ => ?_)
        exact pw_ret dX9
theorem rc_about {p1 : Int32} {X : St} (h : R7k X0 X) : pw (f_about p1 X) (fun _ Y => R7k X0 Y) := by
  unfold f_about
  refine pw_ite (fun _ => ?_) (fun _ => ?_)
  · refine pw_eq (fun x2 _ => ?_)
    exact pw_ret h
  · refine pw_ite (fun _ => ?_) (fun _ => ?_)
    · refine pw_eq (fun x4 _ => ?_)
      exact pw_ret h
    · refine pw_ite (fun _ => ?_) (fun _ => ?_)
      · refine pw_eq (fun x6 _ => ?_)
        refine pw_ite (fun _ => ?_) (fun _ => ?_)
        · exact pw_ret h
        · exact pw_ret h
      · refine pw_ite (fun _ => ?_) (fun _ => ?_)
        · refine pw_eq (fun x8 _ => ?_)
          refine pw_ite (fun _ => ?_) (fun _ => ?_)
          · exact pw_ret h
          · refine pw_eq (fun x9 _ => ?_)
            exact pw_ret h
        · exact pw_ret h
theorem rc_put {p1 : Int32} {X : St} (h : R7k X0 X) : pw (f_put p1 X) (fun _ Y => R7k X0 Y) := by
  unfold f_put
  refine pw_eq (fun x1 _ => ?_)
  refine pw_eq (fun x2 _ => ?_)
  refine pw_eq (fun x3 _ => ?_)
  refine pw_ck (fun _ => ?_)
  refine pw_eq (fun X4 eX4 => ?_)
  have dX4 : R7k X0 X4 := by rw [eX4]; exact R7k_w h (by omega)
  refine pw_eq (fun x5 _ => ?_)
  refine pw_eq (fun x6 _ => ?_)
  refine pw_eq (fun x7 _ => ?_)
  refine pw_eq (fun x8 _ => ?_)
  refine pw_ck (fun _ => ?_)
  refine pw_eq (fun X9 eX9 => ?_)
  have dX9 : R7k X0 X9 := by rw [eX9]; exact R7k_w dX4 (by omega)
  refine pw_eq (fun x10 _ => ?_)
  refine pw_eq (fun x11 _ => ?_)
  refine pw_eq (fun x12 _ => ?_)
  refine pw_eq (fun x13 _ => ?_)
  refine pw_ck (fun _ => ?_)
  refine pw_eq (fun X14 eX14 => ?_)
  have dX14 : R7k X0 X14 := by rw [eX14]; exact R7k_w dX9 (by omega)
  refine pw_eq (fun x15 _ => ?_)
  refine pw_eq (fun x16 _ => ?_)
  refine pw_eq (fun x17 _ => ?_)
  refine pw_ck (fun _ => ?_)
  refine pw_eq (fun X18 eX18 => ?_)
  have dX18 : R7k X0 X18 := by rw [eX18]; exact R7k_w dX14 (by omega)
  refine pw_eq (fun x19 _ => ?_)
  refine pw_eq (fun x20 _ => ?_)
  refine pw_eq (fun X21 eX21 => ?_)
  have dX21 : R7k X0 X21 := by rw [eX21]; exact R7k_w dX18 (by omega)
  exact pw_ret dX21
theorem rc_feed {p1 : Int32} {p2 : Int32} {p3 : Int32} {p4 : Int32} {p5 : Int32} {X : St} (h : R7k X0 X) : pw (f_feed p1 p2 p3 p4 p5 X) (fun _ Y => R7k X0 Y) := by
  unfold f_feed
  refine pw_eq (fun x1 _ => ?_)
  refine pw_eq (fun x2 _ => ?_)
  refine pw_ite (fun _ => ?_) (fun _ => ?_)
  · refine pw_bd (rc_put h) (fun _ X3 dX3 => ?_)
    refine pw_bd (rc_put dX3) (fun _ X4 dX4 => ?_)
    refine pw_bd (rc_put dX4) (fun _ X5 dX5 => ?_)
    refine pw_bd (rc_put dX5) (fun _ X6 dX6 => ?_)
    refine pw_bd (rc_put dX6) (fun _ X7 dX7 => ?_)
    refine pw_eq (fun x8 _ => ?_)
    exact pw_ret dX7
  · exact pw_ret h
end RPROG
