/-! where any stands in a part: what the judge leaves of it -/
def R57 (X Y : St) : Prop := (∀ q, Y.1 57 q = X.1 57 q) ∧ Y.1 0 29 = X.1 0 29
theorem R57.rf {X : St} : R57 X X := ⟨fun _ => rfl, rfl⟩
theorem R57.tr {X Y Z : St} (h : R57 X Y) (g : R57 Y Z) : R57 X Z := ⟨fun q => (g.1 q).trans (h.1 q), g.2.trans h.2⟩
theorem R57_w {X0 X : St} {e k : Nat} {v : Int32} (h : R57 X0 X) (hk : ¬ e = 57 ∧ ¬ (e = 0 ∧ k = 29)) : R57 X0 (_root_.Jvm.Pilot.CBlameCourtLaw_law_r8381_f30dd1.wI X e k v) := ⟨fun q => (wI_ne _ _ _ _ _ _ (by omega)).trans (h.1 q), (wI_ne _ _ _ _ _ _ (by omega)).trans h.2⟩
section RS57
variable {X0 : St}
theorem rs_fits_111 {r16 : Int32 → St → Option (Int32 × St)} (hr16 : ∀ (q0 : Int32) (X : St), R57 X0 X → pw (r16 q0 X) (fun _ Y => R57 X0 Y)) (N : Nat) : ∀ (a3 : Int32) (a4 : Int32) (a5 : Int32) (a6 : Int32) (X : St), R57 X0 X → pw (f_fits_111 r16 N a3 a4 a5 a6 X) (fun _ Y => R57 X0 Y) := by
  unfold f_fits_111
  refine lp_ind (P := fun (r : Int32 → Int32 → Int32 → Int32 → St → Option (Int32 × St)) => ∀ (a3 : Int32) (a4 : Int32) (a5 : Int32) (a6 : Int32) (X : St), R57 X0 X → pw (r a3 a4 a5 a6 X) (fun _ Y => R57 X0 Y)) (fun _ _ _ _ _ _ => pw_none) (fun r ih a3 a4 a5 a6 X h => ?_) N
  unfold f_fits_111_s
  refine pw_ck (fun _ => ?_)
  refine pw_eq (fun x11 _ => ?_)
  refine pw_ite (fun _ => ?_) (fun _ => ?_)
  · exact hr16 _ _ h
  · refine pw_ck (fun _ => ?_)
    refine pw_eq (fun x12 _ => ?_)
    refine pw_eq (fun x13 _ => ?_)
    refine pw_ck (fun _ => ?_)
    refine pw_eq (fun x14 _ => ?_)
    refine pw_ck (fun _ => ?_)
    refine pw_eq (fun X15 eX15 => ?_)
    have dX15 : R57 X0 X15 := by rw [eX15]; exact R57_w h (by omega)
    refine pw_ck (fun _ => ?_)
    refine pw_eq (fun x16 _ => ?_)
    refine pw_eq (fun x17 _ => ?_)
    refine pw_ck (fun _ => ?_)
    refine pw_eq (fun x18 _ => ?_)
    refine pw_ck (fun _ => ?_)
    refine pw_eq (fun X19 eX19 => ?_)
    have dX19 : R57 X0 X19 := by rw [eX19]; exact R57_w dX15 (by omega)
    refine pw_eq (fun x20 _ => ?_)
    refine pw_eq (fun x21 _ => ?_)
    exact ih _ _ _ _ _ dX19
theorem rs_fits_16 (N : Nat) : ∀ (a3 : Int32) (X : St), R57 X0 X → pw (f_fits_16 N a3 X) (fun _ Y => R57 X0 Y) := by
  unfold f_fits_16
  refine lp_ind (P := fun (r : Int32 → St → Option (Int32 × St)) => ∀ (a3 : Int32) (X : St), R57 X0 X → pw (r a3 X) (fun _ Y => R57 X0 Y)) (fun _ _ _ => pw_none) (fun r ih a3 X h => ?_) N
  unfold f_fits_16_s
  refine pw_ite (fun _ => ?_) (fun _ => ?_)
  · exact pw_ret h
  · refine pw_eq (fun x3 _ => ?_)
    refine pw_ck (fun _ => ?_)
    refine pw_eq (fun x4 _ => ?_)
    refine pw_ck (fun _ => ?_)
    refine pw_eq (fun x5 _ => ?_)
    refine pw_ite (fun _ => ?_) (fun _ => ?_)
    · exact ih _ _ h
    · refine pw_ite (fun _ => ?_) (fun _ => ?_)
      · exact ih _ _ h
      · refine pw_ite (fun _ => ?_) (fun _ => ?_)
        · exact ih _ _ h
        · refine pw_ck (fun _ => ?_)
          refine pw_eq (fun x6 _ => ?_)
          refine pw_ck (fun _ => ?_)
          refine pw_eq (fun x7 _ => ?_)
          refine pw_ite (fun _ => ?_) (fun _ => ?_)
          · refine pw_ck (fun _ => ?_)
            refine pw_eq (fun x8 _ => ?_)
            refine pw_ite (fun _ => ?_) (fun _ => ?_)
            · exact pw_ret h
            · refine pw_ck (fun _ => ?_)
              refine pw_eq (fun x9 _ => ?_)
              refine pw_ck (fun _ => ?_)
              refine pw_eq (fun x10 _ => ?_)
              refine pw_ite (fun _ => ?_) (fun _ => ?_)
              · exact rs_fits_111 ih _ _ _ _ _ _ h
              · exact pw_ret h
          · exact pw_ret h
theorem rs_fits {p1 : Int32} {p2 : Int32} {X : St} (h : R57 X0 X) : pw (f_fits p1 p2 X) (fun _ Y => R57 X0 Y) := by
  unfold f_fits
  refine pw_ck (fun _ => ?_)
  refine pw_eq (fun X1 eX1 => ?_)
  have dX1 : R57 X0 X1 := by rw [eX1]; exact R57_w h (by omega)
  refine pw_ck (fun _ => ?_)
  refine pw_eq (fun X2 eX2 => ?_)
  have dX2 : R57 X0 X2 := by rw [eX2]; exact R57_w dX1 (by omega)
  exact rs_fits_16 _ _ _ dX2
theorem rs_fails {p1 : Int32} {p2 : Int32} {X : St} (h : R57 X0 X) : pw (f_fails p1 p2 X) (fun _ Y => R57 X0 Y) := by
  unfold f_fails
  refine pw_eq (fun x1 _ => ?_)
  refine pw_ite (fun _ => ?_) (fun _ => ?_)
  · refine pw_eq (fun X2 eX2 => ?_)
    have dX2 : R57 X0 X2 := by rw [eX2]; exact R57_w h (by omega)
    refine pw_eq (fun X3 eX3 => ?_)
    have dX3 : R57 X0 X3 := by rw [eX3]; exact R57_w dX2 (by omega)
    exact pw_ret dX3
  · exact pw_ret h
theorem rs_guards {p1 : Int32} {p2 : Int32} {p3 : Int32} {p4 : Int32} {p5 : Int32} {X : St} (h : R57 X0 X) : pw (f_guards p1 p2 p3 p4 p5 X) (fun _ Y => R57 X0 Y) := by
  unfold f_guards
  refine pw_ite (fun _ => ?_) (fun _ => ?_)
  · exact pw_ret h
  · refine pw_eq (fun x1 _ => ?_)
    refine pw_ck (fun _ => ?_)
    refine pw_eq (fun X2 eX2 => ?_)
    have dX2 : R57 X0 X2 := by rw [eX2]; exact R57_w h (by omega)
    refine pw_eq (fun x3 _ => ?_)
    refine pw_ck (fun _ => ?_)
    refine pw_eq (fun X4 eX4 => ?_)
    have dX4 : R57 X0 X4 := by rw [eX4]; exact R57_w dX2 (by omega)
    refine pw_eq (fun x5 _ => ?_)
    refine pw_ck (fun _ => ?_)
    refine pw_eq (fun X6 eX6 => ?_)
    have dX6 : R57 X0 X6 := by rw [eX6]; exact R57_w dX4 (by omega)
    refine pw_eq (fun x7 _ => ?_)
    refine pw_eq (fun x8 _ => ?_)
    refine pw_ck (fun _ => ?_)
    refine pw_eq (fun X9 eX9 => ?_)
    have dX9 : R57 X0 X9 := by rw [eX9]; exact R57_w dX6 (by omega)
    refine pw_eq (fun x10 _ => ?_)
    refine pw_ck (fun _ => ?_)
    refine pw_eq (fun X11 eX11 => ?_)
    have dX11 : R57 X0 X11 := by rw [eX11]; exact R57_w dX9 (by omega)
    refine pw_eq (fun x12 _ => ?_)
    refine pw_ck (fun _ => ?_)
    refine pw_eq (fun X13 eX13 => ?_)
    have dX13 : R57 X0 X13 := by rw [eX13]; exact R57_w dX11 (by omega)
    refine pw_eq (fun x14 _ => ?_)
    refine pw_eq (fun x15 _ => ?_)
    refine pw_eq (fun X16 eX16 => ?_)
    have dX16 : R57 X0 X16 := by rw [eX16]; exact R57_w dX13 (by omega)
    exact pw_ret dX16
theorem rs_must {p1 : Int32} {p2 : Int32} {p3 : Int32} {p4 : Int32} {X : St} (h : R57 X0 X) : pw (f_must p1 p2 p3 p4 X) (fun _ Y => R57 X0 Y) := by
  unfold f_must
  refine pw_eq (fun x1 _ => ?_)
  refine pw_eq (fun x2 _ => ?_)
  refine pw_ck (fun _ => ?_)
  refine pw_eq (fun x3 _ => ?_)
  refine pw_bd (rs_fits h) (fun x4 X5 dX5 => ?_)
  refine pw_ite (fun _ => ?_) (fun _ => ?_)
  · refine pw_bd (rs_fails dX5) (fun _ X10 dX10 => ?_)
    exact pw_ret dX10
  · refine pw_bd (rs_guards dX5) (fun _ X6 dX6 => ?_)
    refine pw_eq (fun x7 _ => ?_)
    refine pw_eq (fun x8 _ => ?_)
    refine pw_ck (fun _ => ?_)
    refine pw_eq (fun X9 eX9 => ?_)
    have dX9 : R57 X0 X9 := by rw [eX9]; exact R57_w dX6 (by omega)
    exact pw_ret dX9
theorem rs_kindOf_315 {r212 : Int32 → Int32 → Int32 → Int32 → Int32 → Int32 → St → Option (Int32 × St)} (hr212 : ∀ (q0 : Int32) (q1 : Int32) (q2 : Int32) (q3 : Int32) (q4 : Int32) (q5 : Int32) (X : St), R57 X0 X → pw (r212 q0 q1 q2 q3 q4 q5 X) (fun _ Y => R57 X0 Y)) {a1 : Int32} {a2 : Int32} {a3 : Int32} {a4 : Int32} {a6 : Int32} {b0 : Int32} {X : St} (h : R57 X0 X) : pw (f_kindOf_315 r212 a1 a2 a3 a4 a6 b0 X) (fun _ Y => R57 X0 Y) := by
  unfold f_kindOf_315
  refine pw_eq (fun x21 _ => ?_)
  exact hr212 _ _ _ _ _ _ _ h
theorem rs_kindOf_284 {r212 : Int32 → Int32 → Int32 → Int32 → Int32 → Int32 → St → Option (Int32 × St)} (hr212 : ∀ (q0 : Int32) (q1 : Int32) (q2 : Int32) (q3 : Int32) (q4 : Int32) (q5 : Int32) (X : St), R57 X0 X → pw (r212 q0 q1 q2 q3 q4 q5 X) (fun _ Y => R57 X0 Y)) {a1 : Int32} {a2 : Int32} {a3 : Int32} {a4 : Int32} {a5 : Int32} {a6 : Int32} {b0 : Int32} {b1 : Int32} {X : St} (h : R57 X0 X) : pw (f_kindOf_284 r212 a1 a2 a3 a4 a5 a6 b0 b1 X) (fun _ Y => R57 X0 Y) := by
  unfold f_kindOf_284
  refine pw_ck (fun _ => ?_)
  refine pw_eq (fun X20 eX20 => ?_)
  have dX20 : R57 X0 X20 := by rw [eX20]; exact R57_w h (by omega)
  refine pw_ite (fun _ => ?_) (fun _ => ?_)
  · refine pw_eq (fun x22 _ => ?_)
    refine pw_eq (fun x23 _ => ?_)
    refine pw_ck (fun _ => ?_)
    refine pw_eq (fun x24 _ => ?_)
    refine pw_ck (fun _ => ?_)
    refine pw_eq (fun x25 _ => ?_)
    refine pw_eq (fun x26 _ => ?_)
    exact rs_kindOf_315 hr212 dX20
  · exact rs_kindOf_315 hr212 dX20
theorem rs_kindOf_279 {r212 : Int32 → Int32 → Int32 → Int32 → Int32 → Int32 → St → Option (Int32 × St)} (hr212 : ∀ (q0 : Int32) (q1 : Int32) (q2 : Int32) (q3 : Int32) (q4 : Int32) (q5 : Int32) (X : St), R57 X0 X → pw (r212 q0 q1 q2 q3 q4 q5 X) (fun _ Y => R57 X0 Y)) {a1 : Int32} {a2 : Int32} {a3 : Int32} {a4 : Int32} {a5 : Int32} {a6 : Int32} {b0 : Int32} {X : St} (h : R57 X0 X) : pw (f_kindOf_279 r212 a1 a2 a3 a4 a5 a6 b0 X) (fun _ Y => R57 X0 Y) := by
  unfold f_kindOf_279
  exact rs_kindOf_284 hr212 h
theorem rs_kindOf_212 (N : Nat) : ∀ (a1 : Int32) (a2 : Int32) (a3 : Int32) (a4 : Int32) (a5 : Int32) (a6 : Int32) (X : St), R57 X0 X → pw (f_kindOf_212 N a1 a2 a3 a4 a5 a6 X) (fun _ Y => R57 X0 Y) := by
  unfold f_kindOf_212
  refine lp_ind (P := fun (r : Int32 → Int32 → Int32 → Int32 → Int32 → Int32 → St → Option (Int32 × St)) => ∀ (a1 : Int32) (a2 : Int32) (a3 : Int32) (a4 : Int32) (a5 : Int32) (a6 : Int32) (X : St), R57 X0 X → pw (r a1 a2 a3 a4 a5 a6 X) (fun _ Y => R57 X0 Y)) (fun _ _ _ _ _ _ _ _ => pw_none) (fun r ih a1 a2 a3 a4 a5 a6 X h => ?_) N
  unfold f_kindOf_212_s
  refine pw_ite (fun _ => ?_) (fun _ => ?_)
  · refine pw_ck (fun _ => ?_)
    refine pw_eq (fun X11 eX11 => ?_)
    have dX11 : R57 X0 X11 := by rw [eX11]; exact R57_w h (by omega)
    exact pw_ret dX11
  · refine pw_eq (fun x12 _ => ?_)
    refine pw_eq (fun x13 _ => ?_)
    refine pw_ck (fun _ => ?_)
    refine pw_eq (fun x14 _ => ?_)
    refine pw_ck (fun _ => ?_)
    refine pw_eq (fun X15 eX15 => ?_)
    have dX15 : R57 X0 X15 := by rw [eX15]; exact R57_w h (by omega)
    refine pw_eq (fun x16 _ => ?_)
    refine pw_eq (fun x17 _ => ?_)
    refine pw_eq (fun X18 eX18 => ?_)
    have dX18 : R57 X0 X18 := by rw [eX18]; exact R57_w dX15 (by omega)
    refine pw_ck (fun _ => ?_)
    refine pw_eq (fun x19 _ => ?_)
    refine pw_ite (fun _ => ?_) (fun _ => ?_)
    · refine pw_eq (fun x27 _ => ?_)
      refine pw_ck (fun _ => ?_)
      refine pw_eq (fun x28 _ => ?_)
      refine pw_ck (fun _ => ?_)
      refine pw_eq (fun x29 _ => ?_)
      refine pw_ite (fun _ => ?_) (fun _ => ?_)
      · exact rs_kindOf_284 ih dX18
      · exact rs_kindOf_279 ih dX18
    · exact rs_kindOf_279 ih dX18
theorem rs_kindOf_207 {a1 : Int32} {a2 : Int32} {a3 : Int32} {a4 : Int32} {b0 : Int32} {X : St} (h : R57 X0 X) : pw (f_kindOf_207 a1 a2 a3 a4 b0 X) (fun _ Y => R57 X0 Y) := by
  unfold f_kindOf_207
  exact rs_kindOf_212 _ _ _ _ _ _ _ _ h
theorem rs_kindOf_168 {a1 : Int32} {a2 : Int32} {a3 : Int32} {a4 : Int32} {b0 : Int32} {b1 : Int32} {X : St} (h : R57 X0 X) : pw (f_kindOf_168 a1 a2 a3 a4 b0 b1 X) (fun _ Y => R57 X0 Y) := by
  unfold f_kindOf_168
  refine pw_ck (fun _ => ?_)
  refine pw_eq (fun X10 eX10 => ?_)
  have dX10 : R57 X0 X10 := by rw [eX10]; exact R57_w h (by omega)
  refine pw_ite (fun _ => ?_) (fun _ => ?_)
  · refine pw_ck (fun _ => ?_)
    refine pw_eq (fun x32 _ => ?_)
    refine pw_ck (fun _ => ?_)
    refine pw_eq (fun x33 _ => ?_)
    refine pw_eq (fun x34 _ => ?_)
    refine pw_eq (fun x35 _ => ?_)
    exact rs_kindOf_207 dX10
  · refine pw_ite (fun _ => ?_) (fun _ => ?_)
    · refine pw_eq (fun x30 _ => ?_)
      refine pw_eq (fun x31 _ => ?_)
      exact rs_kindOf_207 dX10
    · exact rs_kindOf_207 dX10
theorem rs_kindOf_95 {r3 : Int32 → Int32 → Int32 → Int32 → St → Option (Int32 × St)} (hr3 : ∀ (q0 : Int32) (q1 : Int32) (q2 : Int32) (q3 : Int32) (X : St), R57 X0 X → pw (r3 q0 q1 q2 q3 X) (fun _ Y => R57 X0 Y)) {a1 : Int32} {a2 : Int32} {a3 : Int32} {a4 : Int32} {a5 : Int32} {X : St} (h : R57 X0 X) : pw (f_kindOf_95 r3 a1 a2 a3 a4 a5 X) (fun _ Y => R57 X0 Y) := by
  unfold f_kindOf_95
  refine pw_ite (fun _ => ?_) (fun _ => ?_)
  · refine pw_eq (fun x37 _ => ?_)
    exact hr3 _ _ _ _ _ h
  · exact pw_ret h
theorem rs_kindOf_87 {r3 : Int32 → Int32 → Int32 → Int32 → St → Option (Int32 × St)} {r44 : Int32 → Int32 → Int32 → Int32 → Int32 → Int32 → St → Option (Int32 × St)} (hr3 : ∀ (q0 : Int32) (q1 : Int32) (q2 : Int32) (q3 : Int32) (X : St), R57 X0 X → pw (r3 q0 q1 q2 q3 X) (fun _ Y => R57 X0 Y)) (hr44 : ∀ (q0 : Int32) (q1 : Int32) (q2 : Int32) (q3 : Int32) (q4 : Int32) (q5 : Int32) (X : St), R57 X0 X → pw (r44 q0 q1 q2 q3 q4 q5 X) (fun _ Y => R57 X0 Y)) {a1 : Int32} {a2 : Int32} {a3 : Int32} {a4 : Int32} {a6 : Int32} {b0 : Int32} {X : St} (h : R57 X0 X) : pw (f_kindOf_87 r3 r44 a1 a2 a3 a4 a6 b0 X) (fun _ Y => R57 X0 Y) := by
  unfold f_kindOf_87
  refine pw_eq (fun x43 _ => ?_)
  exact hr44 _ _ _ _ _ _ _ h
theorem rs_kindOf_44 {r3 : Int32 → Int32 → Int32 → Int32 → St → Option (Int32 × St)} (hr3 : ∀ (q0 : Int32) (q1 : Int32) (q2 : Int32) (q3 : Int32) (X : St), R57 X0 X → pw (r3 q0 q1 q2 q3 X) (fun _ Y => R57 X0 Y)) (N : Nat) : ∀ (a1 : Int32) (a2 : Int32) (a3 : Int32) (a4 : Int32) (a5 : Int32) (a6 : Int32) (X : St), R57 X0 X → pw (f_kindOf_44 r3 N a1 a2 a3 a4 a5 a6 X) (fun _ Y => R57 X0 Y) := by
  unfold f_kindOf_44
  refine lp_ind (P := fun (r : Int32 → Int32 → Int32 → Int32 → Int32 → Int32 → St → Option (Int32 × St)) => ∀ (a1 : Int32) (a2 : Int32) (a3 : Int32) (a4 : Int32) (a5 : Int32) (a6 : Int32) (X : St), R57 X0 X → pw (r a1 a2 a3 a4 a5 a6 X) (fun _ Y => R57 X0 Y)) (fun _ _ _ _ _ _ _ _ => pw_none) (fun r ih a1 a2 a3 a4 a5 a6 X h => ?_) N
  unfold f_kindOf_44_s
  refine pw_ite (fun _ => ?_) (fun _ => ?_)
  · exact rs_kindOf_95 hr3 h
  · refine pw_ite (fun _ => ?_) (fun _ => ?_)
    · exact rs_kindOf_95 hr3 h
    · refine pw_ck (fun _ => ?_)
      refine pw_eq (fun x38 _ => ?_)
      refine pw_eq (fun x39 _ => ?_)
      refine pw_ck (fun _ => ?_)
      refine pw_eq (fun x40 _ => ?_)
      refine pw_eq (fun x41 _ => ?_)
      refine pw_ck (fun _ => ?_)
      refine pw_eq (fun x42 _ => ?_)
      refine pw_ite (fun _ => ?_) (fun _ => ?_)
      · exact rs_kindOf_87 hr3 ih h
      · exact rs_kindOf_87 hr3 ih h
theorem rs_kindOf_39 {r3 : Int32 → Int32 → Int32 → Int32 → St → Option (Int32 × St)} (hr3 : ∀ (q0 : Int32) (q1 : Int32) (q2 : Int32) (q3 : Int32) (X : St), R57 X0 X → pw (r3 q0 q1 q2 q3 X) (fun _ Y => R57 X0 Y)) {a1 : Int32} {a2 : Int32} {a3 : Int32} {a4 : Int32} {b0 : Int32} {X : St} (h : R57 X0 X) : pw (f_kindOf_39 r3 a1 a2 a3 a4 b0 X) (fun _ Y => R57 X0 Y) := by
  unfold f_kindOf_39
  exact rs_kindOf_44 hr3 _ _ _ _ _ _ _ _ h
theorem rs_kindOf_38 {r3 : Int32 → Int32 → Int32 → Int32 → St → Option (Int32 × St)} (hr3 : ∀ (q0 : Int32) (q1 : Int32) (q2 : Int32) (q3 : Int32) (X : St), R57 X0 X → pw (r3 q0 q1 q2 q3 X) (fun _ Y => R57 X0 Y)) {a1 : Int32} {a2 : Int32} {a3 : Int32} {a4 : Int32} {X : St} (h : R57 X0 X) : pw (f_kindOf_38 r3 a1 a2 a3 a4 X) (fun _ Y => R57 X0 Y) := by
  unfold f_kindOf_38
  exact rs_kindOf_39 hr3 h
theorem rs_kindOf_3 (N : Nat) : ∀ (a1 : Int32) (a2 : Int32) (a3 : Int32) (a4 : Int32) (X : St), R57 X0 X → pw (f_kindOf_3 N a1 a2 a3 a4 X) (fun _ Y => R57 X0 Y) := by
  unfold f_kindOf_3
  refine lp_ind (P := fun (r : Int32 → Int32 → Int32 → Int32 → St → Option (Int32 × St)) => ∀ (a1 : Int32) (a2 : Int32) (a3 : Int32) (a4 : Int32) (X : St), R57 X0 X → pw (r a1 a2 a3 a4 X) (fun _ Y => R57 X0 Y)) (fun _ _ _ _ _ _ => pw_none) (fun r ih a1 a2 a3 a4 X h => ?_) N
  unfold f_kindOf_3_s
  refine pw_eq (fun x1 _ => ?_)
  refine pw_ite (fun _ => ?_) (fun _ => ?_)
  · refine pw_eq (fun x2 _ => ?_)
    refine pw_eq (fun x3 _ => ?_)
    refine pw_eq (fun x4 _ => ?_)
    refine pw_eq (fun X5 eX5 => ?_)
    have dX5 : R57 X0 X5 := by rw [eX5]; exact R57_w h (by omega)
    refine pw_ck (fun _ => ?_)
    refine pw_eq (fun X6 eX6 => ?_)
    have dX6 : R57 X0 X6 := by rw [eX6]; exact R57_w dX5 (by omega)
    refine pw_ck (fun _ => ?_)
    refine pw_eq (fun X7 eX7 => ?_)
    have dX7 : R57 X0 X7 := by rw [eX7]; exact R57_w dX6 (by omega)
    refine pw_eq (fun x8 _ => ?_)
    refine pw_ck (fun _ => ?_)
    refine pw_eq (fun X9 eX9 => ?_)
    have dX9 : R57 X0 X9 := by rw [eX9]; exact R57_w dX7 (by omega)
    refine pw_ite (fun _ => ?_) (fun _ => ?_)
    · exact rs_kindOf_168 dX9
    · exact rs_kindOf_168 dX9
  · refine pw_ck (fun _ => ?_)
    refine pw_eq (fun x36 _ => ?_)
    refine pw_ite (fun _ => ?_) (fun _ => ?_)
    · refine pw_ck (fun _ => ?_)
      refine pw_eq (fun x44 _ => ?_)
      refine pw_ite (fun _ => ?_) (fun _ => ?_)
      · exact rs_kindOf_39 ih h
      · exact rs_kindOf_38 ih h
    · exact rs_kindOf_38 ih h
theorem rs_kindOf {p1 : Int32} {p2 : Int32} {p3 : Int32} {X : St} (h : R57 X0 X) : pw (f_kindOf p1 p2 p3 X) (fun _ Y => R57 X0 Y) := by
  unfold f_kindOf
  exact rs_kindOf_3 _ _ _ _ _ _ h
theorem rs_anyFunction_2 (N : Nat) : ∀ (a1 : Int32) (a2 : Int32) (X : St), R57 X0 X → pw (f_anyFunction_2 N a1 a2 X) (fun _ Y => R57 X0 Y) := by
  unfold f_anyFunction_2
  refine lp_ind (P := fun (r : Int32 → Int32 → St → Option (Int32 × St)) => ∀ (a1 : Int32) (a2 : Int32) (X : St), R57 X0 X → pw (r a1 a2 X) (fun _ Y => R57 X0 Y)) (fun _ _ _ _ => pw_none) (fun r ih a1 a2 X h => ?_) N
  unfold f_anyFunction_2_s
  refine pw_ite (fun _ => ?_) (fun _ => ?_)
  · refine pw_eq (fun x1 _ => ?_)
    refine pw_bd (rs_kindOf h) (fun x2 X3 dX3 => ?_)
    exact pw_ret dX3
  · refine pw_eq (fun x4 _ => ?_)
    refine pw_ck (fun _ => ?_)
    refine pw_eq (fun X5 eX5 => ?_)
    have dX5 : R57 X0 X5 := by rw [eX5]; exact R57_w h (by omega)
    refine pw_eq (fun x6 _ => ?_)
    exact ih _ _ _ dX5
theorem rs_anyFunction {p1 : Int32} {X : St} (h : R57 X0 X) : pw (f_anyFunction p1 X) (fun _ Y => R57 X0 Y) := by
  unfold f_anyFunction
  exact rs_anyFunction_2 _ _ _ _ h
theorem rs_judgeCallee {p1 : Int32} {p2 : Int32} {X : St} (h : R57 X0 X) : pw (f_judgeCallee p1 p2 X) (fun _ Y => R57 X0 Y) := by
  unfold f_judgeCallee
  refine pw_eq (fun x1 _ => ?_)
  refine pw_eq (fun x2 _ => ?_)
  refine pw_ck (fun _ => ?_)
  refine pw_eq (fun x3 _ => ?_)
  refine pw_ite (fun _ => ?_) (fun _ => ?_)
  · refine pw_ck (fun _ => ?_)
    refine pw_eq (fun x12 _ => ?_)
    refine pw_bd (rs_anyFunction h) (fun x13 X14 dX14 => ?_)
    refine pw_ck (fun _ => ?_)
    refine pw_eq (fun x15 _ => ?_)
    refine pw_eq (fun x16 _ => ?_)
    refine pw_bd (rs_guards dX14) (fun _ X17 dX17 => ?_)
    refine pw_eq (fun x18 _ => ?_)
    refine pw_eq (fun x19 _ => ?_)
    refine pw_ck (fun _ => ?_)
    refine pw_eq (fun X20 eX20 => ?_)
    have dX20 : R57 X0 X20 := by rw [eX20]; exact R57_w dX17 (by omega)
    exact pw_ret dX20
  · refine pw_ck (fun _ => ?_)
    refine pw_eq (fun x4 _ => ?_)
    refine pw_ite (fun _ => ?_) (fun _ => ?_)
    · refine pw_ck (fun _ => ?_)
      refine pw_eq (fun x5 _ => ?_)
      refine pw_eq (fun x6 _ => ?_)
      refine pw_ck (fun _ => ?_)
      refine pw_eq (fun x7 _ => ?_)
      refine pw_ite (fun _ => ?_) (fun _ => ?_)
      · exact pw_ret h
      · refine pw_ck (fun _ => ?_)
        refine pw_eq (fun x8 _ => ?_)
        refine pw_bd (rs_fails h) (fun _ X9 dX9 => ?_)
        exact pw_ret dX9
    · refine pw_ck (fun _ => ?_)
      refine pw_eq (fun x10 _ => ?_)
      refine pw_bd (rs_fails h) (fun _ X11 dX11 => ?_)
      exact pw_ret dX11
theorem rs_rowOf {p1 : Int32} {X : St} (h : R57 X0 X) : pw (f_rowOf p1 X) (fun _ Y => R57 X0 Y) := by
  unfold f_rowOf
  refine pw_ck (fun _ => ?_)
  refine pw_eq (fun X1 eX1 => ?_)
  have dX1 : R57 X0 X1 := by rw [eX1]; exact R57_w h (by omega)
  refine pw_bd (rs_kindOf dX1) (fun x2 X3 dX3 => ?_)
  exact pw_ret dX3
theorem rs_judgeRow {p1 : Int32} {p2 : Int32} {X : St} (h : R57 X0 X) : pw (f_judgeRow p1 p2 X) (fun _ Y => R57 X0 Y) := by
  unfold f_judgeRow
  refine pw_eq (fun x1 _ => ?_)
  refine pw_eq (fun x2 _ => ?_)
  refine pw_ck (fun _ => ?_)
  refine pw_eq (fun x3 _ => ?_)
  refine pw_ite (fun _ => ?_) (fun _ => ?_)
  · refine pw_bd (rs_rowOf h) (fun x6 X7 dX7 => ?_)
    refine pw_eq (fun x8 _ => ?_)
    refine pw_bd (rs_guards dX7) (fun _ X9 dX9 => ?_)
    refine pw_eq (fun x10 _ => ?_)
    refine pw_eq (fun x11 _ => ?_)
    refine pw_ck (fun _ => ?_)
    refine pw_eq (fun X12 eX12 => ?_)
    have dX12 : R57 X0 X12 := by rw [eX12]; exact R57_w dX9 (by omega)
    exact pw_ret dX12
  · refine pw_ck (fun _ => ?_)
    refine pw_eq (fun x4 _ => ?_)
    refine pw_ite (fun _ => ?_) (fun _ => ?_)
    · exact pw_ret h
    · refine pw_bd (rs_fails h) (fun _ X5 dX5 => ?_)
      exact pw_ret dX5
theorem rs_ownKindOf {p1 : Int32} {X : St} (h : R57 X0 X) : pw (f_ownKindOf p1 X) (fun _ Y => R57 X0 Y) := by
  unfold f_ownKindOf
  refine pw_ck (fun _ => ?_)
  refine pw_eq (fun x1 _ => ?_)
  refine pw_ite (fun _ => ?_) (fun _ => ?_)
  · exact pw_ret h
  · refine pw_ck (fun _ => ?_)
    refine pw_eq (fun x2 _ => ?_)
    exact pw_ret h
theorem rs_paramKindOf {p1 : Int32} {p2 : Int32} {X : St} (h : R57 X0 X) : pw (f_paramKindOf p1 p2 X) (fun _ Y => R57 X0 Y) := by
  unfold f_paramKindOf
  refine pw_ck (fun _ => ?_)
  refine pw_eq (fun x1 _ => ?_)
  refine pw_ite (fun _ => ?_) (fun _ => ?_)
  · exact pw_ret h
  · refine pw_eq (fun x2 _ => ?_)
    refine pw_eq (fun x3 _ => ?_)
    refine pw_ck (fun _ => ?_)
    refine pw_eq (fun x4 _ => ?_)
    exact pw_ret h
theorem rs_functionOf_2 (N : Nat) : ∀ (a1 : Int32) (a2 : Int32) (X : St), R57 X0 X → pw (f_functionOf_2 N a1 a2 X) (fun _ Y => R57 X0 Y) := by
  unfold f_functionOf_2
  refine lp_ind (P := fun (r : Int32 → Int32 → St → Option (Int32 × St)) => ∀ (a1 : Int32) (a2 : Int32) (X : St), R57 X0 X → pw (r a1 a2 X) (fun _ Y => R57 X0 Y)) (fun _ _ _ _ => pw_none) (fun r ih a1 a2 X h => ?_) N
  unfold f_functionOf_2_s
  refine pw_ck (fun _ => ?_)
  refine pw_eq (fun x1 _ => ?_)
  refine pw_ite (fun _ => ?_) (fun _ => ?_)
  · refine pw_ck (fun _ => ?_)
    refine pw_eq (fun x2 _ => ?_)
    refine pw_eq (fun x3 _ => ?_)
    refine pw_bd (rs_ownKindOf h) (fun x4 X5 dX5 => ?_)
    refine pw_ck (fun _ => ?_)
    refine pw_eq (fun X6 eX6 => ?_)
    have dX6 : R57 X0 X6 := by rw [eX6]; exact R57_w dX5 (by omega)
    refine pw_ck (fun _ => ?_)
    refine pw_eq (fun x7 _ => ?_)
    refine pw_eq (fun x8 _ => ?_)
    refine pw_bd (rs_kindOf dX6) (fun x9 X10 dX10 => ?_)
    exact pw_ret dX10
  · refine pw_eq (fun x11 _ => ?_)
    refine pw_bd (rs_paramKindOf h) (fun x12 X13 dX13 => ?_)
    refine pw_ck (fun _ => ?_)
    refine pw_eq (fun X14 eX14 => ?_)
    have dX14 : R57 X0 X14 := by rw [eX14]; exact R57_w dX13 (by omega)
    refine pw_eq (fun x15 _ => ?_)
    exact ih _ _ _ dX14
theorem rs_functionOf {p1 : Int32} {X : St} (h : R57 X0 X) : pw (f_functionOf p1 X) (fun _ Y => R57 X0 Y) := by
  unfold f_functionOf
  exact rs_functionOf_2 _ _ _ _ h
theorem rs_elementOf {p1 : Int32} {X : St} (h : R57 X0 X) : pw (f_elementOf p1 X) (fun _ Y => R57 X0 Y) := by
  unfold f_elementOf
  refine pw_ck (fun _ => ?_)
  refine pw_eq (fun x1 _ => ?_)
  refine pw_ck (fun _ => ?_)
  refine pw_eq (fun x2 _ => ?_)
  exact pw_ret h
theorem rs_resultOf {p1 : Int32} {X : St} (h : R57 X0 X) : pw (f_resultOf p1 X) (fun _ Y => R57 X0 Y) := by
  unfold f_resultOf
  refine pw_ck (fun _ => ?_)
  refine pw_eq (fun x1 _ => ?_)
  refine pw_ck (fun _ => ?_)
  refine pw_eq (fun x2 _ => ?_)
  refine pw_eq (fun x3 _ => ?_)
  refine pw_eq (fun x4 _ => ?_)
  refine pw_ck (fun _ => ?_)
  refine pw_eq (fun x5 _ => ?_)
  exact pw_ret h
theorem rs_toldKind {p1 : Int32} {X : St} (h : R57 X0 X) : pw (f_toldKind p1 X) (fun _ Y => R57 X0 Y) := by
  unfold f_toldKind
  refine pw_eq (fun x1 _ => ?_)
  refine pw_ck (fun _ => ?_)
  refine pw_eq (fun x2 _ => ?_)
  refine pw_ite (fun _ => ?_) (fun _ => ?_)
  · exact pw_ret h
  · exact pw_ret h
theorem rs_paramOf {p1 : Int32} {p2 : Int32} {X : St} (h : R57 X0 X) : pw (f_paramOf p1 p2 X) (fun _ Y => R57 X0 Y) := by
  unfold f_paramOf
  refine pw_ck (fun _ => ?_)
  refine pw_eq (fun x1 _ => ?_)
  refine pw_eq (fun x2 _ => ?_)
  refine pw_ck (fun _ => ?_)
  refine pw_eq (fun x3 _ => ?_)
  exact pw_ret h
end RS57
