/-! which order a guard stands at: the reference's judge -/
/-- all guards laid since X0 stand at order o -/
def HQ (X0 : St) (o : Nat) (X : St) : Prop := ∃ m : Nat, (X.1 0 28).toInt = (X0.1 0 28).toInt + m ∧ (∀ q, ¬ q = o → X.1 43 q = X0.1 43 q) ∧ ((m = 0 ∧ X.1 43 o = X0.1 43 o) ∨ (1 ≤ m ∧ (X.1 43 o).toInt = (X0.1 0 28).toInt + m - 1))
theorem HQ_w {X0 X : St} {o e k : Nat} {v : Int32} (h : HQ X0 o X) (hk : ¬ e = 43 ∧ ¬ (e = 0 ∧ k = 28)) : HQ X0 o (_root_.Jvm.Pilot.CBlameCourtLaw_law_r8381_f30dd1.wI X e k v) := by
  obtain ⟨m, h1, h2, h3⟩ := h
  refine ⟨m, ?_, fun q hq => ?_, ?_⟩
  · rw [wI_ne _ _ _ _ _ _ (by omega)]; exact h1
  · rw [wI_ne _ _ _ _ _ _ (by omega)]; exact h2 q hq
  · rw [wI_ne _ _ _ _ _ _ (by omega)]; exact h3
theorem HQ.rf {X : St} {o : Nat} : HQ X o X := ⟨0, by omega, fun _ _ => rfl, Or.inl ⟨rfl, rfl⟩⟩
/-- a guard is laid, or none -/
theorem x_gd {p1 p2 p3 p4 p5 : Int32} {X : St} {o : Nat} (ho : ix p1 = o) : pw (f_guards p1 p2 p3 p4 p5 X) (fun _ Y => (p2.toInt = p3.toInt ∧ Y = X) ∨ (¬ p2.toInt = p3.toInt ∧ (∀ e k, ¬ (52 ≤ e ∧ e ≤ 56) → ¬ (e = 43 ∧ k = o) → ¬ (e = 0 ∧ k = 28) → Y.1 e k = X.1 e k) ∧ Y.1 43 o = X.1 0 28 ∧ (Y.1 0 28).toInt = (X.1 0 28).toInt + 1)) := by
  have l1 : (1 : Int32).toInt = 1 := by decide
  unfold f_guards
  refine pw_ite (fun c => pw_ret (Or.inl ⟨c, rfl⟩)) (fun c => ?_)
  refine pw_eq (fun x1 e1 => pw_ck (fun k1 => pw_eq (fun X2 e2 => pw_eq (fun x3 e3 => pw_ck (fun _ => pw_eq (fun X4 e4 => pw_eq (fun x5 e5 => pw_ck (fun _ => pw_eq (fun X6 e6 => pw_eq (fun x7 e7 => pw_eq (fun x8 e8 => pw_ck (fun _ => pw_eq (fun X9 e9 => pw_eq (fun x10 e10 => pw_ck (fun _ => pw_eq (fun X11 e11 => pw_eq (fun x12 e12 => pw_ck (fun _ => pw_eq (fun X13 e13 => pw_eq (fun x14 e14 => pw_eq (fun x15 e15 => pw_eq (fun X16 e16 => pw_ret (Or.inr ⟨c, ?_⟩)))))))))))))))))))))))
  have r11 : ∀ e k, ¬ (52 ≤ e ∧ e ≤ 56) → X11.1 e k = X.1 e k := fun e k q => by rw [e11, wI_ne _ _ _ _ _ _ (by omega), e9, wI_ne _ _ _ _ _ _ (by omega), e6, wI_ne _ _ _ _ _ _ (by omega), e4, wI_ne _ _ _ _ _ _ (by omega), e2, wI_ne _ _ _ _ _ _ (by omega)]
  have v12 : x12 = X.1 0 28 := by rw [e12, r11 0 28 (by omega)]
  have v14 : x14 = X.1 0 28 := by rw [e14, e13, wI_ne _ _ _ _ _ _ (by omega), r11 0 28 (by omega)]
  rw [ho] at e13
  refine ⟨fun e k q1 q2 q3 => ?_, ?_, ?_⟩
  · rw [e16, wI_ne _ _ _ _ _ _ (by omega), e13, wI_ne _ _ _ _ _ _ (by omega), r11 e k q1]
  · rw [e16, wI_ne _ _ _ _ _ _ (by omega), e13, wI_at, v12]
  · have k1 : 0 ≤ (X.1 0 28).toInt ∧ (X.1 0 28).toInt < 12000 := by rw [← e1]; exact k1
    rw [e16, wI_at, e15, v14, ti_add (by rw [l1]; omega) (by rw [l1]; omega), l1]
section HQS
variable {X0 : St} {o : Nat}
theorem hq_guards {p1 p2 p3 p4 p5 : Int32} {X : St} (ho : ix p1 = o) (h : HQ X0 o X) : pw (f_guards p1 p2 p3 p4 p5 X) (fun _ Y => HQ X0 o Y) := by
  refine pw_mono (x_gd ho) (fun _ Y g => ?_)
  rcases g with ⟨_, g⟩ | ⟨_, g1, g2, g3⟩
  · rw [g]; exact h
  · obtain ⟨m, h1, h2, h3⟩ := h
    exact ⟨m + 1, by rw [g3, h1]; omega, fun q hq => by rw [g1 43 q (by omega) (by omega) (by omega)]; exact h2 q hq, Or.inr ⟨by omega, by rw [g2, h1]; omega⟩⟩
theorem hq_push_54 {b0 : Int32} {b1 : Int32} {X : St} (h : HQ X0 o X) : pw (f_push_54 b0 b1 X) (fun _ Y => HQ X0 o Y) := by
  unfold f_push_54
  refine pw_ck (fun _ => ?_)
  refine pw_eq (fun X9 eX9 => ?_)
  have dX9 : HQ X0 o X9 := by rw [eX9]; exact HQ_w h (by omega)
  exact pw_ret dX9
theorem hq_push_49 {b0 : Int32} {X : St} (h : HQ X0 o X) : pw (f_push_49 b0 X) (fun _ Y => HQ X0 o Y) := by
  unfold f_push_49
  exact hq_push_54 h
theorem hq_push {p1 : Int32} {X : St} (h : HQ X0 o X) : pw (f_push p1 X) (fun _ Y => HQ X0 o Y) := by
  unfold f_push
  refine pw_eq (fun x1 _ => ?_)
  refine pw_ck (fun _ => ?_)
  refine pw_eq (fun X2 eX2 => ?_)
  have dX2 : HQ X0 o X2 := by rw [eX2]; exact HQ_w h (by omega)
  refine pw_eq (fun x3 _ => ?_)
  refine pw_eq (fun x4 _ => ?_)
  refine pw_eq (fun X5 eX5 => ?_)
  have dX5 : HQ X0 o X5 := by rw [eX5]; exact HQ_w dX2 (by omega)
  refine pw_eq (fun x6 _ => ?_)
  refine pw_eq (fun x7 _ => ?_)
  refine pw_ck (fun _ => ?_)
  refine pw_eq (fun x8 _ => ?_)
  refine pw_ite (fun _ => ?_) (fun _ => ?_)
  · refine pw_ck (fun _ => ?_)
    refine pw_eq (fun x10 _ => ?_)
    refine pw_ite (fun _ => ?_) (fun _ => ?_)
    · exact hq_push_54 dX5
    · exact hq_push_49 dX5
  · exact hq_push_49 dX5
theorem hq_ownKindOf {p1 : Int32} {X : St} (h : HQ X0 o X) : pw (f_ownKindOf p1 X) (fun _ Y => HQ X0 o Y) := by
  unfold f_ownKindOf
  refine pw_ck (fun _ => ?_)
  refine pw_eq (fun x1 _ => ?_)
  refine pw_ite (fun _ => ?_) (fun _ => ?_)
  · exact pw_ret h
  · refine pw_ck (fun _ => ?_)
    refine pw_eq (fun x2 _ => ?_)
    exact pw_ret h
theorem hq_kindOf_315 {r212 : Int32 → Int32 → Int32 → Int32 → Int32 → Int32 → St → Option (Int32 × St)} (hr212 : ∀ (q0 : Int32) (q1 : Int32) (q2 : Int32) (q3 : Int32) (q4 : Int32) (q5 : Int32) (X : St), HQ X0 o X → pw (r212 q0 q1 q2 q3 q4 q5 X) (fun _ Y => HQ X0 o Y)) {a1 : Int32} {a2 : Int32} {a3 : Int32} {a4 : Int32} {a6 : Int32} {b0 : Int32} {X : St} (h : HQ X0 o X) : pw (f_kindOf_315 r212 a1 a2 a3 a4 a6 b0 X) (fun _ Y => HQ X0 o Y) := by
  unfold f_kindOf_315
  refine pw_eq (fun x21 _ => ?_)
  exact hr212 _ _ _ _ _ _ _ h
theorem hq_kindOf_284 {r212 : Int32 → Int32 → Int32 → Int32 → Int32 → Int32 → St → Option (Int32 × St)} (hr212 : ∀ (q0 : Int32) (q1 : Int32) (q2 : Int32) (q3 : Int32) (q4 : Int32) (q5 : Int32) (X : St), HQ X0 o X → pw (r212 q0 q1 q2 q3 q4 q5 X) (fun _ Y => HQ X0 o Y)) {a1 : Int32} {a2 : Int32} {a3 : Int32} {a4 : Int32} {a5 : Int32} {a6 : Int32} {b0 : Int32} {b1 : Int32} {X : St} (h : HQ X0 o X) : pw (f_kindOf_284 r212 a1 a2 a3 a4 a5 a6 b0 b1 X) (fun _ Y => HQ X0 o Y) := by
  unfold f_kindOf_284
  refine pw_ck (fun _ => ?_)
  refine pw_eq (fun X20 eX20 => ?_)
  have dX20 : HQ X0 o X20 := by rw [eX20]; exact HQ_w h (by omega)
  refine pw_ite (fun _ => ?_) (fun _ => ?_)
  · refine pw_eq (fun x22 _ => ?_)
    refine pw_eq (fun x23 _ => ?_)
    refine pw_ck (fun _ => ?_)
    refine pw_eq (fun x24 _ => ?_)
    refine pw_ck (fun _ => ?_)
    refine pw_eq (fun x25 _ => ?_)
    refine pw_eq (fun x26 _ => ?_)
    exact hq_kindOf_315 hr212 dX20
  · exact hq_kindOf_315 hr212 dX20
theorem hq_kindOf_279 {r212 : Int32 → Int32 → Int32 → Int32 → Int32 → Int32 → St → Option (Int32 × St)} (hr212 : ∀ (q0 : Int32) (q1 : Int32) (q2 : Int32) (q3 : Int32) (q4 : Int32) (q5 : Int32) (X : St), HQ X0 o X → pw (r212 q0 q1 q2 q3 q4 q5 X) (fun _ Y => HQ X0 o Y)) {a1 : Int32} {a2 : Int32} {a3 : Int32} {a4 : Int32} {a5 : Int32} {a6 : Int32} {b0 : Int32} {X : St} (h : HQ X0 o X) : pw (f_kindOf_279 r212 a1 a2 a3 a4 a5 a6 b0 X) (fun _ Y => HQ X0 o Y) := by
  unfold f_kindOf_279
  exact hq_kindOf_284 hr212 h
theorem hq_kindOf_212 (N : Nat) : ∀ (a1 : Int32) (a2 : Int32) (a3 : Int32) (a4 : Int32) (a5 : Int32) (a6 : Int32) (X : St), HQ X0 o X → pw (f_kindOf_212 N a1 a2 a3 a4 a5 a6 X) (fun _ Y => HQ X0 o Y) := by
  unfold f_kindOf_212
  refine lp_ind (P := fun (r : Int32 → Int32 → Int32 → Int32 → Int32 → Int32 → St → Option (Int32 × St)) => ∀ (a1 : Int32) (a2 : Int32) (a3 : Int32) (a4 : Int32) (a5 : Int32) (a6 : Int32) (X : St), HQ X0 o X → pw (r a1 a2 a3 a4 a5 a6 X) (fun _ Y => HQ X0 o Y)) (fun _ _ _ _ _ _ _ _ => pw_none) (fun r ih a1 a2 a3 a4 a5 a6 X h => ?_) N
  unfold f_kindOf_212_s
  refine pw_ite (fun _ => ?_) (fun _ => ?_)
  · refine pw_ck (fun _ => ?_)
    refine pw_eq (fun X11 eX11 => ?_)
    have dX11 : HQ X0 o X11 := by rw [eX11]; exact HQ_w h (by omega)
    exact pw_ret dX11
  · refine pw_eq (fun x12 _ => ?_)
    refine pw_eq (fun x13 _ => ?_)
    refine pw_ck (fun _ => ?_)
    refine pw_eq (fun x14 _ => ?_)
    refine pw_ck (fun _ => ?_)
    refine pw_eq (fun X15 eX15 => ?_)
    have dX15 : HQ X0 o X15 := by rw [eX15]; exact HQ_w h (by omega)
    refine pw_eq (fun x16 _ => ?_)
    refine pw_eq (fun x17 _ => ?_)
    refine pw_eq (fun X18 eX18 => ?_)
    have dX18 : HQ X0 o X18 := by rw [eX18]; exact HQ_w dX15 (by omega)
    refine pw_ck (fun _ => ?_)
    refine pw_eq (fun x19 _ => ?_)
    refine pw_ite (fun _ => ?_) (fun _ => ?_)
    · refine pw_eq (fun x27 _ => ?_)
      refine pw_ck (fun _ => ?_)
      refine pw_eq (fun x28 _ => ?_)
      refine pw_ck (fun _ => ?_)
      refine pw_eq (fun x29 _ => ?_)
      refine pw_ite (fun _ => ?_) (fun _ => ?_)
      · exact hq_kindOf_284 ih dX18
      · exact hq_kindOf_279 ih dX18
    · exact hq_kindOf_279 ih dX18
theorem hq_kindOf_207 {a1 : Int32} {a2 : Int32} {a3 : Int32} {a4 : Int32} {b0 : Int32} {X : St} (h : HQ X0 o X) : pw (f_kindOf_207 a1 a2 a3 a4 b0 X) (fun _ Y => HQ X0 o Y) := by
  unfold f_kindOf_207
  exact hq_kindOf_212 _ _ _ _ _ _ _ _ h
theorem hq_kindOf_168 {a1 : Int32} {a2 : Int32} {a3 : Int32} {a4 : Int32} {b0 : Int32} {b1 : Int32} {X : St} (h : HQ X0 o X) : pw (f_kindOf_168 a1 a2 a3 a4 b0 b1 X) (fun _ Y => HQ X0 o Y) := by
  unfold f_kindOf_168
  refine pw_ck (fun _ => ?_)
  refine pw_eq (fun X10 eX10 => ?_)
  have dX10 : HQ X0 o X10 := by rw [eX10]; exact HQ_w h (by omega)
  refine pw_ite (fun _ => ?_) (fun _ => ?_)
  · refine pw_ck (fun _ => ?_)
    refine pw_eq (fun x32 _ => ?_)
    refine pw_ck (fun _ => ?_)
    refine pw_eq (fun x33 _ => ?_)
    refine pw_eq (fun x34 _ => ?_)
    refine pw_eq (fun x35 _ => ?_)
    exact hq_kindOf_207 dX10
  · refine pw_ite (fun _ => ?_) (fun _ => ?_)
    · refine pw_eq (fun x30 _ => ?_)
      refine pw_eq (fun x31 _ => ?_)
      exact hq_kindOf_207 dX10
    · exact hq_kindOf_207 dX10
theorem hq_kindOf_95 {r3 : Int32 → Int32 → Int32 → Int32 → St → Option (Int32 × St)} (hr3 : ∀ (q0 : Int32) (q1 : Int32) (q2 : Int32) (q3 : Int32) (X : St), HQ X0 o X → pw (r3 q0 q1 q2 q3 X) (fun _ Y => HQ X0 o Y)) {a1 : Int32} {a2 : Int32} {a3 : Int32} {a4 : Int32} {a5 : Int32} {X : St} (h : HQ X0 o X) : pw (f_kindOf_95 r3 a1 a2 a3 a4 a5 X) (fun _ Y => HQ X0 o Y) := by
  unfold f_kindOf_95
  refine pw_ite (fun _ => ?_) (fun _ => ?_)
  · refine pw_eq (fun x37 _ => ?_)
    exact hr3 _ _ _ _ _ h
  · exact pw_ret h
theorem hq_kindOf_87 {r3 : Int32 → Int32 → Int32 → Int32 → St → Option (Int32 × St)} {r44 : Int32 → Int32 → Int32 → Int32 → Int32 → Int32 → St → Option (Int32 × St)} (hr3 : ∀ (q0 : Int32) (q1 : Int32) (q2 : Int32) (q3 : Int32) (X : St), HQ X0 o X → pw (r3 q0 q1 q2 q3 X) (fun _ Y => HQ X0 o Y)) (hr44 : ∀ (q0 : Int32) (q1 : Int32) (q2 : Int32) (q3 : Int32) (q4 : Int32) (q5 : Int32) (X : St), HQ X0 o X → pw (r44 q0 q1 q2 q3 q4 q5 X) (fun _ Y => HQ X0 o Y)) {a1 : Int32} {a2 : Int32} {a3 : Int32} {a4 : Int32} {a6 : Int32} {b0 : Int32} {X : St} (h : HQ X0 o X) : pw (f_kindOf_87 r3 r44 a1 a2 a3 a4 a6 b0 X) (fun _ Y => HQ X0 o Y) := by
  unfold f_kindOf_87
  refine pw_eq (fun x43 _ => ?_)
  exact hr44 _ _ _ _ _ _ _ h
theorem hq_kindOf_44 {r3 : Int32 → Int32 → Int32 → Int32 → St → Option (Int32 × St)} (hr3 : ∀ (q0 : Int32) (q1 : Int32) (q2 : Int32) (q3 : Int32) (X : St), HQ X0 o X → pw (r3 q0 q1 q2 q3 X) (fun _ Y => HQ X0 o Y)) (N : Nat) : ∀ (a1 : Int32) (a2 : Int32) (a3 : Int32) (a4 : Int32) (a5 : Int32) (a6 : Int32) (X : St), HQ X0 o X → pw (f_kindOf_44 r3 N a1 a2 a3 a4 a5 a6 X) (fun _ Y => HQ X0 o Y) := by
  unfold f_kindOf_44
  refine lp_ind (P := fun (r : Int32 → Int32 → Int32 → Int32 → Int32 → Int32 → St → Option (Int32 × St)) => ∀ (a1 : Int32) (a2 : Int32) (a3 : Int32) (a4 : Int32) (a5 : Int32) (a6 : Int32) (X : St), HQ X0 o X → pw (r a1 a2 a3 a4 a5 a6 X) (fun _ Y => HQ X0 o Y)) (fun _ _ _ _ _ _ _ _ => pw_none) (fun r ih a1 a2 a3 a4 a5 a6 X h => ?_) N
  unfold f_kindOf_44_s
  refine pw_ite (fun _ => ?_) (fun _ => ?_)
  · exact hq_kindOf_95 hr3 h
  · refine pw_ite (fun _ => ?_) (fun _ => ?_)
    · exact hq_kindOf_95 hr3 h
    · refine pw_ck (fun _ => ?_)
      refine pw_eq (fun x38 _ => ?_)
      refine pw_eq (fun x39 _ => ?_)
      refine pw_ck (fun _ => ?_)
      refine pw_eq (fun x40 _ => ?_)
      refine pw_eq (fun x41 _ => ?_)
      refine pw_ck (fun _ => ?_)
      refine pw_eq (fun x42 _ => ?_)
      refine pw_ite (fun _ => ?_) (fun _ => ?_)
      · exact hq_kindOf_87 hr3 ih h
      · exact hq_kindOf_87 hr3 ih h
theorem hq_kindOf_39 {r3 : Int32 → Int32 → Int32 → Int32 → St → Option (Int32 × St)} (hr3 : ∀ (q0 : Int32) (q1 : Int32) (q2 : Int32) (q3 : Int32) (X : St), HQ X0 o X → pw (r3 q0 q1 q2 q3 X) (fun _ Y => HQ X0 o Y)) {a1 : Int32} {a2 : Int32} {a3 : Int32} {a4 : Int32} {b0 : Int32} {X : St} (h : HQ X0 o X) : pw (f_kindOf_39 r3 a1 a2 a3 a4 b0 X) (fun _ Y => HQ X0 o Y) := by
  unfold f_kindOf_39
  exact hq_kindOf_44 hr3 _ _ _ _ _ _ _ _ h
theorem hq_kindOf_38 {r3 : Int32 → Int32 → Int32 → Int32 → St → Option (Int32 × St)} (hr3 : ∀ (q0 : Int32) (q1 : Int32) (q2 : Int32) (q3 : Int32) (X : St), HQ X0 o X → pw (r3 q0 q1 q2 q3 X) (fun _ Y => HQ X0 o Y)) {a1 : Int32} {a2 : Int32} {a3 : Int32} {a4 : Int32} {X : St} (h : HQ X0 o X) : pw (f_kindOf_38 r3 a1 a2 a3 a4 X) (fun _ Y => HQ X0 o Y) := by
  unfold f_kindOf_38
  exact hq_kindOf_39 hr3 h
theorem hq_kindOf_3 (N : Nat) : ∀ (a1 : Int32) (a2 : Int32) (a3 : Int32) (a4 : Int32) (X : St), HQ X0 o X → pw (f_kindOf_3 N a1 a2 a3 a4 X) (fun _ Y => HQ X0 o Y) := by
  unfold f_kindOf_3
  refine lp_ind (P := fun (r : Int32 → Int32 → Int32 → Int32 → St → Option (Int32 × St)) => ∀ (a1 : Int32) (a2 : Int32) (a3 : Int32) (a4 : Int32) (X : St), HQ X0 o X → pw (r a1 a2 a3 a4 X) (fun _ Y => HQ X0 o Y)) (fun _ _ _ _ _ _ => pw_none) (fun r ih a1 a2 a3 a4 X h => ?_) N
  unfold f_kindOf_3_s
  refine pw_eq (fun x1 _ => ?_)
  refine pw_ite (fun _ => ?_) (fun _ => ?_)
  · refine pw_eq (fun x2 _ => ?_)
    refine pw_eq (fun x3 _ => ?_)
    refine pw_eq (fun x4 _ => ?_)
    refine pw_eq (fun X5 eX5 => ?_)
    have dX5 : HQ X0 o X5 := by rw [eX5]; exact HQ_w h (by omega)
    refine pw_ck (fun _ => ?_)
    refine pw_eq (fun X6 eX6 => ?_)
    have dX6 : HQ X0 o X6 := by rw [eX6]; exact HQ_w dX5 (by omega)
    refine pw_ck (fun _ => ?_)
    refine pw_eq (fun X7 eX7 => ?_)
    have dX7 : HQ X0 o X7 := by rw [eX7]; exact HQ_w dX6 (by omega)
    refine pw_eq (fun x8 _ => ?_)
    refine pw_ck (fun _ => ?_)
    refine pw_eq (fun X9 eX9 => ?_)
    have dX9 : HQ X0 o X9 := by rw [eX9]; exact HQ_w dX7 (by omega)
    refine pw_ite (fun _ => ?_) (fun _ => ?_)
    · exact hq_kindOf_168 dX9
    · exact hq_kindOf_168 dX9
  · refine pw_ck (fun _ => ?_)
    refine pw_eq (fun x36 _ => ?_)
    refine pw_ite (fun _ => ?_) (fun _ => ?_)
    · refine pw_ck (fun _ => ?_)
      refine pw_eq (fun x44 _ => ?_)
      refine pw_ite (fun _ => ?_) (fun _ => ?_)
      · exact hq_kindOf_39 ih h
      · exact hq_kindOf_38 ih h
    · exact hq_kindOf_38 ih h
theorem hq_kindOf {p1 : Int32} {p2 : Int32} {p3 : Int32} {X : St} (h : HQ X0 o X) : pw (f_kindOf p1 p2 p3 X) (fun _ Y => HQ X0 o Y) := by
  unfold f_kindOf
  exact hq_kindOf_3 _ _ _ _ _ _ h
theorem hq_paramKindOf {p1 : Int32} {p2 : Int32} {X : St} (h : HQ X0 o X) : pw (f_paramKindOf p1 p2 X) (fun _ Y => HQ X0 o Y) := by
  unfold f_paramKindOf
  refine pw_ck (fun _ => ?_)
  refine pw_eq (fun x1 _ => ?_)
  refine pw_ite (fun _ => ?_) (fun _ => ?_)
  · exact pw_ret h
  · refine pw_eq (fun x2 _ => ?_)
    refine pw_eq (fun x3 _ => ?_)
    refine pw_ck (fun _ => ?_)
    refine pw_eq (fun x4 _ => ?_)
    exact pw_ret h
theorem hq_functionOf_2 (N : Nat) : ∀ (a1 : Int32) (a2 : Int32) (X : St), HQ X0 o X → pw (f_functionOf_2 N a1 a2 X) (fun _ Y => HQ X0 o Y) := by
  unfold f_functionOf_2
  refine lp_ind (P := fun (r : Int32 → Int32 → St → Option (Int32 × St)) => ∀ (a1 : Int32) (a2 : Int32) (X : St), HQ X0 o X → pw (r a1 a2 X) (fun _ Y => HQ X0 o Y)) (fun _ _ _ _ => pw_none) (fun r ih a1 a2 X h => ?_) N
  unfold f_functionOf_2_s
  refine pw_ck (fun _ => ?_)
  refine pw_eq (fun x1 _ => ?_)
  refine pw_ite (fun _ => ?_) (fun _ => ?_)
  · refine pw_ck (fun _ => ?_)
    refine pw_eq (fun x2 _ => ?_)
    refine pw_eq (fun x3 _ => ?_)
    refine pw_bd (hq_ownKindOf h) (fun x4 X5 dX5 => ?_)
    refine pw_ck (fun _ => ?_)
    refine pw_eq (fun X6 eX6 => ?_)
    have dX6 : HQ X0 o X6 := by rw [eX6]; exact HQ_w dX5 (by omega)
    refine pw_ck (fun _ => ?_)
    refine pw_eq (fun x7 _ => ?_)
    refine pw_eq (fun x8 _ => ?_)
    refine pw_bd (hq_kindOf dX6) (fun x9 X10 dX10 => ?_)
    exact pw_ret dX10
  · refine pw_eq (fun x11 _ => ?_)
    refine pw_bd (hq_paramKindOf h) (fun x12 X13 dX13 => ?_)
    refine pw_ck (fun _ => ?_)
    refine pw_eq (fun X14 eX14 => ?_)
    have dX14 : HQ X0 o X14 := by rw [eX14]; exact HQ_w dX13 (by omega)
    refine pw_eq (fun x15 _ => ?_)
    exact ih _ _ _ dX14
theorem hq_functionOf {p1 : Int32} {X : St} (h : HQ X0 o X) : pw (f_functionOf p1 X) (fun _ Y => HQ X0 o Y) := by
  unfold f_functionOf
  exact hq_functionOf_2 _ _ _ _ h
theorem hq_fits_111 {r16 : Int32 → St → Option (Int32 × St)} (hr16 : ∀ (q0 : Int32) (X : St), HQ X0 o X → pw (r16 q0 X) (fun _ Y => HQ X0 o Y)) (N : Nat) : ∀ (a3 : Int32) (a4 : Int32) (a5 : Int32) (a6 : Int32) (X : St), HQ X0 o X → pw (f_fits_111 r16 N a3 a4 a5 a6 X) (fun _ Y => HQ X0 o Y) := by
  unfold f_fits_111
  refine lp_ind (P := fun (r : Int32 → Int32 → Int32 → Int32 → St → Option (Int32 × St)) => ∀ (a3 : Int32) (a4 : Int32) (a5 : Int32) (a6 : Int32) (X : St), HQ X0 o X → pw (r a3 a4 a5 a6 X) (fun _ Y => HQ X0 o Y)) (fun _ _ _ _ _ _ => pw_none) (fun r ih a3 a4 a5 a6 X h => ?_) N
  unfold f_fits_111_s
  refine pw_ck (fun _ => ?_)
  refine pw_eq (fun x11 _ => ?_)
  refine pw_ite (fun _ => ?_) (fun _ => ?_)
  · exact hr16 _ _ h
  · refine pw_ck (fun _ => ?_)
    refine pw_eq (fun x12 _ => ?_)
    refine pw_eq (fun x13 _ => ?_)
    refine pw_ck (fun _ => ?_)
    refine pw_eq (fun x14 _ => ?_)
    refine pw_ck (fun _ => ?_)
    refine pw_eq (fun X15 eX15 => ?_)
    have dX15 : HQ X0 o X15 := by rw [eX15]; exact HQ_w h (by omega)
    refine pw_ck (fun _ => ?_)
    refine pw_eq (fun x16 _ => ?_)
    refine pw_eq (fun x17 _ => ?_)
    refine pw_ck (fun _ => ?_)
    refine pw_eq (fun x18 _ => ?_)
    refine pw_ck (fun _ => ?_)
    refine pw_eq (fun X19 eX19 => ?_)
    have dX19 : HQ X0 o X19 := by rw [eX19]; exact HQ_w dX15 (by omega)
    refine pw_eq (fun x20 _ => ?_)
    refine pw_eq (fun x21 _ => ?_)
    exact ih _ _ _ _ _ dX19
theorem hq_fits_16 (N : Nat) : ∀ (a3 : Int32) (X : St), HQ X0 o X → pw (f_fits_16 N a3 X) (fun _ Y => HQ X0 o Y) := by
  unfold f_fits_16
  refine lp_ind (P := fun (r : Int32 → St → Option (Int32 × St)) => ∀ (a3 : Int32) (X : St), HQ X0 o X → pw (r a3 X) (fun _ Y => HQ X0 o Y)) (fun _ _ _ => pw_none) (fun r ih a3 X h => ?_) N
  unfold f_fits_16_s
  refine pw_ite (fun _ => ?_) (fun _ => ?_)
  · exact pw_ret h
  · refine pw_eq (fun x3 _ => ?_)
    refine pw_ck (fun _ => ?_)
    refine pw_eq (fun x4 _ => ?_)
    refine pw_ck (fun _ => ?_)
    refine pw_eq (fun x5 _ => ?_)
    refine pw_ite (fun _ => ?_) (fun _ => ?_)
    · exact ih _ _ h
    · refine pw_ite (fun _ => ?_) (fun _ => ?_)
      · exact ih _ _ h
      · refine pw_ite (fun _ => ?_) (fun _ => ?_)
        · exact ih _ _ h
        · refine pw_ck (fun _ => ?_)
          refine pw_eq (fun x6 _ => ?_)
          refine pw_ck (fun _ => ?_)
          refine pw_eq (fun x7 _ => ?_)
          refine pw_ite (fun _ => ?_) (fun _ => ?_)
          · refine pw_ck (fun _ => ?_)
            refine pw_eq (fun x8 _ => ?_)
            refine pw_ite (fun _ => ?_) (fun _ => ?_)
            · exact pw_ret h
            · refine pw_ck (fun _ => ?_)
              refine pw_eq (fun x9 _ => ?_)
              refine pw_ck (fun _ => ?_)
              refine pw_eq (fun x10 _ => ?_)
              refine pw_ite (fun _ => ?_) (fun _ => ?_)
              · exact hq_fits_111 ih _ _ _ _ _ _ h
              · exact pw_ret h
          · exact pw_ret h
theorem hq_fits {p1 : Int32} {p2 : Int32} {X : St} (h : HQ X0 o X) : pw (f_fits p1 p2 X) (fun _ Y => HQ X0 o Y) := by
  unfold f_fits
  refine pw_ck (fun _ => ?_)
  refine pw_eq (fun X1 eX1 => ?_)
  have dX1 : HQ X0 o X1 := by rw [eX1]; exact HQ_w h (by omega)
  refine pw_ck (fun _ => ?_)
  refine pw_eq (fun X2 eX2 => ?_)
  have dX2 : HQ X0 o X2 := by rw [eX2]; exact HQ_w dX1 (by omega)
  exact hq_fits_16 _ _ _ dX2
theorem hq_fails {p1 : Int32} {p2 : Int32} {X : St} (h : HQ X0 o X) : pw (f_fails p1 p2 X) (fun _ Y => HQ X0 o Y) := by
  unfold f_fails
  refine pw_eq (fun x1 _ => ?_)
  refine pw_ite (fun _ => ?_) (fun _ => ?_)
  · refine pw_eq (fun X2 eX2 => ?_)
    have dX2 : HQ X0 o X2 := by rw [eX2]; exact HQ_w h (by omega)
    refine pw_eq (fun X3 eX3 => ?_)
    have dX3 : HQ X0 o X3 := by rw [eX3]; exact HQ_w dX2 (by omega)
    exact pw_ret dX3
  · exact pw_ret h
theorem hq_must {p1 : Int32} {p2 : Int32} {p3 : Int32} {p4 : Int32} {X : St} (ho : ix p1 = o) (h : HQ X0 o X) : pw (f_must p1 p2 p3 p4 X) (fun _ Y => HQ X0 o Y) := by
  unfold f_must
  refine pw_eq (fun x1 _ => ?_)
  refine pw_eq (fun x2 _ => ?_)
  refine pw_ck (fun _ => ?_)
  refine pw_eq (fun x3 _ => ?_)
  refine pw_bd (hq_fits h) (fun x4 X5 dX5 => ?_)
  refine pw_ite (fun _ => ?_) (fun _ => ?_)
  · refine pw_bd (hq_fails dX5) (fun _ X10 dX10 => ?_)
    exact pw_ret dX10
  · refine pw_bd (hq_guards ho dX5) (fun _ X6 dX6 => ?_)
    refine pw_eq (fun x7 _ => ?_)
    refine pw_eq (fun x8 _ => ?_)
    refine pw_ck (fun _ => ?_)
    refine pw_eq (fun X9 eX9 => ?_)
    have dX9 : HQ X0 o X9 := by rw [eX9]; exact HQ_w dX6 (by omega)
    exact pw_ret dX9
theorem hq_anyFunction_2 (N : Nat) : ∀ (a1 : Int32) (a2 : Int32) (X : St), HQ X0 o X → pw (f_anyFunction_2 N a1 a2 X) (fun _ Y => HQ X0 o Y) := by
  unfold f_anyFunction_2
  refine lp_ind (P := fun (r : Int32 → Int32 → St → Option (Int32 × St)) => ∀ (a1 : Int32) (a2 : Int32) (X : St), HQ X0 o X → pw (r a1 a2 X) (fun _ Y => HQ X0 o Y)) (fun _ _ _ _ => pw_none) (fun r ih a1 a2 X h => ?_) N
  unfold f_anyFunction_2_s
  refine pw_ite (fun _ => ?_) (fun _ => ?_)
  · refine pw_eq (fun x1 _ => ?_)
    refine pw_bd (hq_kindOf h) (fun x2 X3 dX3 => ?_)
    exact pw_ret dX3
  · refine pw_eq (fun x4 _ => ?_)
    refine pw_ck (fun _ => ?_)
    refine pw_eq (fun X5 eX5 => ?_)
    have dX5 : HQ X0 o X5 := by rw [eX5]; exact HQ_w h (by omega)
    refine pw_eq (fun x6 _ => ?_)
    exact ih _ _ _ dX5
theorem hq_anyFunction {p1 : Int32} {X : St} (h : HQ X0 o X) : pw (f_anyFunction p1 X) (fun _ Y => HQ X0 o Y) := by
  unfold f_anyFunction
  exact hq_anyFunction_2 _ _ _ _ h
theorem hq_judgeCallee {p1 : Int32} {p2 : Int32} {X : St} (ho : ix p1 = o) (h : HQ X0 o X) : pw (f_judgeCallee p1 p2 X) (fun _ Y => HQ X0 o Y) := by
  unfold f_judgeCallee
  refine pw_eq (fun x1 _ => ?_)
  refine pw_eq (fun x2 _ => ?_)
  refine pw_ck (fun _ => ?_)
  refine pw_eq (fun x3 _ => ?_)
  refine pw_ite (fun _ => ?_) (fun _ => ?_)
  · refine pw_ck (fun _ => ?_)
    refine pw_eq (fun x12 _ => ?_)
    refine pw_bd (hq_anyFunction h) (fun x13 X14 dX14 => ?_)
    refine pw_ck (fun _ => ?_)
    refine pw_eq (fun x15 _ => ?_)
    refine pw_eq (fun x16 _ => ?_)
    refine pw_bd (hq_guards ho dX14) (fun _ X17 dX17 => ?_)
    refine pw_eq (fun x18 _ => ?_)
    refine pw_eq (fun x19 _ => ?_)
    refine pw_ck (fun _ => ?_)
    refine pw_eq (fun X20 eX20 => ?_)
    have dX20 : HQ X0 o X20 := by rw [eX20]; exact HQ_w dX17 (by omega)
    exact pw_ret dX20
  · refine pw_ck (fun _ => ?_)
    refine pw_eq (fun x4 _ => ?_)
    refine pw_ite (fun _ => ?_) (fun _ => ?_)
    · refine pw_ck (fun _ => ?_)
      refine pw_eq (fun x5 _ => ?_)
      refine pw_eq (fun x6 _ => ?_)
      refine pw_ck (fun _ => ?_)
      refine pw_eq (fun x7 _ => ?_)
      refine pw_ite (fun _ => ?_) (fun _ => ?_)
      · exact pw_ret h
      · refine pw_ck (fun _ => ?_)
        refine pw_eq (fun x8 _ => ?_)
        refine pw_bd (hq_fails h) (fun _ X9 dX9 => ?_)
        exact pw_ret dX9
    · refine pw_ck (fun _ => ?_)
      refine pw_eq (fun x10 _ => ?_)
      refine pw_bd (hq_fails h) (fun _ X11 dX11 => ?_)
      exact pw_ret dX11
theorem hq_rowOf {p1 : Int32} {X : St} (h : HQ X0 o X) : pw (f_rowOf p1 X) (fun _ Y => HQ X0 o Y) := by
  unfold f_rowOf
  refine pw_ck (fun _ => ?_)
  refine pw_eq (fun X1 eX1 => ?_)
  have dX1 : HQ X0 o X1 := by rw [eX1]; exact HQ_w h (by omega)
  refine pw_bd (hq_kindOf dX1) (fun x2 X3 dX3 => ?_)
  exact pw_ret dX3
theorem hq_judgeRow {p1 : Int32} {p2 : Int32} {X : St} (ho : ix p1 = o) (h : HQ X0 o X) : pw (f_judgeRow p1 p2 X) (fun _ Y => HQ X0 o Y) := by
  unfold f_judgeRow
  refine pw_eq (fun x1 _ => ?_)
  refine pw_eq (fun x2 _ => ?_)
  refine pw_ck (fun _ => ?_)
  refine pw_eq (fun x3 _ => ?_)
  refine pw_ite (fun _ => ?_) (fun _ => ?_)
  · refine pw_bd (hq_rowOf h) (fun x6 X7 dX7 => ?_)
    refine pw_eq (fun x8 _ => ?_)
    refine pw_bd (hq_guards ho dX7) (fun _ X9 dX9 => ?_)
    refine pw_eq (fun x10 _ => ?_)
    refine pw_eq (fun x11 _ => ?_)
    refine pw_ck (fun _ => ?_)
    refine pw_eq (fun X12 eX12 => ?_)
    have dX12 : HQ X0 o X12 := by rw [eX12]; exact HQ_w dX9 (by omega)
    exact pw_ret dX12
  · refine pw_ck (fun _ => ?_)
    refine pw_eq (fun x4 _ => ?_)
    refine pw_ite (fun _ => ?_) (fun _ => ?_)
    · exact pw_ret h
    · refine pw_bd (hq_fails h) (fun _ X5 dX5 => ?_)
      exact pw_ret dX5
theorem hq_paramOf {p1 : Int32} {p2 : Int32} {X : St} (h : HQ X0 o X) : pw (f_paramOf p1 p2 X) (fun _ Y => HQ X0 o Y) := by
  unfold f_paramOf
  refine pw_ck (fun _ => ?_)
  refine pw_eq (fun x1 _ => ?_)
  refine pw_eq (fun x2 _ => ?_)
  refine pw_ck (fun _ => ?_)
  refine pw_eq (fun x3 _ => ?_)
  exact pw_ret h
theorem hq_judgeOne_317 {a1 : Int32} {a2 : Int32} {a4 : Int32} {b0 : Int32} {X : St} (ho : ix a1 = o) (h : HQ X0 o X) : pw (f_judgeOne_317 a1 a2 a4 b0 X) (fun _ Y => HQ X0 o Y) := by
  unfold f_judgeOne_317
  refine pw_eq (fun x39 _ => ?_)
  refine pw_eq (fun x40 _ => ?_)
  refine pw_eq (fun x41 _ => ?_)
  refine pw_ck (fun _ => ?_)
  refine pw_eq (fun x42 _ => ?_)
  refine pw_bd (hq_paramOf h) (fun x43 X44 dX44 => ?_)
  refine pw_ck (fun _ => ?_)
  refine pw_eq (fun x45 _ => ?_)
  refine pw_bd (hq_must ho dX44) (fun _ X46 dX46 => ?_)
  exact pw_ret dX46
theorem hq_elementOf {p1 : Int32} {X : St} (h : HQ X0 o X) : pw (f_elementOf p1 X) (fun _ Y => HQ X0 o Y) := by
  unfold f_elementOf
  refine pw_ck (fun _ => ?_)
  refine pw_eq (fun x1 _ => ?_)
  refine pw_ck (fun _ => ?_)
  refine pw_eq (fun x2 _ => ?_)
  exact pw_ret h
theorem hq_toldKind {p1 : Int32} {X : St} (h : HQ X0 o X) : pw (f_toldKind p1 X) (fun _ Y => HQ X0 o Y) := by
  unfold f_toldKind
  refine pw_eq (fun x1 _ => ?_)
  refine pw_ck (fun _ => ?_)
  refine pw_eq (fun x2 _ => ?_)
  refine pw_ite (fun _ => ?_) (fun _ => ?_)
  · exact pw_ret h
  · exact pw_ret h
theorem hq_judgeMore_182 {b0 : Int32} {b1 : Int32} {X : St} (h : HQ X0 o X) : pw (f_judgeMore_182 b0 b1 X) (fun _ Y => HQ X0 o Y) := by
  unfold f_judgeMore_182
  refine pw_ck (fun _ => ?_)
  refine pw_eq (fun X14 eX14 => ?_)
  have dX14 : HQ X0 o X14 := by rw [eX14]; exact HQ_w h (by omega)
  exact pw_ret dX14
theorem hq_judgeMore_177 {b0 : Int32} {X : St} (h : HQ X0 o X) : pw (f_judgeMore_177 b0 X) (fun _ Y => HQ X0 o Y) := by
  unfold f_judgeMore_177
  exact hq_judgeMore_182 h
theorem hq_judgeMore_343 {b0 : Int32} {X : St} (h : HQ X0 o X) : pw (f_judgeMore_343 b0 X) (fun _ Y => HQ X0 o Y) := by
  unfold f_judgeMore_343
  refine pw_bd (hq_push h) (fun _ X70 dX70 => ?_)
  exact pw_ret dX70
theorem hq_resultOf {p1 : Int32} {X : St} (h : HQ X0 o X) : pw (f_resultOf p1 X) (fun _ Y => HQ X0 o Y) := by
  unfold f_resultOf
  refine pw_ck (fun _ => ?_)
  refine pw_eq (fun x1 _ => ?_)
  refine pw_ck (fun _ => ?_)
  refine pw_eq (fun x2 _ => ?_)
  refine pw_eq (fun x3 _ => ?_)
  refine pw_eq (fun x4 _ => ?_)
  refine pw_ck (fun _ => ?_)
  refine pw_eq (fun x5 _ => ?_)
  exact pw_ret h
theorem hq_judgeMore {p1 : Int32} {p2 : Int32} {X : St} (ho : ix p1 = o) (hK : ¬ (X.1 40 o).toInt = 17 ∧ ¬ (X.1 40 o).toInt = 18) (h : HQ X0 o X) : pw (f_judgeMore p1 p2 X) (fun _ Y => HQ X0 o Y) := by
  unfold f_judgeMore
  refine pw_ck (fun _ => ?_)
  refine pw_eq (fun x1 ex1 => ?_)
  refine pw_ite (fun _ => ?_) (fun _ => ?_)
  · refine pw_ck (fun _ => ?_)
    refine pw_eq (fun x3 _ => ?_)
    refine pw_ite (fun _ => ?_) (fun _ => ?_)
    · exact pw_ret h
    · refine pw_ck (fun _ => ?_)
      refine pw_eq (fun x4 _ => ?_)
      refine pw_bd (hq_toldKind h) (fun x5 X6 dX6 => ?_)
      refine pw_ck (fun _ => ?_)
      refine pw_eq (fun x7 _ => ?_)
      refine pw_ck (fun _ => ?_)
      refine pw_eq (fun x8 _ => ?_)
      refine pw_eq (fun x9 _ => ?_)
      refine pw_bd (hq_must ho dX6) (fun _ X10 dX10 => ?_)
      refine pw_eq (fun x11 _ => ?_)
      refine pw_eq (fun x12 _ => ?_)
      refine pw_ck (fun _ => ?_)
      refine pw_eq (fun x13 _ => ?_)
      refine pw_ite (fun _ => ?_) (fun _ => ?_)
      · refine pw_ck (fun _ => ?_)
        refine pw_eq (fun x15 _ => ?_)
        refine pw_bd (hq_toldKind dX10) (fun x16 X17 dX17 => ?_)
        refine pw_ck (fun _ => ?_)
        refine pw_eq (fun x18 _ => ?_)
        refine pw_ite (fun _ => ?_) (fun _ => ?_)
        · exact hq_judgeMore_182 dX17
        · exact hq_judgeMore_177 dX17
      · exact hq_judgeMore_177 dX10
  · refine pw_ite (fun _ => ?_) (fun _ => ?_)
    · refine pw_eq (fun x20 _ => ?_)
      refine pw_eq (fun x21 _ => ?_)
      refine pw_eq (fun X22 eX22 => ?_)
      have dX22 : HQ X0 o X22 := by rw [eX22]; exact HQ_w h (by omega)
      refine pw_ck (fun _ => ?_)
      refine pw_eq (fun x23 _ => ?_)
      refine pw_eq (fun x24 _ => ?_)
      refine pw_ck (fun _ => ?_)
      refine pw_eq (fun x25 _ => ?_)
      refine pw_ck (fun _ => ?_)
      refine pw_eq (fun X26 eX26 => ?_)
      have dX26 : HQ X0 o X26 := by rw [eX26]; exact HQ_w dX22 (by omega)
      exact pw_ret dX26
    · refine pw_ite (fun _ => ?_) (fun _ => ?_)
      · refine pw_eq (fun x28 _ => ?_)
        refine pw_eq (fun x29 _ => ?_)
        refine pw_eq (fun X30 eX30 => ?_)
        have dX30 : HQ X0 o X30 := by rw [eX30]; exact HQ_w h (by omega)
        exact pw_ret dX30
      · refine pw_ite (fun c17 => ?_) (fun _ => ?_)
        · exact absurd (by rw [← ho, ← ex1]; exact c17) hK.1
        · refine pw_ite (fun c18 => ?_) (fun _ => ?_)
          · exact absurd (by rw [← ho, ← ex1]; exact c18) hK.2
          · refine pw_ite (fun _ => ?_) (fun _ => ?_)
            · refine pw_eq (fun x36 _ => ?_)
              refine pw_eq (fun x37 _ => ?_)
              refine pw_eq (fun X38 eX38 => ?_)
              have dX38 : HQ X0 o X38 := by rw [eX38]; exact HQ_w h (by omega)
              refine pw_eq (fun x39 _ => ?_)
              refine pw_eq (fun x40 _ => ?_)
              refine pw_ck (fun _ => ?_)
              refine pw_eq (fun x41 _ => ?_)
              refine pw_bd (hq_rowOf dX38) (fun x42 X43 dX43 => ?_)
              refine pw_bd (hq_push dX43) (fun _ X44 dX44 => ?_)
              exact pw_ret dX44
            · refine pw_ite (fun _ => ?_) (fun _ => ?_)
              · refine pw_eq (fun x46 _ => ?_)
                refine pw_eq (fun x47 _ => ?_)
                refine pw_eq (fun X48 eX48 => ?_)
                have dX48 : HQ X0 o X48 := by rw [eX48]; exact HQ_w h (by omega)
                refine pw_bd (hq_push dX48) (fun _ X49 dX49 => ?_)
                exact pw_ret dX49
              · refine pw_ite (fun _ => ?_) (fun _ => ?_)
                · refine pw_eq (fun x51 _ => ?_)
                  refine pw_eq (fun x52 _ => ?_)
                  refine pw_eq (fun X53 eX53 => ?_)
                  have dX53 : HQ X0 o X53 := by rw [eX53]; exact HQ_w h (by omega)
                  refine pw_bd (hq_push dX53) (fun _ X54 dX54 => ?_)
                  exact pw_ret dX54
                · refine pw_ite (fun _ => ?_) (fun _ => ?_)
                  · refine pw_eq (fun x56 _ => ?_)
                    refine pw_eq (fun x57 _ => ?_)
                    refine pw_eq (fun X58 eX58 => ?_)
                    have dX58 : HQ X0 o X58 := by rw [eX58]; exact HQ_w h (by omega)
                    refine pw_bd (hq_push dX58) (fun _ X59 dX59 => ?_)
                    exact pw_ret dX59
                  · refine pw_ite (fun _ => ?_) (fun _ => ?_)
                    · refine pw_eq (fun x61 _ => ?_)
                      refine pw_eq (fun x62 _ => ?_)
                      refine pw_eq (fun X63 eX63 => ?_)
                      have dX63 : HQ X0 o X63 := by rw [eX63]; exact HQ_w h (by omega)
                      refine pw_bd (hq_push dX63) (fun _ X64 dX64 => ?_)
                      exact pw_ret dX64
                    · refine pw_ite (fun _ => ?_) (fun _ => ?_)
                      · refine pw_eq (fun x66 _ => ?_)
                        refine pw_eq (fun x67 _ => ?_)
                        refine pw_eq (fun X68 eX68 => ?_)
                        have dX68 : HQ X0 o X68 := by rw [eX68]; exact HQ_w h (by omega)
                        refine pw_ck (fun _ => ?_)
                        refine pw_eq (fun x69 _ => ?_)
                        refine pw_ite (fun _ => ?_) (fun _ => ?_)
                        · exact hq_judgeMore_343 dX68
                        · exact hq_judgeMore_343 dX68
                      · refine pw_ite (fun _ => ?_) (fun _ => ?_)
                        · refine pw_eq (fun x72 _ => ?_)
                          refine pw_eq (fun x73 _ => ?_)
                          refine pw_eq (fun X74 eX74 => ?_)
                          have dX74 : HQ X0 o X74 := by rw [eX74]; exact HQ_w h (by omega)
                          refine pw_ck (fun _ => ?_)
                          refine pw_eq (fun x75 _ => ?_)
                          refine pw_ite (fun _ => ?_) (fun _ => ?_)
                          · exact hq_judgeMore_343 dX74
                          · exact hq_judgeMore_343 dX74
                        · refine pw_ite (fun _ => ?_) (fun _ => ?_)
                          · refine pw_eq (fun x77 _ => ?_)
                            refine pw_eq (fun x78 _ => ?_)
                            refine pw_eq (fun X79 eX79 => ?_)
                            have dX79 : HQ X0 o X79 := by rw [eX79]; exact HQ_w h (by omega)
                            refine pw_eq (fun x80 _ => ?_)
                            refine pw_ck (fun _ => ?_)
                            refine pw_eq (fun x81 _ => ?_)
                            refine pw_bd (hq_elementOf dX79) (fun x82 X83 dX83 => ?_)
                            refine pw_bd (hq_push dX83) (fun _ X84 dX84 => ?_)
                            exact pw_ret dX84
                          · refine pw_ite (fun _ => ?_) (fun _ => ?_)
                            · refine pw_eq (fun x86 _ => ?_)
                              refine pw_eq (fun x87 _ => ?_)
                              refine pw_eq (fun X88 eX88 => ?_)
                              have dX88 : HQ X0 o X88 := by rw [eX88]; exact HQ_w h (by omega)
                              refine pw_eq (fun x89 _ => ?_)
                              refine pw_ck (fun _ => ?_)
                              refine pw_eq (fun x90 _ => ?_)
                              refine pw_bd (hq_elementOf dX88) (fun x91 X92 dX92 => ?_)
                              refine pw_bd (hq_push dX92) (fun _ X93 dX93 => ?_)
                              exact pw_ret dX93
                            · refine pw_ite (fun _ => ?_) (fun _ => ?_)
                              · refine pw_eq (fun x95 _ => ?_)
                                refine pw_ck (fun _ => ?_)
                                refine pw_eq (fun x96 _ => ?_)
                                refine pw_eq (fun x97 _ => ?_)
                                refine pw_eq (fun x98 _ => ?_)
                                refine pw_eq (fun X99 eX99 => ?_)
                                have dX99 : HQ X0 o X99 := by rw [eX99]; exact HQ_w h (by omega)
                                refine pw_eq (fun x100 _ => ?_)
                                refine pw_ck (fun _ => ?_)
                                refine pw_eq (fun x101 _ => ?_)
                                refine pw_bd (hq_resultOf dX99) (fun x102 X103 dX103 => ?_)
                                refine pw_bd (hq_push dX103) (fun _ X104 dX104 => ?_)
                                exact pw_ret dX104
                              · refine pw_ite (fun _ => ?_) (fun _ => ?_)
                                · refine pw_eq (fun x106 _ => ?_)
                                  refine pw_eq (fun x107 _ => ?_)
                                  refine pw_eq (fun X108 eX108 => ?_)
                                  have dX108 : HQ X0 o X108 := by rw [eX108]; exact HQ_w h (by omega)
                                  exact pw_ret dX108
                                · refine pw_ite (fun _ => ?_) (fun _ => ?_)
                                  · refine pw_eq (fun x110 _ => ?_)
                                    refine pw_eq (fun x111 _ => ?_)
                                    refine pw_eq (fun X112 eX112 => ?_)
                                    have dX112 : HQ X0 o X112 := by rw [eX112]; exact HQ_w h (by omega)
                                    exact pw_ret dX112
                                  · exact pw_ret h
theorem hq_judgeOne {p1 : Int32} {p2 : Int32} {X : St} (ho : ix p1 = o) (hK : ¬ (X.1 40 o).toInt = 17 ∧ ¬ (X.1 40 o).toInt = 18) (h : HQ X0 o X) : pw (f_judgeOne p1 p2 X) (fun _ Y => HQ X0 o Y) := by
  unfold f_judgeOne
  refine pw_ck (fun _ => ?_)
  refine pw_eq (fun x1 _ => ?_)
  refine pw_ite (fun _ => ?_) (fun _ => ?_)
  · refine pw_bd (hq_push h) (fun _ X3 dX3 => ?_)
    exact pw_ret dX3
  · refine pw_ite (fun _ => ?_) (fun _ => ?_)
    · refine pw_bd (hq_push h) (fun _ X5 dX5 => ?_)
      exact pw_ret dX5
    · refine pw_ite (fun _ => ?_) (fun _ => ?_)
      · refine pw_ck (fun _ => ?_)
        refine pw_eq (fun x7 _ => ?_)
        refine pw_ck (fun _ => ?_)
        refine pw_eq (fun x8 _ => ?_)
        refine pw_bd (hq_push h) (fun _ X9 dX9 => ?_)
        exact pw_ret dX9
      · refine pw_ite (fun _ => ?_) (fun _ => ?_)
        · refine pw_ck (fun _ => ?_)
          refine pw_eq (fun x11 _ => ?_)
          refine pw_bd (hq_functionOf h) (fun x12 X13 dX13 => ?_)
          refine pw_bd (hq_push dX13) (fun _ X14 dX14 => ?_)
          exact pw_ret dX14
        · refine pw_ite (fun _ => ?_) (fun _ => ?_)
          · refine pw_ck (fun _ => ?_)
            refine pw_eq (fun x16 _ => ?_)
            refine pw_eq (fun x17 _ => ?_)
            refine pw_bd (hq_must ho h) (fun _ X18 dX18 => ?_)
            exact pw_ret dX18
          · refine pw_ite (fun _ => ?_) (fun _ => ?_)
            · refine pw_ck (fun _ => ?_)
              refine pw_eq (fun x20 _ => ?_)
              refine pw_eq (fun x21 _ => ?_)
              refine pw_bd (hq_must ho h) (fun _ X22 dX22 => ?_)
              exact pw_ret dX22
            · refine pw_ite (fun _ => ?_) (fun _ => ?_)
              · refine pw_bd (hq_judgeCallee ho h) (fun _ X24 dX24 => ?_)
                exact pw_ret dX24
              · refine pw_ite (fun _ => ?_) (fun _ => ?_)
                · refine pw_ck (fun _ => ?_)
                  refine pw_eq (fun x26 _ => ?_)
                  refine pw_bd (hq_judgeRow ho h) (fun _ X27 dX27 => ?_)
                  exact pw_ret dX27
                · refine pw_ite (fun _ => ?_) (fun _ => ?_)
                  · refine pw_ck (fun _ => ?_)
                    refine pw_eq (fun x29 _ => ?_)
                    refine pw_bd (hq_judgeRow ho h) (fun _ X30 dX30 => ?_)
                    exact pw_ret dX30
                  · refine pw_ite (fun _ => ?_) (fun _ => ?_)
                    · refine pw_ck (fun _ => ?_)
                      refine pw_eq (fun x32 _ => ?_)
                      refine pw_ck (fun _ => ?_)
                      refine pw_eq (fun x33 _ => ?_)
                      refine pw_eq (fun x34 _ => ?_)
                      refine pw_ck (fun _ => ?_)
                      refine pw_eq (fun x36 _ => ?_)
                      refine pw_ck (fun _ => ?_)
                      refine pw_eq (fun x37 _ => ?_)
                      refine pw_ite (fun _ => ?_) (fun _ => ?_)
                      · refine pw_ck (fun _ => ?_)
                        refine pw_eq (fun x47 _ => ?_)
                        refine pw_ck (fun _ => ?_)
                        refine pw_eq (fun x48 _ => ?_)
                        exact hq_judgeOne_317 ho h
                      · refine pw_eq (fun x38 _ => ?_)
                        exact hq_judgeOne_317 ho h
                    · refine pw_ite (fun _ => ?_) (fun _ => ?_)
                      · refine pw_eq (fun x50 _ => ?_)
                        refine pw_eq (fun x51 _ => ?_)
                        refine pw_ck (fun _ => ?_)
                        refine pw_eq (fun x52 _ => ?_)
                        refine pw_bd (hq_elementOf h) (fun x53 X54 dX54 => ?_)
                        refine pw_ck (fun _ => ?_)
                        refine pw_eq (fun x55 _ => ?_)
                        refine pw_ck (fun _ => ?_)
                        refine pw_eq (fun x56 _ => ?_)
                        refine pw_eq (fun x57 _ => ?_)
                        refine pw_bd (hq_must ho dX54) (fun _ X58 dX58 => ?_)
                        exact pw_ret dX58
                      · refine pw_ite (fun _ => ?_) (fun _ => ?_)
                        · refine pw_bd (hq_ownKindOf h) (fun x60 X61 dX61 => ?_)
                          refine pw_ck (fun _ => ?_)
                          refine pw_eq (fun x62 _ => ?_)
                          refine pw_ck (fun _ => ?_)
                          refine pw_eq (fun x63 _ => ?_)
                          refine pw_eq (fun x64 _ => ?_)
                          refine pw_bd (hq_must ho dX61) (fun _ X65 dX65 => ?_)
                          exact pw_ret dX65
                        · refine pw_bd (hq_judgeMore ho hK h) (fun _ X66 dX66 => ?_)
                          exact pw_ret dX66
end HQS
