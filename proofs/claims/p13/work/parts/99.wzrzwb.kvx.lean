/-! the judge's kinds: old ones stay, codes are right -/
def KVx (X Y : St) : Prop := KVa True Y ∧ KXq X Y
theorem KVx_w {X0 X : St} {e k : Nat} {v : Int32} (h : KVx X0 X) (hk : ¬ ((e = 0 ∧ 13 ≤ k ∧ k ≤ 16) ∨ (4 ≤ e ∧ e ≤ 9))) : KVx X0 (_root_.Jvm.Pilot.CBlameCourtLaw_law_r8381_f30dd1.wI X e k v) := ⟨KVa_w h.1 hk, h.2.tr (KXq.of (fun e1 j q => wI_ne _ _ _ _ _ _ (by omega)))⟩
section RSKX
variable {X0 : St}
theorem v_kofx {X : St} {s f n : Int32} (h : KVx X0 X) : pw (f_kindOf s f n X) (fun _ Y => KVx X0 Y) := pw_mono (v_kof2 h.1) (fun _ _ z => ⟨z.1, h.2.tr z.2⟩)
theorem kx9_push_54 {b0 : Int32} {b1 : Int32} {X : St} (h : KVx X0 X) : pw (f_push_54 b0 b1 X) (fun _ Y => KVx X0 Y) := by
  unfold f_push_54
  refine pw_ck (fun _ => ?_)
  refine pw_eq (fun X9 eX9 => ?_)
  have dX9 : KVx X0 X9 := by rw [eX9]; exact KVx_w h (by omega)
  exact pw_ret dX9
theorem kx9_push_49 {b0 : Int32} {X : St} (h : KVx X0 X) : pw (f_push_49 b0 X) (fun _ Y => KVx X0 Y) := by
  unfold f_push_49
  exact kx9_push_54 h
theorem kx9_push {p1 : Int32} {X : St} (h : KVx X0 X) : pw (f_push p1 X) (fun _ Y => KVx X0 Y) := by
  unfold f_push
  refine pw_eq (fun x1 _ => ?_)
  refine pw_ck (fun _ => ?_)
  refine pw_eq (fun X2 eX2 => ?_)
  have dX2 : KVx X0 X2 := by rw [eX2]; exact KVx_w h (by omega)
  refine pw_eq (fun x3 _ => ?_)
  refine pw_eq (fun x4 _ => ?_)
  refine pw_eq (fun X5 eX5 => ?_)
  have dX5 : KVx X0 X5 := by rw [eX5]; exact KVx_w dX2 (by omega)
  refine pw_eq (fun x6 _ => ?_)
  refine pw_eq (fun x7 _ => ?_)
  refine pw_ck (fun _ => ?_)
  refine pw_eq (fun x8 _ => ?_)
  refine pw_ite (fun _ => ?_) (fun _ => ?_)
  · refine pw_ck (fun _ => ?_)
    refine pw_eq (fun x10 _ => ?_)
    refine pw_ite (fun _ => ?_) (fun _ => ?_)
    · exact kx9_push_54 dX5
    · exact kx9_push_49 dX5
  · exact kx9_push_49 dX5
theorem kx9_ownKindOf {p1 : Int32} {X : St} (h : KVx X0 X) : pw (f_ownKindOf p1 X) (fun _ Y => KVx X0 Y) := by
  unfold f_ownKindOf
  refine pw_ck (fun _ => ?_)
  refine pw_eq (fun x1 _ => ?_)
  refine pw_ite (fun _ => ?_) (fun _ => ?_)
  · exact pw_ret h
  · refine pw_ck (fun _ => ?_)
    refine pw_eq (fun x2 _ => ?_)
    exact pw_ret h
theorem kx9_paramKindOf {p1 : Int32} {p2 : Int32} {X : St} (h : KVx X0 X) : pw (f_paramKindOf p1 p2 X) (fun _ Y => KVx X0 Y) := by
  unfold f_paramKindOf
  refine pw_ck (fun _ => ?_)
  refine pw_eq (fun x1 _ => ?_)
  refine pw_ite (fun _ => ?_) (fun _ => ?_)
  · exact pw_ret h
  · refine pw_eq (fun x2 _ => ?_)
    refine pw_eq (fun x3 _ => ?_)
    refine pw_ck (fun _ => ?_)
    refine pw_eq (fun x4 _ => ?_)
    exact pw_ret h
theorem kx9_functionOf_2 (N : Nat) : ∀ (a1 : Int32) (a2 : Int32) (X : St), KVx X0 X → pw (f_functionOf_2 N a1 a2 X) (fun _ Y => KVx X0 Y) := by
  unfold f_functionOf_2
  refine lp_ind (P := fun (r : Int32 → Int32 → St → Option (Int32 × St)) => ∀ (a1 : Int32) (a2 : Int32) (X : St), KVx X0 X → pw (r a1 a2 X) (fun _ Y => KVx X0 Y)) (fun _ _ _ _ => pw_none) (fun r ih a1 a2 X h => ?_) N
  unfold f_functionOf_2_s
  refine pw_ck (fun _ => ?_)
  refine pw_eq (fun x1 _ => ?_)
  refine pw_ite (fun _ => ?_) (fun _ => ?_)
  · refine pw_ck (fun _ => ?_)
    refine pw_eq (fun x2 _ => ?_)
    refine pw_eq (fun x3 _ => ?_)
    refine pw_bd (kx9_ownKindOf h) (fun x4 X5 dX5 => ?_)
    refine pw_ck (fun _ => ?_)
    refine pw_eq (fun X6 eX6 => ?_)
    have dX6 : KVx X0 X6 := by rw [eX6]; exact KVx_w dX5 (by omega)
    refine pw_ck (fun _ => ?_)
    refine pw_eq (fun x7 _ => ?_)
    refine pw_eq (fun x8 _ => ?_)
    refine pw_bd (v_kofx dX6) (fun x9 X10 dX10 => ?_)
    exact pw_ret dX10
  · refine pw_eq (fun x11 _ => ?_)
    refine pw_bd (kx9_paramKindOf h) (fun x12 X13 dX13 => ?_)
    refine pw_ck (fun _ => ?_)
    refine pw_eq (fun X14 eX14 => ?_)
    have dX14 : KVx X0 X14 := by rw [eX14]; exact KVx_w dX13 (by omega)
    refine pw_eq (fun x15 _ => ?_)
    exact ih _ _ _ dX14
theorem kx9_functionOf {p1 : Int32} {X : St} (h : KVx X0 X) : pw (f_functionOf p1 X) (fun _ Y => KVx X0 Y) := by
  unfold f_functionOf
  exact kx9_functionOf_2 _ _ _ _ h
theorem kx9_fits_111 {r16 : Int32 → St → Option (Int32 × St)} (hr16 : ∀ (q0 : Int32) (X : St), KVx X0 X → pw (r16 q0 X) (fun _ Y => KVx X0 Y)) (N : Nat) : ∀ (a3 : Int32) (a4 : Int32) (a5 : Int32) (a6 : Int32) (X : St), KVx X0 X → pw (f_fits_111 r16 N a3 a4 a5 a6 X) (fun _ Y => KVx X0 Y) := by
  unfold f_fits_111
  refine lp_ind (P := fun (r : Int32 → Int32 → Int32 → Int32 → St → Option (Int32 × St)) => ∀ (a3 : Int32) (a4 : Int32) (a5 : Int32) (a6 : Int32) (X : St), KVx X0 X → pw (r a3 a4 a5 a6 X) (fun _ Y => KVx X0 Y)) (fun _ _ _ _ _ _ => pw_none) (fun r ih a3 a4 a5 a6 X h => ?_) N
  unfold f_fits_111_s
  refine pw_ck (fun _ => ?_)
  refine pw_eq (fun x11 _ => ?_)
  refine pw_ite (fun _ => ?_) (fun _ => ?_)
  · exact hr16 _ _ h
  · refine pw_ck (fun _ => ?_)
    refine pw_eq (fun x12 _ => ?_)
    refine pw_eq (fun x13 _ => ?_)
    refine pw_ck (fun _ => ?_)
    refine pw_eq (fun x14 _ => ?_)
    refine pw_ck (fun _ => ?_)
    refine pw_eq (fun X15 eX15 => ?_)
    have dX15 : KVx X0 X15 := by rw [eX15]; exact KVx_w h (by omega)
    refine pw_ck (fun _ => ?_)
    refine pw_eq (fun x16 _ => ?_)
    refine pw_eq (fun x17 _ => ?_)
    refine pw_ck (fun _ => ?_)
    refine pw_eq (fun x18 _ => ?_)
    refine pw_ck (fun _ => ?_)
    refine pw_eq (fun X19 eX19 => ?_)
    have dX19 : KVx X0 X19 := by rw [eX19]; exact KVx_w dX15 (by omega)
    refine pw_eq (fun x20 _ => ?_)
    refine pw_eq (fun x21 _ => ?_)
    exact ih _ _ _ _ _ dX19
theorem kx9_fits_16 (N : Nat) : ∀ (a3 : Int32) (X : St), KVx X0 X → pw (f_fits_16 N a3 X) (fun _ Y => KVx X0 Y) := by
  unfold f_fits_16
  refine lp_ind (P := fun (r : Int32 → St → Option (Int32 × St)) => ∀ (a3 : Int32) (X : St), KVx X0 X → pw (r a3 X) (fun _ Y => KVx X0 Y)) (fun _ _ _ => pw_none) (fun r ih a3 X h => ?_) N
  unfold f_fits_16_s
  refine pw_ite (fun _ => ?_) (fun _ => ?_)
  · exact pw_ret h
  · refine pw_eq (fun x3 _ => ?_)
    refine pw_ck (fun _ => ?_)
    refine pw_eq (fun x4 _ => ?_)
    refine pw_ck (fun _ => ?_)
    refine pw_eq (fun x5 _ => ?_)
    refine pw_ite (fun _ => ?_) (fun _ => ?_)
    · exact ih _ _ h
    · refine pw_ite (fun _ => ?_) (fun _ => ?_)
      · exact ih _ _ h
      · refine pw_ite (fun _ => ?_) (fun _ => ?_)
        · exact ih _ _ h
        · refine pw_ck (fun _ => ?_)
          refine pw_eq (fun x6 _ => ?_)
          refine pw_ck (fun _ => ?_)
          refine pw_eq (fun x7 _ => ?_)
          refine pw_ite (fun _ => ?_) (fun _ => ?_)
          · refine pw_ck (fun _ => ?_)
            refine pw_eq (fun x8 _ => ?_)
            refine pw_ite (fun _ => ?_) (fun _ => ?_)
            · exact pw_ret h
            · refine pw_ck (fun _ => ?_)
              refine pw_eq (fun x9 _ => ?_)
              refine pw_ck (fun _ => ?_)
              refine pw_eq (fun x10 _ => ?_)
              refine pw_ite (fun _ => ?_) (fun _ => ?_)
              · exact kx9_fits_111 ih _ _ _ _ _ _ h
              · exact pw_ret h
          · exact pw_ret h
theorem kx9_fits {p1 : Int32} {p2 : Int32} {X : St} (h : KVx X0 X) : pw (f_fits p1 p2 X) (fun _ Y => KVx X0 Y) := by
  unfold f_fits
  refine pw_ck (fun _ => ?_)
  refine pw_eq (fun X1 eX1 => ?_)
  have dX1 : KVx X0 X1 := by rw [eX1]; exact KVx_w h (by omega)
  refine pw_ck (fun _ => ?_)
  refine pw_eq (fun X2 eX2 => ?_)
  have dX2 : KVx X0 X2 := by rw [eX2]; exact KVx_w dX1 (by omega)
  exact kx9_fits_16 _ _ _ dX2
theorem kx9_fails {p1 : Int32} {p2 : Int32} {X : St} (h : KVx X0 X) : pw (f_fails p1 p2 X) (fun _ Y => KVx X0 Y) := by
  unfold f_fails
  refine pw_eq (fun x1 _ => ?_)
  refine pw_ite (fun _ => ?_) (fun _ => ?_)
  · refine pw_eq (fun X2 eX2 => ?_)
    have dX2 : KVx X0 X2 := by rw [eX2]; exact KVx_w h (by omega)
    refine pw_eq (fun X3 eX3 => ?_)
    have dX3 : KVx X0 X3 := by rw [eX3]; exact KVx_w dX2 (by omega)
    exact pw_ret dX3
  · exact pw_ret h
theorem kx9_guards {p1 : Int32} {p2 : Int32} {p3 : Int32} {p4 : Int32} {p5 : Int32} {X : St} (h : KVx X0 X) : pw (f_guards p1 p2 p3 p4 p5 X) (fun _ Y => KVx X0 Y) := by
  unfold f_guards
  refine pw_ite (fun _ => ?_) (fun _ => ?_)
  · exact pw_ret h
  · refine pw_eq (fun x1 _ => ?_)
    refine pw_ck (fun _ => ?_)
    refine pw_eq (fun X2 eX2 => ?_)
    have dX2 : KVx X0 X2 := by rw [eX2]; exact KVx_w h (by omega)
    refine pw_eq (fun x3 _ => ?_)
    refine pw_ck (fun _ => ?_)
    refine pw_eq (fun X4 eX4 => ?_)
    have dX4 : KVx X0 X4 := by rw [eX4]; exact KVx_w dX2 (by omega)
    refine pw_eq (fun x5 _ => ?_)
    refine pw_ck (fun _ => ?_)
    refine pw_eq (fun X6 eX6 => ?_)
    have dX6 : KVx X0 X6 := by rw [eX6]; exact KVx_w dX4 (by omega)
    refine pw_eq (fun x7 _ => ?_)
    refine pw_eq (fun x8 _ => ?_)
    refine pw_ck (fun _ => ?_)
    refine pw_eq (fun X9 eX9 => ?_)
    have dX9 : KVx X0 X9 := by rw [eX9]; exact KVx_w dX6 (by omega)
    refine pw_eq (fun x10 _ => ?_)
    refine pw_ck (fun _ => ?_)
    refine pw_eq (fun X11 eX11 => ?_)
    have dX11 : KVx X0 X11 := by rw [eX11]; exact KVx_w dX9 (by omega)
    refine pw_eq (fun x12 _ => ?_)
    refine pw_ck (fun _ => ?_)
    refine pw_eq (fun X13 eX13 => ?_)
    have dX13 : KVx X0 X13 := by rw [eX13]; exact KVx_w dX11 (by omega)
    refine pw_eq (fun x14 _ => ?_)
    refine pw_eq (fun x15 _ => ?_)
    refine pw_eq (fun X16 eX16 => ?_)
    have dX16 : KVx X0 X16 := by rw [eX16]; exact KVx_w dX13 (by omega)
    exact pw_ret dX16
theorem kx9_must {p1 : Int32} {p2 : Int32} {p3 : Int32} {p4 : Int32} {X : St} (h : KVx X0 X) : pw (f_must p1 p2 p3 p4 X) (fun _ Y => KVx X0 Y) := by
  unfold f_must
  refine pw_eq (fun x1 _ => ?_)
  refine pw_eq (fun x2 _ => ?_)
  refine pw_ck (fun _ => ?_)
  refine pw_eq (fun x3 _ => ?_)
  refine pw_bd (kx9_fits h) (fun x4 X5 dX5 => ?_)
  refine pw_ite (fun _ => ?_) (fun _ => ?_)
  · refine pw_bd (kx9_fails dX5) (fun _ X10 dX10 => ?_)
    exact pw_ret dX10
  · refine pw_bd (kx9_guards dX5) (fun _ X6 dX6 => ?_)
    refine pw_eq (fun x7 _ => ?_)
    refine pw_eq (fun x8 _ => ?_)
    refine pw_ck (fun _ => ?_)
    refine pw_eq (fun X9 eX9 => ?_)
    have dX9 : KVx X0 X9 := by rw [eX9]; exact KVx_w dX6 (by omega)
    exact pw_ret dX9
theorem kx9_anyFunction_2 (N : Nat) : ∀ (a1 : Int32) (a2 : Int32) (X : St), KVx X0 X → pw (f_anyFunction_2 N a1 a2 X) (fun _ Y => KVx X0 Y) := by
  unfold f_anyFunction_2
  refine lp_ind (P := fun (r : Int32 → Int32 → St → Option (Int32 × St)) => ∀ (a1 : Int32) (a2 : Int32) (X : St), KVx X0 X → pw (r a1 a2 X) (fun _ Y => KVx X0 Y)) (fun _ _ _ _ => pw_none) (fun r ih a1 a2 X h => ?_) N
  unfold f_anyFunction_2_s
  refine pw_ite (fun _ => ?_) (fun _ => ?_)
  · refine pw_eq (fun x1 _ => ?_)
    refine pw_bd (v_kofx h) (fun x2 X3 dX3 => ?_)
    exact pw_ret dX3
  · refine pw_eq (fun x4 _ => ?_)
    refine pw_ck (fun _ => ?_)
    refine pw_eq (fun X5 eX5 => ?_)
    have dX5 : KVx X0 X5 := by rw [eX5]; exact KVx_w h (by omega)
    refine pw_eq (fun x6 _ => ?_)
    exact ih _ _ _ dX5
theorem kx9_anyFunction {p1 : Int32} {X : St} (h : KVx X0 X) : pw (f_anyFunction p1 X) (fun _ Y => KVx X0 Y) := by
  unfold f_anyFunction
  exact kx9_anyFunction_2 _ _ _ _ h
theorem kx9_judgeCallee {p1 : Int32} {p2 : Int32} {X : St} (h : KVx X0 X) : pw (f_judgeCallee p1 p2 X) (fun _ Y => KVx X0 Y) := by
  unfold f_judgeCallee
  refine pw_eq (fun x1 _ => ?_)
  refine pw_eq (fun x2 _ => ?_)
  refine pw_ck (fun _ => ?_)
  refine pw_eq (fun x3 _ => ?_)
  refine pw_ite (fun _ => ?_) (fun _ => ?_)
  · refine pw_ck (fun _ => ?_)
    refine pw_eq (fun x12 _ => ?_)
    refine pw_bd (kx9_anyFunction h) (fun x13 X14 dX14 => ?_)
    refine pw_ck (fun _ => ?_)
    refine pw_eq (fun x15 _ => ?_)
    refine pw_eq (fun x16 _ => ?_)
    refine pw_bd (kx9_guards dX14) (fun _ X17 dX17 => ?_)
    refine pw_eq (fun x18 _ => ?_)
    refine pw_eq (fun x19 _ => ?_)
    refine pw_ck (fun _ => ?_)
    refine pw_eq (fun X20 eX20 => ?_)
    have dX20 : KVx X0 X20 := by rw [eX20]; exact KVx_w dX17 (by omega)
    exact pw_ret dX20
  · refine pw_ck (fun _ => ?_)
    refine pw_eq (fun x4 _ => ?_)
    refine pw_ite (fun _ => ?_) (fun _ => ?_)
    · refine pw_ck (fun _ => ?_)
      refine pw_eq (fun x5 _ => ?_)
      refine pw_eq (fun x6 _ => ?_)
      refine pw_ck (fun _ => ?_)
      refine pw_eq (fun x7 _ => ?_)
      refine pw_ite (fun _ => ?_) (fun _ => ?_)
      · exact pw_ret h
      · refine pw_ck (fun _ => ?_)
        refine pw_eq (fun x8 _ => ?_)
        refine pw_bd (kx9_fails h) (fun _ X9 dX9 => ?_)
        exact pw_ret dX9
    · refine pw_ck (fun _ => ?_)
      refine pw_eq (fun x10 _ => ?_)
      refine pw_bd (kx9_fails h) (fun _ X11 dX11 => ?_)
      exact pw_ret dX11
theorem kx9_rowOf {p1 : Int32} {X : St} (h : KVx X0 X) : pw (f_rowOf p1 X) (fun _ Y => KVx X0 Y) := by
  unfold f_rowOf
  refine pw_ck (fun _ => ?_)
  refine pw_eq (fun X1 eX1 => ?_)
  have dX1 : KVx X0 X1 := by rw [eX1]; exact KVx_w h (by omega)
  refine pw_bd (v_kofx dX1) (fun x2 X3 dX3 => ?_)
  exact pw_ret dX3
theorem kx9_judgeRow {p1 : Int32} {p2 : Int32} {X : St} (h : KVx X0 X) : pw (f_judgeRow p1 p2 X) (fun _ Y => KVx X0 Y) := by
  unfold f_judgeRow
  refine pw_eq (fun x1 _ => ?_)
  refine pw_eq (fun x2 _ => ?_)
  refine pw_ck (fun _ => ?_)
  refine pw_eq (fun x3 _ => ?_)
  refine pw_ite (fun _ => ?_) (fun _ => ?_)
  · refine pw_bd (kx9_rowOf h) (fun x6 X7 dX7 => ?_)
    refine pw_eq (fun x8 _ => ?_)
    refine pw_bd (kx9_guards dX7) (fun _ X9 dX9 => ?_)
    refine pw_eq (fun x10 _ => ?_)
    refine pw_eq (fun x11 _ => ?_)
    refine pw_ck (fun _ => ?_)
    refine pw_eq (fun X12 eX12 => ?_)
    have dX12 : KVx X0 X12 := by rw [eX12]; exact KVx_w dX9 (by omega)
    exact pw_ret dX12
  · refine pw_ck (fun _ => ?_)
    refine pw_eq (fun x4 _ => ?_)
    refine pw_ite (fun _ => ?_) (fun _ => ?_)
    · exact pw_ret h
    · refine pw_bd (kx9_fails h) (fun _ X5 dX5 => ?_)
      exact pw_ret dX5
theorem kx9_paramOf {p1 : Int32} {p2 : Int32} {X : St} (h : KVx X0 X) : pw (f_paramOf p1 p2 X) (fun _ Y => KVx X0 Y) := by
  unfold f_paramOf
  refine pw_ck (fun _ => ?_)
  refine pw_eq (fun x1 _ => ?_)
  refine pw_eq (fun x2 _ => ?_)
  refine pw_ck (fun _ => ?_)
  refine pw_eq (fun x3 _ => ?_)
  exact pw_ret h
theorem kx9_judgeOne_317 {a1 : Int32} {a2 : Int32} {a4 : Int32} {b0 : Int32} {X : St} (h : KVx X0 X) : pw (f_judgeOne_317 a1 a2 a4 b0 X) (fun _ Y => KVx X0 Y) := by
  unfold f_judgeOne_317
  refine pw_eq (fun x39 _ => ?_)
  refine pw_eq (fun x40 _ => ?_)
  refine pw_eq (fun x41 _ => ?_)
  refine pw_ck (fun _ => ?_)
  refine pw_eq (fun x42 _ => ?_)
  refine pw_bd (kx9_paramOf h) (fun x43 X44 dX44 => ?_)
  refine pw_ck (fun _ => ?_)
  refine pw_eq (fun x45 _ => ?_)
  refine pw_bd (kx9_must dX44) (fun _ X46 dX46 => ?_)
  exact pw_ret dX46
theorem kx9_elementOf {p1 : Int32} {X : St} (h : KVx X0 X) : pw (f_elementOf p1 X) (fun _ Y => KVx X0 Y) := by
  unfold f_elementOf
  refine pw_ck (fun _ => ?_)
  refine pw_eq (fun x1 _ => ?_)
  refine pw_ck (fun _ => ?_)
  refine pw_eq (fun x2 _ => ?_)
  exact pw_ret h
theorem kx9_toldKind {p1 : Int32} {X : St} (h : KVx X0 X) : pw (f_toldKind p1 X) (fun _ Y => KVx X0 Y) := by
  unfold f_toldKind
  refine pw_eq (fun x1 _ => ?_)
  refine pw_ck (fun _ => ?_)
  refine pw_eq (fun x2 _ => ?_)
  refine pw_ite (fun _ => ?_) (fun _ => ?_)
  · exact pw_ret h
  · exact pw_ret h
theorem kx9_judgeMore_182 {b0 : Int32} {b1 : Int32} {X : St} (h : KVx X0 X) : pw (f_judgeMore_182 b0 b1 X) (fun _ Y => KVx X0 Y) := by
  unfold f_judgeMore_182
  refine pw_ck (fun _ => ?_)
  refine pw_eq (fun X14 eX14 => ?_)
  have dX14 : KVx X0 X14 := by rw [eX14]; exact KVx_w h (by omega)
  exact pw_ret dX14
theorem kx9_judgeMore_177 {b0 : Int32} {X : St} (h : KVx X0 X) : pw (f_judgeMore_177 b0 X) (fun _ Y => KVx X0 Y) := by
  unfold f_judgeMore_177
  exact kx9_judgeMore_182 h
theorem kx9_judgeJoin_112 {b0 : Int32} {X : St} (h : KVx X0 X) : pw (f_judgeJoin_112 b0 X) (fun _ Y => KVx X0 Y) := by
  unfold f_judgeJoin_112
  refine pw_bd (kx9_push h) (fun _ X9 dX9 => ?_)
  exact pw_ret dX9
theorem kx9_judgeJoin_101 {a2 : Int32} {a3 : Int32} {X : St} (h : KVx X0 X) : pw (f_judgeJoin_101 a2 a3 X) (fun _ Y => KVx X0 Y) := by
  unfold f_judgeJoin_101
  refine pw_ite (fun _ => ?_) (fun _ => ?_)
  · exact kx9_judgeJoin_112 h
  · exact kx9_judgeJoin_112 h
theorem kx9_judgeJoin {p1 : Int32} {X : St} (h : KVx X0 X) : pw (f_judgeJoin p1 X) (fun _ Y => KVx X0 Y) := by
  unfold f_judgeJoin
  refine pw_eq (fun x1 _ => ?_)
  refine pw_eq (fun x2 _ => ?_)
  refine pw_eq (fun X3 eX3 => ?_)
  have dX3 : KVx X0 X3 := by rw [eX3]; exact KVx_w h (by omega)
  refine pw_eq (fun x4 _ => ?_)
  refine pw_ck (fun _ => ?_)
  refine pw_eq (fun x5 _ => ?_)
  refine pw_eq (fun x6 _ => ?_)
  refine pw_eq (fun x7 _ => ?_)
  refine pw_ck (fun _ => ?_)
  refine pw_eq (fun x8 _ => ?_)
  refine pw_ite (fun _ => ?_) (fun _ => ?_)
  · exact kx9_judgeJoin_101 dX3
  · refine pw_ck (fun _ => ?_)
    refine pw_eq (fun x10 _ => ?_)
    refine pw_ck (fun _ => ?_)
    refine pw_eq (fun x11 _ => ?_)
    refine pw_ck (fun _ => ?_)
    refine pw_eq (fun x12 _ => ?_)
    refine pw_ck (fun _ => ?_)
    refine pw_eq (fun x13 _ => ?_)
    refine pw_eq (fun x14 _ => ?_)
    refine pw_bd (kx9_guards dX3) (fun _ X15 dX15 => ?_)
    refine pw_ck (fun _ => ?_)
    refine pw_eq (fun x16 _ => ?_)
    refine pw_ck (fun _ => ?_)
    refine pw_eq (fun x17 _ => ?_)
    refine pw_ck (fun _ => ?_)
    refine pw_eq (fun x18 _ => ?_)
    refine pw_ck (fun _ => ?_)
    refine pw_eq (fun x19 _ => ?_)
    refine pw_eq (fun x20 _ => ?_)
    refine pw_bd (kx9_guards dX15) (fun _ X21 dX21 => ?_)
    exact kx9_judgeJoin_101 dX21
theorem kx9_judgeElements_168 {b0 : Int32} {X : St} (h : KVx X0 X) : pw (f_judgeElements_168 b0 X) (fun _ Y => KVx X0 Y) := by
  unfold f_judgeElements_168
  refine pw_bd (kx9_rowOf h) (fun x8 X9 dX9 => ?_)
  refine pw_bd (kx9_push dX9) (fun _ X10 dX10 => ?_)
  exact pw_ret dX10
theorem kx9_judgeElements_134 {r91 : Int32 → Int32 → Int32 → St → Option (Int32 × St)} (hr91 : ∀ (q0 : Int32) (q1 : Int32) (q2 : Int32) (X : St), KVx X0 X → pw (r91 q0 q1 q2 X) (fun _ Y => KVx X0 Y)) {a2 : Int32} {a3 : Int32} {a4 : Int32} {X : St} (h : KVx X0 X) : pw (f_judgeElements_134 r91 a2 a3 a4 X) (fun _ Y => KVx X0 Y) := by
  unfold f_judgeElements_134
  refine pw_eq (fun x13 _ => ?_)
  refine pw_ck (fun _ => ?_)
  refine pw_eq (fun x14 _ => ?_)
  exact hr91 _ _ _ _ h
theorem kx9_judgeElements_91 (N : Nat) : ∀ (a2 : Int32) (a3 : Int32) (a4 : Int32) (X : St), KVx X0 X → pw (f_judgeElements_91 N a2 a3 a4 X) (fun _ Y => KVx X0 Y) := by
  unfold f_judgeElements_91
  refine lp_ind (P := fun (r : Int32 → Int32 → Int32 → St → Option (Int32 × St)) => ∀ (a2 : Int32) (a3 : Int32) (a4 : Int32) (X : St), KVx X0 X → pw (r a2 a3 a4 X) (fun _ Y => KVx X0 Y)) (fun _ _ _ _ _ => pw_none) (fun r ih a2 a3 a4 X h => ?_) N
  unfold f_judgeElements_91_s
  refine pw_ite (fun _ => ?_) (fun _ => ?_)
  · refine pw_ite (fun _ => ?_) (fun _ => ?_)
    · exact kx9_judgeElements_168 h
    · refine pw_eq (fun x11 _ => ?_)
      refine pw_ck (fun _ => ?_)
      refine pw_eq (fun x12 _ => ?_)
      exact kx9_judgeElements_168 h
  · refine pw_ite (fun _ => ?_) (fun _ => ?_)
    · refine pw_ck (fun _ => ?_)
      refine pw_eq (fun x15 _ => ?_)
      refine pw_eq (fun x16 _ => ?_)
      refine pw_eq (fun x17 _ => ?_)
      refine pw_ck (fun _ => ?_)
      refine pw_eq (fun x18 _ => ?_)
      refine pw_ck (fun _ => ?_)
      refine pw_eq (fun x19 _ => ?_)
      refine pw_eq (fun x20 _ => ?_)
      refine pw_bd (kx9_guards h) (fun _ X21 dX21 => ?_)
      exact kx9_judgeElements_134 ih dX21
    · exact kx9_judgeElements_134 ih h
theorem kx9_judgeElements_74 {r32 : Int32 → Int32 → Int32 → St → Option (Int32 × St)} (hr32 : ∀ (q0 : Int32) (q1 : Int32) (q2 : Int32) (X : St), KVx X0 X → pw (r32 q0 q1 q2 X) (fun _ Y => KVx X0 Y)) {a1 : Int32} {a3 : Int32} {b0 : Int32} {X : St} (h : KVx X0 X) : pw (f_judgeElements_74 r32 a1 a3 b0 X) (fun _ Y => KVx X0 Y) := by
  unfold f_judgeElements_74
  refine pw_eq (fun x22 _ => ?_)
  exact hr32 _ _ _ _ h
theorem kx9_judgeElements_73 {r32 : Int32 → Int32 → Int32 → St → Option (Int32 × St)} (hr32 : ∀ (q0 : Int32) (q1 : Int32) (q2 : Int32) (X : St), KVx X0 X → pw (r32 q0 q1 q2 X) (fun _ Y => KVx X0 Y)) {a1 : Int32} {a3 : Int32} {X : St} (h : KVx X0 X) : pw (f_judgeElements_73 r32 a1 a3 X) (fun _ Y => KVx X0 Y) := by
  unfold f_judgeElements_73
  exact kx9_judgeElements_74 hr32 h
theorem kx9_judgeElements_32 (N : Nat) : ∀ (a1 : Int32) (a2 : Int32) (a3 : Int32) (X : St), KVx X0 X → pw (f_judgeElements_32 N a1 a2 a3 X) (fun _ Y => KVx X0 Y) := by
  unfold f_judgeElements_32
  refine lp_ind (P := fun (r : Int32 → Int32 → Int32 → St → Option (Int32 × St)) => ∀ (a1 : Int32) (a2 : Int32) (a3 : Int32) (X : St), KVx X0 X → pw (r a1 a2 a3 X) (fun _ Y => KVx X0 Y)) (fun _ _ _ _ _ => pw_none) (fun r ih a1 a2 a3 X h => ?_) N
  unfold f_judgeElements_32_s
  refine pw_ck (fun _ => ?_)
  refine pw_eq (fun x6 _ => ?_)
  refine pw_ite (fun _ => ?_) (fun _ => ?_)
  · refine pw_ck (fun _ => ?_)
    refine pw_eq (fun x7 _ => ?_)
    exact kx9_judgeElements_91 _ _ _ _ _ h
  · refine pw_ite (fun _ => ?_) (fun _ => ?_)
    · exact kx9_judgeElements_73 ih h
    · refine pw_eq (fun x23 _ => ?_)
      refine pw_eq (fun x24 _ => ?_)
      refine pw_ck (fun _ => ?_)
      refine pw_eq (fun x25 _ => ?_)
      refine pw_eq (fun x26 _ => ?_)
      refine pw_ck (fun _ => ?_)
      refine pw_eq (fun x27 _ => ?_)
      refine pw_ite (fun _ => ?_) (fun _ => ?_)
      · exact kx9_judgeElements_74 ih h
      · exact kx9_judgeElements_73 ih h
theorem kx9_judgeElements_29 {a1 : Int32} {b0 : Int32} {X : St} (h : KVx X0 X) : pw (f_judgeElements_29 a1 b0 X) (fun _ Y => KVx X0 Y) := by
  unfold f_judgeElements_29
  exact kx9_judgeElements_32 _ _ _ _ _ h
theorem kx9_judgeElements {p1 : Int32} {X : St} (h : KVx X0 X) : pw (f_judgeElements p1 X) (fun _ Y => KVx X0 Y) := by
  unfold f_judgeElements
  refine pw_eq (fun x1 _ => ?_)
  refine pw_ck (fun _ => ?_)
  refine pw_eq (fun x2 _ => ?_)
  refine pw_eq (fun x3 _ => ?_)
  refine pw_eq (fun X4 eX4 => ?_)
  have dX4 : KVx X0 X4 := by rw [eX4]; exact KVx_w h (by omega)
  refine pw_ck (fun _ => ?_)
  refine pw_eq (fun x5 _ => ?_)
  refine pw_ite (fun _ => ?_) (fun _ => ?_)
  · exact kx9_judgeElements_29 dX4
  · exact kx9_judgeElements_29 dX4
theorem kx9_judgeMore_343 {b0 : Int32} {X : St} (h : KVx X0 X) : pw (f_judgeMore_343 b0 X) (fun _ Y => KVx X0 Y) := by
  unfold f_judgeMore_343
  refine pw_bd (kx9_push h) (fun _ X70 dX70 => ?_)
  exact pw_ret dX70
theorem kx9_resultOf {p1 : Int32} {X : St} (h : KVx X0 X) : pw (f_resultOf p1 X) (fun _ Y => KVx X0 Y) := by
  unfold f_resultOf
  refine pw_ck (fun _ => ?_)
  refine pw_eq (fun x1 _ => ?_)
  refine pw_ck (fun _ => ?_)
  refine pw_eq (fun x2 _ => ?_)
  refine pw_eq (fun x3 _ => ?_)
  refine pw_eq (fun x4 _ => ?_)
  refine pw_ck (fun _ => ?_)
  refine pw_eq (fun x5 _ => ?_)
  exact pw_ret h
theorem kx9_judgeMore {p1 : Int32} {p2 : Int32} {X : St} (h : KVx X0 X) : pw (f_judgeMore p1 p2 X) (fun _ Y => KVx X0 Y) := by
  unfold f_judgeMore
  refine pw_ck (fun _ => ?_)
  refine pw_eq (fun x1 _ => ?_)
  refine pw_ite (fun _ => ?_) (fun _ => ?_)
  · refine pw_ck (fun _ => ?_)
    refine pw_eq (fun x3 _ => ?_)
    refine pw_ite (fun _ => ?_) (fun _ => ?_)
    · exact pw_ret h
    · refine pw_ck (fun _ => ?_)
      refine pw_eq (fun x4 _ => ?_)
      refine pw_bd (kx9_toldKind h) (fun x5 X6 dX6 => ?_)
      refine pw_ck (fun _ => ?_)
      refine pw_eq (fun x7 _ => ?_)
      refine pw_ck (fun _ => ?_)
      refine pw_eq (fun x8 _ => ?_)
      refine pw_eq (fun x9 _ => ?_)
      refine pw_bd (kx9_must dX6) (fun _ X10 dX10 => ?_)
      refine pw_eq (fun x11 _ => ?_)
      refine pw_eq (fun x12 _ => ?_)
      refine pw_ck (fun _ => ?_)
      refine pw_eq (fun x13 _ => ?_)
      refine pw_ite (fun _ => ?_) (fun _ => ?_)
      · refine pw_ck (fun _ => ?_)
        refine pw_eq (fun x15 _ => ?_)
        refine pw_bd (kx9_toldKind dX10) (fun x16 X17 dX17 => ?_)
        refine pw_ck (fun _ => ?_)
        refine pw_eq (fun x18 _ => ?_)
        refine pw_ite (fun _ => ?_) (fun _ => ?_)
        · exact kx9_judgeMore_182 dX17
        · exact kx9_judgeMore_177 dX17
      · exact kx9_judgeMore_177 dX10
  · refine pw_ite (fun _ => ?_) (fun _ => ?_)
    · refine pw_eq (fun x20 _ => ?_)
      refine pw_eq (fun x21 _ => ?_)
      refine pw_eq (fun X22 eX22 => ?_)
      have dX22 : KVx X0 X22 := by rw [eX22]; exact KVx_w h (by omega)
      refine pw_ck (fun _ => ?_)
      refine pw_eq (fun x23 _ => ?_)
      refine pw_eq (fun x24 _ => ?_)
      refine pw_ck (fun _ => ?_)
      refine pw_eq (fun x25 _ => ?_)
      refine pw_ck (fun _ => ?_)
      refine pw_eq (fun X26 eX26 => ?_)
      have dX26 : KVx X0 X26 := by rw [eX26]; exact KVx_w dX22 (by omega)
      exact pw_ret dX26
    · refine pw_ite (fun _ => ?_) (fun _ => ?_)
      · refine pw_eq (fun x28 _ => ?_)
        refine pw_eq (fun x29 _ => ?_)
        refine pw_eq (fun X30 eX30 => ?_)
        have dX30 : KVx X0 X30 := by rw [eX30]; exact KVx_w h (by omega)
        exact pw_ret dX30
      · refine pw_ite (fun _ => ?_) (fun _ => ?_)
        · refine pw_bd (kx9_judgeJoin h) (fun _ X32 dX32 => ?_)
          exact pw_ret dX32
        · refine pw_ite (fun _ => ?_) (fun _ => ?_)
          · refine pw_bd (kx9_judgeElements h) (fun _ X34 dX34 => ?_)
            exact pw_ret dX34
          · refine pw_ite (fun _ => ?_) (fun _ => ?_)
            · refine pw_eq (fun x36 _ => ?_)
              refine pw_eq (fun x37 _ => ?_)
              refine pw_eq (fun X38 eX38 => ?_)
              have dX38 : KVx X0 X38 := by rw [eX38]; exact KVx_w h (by omega)
              refine pw_eq (fun x39 _ => ?_)
              refine pw_eq (fun x40 _ => ?_)
              refine pw_ck (fun _ => ?_)
              refine pw_eq (fun x41 _ => ?_)
              refine pw_bd (kx9_rowOf dX38) (fun x42 X43 dX43 => ?_)
              refine pw_bd (kx9_push dX43) (fun _ X44 dX44 => ?_)
              exact pw_ret dX44
            · refine pw_ite (fun _ => ?_) (fun _ => ?_)
              · refine pw_eq (fun x46 _ => ?_)
                refine pw_eq (fun x47 _ => ?_)
                refine pw_eq (fun X48 eX48 => ?_)
                have dX48 : KVx X0 X48 := by rw [eX48]; exact KVx_w h (by omega)
                refine pw_bd (kx9_push dX48) (fun _ X49 dX49 => ?_)
                exact pw_ret dX49
              · refine pw_ite (fun _ => ?_) (fun _ => ?_)
                · refine pw_eq (fun x51 _ => ?_)
                  refine pw_eq (fun x52 _ => ?_)
                  refine pw_eq (fun X53 eX53 => ?_)
                  have dX53 : KVx X0 X53 := by rw [eX53]; exact KVx_w h (by omega)
                  refine pw_bd (kx9_push dX53) (fun _ X54 dX54 => ?_)
                  exact pw_ret dX54
                · refine pw_ite (fun _ => ?_) (fun _ => ?_)
                  · refine pw_eq (fun x56 _ => ?_)
                    refine pw_eq (fun x57 _ => ?_)
                    refine pw_eq (fun X58 eX58 => ?_)
                    have dX58 : KVx X0 X58 := by rw [eX58]; exact KVx_w h (by omega)
                    refine pw_bd (kx9_push dX58) (fun _ X59 dX59 => ?_)
                    exact pw_ret dX59
                  · refine pw_ite (fun _ => ?_) (fun _ => ?_)
                    · refine pw_eq (fun x61 _ => ?_)
                      refine pw_eq (fun x62 _ => ?_)
                      refine pw_eq (fun X63 eX63 => ?_)
                      have dX63 : KVx X0 X63 := by rw [eX63]; exact KVx_w h (by omega)
                      refine pw_bd (kx9_push dX63) (fun _ X64 dX64 => ?_)
                      exact pw_ret dX64
                    · refine pw_ite (fun _ => ?_) (fun _ => ?_)
                      · refine pw_eq (fun x66 _ => ?_)
                        refine pw_eq (fun x67 _ => ?_)
                        refine pw_eq (fun X68 eX68 => ?_)
                        have dX68 : KVx X0 X68 := by rw [eX68]; exact KVx_w h (by omega)
                        refine pw_ck (fun _ => ?_)
                        refine pw_eq (fun x69 _ => ?_)
                        refine pw_ite (fun _ => ?_) (fun _ => ?_)
                        · exact kx9_judgeMore_343 dX68
                        · exact kx9_judgeMore_343 dX68
                      · refine pw_ite (fun _ => ?_) (fun _ => ?_)
                        · refine pw_eq (fun x72 _ => ?_)
                          refine pw_eq (fun x73 _ => ?_)
                          refine pw_eq (fun X74 eX74 => ?_)
                          have dX74 : KVx X0 X74 := by rw [eX74]; exact KVx_w h (by omega)
                          refine pw_ck (fun _ => ?_)
                          refine pw_eq (fun x75 _ => ?_)
                          refine pw_ite (fun _ => ?_) (fun _ => ?_)
                          · exact kx9_judgeMore_343 dX74
                          · exact kx9_judgeMore_343 dX74
                        · refine pw_ite (fun _ => ?_) (fun _ => ?_)
                          · refine pw_eq (fun x77 _ => ?_)
                            refine pw_eq (fun x78 _ => ?_)
                            refine pw_eq (fun X79 eX79 => ?_)
                            have dX79 : KVx X0 X79 := by rw [eX79]; exact KVx_w h (by omega)
                            refine pw_eq (fun x80 _ => ?_)
                            refine pw_ck (fun _ => ?_)
                            refine pw_eq (fun x81 _ => ?_)
                            refine pw_bd (kx9_elementOf dX79) (fun x82 X83 dX83 => ?_)
                            refine pw_bd (kx9_push dX83) (fun _ X84 dX84 => ?_)
                            exact pw_ret dX84
                          · refine pw_ite (fun _ => ?_) (fun _ => ?_)
                            · refine pw_eq (fun x86 _ => ?_)
                              refine pw_eq (fun x87 _ => ?_)
                              refine pw_eq (fun X88 eX88 => ?_)
                              have dX88 : KVx X0 X88 := by rw [eX88]; exact KVx_w h (by omega)
                              refine pw_eq (fun x89 _ => ?_)
                              refine pw_ck (fun _ => ?_)
                              refine pw_eq (fun x90 _ => ?_)
                              refine pw_bd (kx9_elementOf dX88) (fun x91 X92 dX92 => ?_)
                              refine pw_bd (kx9_push dX92) (fun _ X93 dX93 => ?_)
                              exact pw_ret dX93
                            · refine pw_ite (fun _ => ?_) (fun _ => ?_)
                              · refine pw_eq (fun x95 _ => ?_)
                                refine pw_ck (fun _ => ?_)
                                refine pw_eq (fun x96 _ => ?_)
                                refine pw_eq (fun x97 _ => ?_)
                                refine pw_eq (fun x98 _ => ?_)
                                refine pw_eq (fun X99 eX99 => ?_)
                                have dX99 : KVx X0 X99 := by rw [eX99]; exact KVx_w h (by omega)
                                refine pw_eq (fun x100 _ => ?_)
                                refine pw_ck (fun _ => ?_)
                                refine pw_eq (fun x101 _ => ?_)
                                refine pw_bd (kx9_resultOf dX99) (fun x102 X103 dX103 => ?_)
                                refine pw_bd (kx9_push dX103) (fun _ X104 dX104 => ?_)
                                exact pw_ret dX104
                              · refine pw_ite (fun _ => ?_) (fun _ => ?_)
                                · refine pw_eq (fun x106 _ => ?_)
                                  refine pw_eq (fun x107 _ => ?_)
                                  refine pw_eq (fun X108 eX108 => ?_)
                                  have dX108 : KVx X0 X108 := by rw [eX108]; exact KVx_w h (by omega)
                                  exact pw_ret dX108
                                · refine pw_ite (fun _ => ?_) (fun _ => ?_)
                                  · refine pw_eq (fun x110 _ => ?_)
                                    refine pw_eq (fun x111 _ => ?_)
                                    refine pw_eq (fun X112 eX112 => ?_)
                                    have dX112 : KVx X0 X112 := by rw [eX112]; exact KVx_w h (by omega)
                                    exact pw_ret dX112
                                  · exact pw_ret h
theorem kx9_judgeOne {p1 : Int32} {p2 : Int32} {X : St} (h : KVx X0 X) : pw (f_judgeOne p1 p2 X) (fun _ Y => KVx X0 Y) := by
  unfold f_judgeOne
  refine pw_ck (fun _ => ?_)
  refine pw_eq (fun x1 _ => ?_)
  refine pw_ite (fun _ => ?_) (fun _ => ?_)
  · refine pw_bd (kx9_push h) (fun _ X3 dX3 => ?_)
    exact pw_ret dX3
  · refine pw_ite (fun _ => ?_) (fun _ => ?_)
    · refine pw_bd (kx9_push h) (fun _ X5 dX5 => ?_)
      exact pw_ret dX5
    · refine pw_ite (fun _ => ?_) (fun _ => ?_)
      · refine pw_ck (fun _ => ?_)
        refine pw_eq (fun x7 _ => ?_)
        refine pw_ck (fun _ => ?_)
        refine pw_eq (fun x8 _ => ?_)
        refine pw_bd (kx9_push h) (fun _ X9 dX9 => ?_)
        exact pw_ret dX9
      · refine pw_ite (fun _ => ?_) (fun _ => ?_)
        · refine pw_ck (fun _ => ?_)
          refine pw_eq (fun x11 _ => ?_)
          refine pw_bd (kx9_functionOf h) (fun x12 X13 dX13 => ?_)
          refine pw_bd (kx9_push dX13) (fun _ X14 dX14 => ?_)
          exact pw_ret dX14
        · refine pw_ite (fun _ => ?_) (fun _ => ?_)
          · refine pw_ck (fun _ => ?_)
            refine pw_eq (fun x16 _ => ?_)
            refine pw_eq (fun x17 _ => ?_)
            refine pw_bd (kx9_must h) (fun _ X18 dX18 => ?_)
            exact pw_ret dX18
          · refine pw_ite (fun _ => ?_) (fun _ => ?_)
            · refine pw_ck (fun _ => ?_)
              refine pw_eq (fun x20 _ => ?_)
              refine pw_eq (fun x21 _ => ?_)
              refine pw_bd (kx9_must h) (fun _ X22 dX22 => ?_)
              exact pw_ret dX22
            · refine pw_ite (fun _ => ?_) (fun _ => ?_)
              · refine pw_bd (kx9_judgeCallee h) (fun _ X24 dX24 => ?_)
                exact pw_ret dX24
              · refine pw_ite (fun _ => ?_) (fun _ => ?_)
                · refine pw_ck (fun _ => ?_)
                  refine pw_eq (fun x26 _ => ?_)
                  refine pw_bd (kx9_judgeRow h) (fun _ X27 dX27 => ?_)
                  exact pw_ret dX27
                · refine pw_ite (fun _ => ?_) (fun _ => ?_)
                  · refine pw_ck (fun _ => ?_)
                    refine pw_eq (fun x29 _ => ?_)
                    refine pw_bd (kx9_judgeRow h) (fun _ X30 dX30 => ?_)
                    exact pw_ret dX30
                  · refine pw_ite (fun _ => ?_) (fun _ => ?_)
                    · refine pw_ck (fun _ => ?_)
                      refine pw_eq (fun x32 _ => ?_)
                      refine pw_ck (fun _ => ?_)
                      refine pw_eq (fun x33 _ => ?_)
                      refine pw_eq (fun x34 _ => ?_)
                      refine pw_ck (fun _ => ?_)
                      refine pw_eq (fun x36 _ => ?_)
                      refine pw_ck (fun _ => ?_)
                      refine pw_eq (fun x37 _ => ?_)
                      refine pw_ite (fun _ => ?_) (fun _ => ?_)
                      · refine pw_ck (fun _ => ?_)
                        refine pw_eq (fun x47 _ => ?_)
                        refine pw_ck (fun _ => ?_)
                        refine pw_eq (fun x48 _ => ?_)
                        exact kx9_judgeOne_317 h
                      · refine pw_eq (fun x38 _ => ?_)
                        exact kx9_judgeOne_317 h
                    · refine pw_ite (fun _ => ?_) (fun _ => ?_)
                      · refine pw_eq (fun x50 _ => ?_)
                        refine pw_eq (fun x51 _ => ?_)
                        refine pw_ck (fun _ => ?_)
                        refine pw_eq (fun x52 _ => ?_)
                        refine pw_bd (kx9_elementOf h) (fun x53 X54 dX54 => ?_)
                        refine pw_ck (fun _ => ?_)
                        refine pw_eq (fun x55 _ => ?_)
                        refine pw_ck (fun _ => ?_)
                        refine pw_eq (fun x56 _ => ?_)
                        refine pw_eq (fun x57 _ => ?_)
                        refine pw_bd (kx9_must dX54) (fun _ X58 dX58 => ?_)
                        exact pw_ret dX58
                      · refine pw_ite (fun _ => ?_) (fun _ => ?_)
                        · refine pw_bd (kx9_ownKindOf h) (fun x60 X61 dX61 => ?_)
                          refine pw_ck (fun _ => ?_)
                          refine pw_eq (fun x62 _ => ?_)
                          refine pw_ck (fun _ => ?_)
                          refine pw_eq (fun x63 _ => ?_)
                          refine pw_eq (fun x64 _ => ?_)
                          refine pw_bd (kx9_must dX61) (fun _ X65 dX65 => ?_)
                          exact pw_ret dX65
                        · refine pw_bd (kx9_judgeMore h) (fun _ X66 dX66 => ?_)
                          exact pw_ret dX66
end RSKX
