/-! both sides hold all that a run needs -/
def JJ (XC XR : St) : Prop := JC XC ∧ JM XR ∧ (XC.1 0 1).toInt = (XR.1 0 0).toInt ∧ (∀ n : Nat, (XR.1 0 0).toInt = (n : Int) → EQn n XC XR) ∧ PJo14 XC XR
theorem JJ.kp0 {XC XR X X1 : St} (h : JJ XC XR) (hq : JC X) (hp : JM X1) (qt : (X.1 0 1).toInt = (XC.1 0 1).toInt) (pt : (X1.1 0 0).toInt = (XR.1 0 0).toInt) (r : X.1 1 = XC.1 1) (r1 : X1.1 1 = XR.1 1) (g : PJo14 X X1) : JJ X X1 := by
  refine ⟨hq, hp, by rw [qt, pt]; exact h.2.2.1, fun n hn i hi => ?_, g⟩
  rw [r, r1]
  exact h.2.2.2.1 n (by rw [← pt]; exact hn) i hi
theorem JJ.keep {XC XR X X1 : St} (h : JJ XC XR) (hq : JC X) (hp : JM X1) (qt : (X.1 0 1).toInt = (XC.1 0 1).toInt) (pt : (X1.1 0 0).toInt = (XR.1 0 0).toInt) (r : X.1 1 = XC.1 1) (c : C7 XC X ∧ C8 XC X ∧ CLl XC X) (r1 : X1.1 1 = XR.1 1) (c1 : R7k XR X1 ∧ RK14 XR X1) (v : KVa True XR → KVa True X1) : JJ X X1 := h.kp0 hq hp qt pt r r1 (h.2.2.2.2.kp c c1 v)
theorem hj7 : HJ7 := by
  intro V W r h1 eu h9
  have g := pw_ok (m_reads h1) r W eu
  refine pw_mono (pw_ok (m_judges (g.2.2.1.pgm h9))) ?_
  rintro _ Y ⟨a, ⟨_, b2, _⟩, _⟩
  exact R7.of a (by decide) b2
theorem c7_1_200 : ∀ x ∈ (3 : Nat) :: 9 :: 2 :: (PN 2 ++ PN 24), x ∉ ([1, 200] : List Nat) := by decide +kernel
theorem c8_1_200 : ∀ x ∈ ([4, 11005, 11200, 11400, 11600, 11800, 12000, 12400] : List Nat), x ∉ ([1, 200] : List Nat) := by decide +kernel
theorem cl_1_200 : ∀ x ∈ ([1, 200] : List Nat), ¬ x = 5 ∧ x < 14000 := by decide +kernel
theorem cl_1 : ∀ x ∈ ([1] : List Nat), ¬ x = 5 ∧ x < 14000 := by decide +kernel
theorem jt_feed {X : St} {p1 : Int32} {p2 : Int32} {p3 : Int32} {p4 : Int32} {p5 : Int32} (h : JC X) : pw (g_Court_feed p1 p2 p3 p4 p5 X) (fun _ Y => C7 X Y ∧ C8 X Y ∧ CLl X Y) := by
  obtain ⟨hI, ⟨hr9, hr2, hP⟩ | ⟨hr9, hr2, hP⟩⟩ := h
  · exact pw_mono (ok.pw1 (v_Court_feed_C2 hI)) (fun _ Y g => ⟨C7.of g.1.1 c7_1_200, C8.of g.1.1 c8_1_200, CLl.of g.1.1 cl_1_200⟩)
  · exact pw_mono (ok.pw1 (v_Court_feed_C24 hI)) (fun _ Y g => ⟨C7.of g.1.1 c7_1_200, C8.of g.1.1 c8_1_200, CLl.of g.1.1 cl_1_200⟩)
theorem c7_1 : ∀ x ∈ (3 : Nat) :: 9 :: 2 :: (PN 2 ++ PN 24), x ∉ ([1] : List Nat) := by decide +kernel
theorem c8_1 : ∀ x ∈ ([4, 11005, 11200, 11400, 11600, 11800, 12000, 12400] : List Nat), x ∉ ([1] : List Nat) := by decide +kernel
theorem jt_end {X : St} {p1 : Int32} (h : JC X) : pw (g_Court_end p1 X) (fun _ Y => Y.1 1 = X.1 1 ∧ (C7 X Y ∧ C8 X Y ∧ CLl X Y)) := by
  obtain ⟨hI, ⟨hr9, hr2, hP⟩ | ⟨hr9, hr2, hP⟩⟩ := h
  · exact pw_mono (ok.pw1 (v_Court_end_C2 hI)) (fun _ Y g => ⟨funext (fun k => g.1.1.1 1 k (show (200 : Nat) ∉ [1] from by decide)), C7.of g.1.1 c7_1, C8.of g.1.1 c8_1, CLl.of g.1.1 cl_1⟩)
  · exact pw_mono (ok.pw1 (v_Court_end_C24 hI)) (fun _ Y g => ⟨funext (fun k => g.1.1.1 1 k (show (200 : Nat) ∉ [1] from by decide)), C7.of g.1.1 c7_1, C8.of g.1.1 c8_1, CLl.of g.1.1 cl_1⟩)
theorem jt_fault {X : St} {p1 : Int32} (h : JC X) : pw (g_Court_fault p1 X) (fun _ Y => Y.1 1 = X.1 1 ∧ (C7 X Y ∧ C8 X Y ∧ CLl X Y)) := by
  obtain ⟨hI, ⟨hr9, hr2, hP⟩ | ⟨hr9, hr2, hP⟩⟩ := h
  · exact pw_mono (ok.pw1 (v_Court_fault_C2 hI)) (fun _ Y g => by rw [← g]; exact ⟨rfl, C7.rf, C8.rf, CLl.rf⟩)
  · exact pw_mono (ok.pw1 (v_Court_fault_C24 hI)) (fun _ Y g => by rw [← g]; exact ⟨rfl, C7.rf, C8.rf, CLl.rf⟩)
theorem jt_tell {X : St} {p1 : Int32} {p2 : Int32} (h : JC X) : pw (g_Court_tell p1 p2 X) (fun _ Y => Y.1 1 = X.1 1) := by
  obtain ⟨hI, ⟨hr9, hr2, hP⟩ | ⟨hr9, hr2, hP⟩⟩ := h
  · exact pw_mono (ok.pw1 (v_Court_tell_C2 hI hr9)) (fun _ Y g => funext (fun k => g.1.1 1 k (show (200 : Nat) ∉ [4, 3600] from by decide)))
  · exact pw_mono (ok.pw1 (v_Court_tell_C24 hI hr9)) (fun _ Y g => funext (fun k => g.1.1 1 k (show (200 : Nat) ∉ [4, 8000] from by decide)))
theorem jt_judge {X : St} (h : JC X) : pw (g_Court_judge X) (fun _ Y => Y.1 1 = X.1 1 ∧ Y.1 0 3 = X.1 0 3 ∧ Y.2.2 0 9 = X.2.2 0 9 ∧ Y.2.2 0 2 = X.2.2 0 2 ∧ ∀ e, e = 2 ∨ e = 24 → Y.1 e 2 = X.1 e 2 ∧ Y.1 e 6 = X.1 e 6) := by
  obtain ⟨hI, ⟨hr9, hr2, hP⟩ | ⟨hr9, hr2, hP⟩⟩ := h
  · exact pw_mono (ok.pw1 (v_Court_judge_C2 hI hr9 hP)) (fun _ Y g => ⟨funext (fun k => g.1.1 1 k (show (200 : Nat) ∉ Qv65 from by decide)), g.1.1 0 3 (show (3 : Nat) ∉ Qv65 from by decide), g.1.2.2 0 9 (show (9 : Nat) ∉ Qv65 from by decide), g.1.2.2 0 2 (show (2 : Nat) ∉ Qv65 from by decide), fun e he => he.elim (fun z => by rw [z]; exact ⟨g.1.1 2 2 (show (402 : Nat) ∉ Qv65 from by decide), g.1.1 2 6 (show (406 : Nat) ∉ Qv65 from by decide)⟩) (fun z => by rw [z]; exact ⟨g.1.1 24 2 (show (4802 : Nat) ∉ Qv65 from by decide), g.1.1 24 6 (show (4806 : Nat) ∉ Qv65 from by decide)⟩)⟩)
  · exact pw_mono (ok.pw1 (v_Court_judge_C24 hI hr9 hP)) (fun _ Y g => ⟨funext (fun k => g.1.1 1 k (show (200 : Nat) ∉ Qv69 from by decide)), g.1.1 0 3 (show (3 : Nat) ∉ Qv69 from by decide), g.1.2.2 0 9 (show (9 : Nat) ∉ Qv69 from by decide), g.1.2.2 0 2 (show (2 : Nat) ∉ Qv69 from by decide), fun e he => he.elim (fun z => by rw [z]; exact ⟨g.1.1 2 2 (show (402 : Nat) ∉ Qv69 from by decide), g.1.1 2 6 (show (406 : Nat) ∉ Qv69 from by decide)⟩) (fun z => by rw [z]; exact ⟨g.1.1 24 2 (show (4802 : Nat) ∉ Qv69 from by decide), g.1.1 24 6 (show (4806 : Nat) ∉ Qv69 from by decide)⟩)⟩)
theorem jt_guard {X : St} {p1 : Int32} {p2 : Int32} (h : JC X) : pw (g_Court_guard p1 p2 X) (fun _ Y => Y.1 1 = X.1 1 ∧ (C7 X Y ∧ C8 X Y ∧ CLl X Y)) := by
  obtain ⟨hI, ⟨hr9, hr2, hP⟩ | ⟨hr9, hr2, hP⟩⟩ := h
  · exact pw_mono (ok.pw1 (v_Court_guard_C2 hI hr9)) (fun _ Y g => by rw [← g]; exact ⟨rfl, C7.rf, C8.rf, CLl.rf⟩)
  · exact pw_mono (ok.pw1 (v_Court_guard_C24 hI hr9)) (fun _ Y g => by rw [← g]; exact ⟨rfl, C7.rf, C8.rf, CLl.rf⟩)
theorem jt_part {X : St} {p1 : Int32} {p2 : Int32} (h : JC X) : pw (g_Court_part p1 p2 X) (fun _ Y => Y.1 1 = X.1 1 ∧ (C7 X Y ∧ C8 X Y ∧ CLl X Y)) := by
  obtain ⟨hI, ⟨hr9, hr2, hP⟩ | ⟨hr9, hr2, hP⟩⟩ := h
  · exact pw_mono (ok.pw1 (v_Court_part_C2 hI hr9)) (fun _ Y g => by rw [← g]; exact ⟨rfl, C7.rf, C8.rf, CLl.rf⟩)
  · exact pw_mono (ok.pw1 (v_Court_part_C24 hI hr9)) (fun _ Y g => by rw [← g]; exact ⟨rfl, C7.rf, C8.rf, CLl.rf⟩)
theorem c7_Qv66 : ∀ x ∈ (3 : Nat) :: 9 :: 2 :: (PN 2 ++ PN 24), x ∉ Qv66 := by decide +kernel
theorem c8_Qv66 : ∀ x ∈ ([4, 11005, 11200, 11400, 11600, 11800, 12000, 12400] : List Nat), x ∉ Qv66 := by decide +kernel
theorem jt_run {X : St} {p1 : Int32} (h : JC X) : pw (g_Court_run p1 X) (fun _ Y => Y.1 1 = X.1 1 ∧ (C7 X Y ∧ C8 X Y)) := by
  obtain ⟨hI, ⟨hr9, hr2, hP⟩ | ⟨hr9, hr2, hP⟩⟩ := h
  · exact pw_mono (ok.pw1 (v_Court_run_C2 hI hr9 hP)) (fun _ Y g => ⟨funext (fun k => g.1.1 1 k (show (200 : Nat) ∉ Qv66 from by decide)), C7.of g.1 c7_Qv66, C8.of g.1 c8_Qv66⟩)
  · exact pw_mono (ok.pw1 (v_Court_run_C24 hI hr9 hP)) (fun _ Y g => ⟨funext (fun k => g.1.1 1 k (show (200 : Nat) ∉ Qv66 from by decide)), C7.of g.1 c7_Qv66, C8.of g.1 c8_Qv66⟩)
theorem jt_runUntold {X : St} {p1 : Int32} (h : JC X) : pw (g_Court_runUntold p1 X) (fun _ Y => Y.1 1 = X.1 1 ∧ (C7 X Y ∧ C8 X Y)) := by
  obtain ⟨hI, ⟨hr9, hr2, hP⟩ | ⟨hr9, hr2, hP⟩⟩ := h
  · exact pw_mono (ok.pw1 (v_Court_runUntold_C2 hI hr9 hP)) (fun _ Y g => ⟨funext (fun k => g.1.1 1 k (show (200 : Nat) ∉ Qv66 from by decide)), C7.of g.1 c7_Qv66, C8.of g.1 c8_Qv66⟩)
  · exact pw_mono (ok.pw1 (v_Court_runUntold_C24 hI hr9 hP)) (fun _ Y g => ⟨funext (fun k => g.1.1 1 k (show (200 : Nat) ∉ Qv66 from by decide)), C7.of g.1 c7_Qv66, C8.of g.1 c8_Qv66⟩)
theorem jt_told {X : St} {p1 : Int32} (h : JC X) : pw (g_Court_told p1 X) (fun _ Y => Y.1 1 = X.1 1 ∧ (C7 X Y ∧ C8 X Y ∧ CLl X Y)) := by
  obtain ⟨hI, ⟨hr9, hr2, hP⟩ | ⟨hr9, hr2, hP⟩⟩ := h
  · exact pw_mono (ok.pw1 (v_Court_told_C2 hI)) (fun _ Y g => by rw [← g]; exact ⟨rfl, C7.rf, C8.rf, CLl.rf⟩)
  · exact pw_mono (ok.pw1 (v_Court_told_C24 hI)) (fun _ Y g => by rw [← g]; exact ⟨rfl, C7.rf, C8.rf, CLl.rf⟩)
theorem jt_out {X : St} {p1 : Int32} (h : JC X) : pw (g_Court_out p1 X) (fun _ Y => Y.1 1 = X.1 1 ∧ (C7 X Y ∧ C8 X Y ∧ CLl X Y)) := by
  obtain ⟨hI, ⟨hr9, hr2, hP⟩ | ⟨hr9, hr2, hP⟩⟩ := h
  · exact pw_mono (ok.pw1 (v_Court_out_C2 hI)) (fun _ Y g => by rw [← g]; exact ⟨rfl, C7.rf, C8.rf, CLl.rf⟩)
  · exact pw_mono (ok.pw1 (v_Court_out_C24 hI)) (fun _ Y g => by rw [← g]; exact ⟨rfl, C7.rf, C8.rf, CLl.rf⟩)
theorem jt_asked {X : St} {p1 : Int32} {p2 : Int32} (h : JC X) : pw (g_Court_asked p1 p2 X) (fun _ Y => Y.1 1 = X.1 1 ∧ (C7 X Y ∧ C8 X Y ∧ CLl X Y)) := by
  obtain ⟨hI, ⟨hr9, hr2, hP⟩ | ⟨hr9, hr2, hP⟩⟩ := h
  · exact pw_mono (ok.pw1 (v_Court_asked_C2 hI hr9)) (fun _ Y g => by rw [← g]; exact ⟨rfl, C7.rf, C8.rf, CLl.rf⟩)
  · exact pw_mono (ok.pw1 (v_Court_asked_C24 hI hr9)) (fun _ Y g => by rw [← g]; exact ⟨rfl, C7.rf, C8.rf, CLl.rf⟩)
theorem jt_about {X : St} {p1 : Int32} (h : JC X) : pw (g_Court_about p1 X) (fun _ Y => Y.1 1 = X.1 1 ∧ (C7 X Y ∧ C8 X Y ∧ CLl X Y)) := by
  obtain ⟨hI, ⟨hr9, hr2, hP⟩ | ⟨hr9, hr2, hP⟩⟩ := h
  · exact pw_mono (ok.pw1 (v_Court_about_C2 hI hr9)) (fun _ Y g => by rw [← g]; exact ⟨rfl, C7.rf, C8.rf, CLl.rf⟩)
  · exact pw_mono (ok.pw1 (v_Court_about_C24 hI hr9)) (fun _ Y g => by rw [← g]; exact ⟨rfl, C7.rf, C8.rf, CLl.rf⟩)
/-- a constructor that ends where no program stands -/
def nP (F : Option St) : Prop := ∀ X, F = some X → (X.1 0 3).toInt = 0
theorem nP.ret {X : St} (h : (X.1 0 3).toInt = 0) : nP (some X) := fun Y e => by rw [← Option.some.inj e]; exact h
theorem nP.ck {c : Prop} [Decidable c] {F : Option St} (h : nP F) : nP (chk c F) := by
  by_cases g : c
  · show nP (if c then F else none)
    rw [if_pos g]; exact h
  · show nP (if c then F else none)
    rw [if_neg g]; exact fun _ e => absurd e.symm (Option.some_ne_none _)
theorem nP.lt {v : St} {K : St → Option St} (h : ∀ Y, Y = v → nP (K Y)) : nP (letV v K) := h v rfl
theorem nP.bd {G : Option St} {K : St → Option St} (hG : nP G) (h : ∀ Y, (Y.1 0 3).toInt = 0 → nP (K Y)) : nP (bndN G K) := by
  cases g : G with
  | none => exact fun _ e => absurd e.symm (Option.some_ne_none _)
  | some Y => exact h Y (hG Y g)
theorem nP.bt {G : Option St} {K : St → Option St} (h : ∀ Y, nP (K Y)) : nP (bndN G K) := by
  cases g : G with
  | none => exact fun _ e => absurd e.symm (Option.some_ne_none _)
  | some Y => exact h Y
theorem nP.bf {ρ : Type} {G : Option (ρ × St)} {K : ρ → St → Option St} (hG : pw G (fun _ Y => (Y.1 0 3).toInt = 0)) (h : ∀ {r : ρ} (Y : St), (Y.1 0 3).toInt = 0 → nP (K r Y)) : nP (bnd G K) := by
  cases g : G with
  | none => exact fun _ e => absurd e.symm (Option.some_ne_none _)
  | some y => exact h y.2 (hG y.1 y.2 g)
theorem kinds_3 {X : St} (h : (X.1 0 3).toInt = 0) : pw (f_kinds 0 X) (fun _ Y => (Y.1 0 3).toInt = 0) := by
  unfold f_kinds
  refine pw_eq (fun A1 d1 => pw_eq (fun A2 d2 => ?_))
  refine pw_bd fw_kindOf (fun x3 A4 f4 => pw_bd fw_kindOf (fun x5 A6 f6 => pw_bd fw_kindOf (fun x7 A8 f8 => pw_ret ?_)))
  rw [f8.1 0 3 (by decide), f6.1 0 3 (by decide), f4.1 0 3 (by decide), d2, wI_ne _ _ _ _ _ _ (by decide), d1, wI_ne _ _ _ _ _ _ (by decide)]
  exact h
theorem zE_3 {X : St} {n : Nat} (hn : ¬ n = 0) (h : (X.1 0 3).toInt = 0) : ((zE X n).1 0 3).toInt = 0 := by
  show (uA X.1 n (fun _ => 0) 0 3).toInt = 0
  unfold uA
  rw [if_neg (fun g => hn g.symm)]
  exact h
theorem n3_ctor_C_47 {X : St} (hX : (X.1 0 3).toInt = 0) : nP (ctor_C_47 X) := by
  unfold ctor_C_47
  refine nP.ck ?_
  refine nP.lt (fun X2 eX2 => ?_)
  have hX2 : (X2.1 0 3).toInt = 0 := by rw [eX2]; exact zE_3 (by decide) hX
  refine nP.lt (fun X8 eX8 => ?_)
  have hX8 : (X8.1 0 3).toInt = 0 := by rw [eX8]; exact hX2
  refine nP.lt (fun X9 eX9 => ?_)
  have hX9 : (X9.1 0 3).toInt = 0 := by rw [eX9, wI_ne _ _ _ _ _ _ (by decide)]; exact hX8
  refine nP.lt (fun X10 eX10 => ?_)
  have hX10 : (X10.1 0 3).toInt = 0 := by rw [eX10, wI_ne _ _ _ _ _ _ (by decide)]; exact hX9
  refine nP.lt (fun X11 eX11 => ?_)
  have hX11 : (X11.1 0 3).toInt = 0 := by rw [eX11, wI_ne _ _ _ _ _ _ (by decide)]; exact hX10
  refine nP.lt (fun X12 eX12 => ?_)
  have hX12 : (X12.1 0 3).toInt = 0 := by rw [eX12, wI_ne _ _ _ _ _ _ (by decide)]; exact hX11
  refine nP.lt (fun X13 eX13 => ?_)
  have hX13 : (X13.1 0 3).toInt = 0 := by rw [eX13]; exact hX12
  refine nP.lt (fun X14 eX14 => ?_)
  have hX14 : (X14.1 0 3).toInt = 0 := by rw [eX14, wI_ne _ _ _ _ _ _ (by decide)]; exact hX13
  refine nP.lt (fun X15 eX15 => ?_)
  have hX15 : (X15.1 0 3).toInt = 0 := by rw [eX15]; exact hX14
  exact nP.ret hX15
theorem n3_ctor_C_46 {X : St} (hX : (X.1 0 3).toInt = 0) : nP (ctor_C_46 X) := by
  unfold ctor_C_46
  refine nP.ck ?_
  refine nP.lt (fun X2 eX2 => ?_)
  have hX2 : (X2.1 0 3).toInt = 0 := by rw [eX2]; exact zE_3 (by decide) hX
  refine nP.bd (n3_ctor_C_47 hX2) (fun X11 hX11 => ?_)
  refine nP.lt (fun X14 eX14 => ?_)
  have hX14 : (X14.1 0 3).toInt = 0 := by rw [eX14]; exact hX11
  refine nP.lt (fun X15 eX15 => ?_)
  have hX15 : (X15.1 0 3).toInt = 0 := by rw [eX15, wI_ne _ _ _ _ _ _ (by decide)]; exact hX14
  refine nP.lt (fun X16 eX16 => ?_)
  have hX16 : (X16.1 0 3).toInt = 0 := by rw [eX16, wI_ne _ _ _ _ _ _ (by decide)]; exact hX15
  refine nP.lt (fun X17 eX17 => ?_)
  have hX17 : (X17.1 0 3).toInt = 0 := by rw [eX17, wI_ne _ _ _ _ _ _ (by decide)]; exact hX16
  refine nP.ck ?_
  refine nP.lt (fun X19 eX19 => ?_)
  have hX19 : (X19.1 0 3).toInt = 0 := by rw [eX19]; exact zE_3 (by decide) hX17
  refine nP.ck ?_
  refine nP.lt (fun X26 eX26 => ?_)
  have hX26 : (X26.1 0 3).toInt = 0 := by rw [eX26]; exact zE_3 (by decide) hX19
  refine nP.lt (fun X32 eX32 => ?_)
  have hX32 : (X32.1 0 3).toInt = 0 := by rw [eX32, wI_ne _ _ _ _ _ _ (by decide)]; exact hX26
  refine nP.ck ?_
  refine nP.lt (fun X34 eX34 => ?_)
  have hX34 : (X34.1 0 3).toInt = 0 := by rw [eX34]; exact zE_3 (by decide) hX32
  refine nP.ck ?_
  refine nP.lt (fun X41 eX41 => ?_)
  have hX41 : (X41.1 0 3).toInt = 0 := by rw [eX41]; exact zE_3 (by decide) hX34
  refine nP.ck ?_
  refine nP.lt (fun X48 eX48 => ?_)
  have hX48 : (X48.1 0 3).toInt = 0 := by rw [eX48]; exact zE_3 (by decide) hX41
  refine nP.lt (fun X54 eX54 => ?_)
  have hX54 : (X54.1 0 3).toInt = 0 := by rw [eX54, wI_ne _ _ _ _ _ _ (by decide)]; exact hX48
  refine nP.ck ?_
  refine nP.lt (fun X56 eX56 => ?_)
  have hX56 : (X56.1 0 3).toInt = 0 := by rw [eX56]; exact zE_3 (by decide) hX54
  refine nP.lt (fun X62 eX62 => ?_)
  have hX62 : (X62.1 0 3).toInt = 0 := by rw [eX62, wI_ne _ _ _ _ _ _ (by decide)]; exact hX56
  exact nP.ret hX62
theorem n3_ctor_C_55 {X : St} (hX : (X.1 0 3).toInt = 0) : nP (ctor_C_55 X) := by
  unfold ctor_C_55
  refine nP.ck ?_
  refine nP.lt (fun X2 eX2 => ?_)
  have hX2 : (X2.1 0 3).toInt = 0 := by rw [eX2]; exact zE_3 (by decide) hX
  refine nP.ck ?_
  refine nP.lt (fun X9 eX9 => ?_)
  have hX9 : (X9.1 0 3).toInt = 0 := by rw [eX9]; exact zE_3 (by decide) hX2
  refine nP.ck ?_
  refine nP.lt (fun X16 eX16 => ?_)
  have hX16 : (X16.1 0 3).toInt = 0 := by rw [eX16]; exact zE_3 (by decide) hX9
  refine nP.ck ?_
  refine nP.lt (fun X23 eX23 => ?_)
  have hX23 : (X23.1 0 3).toInt = 0 := by rw [eX23]; exact zE_3 (by decide) hX16
  refine nP.ck ?_
  refine nP.lt (fun X30 eX30 => ?_)
  have hX30 : (X30.1 0 3).toInt = 0 := by rw [eX30]; exact zE_3 (by decide) hX23
  refine nP.lt (fun X36 eX36 => ?_)
  have hX36 : (X36.1 0 3).toInt = 0 := by rw [eX36, wI_ne _ _ _ _ _ _ (by decide)]; exact hX30
  exact nP.ret hX36
theorem n3_ctor_C_61 {X : St} (hX : (X.1 0 3).toInt = 0) : nP (ctor_C_61 X) := by
  unfold ctor_C_61
  refine nP.lt (fun X1 eX1 => ?_)
  have hX1 : (X1.1 0 3).toInt = 0 := by rw [eX1]; exact hX
  refine nP.lt (fun X2 eX2 => ?_)
  have hX2 : (X2.1 0 3).toInt = 0 := by rw [eX2]; exact hX1
  refine nP.lt (fun X3 eX3 => ?_)
  have hX3 : (X3.1 0 3).toInt = 0 := by rw [eX3]; exact hX2
  refine nP.lt (fun X4 eX4 => ?_)
  have hX4 : (X4.1 0 3).toInt = 0 := by rw [eX4, wI_ne _ _ _ _ _ _ (by decide)]; exact hX3
  refine nP.lt (fun X5 eX5 => ?_)
  have hX5 : (X5.1 0 3).toInt = 0 := by rw [eX5, wI_ne _ _ _ _ _ _ (by decide)]; exact hX4
  refine nP.lt (fun X6 eX6 => ?_)
  have hX6 : (X6.1 0 3).toInt = 0 := by rw [eX6, wI_ne _ _ _ _ _ _ (by decide)]; exact hX5
  refine nP.ck ?_
  refine nP.lt (fun X8 eX8 => ?_)
  have hX8 : (X8.1 0 3).toInt = 0 := by rw [eX8]; exact zE_3 (by decide) hX6
  refine nP.ck ?_
  refine nP.lt (fun X15 eX15 => ?_)
  have hX15 : (X15.1 0 3).toInt = 0 := by rw [eX15]; exact zE_3 (by decide) hX8
  refine nP.ck ?_
  refine nP.lt (fun X22 eX22 => ?_)
  have hX22 : (X22.1 0 3).toInt = 0 := by rw [eX22]; exact zE_3 (by decide) hX15
  refine nP.ck ?_
  refine nP.lt (fun X29 eX29 => ?_)
  have hX29 : (X29.1 0 3).toInt = 0 := by rw [eX29]; exact zE_3 (by decide) hX22
  refine nP.ck ?_
  refine nP.lt (fun X36 eX36 => ?_)
  have hX36 : (X36.1 0 3).toInt = 0 := by rw [eX36]; exact zE_3 (by decide) hX29
  refine nP.ck ?_
  refine nP.lt (fun X43 eX43 => ?_)
  have hX43 : (X43.1 0 3).toInt = 0 := by rw [eX43]; exact zE_3 (by decide) hX36
  refine nP.ck ?_
  refine nP.lt (fun X50 eX50 => ?_)
  have hX50 : (X50.1 0 3).toInt = 0 := by rw [eX50]; exact zE_3 (by decide) hX43
  refine nP.ck ?_
  refine nP.lt (fun X57 eX57 => ?_)
  have hX57 : (X57.1 0 3).toInt = 0 := by rw [eX57]; exact zE_3 (by decide) hX50
  refine nP.lt (fun X63 eX63 => ?_)
  have hX63 : (X63.1 0 3).toInt = 0 := by rw [eX63, wI_ne _ _ _ _ _ _ (by decide)]; exact hX57
  exact nP.ret hX63
theorem n3_ctor_C_71 {X : St} (hX : (X.1 0 3).toInt = 0) : nP (ctor_C_71 X) := by
  unfold ctor_C_71
  refine nP.lt (fun X1 eX1 => ?_)
  have hX1 : (X1.1 0 3).toInt = 0 := by rw [eX1, wI_ne _ _ _ _ _ _ (by decide)]; exact hX
  refine nP.lt (fun X2 eX2 => ?_)
  have hX2 : (X2.1 0 3).toInt = 0 := by rw [eX2, wI_ne _ _ _ _ _ _ (by decide)]; exact hX1
  refine nP.lt (fun X3 eX3 => ?_)
  have hX3 : (X3.1 0 3).toInt = 0 := by rw [eX3, wI_ne _ _ _ _ _ _ (by decide)]; exact hX2
  refine nP.ck ?_
  refine nP.lt (fun X5 eX5 => ?_)
  have hX5 : (X5.1 0 3).toInt = 0 := by rw [eX5]; exact zE_3 (by decide) hX3
  refine nP.ck ?_
  refine nP.lt (fun X12 eX12 => ?_)
  have hX12 : (X12.1 0 3).toInt = 0 := by rw [eX12]; exact zE_3 (by decide) hX5
  refine nP.ck ?_
  refine nP.lt (fun X19 eX19 => ?_)
  have hX19 : (X19.1 0 3).toInt = 0 := by rw [eX19]; exact zE_3 (by decide) hX12
  refine nP.ck ?_
  refine nP.lt (fun X26 eX26 => ?_)
  have hX26 : (X26.1 0 3).toInt = 0 := by rw [eX26]; exact zE_3 (by decide) hX19
  refine nP.ck ?_
  refine nP.lt (fun X33 eX33 => ?_)
  have hX33 : (X33.1 0 3).toInt = 0 := by rw [eX33]; exact zE_3 (by decide) hX26
  refine nP.ck ?_
  refine nP.lt (fun X40 eX40 => ?_)
  have hX40 : (X40.1 0 3).toInt = 0 := by rw [eX40]; exact zE_3 (by decide) hX33
  refine nP.ck ?_
  refine nP.lt (fun X47 eX47 => ?_)
  have hX47 : (X47.1 0 3).toInt = 0 := by rw [eX47]; exact zE_3 (by decide) hX40
  refine nP.ck ?_
  refine nP.lt (fun X54 eX54 => ?_)
  have hX54 : (X54.1 0 3).toInt = 0 := by rw [eX54]; exact zE_3 (by decide) hX47
  refine nP.ck ?_
  refine nP.lt (fun X61 eX61 => ?_)
  have hX61 : (X61.1 0 3).toInt = 0 := by rw [eX61]; exact zE_3 (by decide) hX54
  refine nP.ck ?_
  refine nP.lt (fun X68 eX68 => ?_)
  have hX68 : (X68.1 0 3).toInt = 0 := by rw [eX68]; exact zE_3 (by decide) hX61
  exact nP.ret hX68
theorem n3_ctor_C_70 {X : St} (hX : (X.1 0 3).toInt = 0) : nP (ctor_C_70 X) := by
  unfold ctor_C_70
  refine nP.lt (fun X1 eX1 => ?_)
  have hX1 : (X1.1 0 3).toInt = 0 := by rw [eX1]; exact hX
  refine nP.ck ?_
  refine nP.lt (fun X3 eX3 => ?_)
  have hX3 : (X3.1 0 3).toInt = 0 := by rw [eX3]; exact zE_3 (by decide) hX1
  refine nP.bd (n3_ctor_C_71 hX3) (fun X12 hX12 => ?_)
  refine nP.lt (fun X15 eX15 => ?_)
  have hX15 : (X15.1 0 3).toInt = 0 := by rw [eX15]; exact hX12
  refine nP.lt (fun X16 eX16 => ?_)
  have hX16 : (X16.1 0 3).toInt = 0 := by rw [eX16, wI_ne _ _ _ _ _ _ (by decide)]; exact hX15
  refine nP.lt (fun X17 eX17 => ?_)
  have hX17 : (X17.1 0 3).toInt = 0 := by rw [eX17, wI_ne _ _ _ _ _ _ (by decide)]; exact hX16
  refine nP.lt (fun X18 eX18 => ?_)
  have hX18 : (X18.1 0 3).toInt = 0 := by rw [eX18, wI_ne _ _ _ _ _ _ (by decide)]; exact hX17
  refine nP.lt (fun X19 eX19 => ?_)
  have hX19 : (X19.1 0 3).toInt = 0 := by rw [eX19, wI_ne _ _ _ _ _ _ (by decide)]; exact hX18
  refine nP.lt (fun X20 eX20 => ?_)
  have hX20 : (X20.1 0 3).toInt = 0 := by rw [eX20, wI_ne _ _ _ _ _ _ (by decide)]; exact hX19
  refine nP.lt (fun X21 eX21 => ?_)
  have hX21 : (X21.1 0 3).toInt = 0 := by rw [eX21, wI_ne _ _ _ _ _ _ (by decide)]; exact hX20
  refine nP.lt (fun X22 eX22 => ?_)
  have hX22 : (X22.1 0 3).toInt = 0 := by rw [eX22, wI_ne _ _ _ _ _ _ (by decide)]; exact hX21
  refine nP.lt (fun X23 eX23 => ?_)
  have hX23 : (X23.1 0 3).toInt = 0 := by rw [eX23, wI_ne _ _ _ _ _ _ (by decide)]; exact hX22
  refine nP.lt (fun X24 eX24 => ?_)
  have hX24 : (X24.1 0 3).toInt = 0 := by rw [eX24, wI_ne _ _ _ _ _ _ (by decide)]; exact hX23
  refine nP.ck ?_
  refine nP.lt (fun X26 eX26 => ?_)
  have hX26 : (X26.1 0 3).toInt = 0 := by rw [eX26]; exact zE_3 (by decide) hX24
  refine nP.ck ?_
  refine nP.lt (fun X33 eX33 => ?_)
  have hX33 : (X33.1 0 3).toInt = 0 := by rw [eX33]; exact zE_3 (by decide) hX26
  refine nP.ck ?_
  refine nP.lt (fun X40 eX40 => ?_)
  have hX40 : (X40.1 0 3).toInt = 0 := by rw [eX40]; exact zE_3 (by decide) hX33
  refine nP.lt (fun X46 eX46 => ?_)
  have hX46 : (X46.1 0 3).toInt = 0 := by rw [eX46, wI_ne _ _ _ _ _ _ (by decide)]; exact hX40
  refine nP.ck ?_
  refine nP.lt (fun X48 eX48 => ?_)
  have hX48 : (X48.1 0 3).toInt = 0 := by rw [eX48]; exact zE_3 (by decide) hX46
  refine nP.ck ?_
  refine nP.lt (fun X55 eX55 => ?_)
  have hX55 : (X55.1 0 3).toInt = 0 := by rw [eX55]; exact zE_3 (by decide) hX48
  refine nP.lt (fun X61 eX61 => ?_)
  have hX61 : (X61.1 0 3).toInt = 0 := by rw [eX61, wI_ne _ _ _ _ _ _ (by decide)]; exact hX55
  refine nP.ck ?_
  refine nP.lt (fun X63 eX63 => ?_)
  have hX63 : (X63.1 0 3).toInt = 0 := by rw [eX63]; exact zE_3 (by decide) hX61
  exact nP.ret hX63
theorem n3_C (X : St) : nP (ctor_C X) := by
  unfold ctor_C
  refine nP.ck ?_
  refine nP.lt (fun X2 eX2 => ?_)
  refine nP.lt (fun X8 eX8 => ?_)
  refine nP.ck ?_
  refine nP.lt (fun X10 eX10 => ?_)
  refine nP.bt (fun X19 => ?_)
  refine nP.lt (fun X22 eX22 => ?_)
  refine nP.ck ?_
  refine nP.lt (fun X24 eX24 => ?_)
  refine nP.bt (fun X33 => ?_)
  refine nP.lt (fun X36 eX36 => ?_)
  refine nP.lt (fun X37 eX37 => ?_)
  have hX37 : (X37.1 0 3).toInt = 0 := by rw [eX37, wI_at]; rfl
  refine nP.lt (fun X38 eX38 => ?_)
  have hX38 : (X38.1 0 3).toInt = 0 := by rw [eX38, wI_ne _ _ _ _ _ _ (by decide)]; exact hX37
  refine nP.lt (fun X39 eX39 => ?_)
  have hX39 : (X39.1 0 3).toInt = 0 := by rw [eX39, wI_ne _ _ _ _ _ _ (by decide)]; exact hX38
  refine nP.ck ?_
  refine nP.lt (fun X41 eX41 => ?_)
  have hX41 : (X41.1 0 3).toInt = 0 := by rw [eX41]; exact zE_3 (by decide) hX39
  refine nP.bd (n3_ctor_C_46 hX41) (fun X50 hX50 => ?_)
  refine nP.ck ?_
  refine nP.lt (fun X54 eX54 => ?_)
  have hX54 : (X54.1 0 3).toInt = 0 := by rw [eX54]; exact zE_3 (by decide) hX50
  refine nP.bd (n3_ctor_C_55 hX54) (fun X63 hX63 => ?_)
  refine nP.ck ?_
  refine nP.lt (fun X67 eX67 => ?_)
  have hX67 : (X67.1 0 3).toInt = 0 := by rw [eX67]; exact zE_3 (by decide) hX63
  refine nP.bd (n3_ctor_C_61 hX67) (fun X76 hX76 => ?_)
  refine nP.ck ?_
  refine nP.lt (fun X80 eX80 => ?_)
  have hX80 : (X80.1 0 3).toInt = 0 := by rw [eX80]; exact zE_3 (by decide) hX76
  refine nP.bd (n3_ctor_C_70 hX80) (fun X89 hX89 => ?_)
  refine nP.lt (fun X92 eX92 => ?_)
  have hX92 : (X92.1 0 3).toInt = 0 := by rw [eX92, wI_ne _ _ _ _ _ _ (by decide)]; exact hX89
  refine nP.lt (fun X93 eX93 => ?_)
  have hX93 : (X93.1 0 3).toInt = 0 := by rw [eX93, wI_ne _ _ _ _ _ _ (by decide)]; exact hX92
  exact nP.ret hX93
theorem n3_R {X : St} (hX : (X.1 0 3).toInt = 0) : nP (ctor_R X) := by
  unfold ctor_R
  refine nP.ck ?_
  refine nP.lt (fun X2 eX2 => ?_)
  have hX2 : (X2.1 0 3).toInt = 0 := by rw [eX2]; exact zE_3 (by decide) hX
  refine nP.ck ?_
  refine nP.lt (fun X9 eX9 => ?_)
  have hX9 : (X9.1 0 3).toInt = 0 := by rw [eX9]; exact zE_3 (by decide) hX2
  refine nP.ck ?_
  refine nP.lt (fun X16 eX16 => ?_)
  have hX16 : (X16.1 0 3).toInt = 0 := by rw [eX16]; exact zE_3 (by decide) hX9
  refine nP.lt (fun X22 eX22 => ?_)
  have hX22 : (X22.1 0 3).toInt = 0 := by rw [eX22, wI_ne _ _ _ _ _ _ (by decide)]; exact hX16
  refine nP.lt (fun X23 eX23 => ?_)
  have hX23 : (X23.1 0 3).toInt = 0 := by rw [eX23, wI_ne _ _ _ _ _ _ (by decide)]; exact hX22
  refine nP.ck ?_
  refine nP.lt (fun X25 eX25 => ?_)
  have hX25 : (X25.1 0 3).toInt = 0 := by rw [eX25]; exact zE_3 (by decide) hX23
  refine nP.ck ?_
  refine nP.lt (fun X32 eX32 => ?_)
  have hX32 : (X32.1 0 3).toInt = 0 := by rw [eX32]; exact zE_3 (by decide) hX25
  refine nP.ck ?_
  refine nP.lt (fun X39 eX39 => ?_)
  have hX39 : (X39.1 0 3).toInt = 0 := by rw [eX39]; exact zE_3 (by decide) hX32
  refine nP.ck ?_
  refine nP.lt (fun X46 eX46 => ?_)
  have hX46 : (X46.1 0 3).toInt = 0 := by rw [eX46]; exact zE_3 (by decide) hX39
  refine nP.ck ?_
  refine nP.lt (fun X53 eX53 => ?_)
  have hX53 : (X53.1 0 3).toInt = 0 := by rw [eX53]; exact zE_3 (by decide) hX46
  refine nP.ck ?_
  refine nP.lt (fun X60 eX60 => ?_)
  have hX60 : (X60.1 0 3).toInt = 0 := by rw [eX60]; exact zE_3 (by decide) hX53
  refine nP.ck ?_
  refine nP.lt (fun X67 eX67 => ?_)
  have hX67 : (X67.1 0 3).toInt = 0 := by rw [eX67]; exact zE_3 (by decide) hX60
  refine nP.ck ?_
  refine nP.lt (fun X74 eX74 => ?_)
  have hX74 : (X74.1 0 3).toInt = 0 := by rw [eX74]; exact zE_3 (by decide) hX67
  refine nP.ck ?_
  refine nP.lt (fun X81 eX81 => ?_)
  have hX81 : (X81.1 0 3).toInt = 0 := by rw [eX81]; exact zE_3 (by decide) hX74
  refine nP.ck ?_
  refine nP.lt (fun X88 eX88 => ?_)
  have hX88 : (X88.1 0 3).toInt = 0 := by rw [eX88]; exact zE_3 (by decide) hX81
  refine nP.ck ?_
  refine nP.lt (fun X95 eX95 => ?_)
  have hX95 : (X95.1 0 3).toInt = 0 := by rw [eX95]; exact zE_3 (by decide) hX88
  refine nP.ck ?_
  refine nP.lt (fun X102 eX102 => ?_)
  have hX102 : (X102.1 0 3).toInt = 0 := by rw [eX102]; exact zE_3 (by decide) hX95
  refine nP.ck ?_
  refine nP.lt (fun X109 eX109 => ?_)
  have hX109 : (X109.1 0 3).toInt = 0 := by rw [eX109]; exact zE_3 (by decide) hX102
  refine nP.ck ?_
  refine nP.lt (fun X116 eX116 => ?_)
  have hX116 : (X116.1 0 3).toInt = 0 := by rw [eX116]; exact zE_3 (by decide) hX109
  refine nP.ck ?_
  refine nP.lt (fun X123 eX123 => ?_)
  have hX123 : (X123.1 0 3).toInt = 0 := by rw [eX123]; exact zE_3 (by decide) hX116
  refine nP.ck ?_
  refine nP.lt (fun X130 eX130 => ?_)
  have hX130 : (X130.1 0 3).toInt = 0 := by rw [eX130]; exact zE_3 (by decide) hX123
  refine nP.ck ?_
  refine nP.lt (fun X137 eX137 => ?_)
  have hX137 : (X137.1 0 3).toInt = 0 := by rw [eX137]; exact zE_3 (by decide) hX130
  refine nP.ck ?_
  refine nP.lt (fun X144 eX144 => ?_)
  have hX144 : (X144.1 0 3).toInt = 0 := by rw [eX144]; exact zE_3 (by decide) hX137
  refine nP.ck ?_
  refine nP.lt (fun X151 eX151 => ?_)
  have hX151 : (X151.1 0 3).toInt = 0 := by rw [eX151]; exact zE_3 (by decide) hX144
  refine nP.ck ?_
  refine nP.lt (fun X158 eX158 => ?_)
  have hX158 : (X158.1 0 3).toInt = 0 := by rw [eX158]; exact zE_3 (by decide) hX151
  refine nP.ck ?_
  refine nP.lt (fun X165 eX165 => ?_)
  have hX165 : (X165.1 0 3).toInt = 0 := by rw [eX165]; exact zE_3 (by decide) hX158
  refine nP.ck ?_
  refine nP.lt (fun X172 eX172 => ?_)
  have hX172 : (X172.1 0 3).toInt = 0 := by rw [eX172]; exact zE_3 (by decide) hX165
  refine nP.ck ?_
  refine nP.lt (fun X179 eX179 => ?_)
  have hX179 : (X179.1 0 3).toInt = 0 := by rw [eX179]; exact zE_3 (by decide) hX172
  refine nP.ck ?_
  refine nP.lt (fun X186 eX186 => ?_)
  have hX186 : (X186.1 0 3).toInt = 0 := by rw [eX186]; exact zE_3 (by decide) hX179
  refine nP.ck ?_
  refine nP.lt (fun X193 eX193 => ?_)
  have hX193 : (X193.1 0 3).toInt = 0 := by rw [eX193]; exact zE_3 (by decide) hX186
  refine nP.ck ?_
  refine nP.lt (fun X200 eX200 => ?_)
  have hX200 : (X200.1 0 3).toInt = 0 := by rw [eX200]; exact zE_3 (by decide) hX193
  refine nP.ck ?_
  refine nP.lt (fun X207 eX207 => ?_)
  have hX207 : (X207.1 0 3).toInt = 0 := by rw [eX207]; exact zE_3 (by decide) hX200
  refine nP.ck ?_
  refine nP.lt (fun X214 eX214 => ?_)
  have hX214 : (X214.1 0 3).toInt = 0 := by rw [eX214]; exact zE_3 (by decide) hX207
  refine nP.ck ?_
  refine nP.lt (fun X221 eX221 => ?_)
  have hX221 : (X221.1 0 3).toInt = 0 := by rw [eX221]; exact zE_3 (by decide) hX214
  refine nP.ck ?_
  refine nP.lt (fun X228 eX228 => ?_)
  have hX228 : (X228.1 0 3).toInt = 0 := by rw [eX228]; exact zE_3 (by decide) hX221
  refine nP.ck ?_
  refine nP.lt (fun X235 eX235 => ?_)
  have hX235 : (X235.1 0 3).toInt = 0 := by rw [eX235]; exact zE_3 (by decide) hX228
  refine nP.ck ?_
  refine nP.lt (fun X242 eX242 => ?_)
  have hX242 : (X242.1 0 3).toInt = 0 := by rw [eX242]; exact zE_3 (by decide) hX235
  refine nP.ck ?_
  refine nP.lt (fun X249 eX249 => ?_)
  have hX249 : (X249.1 0 3).toInt = 0 := by rw [eX249]; exact zE_3 (by decide) hX242
  refine nP.ck ?_
  refine nP.lt (fun X256 eX256 => ?_)
  have hX256 : (X256.1 0 3).toInt = 0 := by rw [eX256]; exact zE_3 (by decide) hX249
  refine nP.ck ?_
  refine nP.lt (fun X263 eX263 => ?_)
  have hX263 : (X263.1 0 3).toInt = 0 := by rw [eX263]; exact zE_3 (by decide) hX256
  refine nP.ck ?_
  refine nP.lt (fun X270 eX270 => ?_)
  have hX270 : (X270.1 0 3).toInt = 0 := by rw [eX270]; exact zE_3 (by decide) hX263
  refine nP.ck ?_
  refine nP.lt (fun X277 eX277 => ?_)
  have hX277 : (X277.1 0 3).toInt = 0 := by rw [eX277]; exact zE_3 (by decide) hX270
  refine nP.ck ?_
  refine nP.lt (fun X284 eX284 => ?_)
  have hX284 : (X284.1 0 3).toInt = 0 := by rw [eX284]; exact zE_3 (by decide) hX277
  refine nP.ck ?_
  refine nP.lt (fun X291 eX291 => ?_)
  have hX291 : (X291.1 0 3).toInt = 0 := by rw [eX291]; exact zE_3 (by decide) hX284
  refine nP.ck ?_
  refine nP.lt (fun X298 eX298 => ?_)
  have hX298 : (X298.1 0 3).toInt = 0 := by rw [eX298]; exact zE_3 (by decide) hX291
  refine nP.ck ?_
  refine nP.lt (fun X305 eX305 => ?_)
  have hX305 : (X305.1 0 3).toInt = 0 := by rw [eX305]; exact zE_3 (by decide) hX298
  refine nP.ck ?_
  refine nP.lt (fun X312 eX312 => ?_)
  have hX312 : (X312.1 0 3).toInt = 0 := by rw [eX312]; exact zE_3 (by decide) hX305
  refine nP.ck ?_
  refine nP.lt (fun X319 eX319 => ?_)
  have hX319 : (X319.1 0 3).toInt = 0 := by rw [eX319]; exact zE_3 (by decide) hX312
  refine nP.ck ?_
  refine nP.lt (fun X326 eX326 => ?_)
  have hX326 : (X326.1 0 3).toInt = 0 := by rw [eX326]; exact zE_3 (by decide) hX319
  refine nP.ck ?_
  refine nP.lt (fun X333 eX333 => ?_)
  have hX333 : (X333.1 0 3).toInt = 0 := by rw [eX333]; exact zE_3 (by decide) hX326
  refine nP.ck ?_
  refine nP.lt (fun X340 eX340 => ?_)
  have hX340 : (X340.1 0 3).toInt = 0 := by rw [eX340]; exact zE_3 (by decide) hX333
  refine nP.ck ?_
  refine nP.lt (fun X347 eX347 => ?_)
  have hX347 : (X347.1 0 3).toInt = 0 := by rw [eX347]; exact zE_3 (by decide) hX340
  refine nP.ck ?_
  refine nP.lt (fun X354 eX354 => ?_)
  have hX354 : (X354.1 0 3).toInt = 0 := by rw [eX354]; exact zE_3 (by decide) hX347
  refine nP.ck ?_
  refine nP.lt (fun X361 eX361 => ?_)
  have hX361 : (X361.1 0 3).toInt = 0 := by rw [eX361]; exact zE_3 (by decide) hX354
  refine nP.ck ?_
  refine nP.lt (fun X368 eX368 => ?_)
  have hX368 : (X368.1 0 3).toInt = 0 := by rw [eX368]; exact zE_3 (by decide) hX361
  refine nP.ck ?_
  refine nP.lt (fun X375 eX375 => ?_)
  have hX375 : (X375.1 0 3).toInt = 0 := by rw [eX375]; exact zE_3 (by decide) hX368
  refine nP.ck ?_
  refine nP.lt (fun X382 eX382 => ?_)
  have hX382 : (X382.1 0 3).toInt = 0 := by rw [eX382]; exact zE_3 (by decide) hX375
  refine nP.ck ?_
  refine nP.lt (fun X389 eX389 => ?_)
  have hX389 : (X389.1 0 3).toInt = 0 := by rw [eX389]; exact zE_3 (by decide) hX382
  refine nP.ck ?_
  refine nP.lt (fun X396 eX396 => ?_)
  have hX396 : (X396.1 0 3).toInt = 0 := by rw [eX396]; exact zE_3 (by decide) hX389
  refine nP.ck ?_
  refine nP.lt (fun X403 eX403 => ?_)
  have hX403 : (X403.1 0 3).toInt = 0 := by rw [eX403]; exact zE_3 (by decide) hX396
  refine nP.ck ?_
  refine nP.lt (fun X410 eX410 => ?_)
  have hX410 : (X410.1 0 3).toInt = 0 := by rw [eX410]; exact zE_3 (by decide) hX403
  refine nP.ck ?_
  refine nP.lt (fun X417 eX417 => ?_)
  have hX417 : (X417.1 0 3).toInt = 0 := by rw [eX417]; exact zE_3 (by decide) hX410
  refine nP.ck ?_
  refine nP.lt (fun X424 eX424 => ?_)
  have hX424 : (X424.1 0 3).toInt = 0 := by rw [eX424]; exact zE_3 (by decide) hX417
  refine nP.ck ?_
  refine nP.lt (fun X431 eX431 => ?_)
  have hX431 : (X431.1 0 3).toInt = 0 := by rw [eX431]; exact zE_3 (by decide) hX424
  refine nP.ck ?_
  refine nP.lt (fun X438 eX438 => ?_)
  have hX438 : (X438.1 0 3).toInt = 0 := by rw [eX438]; exact zE_3 (by decide) hX431
  refine nP.ck ?_
  refine nP.lt (fun X445 eX445 => ?_)
  have hX445 : (X445.1 0 3).toInt = 0 := by rw [eX445]; exact zE_3 (by decide) hX438
  refine nP.ck ?_
  refine nP.lt (fun X452 eX452 => ?_)
  have hX452 : (X452.1 0 3).toInt = 0 := by rw [eX452]; exact zE_3 (by decide) hX445
  refine nP.ck ?_
  refine nP.lt (fun X459 eX459 => ?_)
  have hX459 : (X459.1 0 3).toInt = 0 := by rw [eX459]; exact zE_3 (by decide) hX452
  refine nP.ck ?_
  refine nP.lt (fun X466 eX466 => ?_)
  have hX466 : (X466.1 0 3).toInt = 0 := by rw [eX466]; exact zE_3 (by decide) hX459
  refine nP.ck ?_
  refine nP.lt (fun X473 eX473 => ?_)
  have hX473 : (X473.1 0 3).toInt = 0 := by rw [eX473]; exact zE_3 (by decide) hX466
  refine nP.ck ?_
  refine nP.lt (fun X480 eX480 => ?_)
  have hX480 : (X480.1 0 3).toInt = 0 := by rw [eX480]; exact zE_3 (by decide) hX473
  refine nP.ck ?_
  refine nP.lt (fun X487 eX487 => ?_)
  have hX487 : (X487.1 0 3).toInt = 0 := by rw [eX487]; exact zE_3 (by decide) hX480
  refine nP.ck ?_
  refine nP.lt (fun X494 eX494 => ?_)
  have hX494 : (X494.1 0 3).toInt = 0 := by rw [eX494]; exact zE_3 (by decide) hX487
  refine nP.ck ?_
  refine nP.lt (fun X501 eX501 => ?_)
  have hX501 : (X501.1 0 3).toInt = 0 := by rw [eX501]; exact zE_3 (by decide) hX494
  refine nP.ck ?_
  refine nP.lt (fun X508 eX508 => ?_)
  have hX508 : (X508.1 0 3).toInt = 0 := by rw [eX508]; exact zE_3 (by decide) hX501
  refine nP.ck ?_
  refine nP.lt (fun X515 eX515 => ?_)
  have hX515 : (X515.1 0 3).toInt = 0 := by rw [eX515]; exact zE_3 (by decide) hX508
  refine nP.ck ?_
  refine nP.lt (fun X522 eX522 => ?_)
  have hX522 : (X522.1 0 3).toInt = 0 := by rw [eX522]; exact zE_3 (by decide) hX515
  refine nP.ck ?_
  refine nP.lt (fun X529 eX529 => ?_)
  have hX529 : (X529.1 0 3).toInt = 0 := by rw [eX529]; exact zE_3 (by decide) hX522
  refine nP.ck ?_
  refine nP.lt (fun X536 eX536 => ?_)
  have hX536 : (X536.1 0 3).toInt = 0 := by rw [eX536]; exact zE_3 (by decide) hX529
  refine nP.ck ?_
  refine nP.lt (fun X543 eX543 => ?_)
  have hX543 : (X543.1 0 3).toInt = 0 := by rw [eX543]; exact zE_3 (by decide) hX536
  refine nP.ck ?_
  refine nP.lt (fun X550 eX550 => ?_)
  have hX550 : (X550.1 0 3).toInt = 0 := by rw [eX550]; exact zE_3 (by decide) hX543
  refine nP.ck ?_
  refine nP.lt (fun X557 eX557 => ?_)
  have hX557 : (X557.1 0 3).toInt = 0 := by rw [eX557]; exact zE_3 (by decide) hX550
  refine nP.ck ?_
  refine nP.lt (fun X564 eX564 => ?_)
  have hX564 : (X564.1 0 3).toInt = 0 := by rw [eX564]; exact zE_3 (by decide) hX557
  refine nP.bf (kinds_3 hX564) (fun X571 hX571 => ?_)
  exact nP.ret hX571
/-- a constructor that ends where no program stands -/
def nP4 (F : Option St) : Prop := ∀ X, F = some X → (X.1 0 4).toInt = 0
theorem nP4.ret {X : St} (h : (X.1 0 4).toInt = 0) : nP4 (some X) := fun Y e => by rw [← Option.some.inj e]; exact h
theorem nP4.ck {c : Prop} [Decidable c] {F : Option St} (h : nP4 F) : nP4 (chk c F) := by
  by_cases g : c
  · show nP4 (if c then F else none)
    rw [if_pos g]; exact h
  · show nP4 (if c then F else none)
    rw [if_neg g]; exact fun _ e => absurd e.symm (Option.some_ne_none _)
theorem nP4.lt {v : St} {K : St → Option St} (h : ∀ Y, Y = v → nP4 (K Y)) : nP4 (letV v K) := h v rfl
theorem nP4.bd {G : Option St} {K : St → Option St} (hG : nP4 G) (h : ∀ Y, (Y.1 0 4).toInt = 0 → nP4 (K Y)) : nP4 (bndN G K) := by
  cases g : G with
  | none => exact fun _ e => absurd e.symm (Option.some_ne_none _)
  | some Y => exact h Y (hG Y g)
theorem nP4.bt {G : Option St} {K : St → Option St} (h : ∀ Y, nP4 (K Y)) : nP4 (bndN G K) := by
  cases g : G with
  | none => exact fun _ e => absurd e.symm (Option.some_ne_none _)
  | some Y => exact h Y
theorem nP4.bf {ρ : Type} {G : Option (ρ × St)} {K : ρ → St → Option St} (hG : pw G (fun _ Y => (Y.1 0 4).toInt = 0)) (h : ∀ {r : ρ} (Y : St), (Y.1 0 4).toInt = 0 → nP4 (K r Y)) : nP4 (bnd G K) := by
  cases g : G with
  | none => exact fun _ e => absurd e.symm (Option.some_ne_none _)
  | some y => exact h y.2 (hG y.1 y.2 g)
theorem zE_4 {X : St} {n : Nat} (hn : ¬ n = 0) (h : (X.1 0 4).toInt = 0) : ((zE X n).1 0 4).toInt = 0 := by
  show (uA X.1 n (fun _ => 0) 0 4).toInt = 0
  unfold uA
  rw [if_neg (fun g => hn g.symm)]
  exact h
theorem n4_ctor_C_47 {X : St} (hX : (X.1 0 4).toInt = 0) : nP4 (ctor_C_47 X) := by
  unfold ctor_C_47
  refine nP4.ck ?_
  refine nP4.lt (fun X2 eX2 => ?_)
  have hX2 : (X2.1 0 4).toInt = 0 := by rw [eX2]; exact zE_4 (by decide) hX
  refine nP4.lt (fun X8 eX8 => ?_)
  have hX8 : (X8.1 0 4).toInt = 0 := by rw [eX8]; exact hX2
  refine nP4.lt (fun X9 eX9 => ?_)
  have hX9 : (X9.1 0 4).toInt = 0 := by rw [eX9, wI_ne _ _ _ _ _ _ (by decide)]; exact hX8
  refine nP4.lt (fun X10 eX10 => ?_)
  have hX10 : (X10.1 0 4).toInt = 0 := by rw [eX10, wI_ne _ _ _ _ _ _ (by decide)]; exact hX9
  refine nP4.lt (fun X11 eX11 => ?_)
  have hX11 : (X11.1 0 4).toInt = 0 := by rw [eX11, wI_ne _ _ _ _ _ _ (by decide)]; exact hX10
  refine nP4.lt (fun X12 eX12 => ?_)
  have hX12 : (X12.1 0 4).toInt = 0 := by rw [eX12, wI_ne _ _ _ _ _ _ (by decide)]; exact hX11
  refine nP4.lt (fun X13 eX13 => ?_)
  have hX13 : (X13.1 0 4).toInt = 0 := by rw [eX13]; exact hX12
  refine nP4.lt (fun X14 eX14 => ?_)
  have hX14 : (X14.1 0 4).toInt = 0 := by rw [eX14, wI_ne _ _ _ _ _ _ (by decide)]; exact hX13
  refine nP4.lt (fun X15 eX15 => ?_)
  have hX15 : (X15.1 0 4).toInt = 0 := by rw [eX15]; exact hX14
  exact nP4.ret hX15
theorem n4_ctor_C_46 {X : St} (hX : (X.1 0 4).toInt = 0) : nP4 (ctor_C_46 X) := by
  unfold ctor_C_46
  refine nP4.ck ?_
  refine nP4.lt (fun X2 eX2 => ?_)
  have hX2 : (X2.1 0 4).toInt = 0 := by rw [eX2]; exact zE_4 (by decide) hX
  refine nP4.bd (n4_ctor_C_47 hX2) (fun X11 hX11 => ?_)
  refine nP4.lt (fun X14 eX14 => ?_)
  have hX14 : (X14.1 0 4).toInt = 0 := by rw [eX14]; exact hX11
  refine nP4.lt (fun X15 eX15 => ?_)
  have hX15 : (X15.1 0 4).toInt = 0 := by rw [eX15, wI_ne _ _ _ _ _ _ (by decide)]; exact hX14
  refine nP4.lt (fun X16 eX16 => ?_)
  have hX16 : (X16.1 0 4).toInt = 0 := by rw [eX16, wI_ne _ _ _ _ _ _ (by decide)]; exact hX15
  refine nP4.lt (fun X17 eX17 => ?_)
  have hX17 : (X17.1 0 4).toInt = 0 := by rw [eX17, wI_ne _ _ _ _ _ _ (by decide)]; exact hX16
  refine nP4.ck ?_
  refine nP4.lt (fun X19 eX19 => ?_)
  have hX19 : (X19.1 0 4).toInt = 0 := by rw [eX19]; exact zE_4 (by decide) hX17
  refine nP4.ck ?_
  refine nP4.lt (fun X26 eX26 => ?_)
  have hX26 : (X26.1 0 4).toInt = 0 := by rw [eX26]; exact zE_4 (by decide) hX19
  refine nP4.lt (fun X32 eX32 => ?_)
  have hX32 : (X32.1 0 4).toInt = 0 := by rw [eX32, wI_ne _ _ _ _ _ _ (by decide)]; exact hX26
  refine nP4.ck ?_
  refine nP4.lt (fun X34 eX34 => ?_)
  have hX34 : (X34.1 0 4).toInt = 0 := by rw [eX34]; exact zE_4 (by decide) hX32
  refine nP4.ck ?_
  refine nP4.lt (fun X41 eX41 => ?_)
  have hX41 : (X41.1 0 4).toInt = 0 := by rw [eX41]; exact zE_4 (by decide) hX34
  refine nP4.ck ?_
  refine nP4.lt (fun X48 eX48 => ?_)
  have hX48 : (X48.1 0 4).toInt = 0 := by rw [eX48]; exact zE_4 (by decide) hX41
  refine nP4.lt (fun X54 eX54 => ?_)
  have hX54 : (X54.1 0 4).toInt = 0 := by rw [eX54, wI_ne _ _ _ _ _ _ (by decide)]; exact hX48
  refine nP4.ck ?_
  refine nP4.lt (fun X56 eX56 => ?_)
  have hX56 : (X56.1 0 4).toInt = 0 := by rw [eX56]; exact zE_4 (by decide) hX54
  refine nP4.lt (fun X62 eX62 => ?_)
  have hX62 : (X62.1 0 4).toInt = 0 := by rw [eX62, wI_ne _ _ _ _ _ _ (by decide)]; exact hX56
  exact nP4.ret hX62
theorem n4_ctor_C_55 {X : St} (hX : (X.1 0 4).toInt = 0) : nP4 (ctor_C_55 X) := by
  unfold ctor_C_55
  refine nP4.ck ?_
  refine nP4.lt (fun X2 eX2 => ?_)
  have hX2 : (X2.1 0 4).toInt = 0 := by rw [eX2]; exact zE_4 (by decide) hX
  refine nP4.ck ?_
  refine nP4.lt (fun X9 eX9 => ?_)
  have hX9 : (X9.1 0 4).toInt = 0 := by rw [eX9]; exact zE_4 (by decide) hX2
  refine nP4.ck ?_
  refine nP4.lt (fun X16 eX16 => ?_)
  have hX16 : (X16.1 0 4).toInt = 0 := by rw [eX16]; exact zE_4 (by decide) hX9
  refine nP4.ck ?_
  refine nP4.lt (fun X23 eX23 => ?_)
  have hX23 : (X23.1 0 4).toInt = 0 := by rw [eX23]; exact zE_4 (by decide) hX16
  refine nP4.ck ?_
  refine nP4.lt (fun X30 eX30 => ?_)
  have hX30 : (X30.1 0 4).toInt = 0 := by rw [eX30]; exact zE_4 (by decide) hX23
  refine nP4.lt (fun X36 eX36 => ?_)
  have hX36 : (X36.1 0 4).toInt = 0 := by rw [eX36, wI_ne _ _ _ _ _ _ (by decide)]; exact hX30
  exact nP4.ret hX36
theorem n4_ctor_C_61 {X : St} (hX : (X.1 0 4).toInt = 0) : nP4 (ctor_C_61 X) := by
  unfold ctor_C_61
  refine nP4.lt (fun X1 eX1 => ?_)
  have hX1 : (X1.1 0 4).toInt = 0 := by rw [eX1]; exact hX
  refine nP4.lt (fun X2 eX2 => ?_)
  have hX2 : (X2.1 0 4).toInt = 0 := by rw [eX2]; exact hX1
  refine nP4.lt (fun X3 eX3 => ?_)
  have hX3 : (X3.1 0 4).toInt = 0 := by rw [eX3]; exact hX2
  refine nP4.lt (fun X4 eX4 => ?_)
  have hX4 : (X4.1 0 4).toInt = 0 := by rw [eX4, wI_ne _ _ _ _ _ _ (by decide)]; exact hX3
  refine nP4.lt (fun X5 eX5 => ?_)
  have hX5 : (X5.1 0 4).toInt = 0 := by rw [eX5, wI_ne _ _ _ _ _ _ (by decide)]; exact hX4
  refine nP4.lt (fun X6 eX6 => ?_)
  have hX6 : (X6.1 0 4).toInt = 0 := by rw [eX6, wI_ne _ _ _ _ _ _ (by decide)]; exact hX5
  refine nP4.ck ?_
  refine nP4.lt (fun X8 eX8 => ?_)
  have hX8 : (X8.1 0 4).toInt = 0 := by rw [eX8]; exact zE_4 (by decide) hX6
  refine nP4.ck ?_
  refine nP4.lt (fun X15 eX15 => ?_)
  have hX15 : (X15.1 0 4).toInt = 0 := by rw [eX15]; exact zE_4 (by decide) hX8
  refine nP4.ck ?_
  refine nP4.lt (fun X22 eX22 => ?_)
  have hX22 : (X22.1 0 4).toInt = 0 := by rw [eX22]; exact zE_4 (by decide) hX15
  refine nP4.ck ?_
  refine nP4.lt (fun X29 eX29 => ?_)
  have hX29 : (X29.1 0 4).toInt = 0 := by rw [eX29]; exact zE_4 (by decide) hX22
  refine nP4.ck ?_
  refine nP4.lt (fun X36 eX36 => ?_)
  have hX36 : (X36.1 0 4).toInt = 0 := by rw [eX36]; exact zE_4 (by decide) hX29
  refine nP4.ck ?_
  refine nP4.lt (fun X43 eX43 => ?_)
  have hX43 : (X43.1 0 4).toInt = 0 := by rw [eX43]; exact zE_4 (by decide) hX36
  refine nP4.ck ?_
  refine nP4.lt (fun X50 eX50 => ?_)
  have hX50 : (X50.1 0 4).toInt = 0 := by rw [eX50]; exact zE_4 (by decide) hX43
  refine nP4.ck ?_
  refine nP4.lt (fun X57 eX57 => ?_)
  have hX57 : (X57.1 0 4).toInt = 0 := by rw [eX57]; exact zE_4 (by decide) hX50
  refine nP4.lt (fun X63 eX63 => ?_)
  have hX63 : (X63.1 0 4).toInt = 0 := by rw [eX63, wI_ne _ _ _ _ _ _ (by decide)]; exact hX57
  exact nP4.ret hX63
theorem n4_ctor_C_71 {X : St} (hX : (X.1 0 4).toInt = 0) : nP4 (ctor_C_71 X) := by
  unfold ctor_C_71
  refine nP4.lt (fun X1 eX1 => ?_)
  have hX1 : (X1.1 0 4).toInt = 0 := by rw [eX1, wI_ne _ _ _ _ _ _ (by decide)]; exact hX
  refine nP4.lt (fun X2 eX2 => ?_)
  have hX2 : (X2.1 0 4).toInt = 0 := by rw [eX2, wI_ne _ _ _ _ _ _ (by decide)]; exact hX1
  refine nP4.lt (fun X3 eX3 => ?_)
  have hX3 : (X3.1 0 4).toInt = 0 := by rw [eX3, wI_ne _ _ _ _ _ _ (by decide)]; exact hX2
  refine nP4.ck ?_
  refine nP4.lt (fun X5 eX5 => ?_)
  have hX5 : (X5.1 0 4).toInt = 0 := by rw [eX5]; exact zE_4 (by decide) hX3
  refine nP4.ck ?_
  refine nP4.lt (fun X12 eX12 => ?_)
  have hX12 : (X12.1 0 4).toInt = 0 := by rw [eX12]; exact zE_4 (by decide) hX5
  refine nP4.ck ?_
  refine nP4.lt (fun X19 eX19 => ?_)
  have hX19 : (X19.1 0 4).toInt = 0 := by rw [eX19]; exact zE_4 (by decide) hX12
  refine nP4.ck ?_
  refine nP4.lt (fun X26 eX26 => ?_)
  have hX26 : (X26.1 0 4).toInt = 0 := by rw [eX26]; exact zE_4 (by decide) hX19
  refine nP4.ck ?_
  refine nP4.lt (fun X33 eX33 => ?_)
  have hX33 : (X33.1 0 4).toInt = 0 := by rw [eX33]; exact zE_4 (by decide) hX26
  refine nP4.ck ?_
  refine nP4.lt (fun X40 eX40 => ?_)
  have hX40 : (X40.1 0 4).toInt = 0 := by rw [eX40]; exact zE_4 (by decide) hX33
  refine nP4.ck ?_
  refine nP4.lt (fun X47 eX47 => ?_)
  have hX47 : (X47.1 0 4).toInt = 0 := by rw [eX47]; exact zE_4 (by decide) hX40
  refine nP4.ck ?_
  refine nP4.lt (fun X54 eX54 => ?_)
  have hX54 : (X54.1 0 4).toInt = 0 := by rw [eX54]; exact zE_4 (by decide) hX47
  refine nP4.ck ?_
  refine nP4.lt (fun X61 eX61 => ?_)
  have hX61 : (X61.1 0 4).toInt = 0 := by rw [eX61]; exact zE_4 (by decide) hX54
  refine nP4.ck ?_
  refine nP4.lt (fun X68 eX68 => ?_)
  have hX68 : (X68.1 0 4).toInt = 0 := by rw [eX68]; exact zE_4 (by decide) hX61
  exact nP4.ret hX68
theorem n4_ctor_C_70 {X : St} (hX : (X.1 0 4).toInt = 0) : nP4 (ctor_C_70 X) := by
  unfold ctor_C_70
  refine nP4.lt (fun X1 eX1 => ?_)
  have hX1 : (X1.1 0 4).toInt = 0 := by rw [eX1]; exact hX
  refine nP4.ck ?_
  refine nP4.lt (fun X3 eX3 => ?_)
  have hX3 : (X3.1 0 4).toInt = 0 := by rw [eX3]; exact zE_4 (by decide) hX1
  refine nP4.bd (n4_ctor_C_71 hX3) (fun X12 hX12 => ?_)
  refine nP4.lt (fun X15 eX15 => ?_)
  have hX15 : (X15.1 0 4).toInt = 0 := by rw [eX15]; exact hX12
  refine nP4.lt (fun X16 eX16 => ?_)
  have hX16 : (X16.1 0 4).toInt = 0 := by rw [eX16, wI_ne _ _ _ _ _ _ (by decide)]; exact hX15
  refine nP4.lt (fun X17 eX17 => ?_)
  have hX17 : (X17.1 0 4).toInt = 0 := by rw [eX17, wI_ne _ _ _ _ _ _ (by decide)]; exact hX16
  refine nP4.lt (fun X18 eX18 => ?_)
  have hX18 : (X18.1 0 4).toInt = 0 := by rw [eX18, wI_ne _ _ _ _ _ _ (by decide)]; exact hX17
  refine nP4.lt (fun X19 eX19 => ?_)
  have hX19 : (X19.1 0 4).toInt = 0 := by rw [eX19, wI_ne _ _ _ _ _ _ (by decide)]; exact hX18
  refine nP4.lt (fun X20 eX20 => ?_)
  have hX20 : (X20.1 0 4).toInt = 0 := by rw [eX20, wI_ne _ _ _ _ _ _ (by decide)]; exact hX19
  refine nP4.lt (fun X21 eX21 => ?_)
  have hX21 : (X21.1 0 4).toInt = 0 := by rw [eX21, wI_ne _ _ _ _ _ _ (by decide)]; exact hX20
  refine nP4.lt (fun X22 eX22 => ?_)
  have hX22 : (X22.1 0 4).toInt = 0 := by rw [eX22, wI_ne _ _ _ _ _ _ (by decide)]; exact hX21
  refine nP4.lt (fun X23 eX23 => ?_)
  have hX23 : (X23.1 0 4).toInt = 0 := by rw [eX23, wI_ne _ _ _ _ _ _ (by decide)]; exact hX22
  refine nP4.lt (fun X24 eX24 => ?_)
  have hX24 : (X24.1 0 4).toInt = 0 := by rw [eX24, wI_ne _ _ _ _ _ _ (by decide)]; exact hX23
  refine nP4.ck ?_
  refine nP4.lt (fun X26 eX26 => ?_)
  have hX26 : (X26.1 0 4).toInt = 0 := by rw [eX26]; exact zE_4 (by decide) hX24
  refine nP4.ck ?_
  refine nP4.lt (fun X33 eX33 => ?_)
  have hX33 : (X33.1 0 4).toInt = 0 := by rw [eX33]; exact zE_4 (by decide) hX26
  refine nP4.ck ?_
  refine nP4.lt (fun X40 eX40 => ?_)
  have hX40 : (X40.1 0 4).toInt = 0 := by rw [eX40]; exact zE_4 (by decide) hX33
  refine nP4.lt (fun X46 eX46 => ?_)
  have hX46 : (X46.1 0 4).toInt = 0 := by rw [eX46, wI_ne _ _ _ _ _ _ (by decide)]; exact hX40
  refine nP4.ck ?_
  refine nP4.lt (fun X48 eX48 => ?_)
  have hX48 : (X48.1 0 4).toInt = 0 := by rw [eX48]; exact zE_4 (by decide) hX46
  refine nP4.ck ?_
  refine nP4.lt (fun X55 eX55 => ?_)
  have hX55 : (X55.1 0 4).toInt = 0 := by rw [eX55]; exact zE_4 (by decide) hX48
  refine nP4.lt (fun X61 eX61 => ?_)
  have hX61 : (X61.1 0 4).toInt = 0 := by rw [eX61, wI_ne _ _ _ _ _ _ (by decide)]; exact hX55
  refine nP4.ck ?_
  refine nP4.lt (fun X63 eX63 => ?_)
  have hX63 : (X63.1 0 4).toInt = 0 := by rw [eX63]; exact zE_4 (by decide) hX61
  exact nP4.ret hX63
theorem n4_C (X : St) : nP4 (ctor_C X) := by
  unfold ctor_C
  refine nP4.ck ?_
  refine nP4.lt (fun X2 eX2 => ?_)
  refine nP4.lt (fun X8 eX8 => ?_)
  refine nP4.ck ?_
  refine nP4.lt (fun X10 eX10 => ?_)
  refine nP4.bt (fun X19 => ?_)
  refine nP4.lt (fun X22 eX22 => ?_)
  refine nP4.ck ?_
  refine nP4.lt (fun X24 eX24 => ?_)
  refine nP4.bt (fun X33 => ?_)
  refine nP4.lt (fun X36 eX36 => ?_)
  refine nP4.lt (fun X37 eX37 => ?_)
  refine nP4.lt (fun X38 eX38 => ?_)
  have hX38 : (X38.1 0 4).toInt = 0 := by rw [eX38, wI_at]; rfl
  refine nP4.lt (fun X39 eX39 => ?_)
  have hX39 : (X39.1 0 4).toInt = 0 := by rw [eX39, wI_ne _ _ _ _ _ _ (by decide)]; exact hX38
  refine nP4.ck ?_
  refine nP4.lt (fun X41 eX41 => ?_)
  have hX41 : (X41.1 0 4).toInt = 0 := by rw [eX41]; exact zE_4 (by decide) hX39
  refine nP4.bd (n4_ctor_C_46 hX41) (fun X50 hX50 => ?_)
  refine nP4.ck ?_
  refine nP4.lt (fun X54 eX54 => ?_)
  have hX54 : (X54.1 0 4).toInt = 0 := by rw [eX54]; exact zE_4 (by decide) hX50
  refine nP4.bd (n4_ctor_C_55 hX54) (fun X63 hX63 => ?_)
  refine nP4.ck ?_
  refine nP4.lt (fun X67 eX67 => ?_)
  have hX67 : (X67.1 0 4).toInt = 0 := by rw [eX67]; exact zE_4 (by decide) hX63
  refine nP4.bd (n4_ctor_C_61 hX67) (fun X76 hX76 => ?_)
  refine nP4.ck ?_
  refine nP4.lt (fun X80 eX80 => ?_)
  have hX80 : (X80.1 0 4).toInt = 0 := by rw [eX80]; exact zE_4 (by decide) hX76
  refine nP4.bd (n4_ctor_C_70 hX80) (fun X89 hX89 => ?_)
  refine nP4.lt (fun X92 eX92 => ?_)
  have hX92 : (X92.1 0 4).toInt = 0 := by rw [eX92, wI_ne _ _ _ _ _ _ (by decide)]; exact hX89
  refine nP4.lt (fun X93 eX93 => ?_)
  have hX93 : (X93.1 0 4).toInt = 0 := by rw [eX93, wI_ne _ _ _ _ _ _ (by decide)]; exact hX92
  exact nP4.ret hX93
def nP5 (F : Option St) : Prop := ∀ X, F = some X → (X.1 0 5).toInt = 0
theorem nP5.ret {X : St} (h : (X.1 0 5).toInt = 0) : nP5 (some X) := fun Y e => by rw [← Option.some.inj e]; exact h
theorem nP5.ck {c : Prop} [Decidable c] {F : Option St} (h : nP5 F) : nP5 (chk c F) := by
  by_cases g : c
  · show nP5 (if c then F else none)
    rw [if_pos g]; exact h
  · show nP5 (if c then F else none)
    rw [if_neg g]; exact fun _ e => absurd e.symm (Option.some_ne_none _)
theorem nP5.lt {v : St} {K : St → Option St} (h : ∀ Y, Y = v → nP5 (K Y)) : nP5 (letV v K) := h v rfl
theorem nP5.bd {G : Option St} {K : St → Option St} (hG : nP5 G) (h : ∀ Y, (Y.1 0 5).toInt = 0 → nP5 (K Y)) : nP5 (bndN G K) := by
  cases g : G with
  | none => exact fun _ e => absurd e.symm (Option.some_ne_none _)
  | some Y => exact h Y (hG Y g)
theorem nP5.bt {G : Option St} {K : St → Option St} (h : ∀ Y, nP5 (K Y)) : nP5 (bndN G K) := by
  cases g : G with
  | none => exact fun _ e => absurd e.symm (Option.some_ne_none _)
  | some Y => exact h Y
theorem nP5.bf {ρ : Type} {G : Option (ρ × St)} {K : ρ → St → Option St} (hG : pw G (fun _ Y => (Y.1 0 5).toInt = 0)) (h : ∀ {r : ρ} (Y : St), (Y.1 0 5).toInt = 0 → nP5 (K r Y)) : nP5 (bnd G K) := by
  cases g : G with
  | none => exact fun _ e => absurd e.symm (Option.some_ne_none _)
  | some y => exact h y.2 (hG y.1 y.2 g)
theorem zE_5 {X : St} {n : Nat} (hn : ¬ n = 0) (h : (X.1 0 5).toInt = 0) : ((zE X n).1 0 5).toInt = 0 := by
  show (uA X.1 n (fun _ => 0) 0 5).toInt = 0
  unfold uA
  rw [if_neg (fun g => hn g.symm)]
  exact h
theorem n5_ctor_C_47 {X : St} (hX : (X.1 0 5).toInt = 0) : nP5 (ctor_C_47 X) := by
  unfold ctor_C_47
  refine nP5.ck ?_
  refine nP5.lt (fun X2 eX2 => ?_)
  have hX2 : (X2.1 0 5).toInt = 0 := by rw [eX2]; exact zE_5 (by decide) hX
  refine nP5.lt (fun X8 eX8 => ?_)
  have hX8 : (X8.1 0 5).toInt = 0 := by rw [eX8]; exact hX2
  refine nP5.lt (fun X9 eX9 => ?_)
  have hX9 : (X9.1 0 5).toInt = 0 := by rw [eX9, wI_ne _ _ _ _ _ _ (by decide)]; exact hX8
  refine nP5.lt (fun X10 eX10 => ?_)
  have hX10 : (X10.1 0 5).toInt = 0 := by rw [eX10, wI_ne _ _ _ _ _ _ (by decide)]; exact hX9
  refine nP5.lt (fun X11 eX11 => ?_)
  have hX11 : (X11.1 0 5).toInt = 0 := by rw [eX11, wI_ne _ _ _ _ _ _ (by decide)]; exact hX10
  refine nP5.lt (fun X12 eX12 => ?_)
  have hX12 : (X12.1 0 5).toInt = 0 := by rw [eX12, wI_ne _ _ _ _ _ _ (by decide)]; exact hX11
  refine nP5.lt (fun X13 eX13 => ?_)
  have hX13 : (X13.1 0 5).toInt = 0 := by rw [eX13]; exact hX12
  refine nP5.lt (fun X14 eX14 => ?_)
  have hX14 : (X14.1 0 5).toInt = 0 := by rw [eX14, wI_ne _ _ _ _ _ _ (by decide)]; exact hX13
  refine nP5.lt (fun X15 eX15 => ?_)
  have hX15 : (X15.1 0 5).toInt = 0 := by rw [eX15]; exact hX14
  exact nP5.ret hX15
theorem n5_ctor_C_46 {X : St} (hX : (X.1 0 5).toInt = 0) : nP5 (ctor_C_46 X) := by
  unfold ctor_C_46
  refine nP5.ck ?_
  refine nP5.lt (fun X2 eX2 => ?_)
  have hX2 : (X2.1 0 5).toInt = 0 := by rw [eX2]; exact zE_5 (by decide) hX
  refine nP5.bd (n5_ctor_C_47 hX2) (fun X11 hX11 => ?_)
  refine nP5.lt (fun X14 eX14 => ?_)
  have hX14 : (X14.1 0 5).toInt = 0 := by rw [eX14]; exact hX11
  refine nP5.lt (fun X15 eX15 => ?_)
  have hX15 : (X15.1 0 5).toInt = 0 := by rw [eX15, wI_ne _ _ _ _ _ _ (by decide)]; exact hX14
  refine nP5.lt (fun X16 eX16 => ?_)
  have hX16 : (X16.1 0 5).toInt = 0 := by rw [eX16, wI_ne _ _ _ _ _ _ (by decide)]; exact hX15
  refine nP5.lt (fun X17 eX17 => ?_)
  have hX17 : (X17.1 0 5).toInt = 0 := by rw [eX17, wI_ne _ _ _ _ _ _ (by decide)]; exact hX16
  refine nP5.ck ?_
  refine nP5.lt (fun X19 eX19 => ?_)
  have hX19 : (X19.1 0 5).toInt = 0 := by rw [eX19]; exact zE_5 (by decide) hX17
  refine nP5.ck ?_
  refine nP5.lt (fun X26 eX26 => ?_)
  have hX26 : (X26.1 0 5).toInt = 0 := by rw [eX26]; exact zE_5 (by decide) hX19
  refine nP5.lt (fun X32 eX32 => ?_)
  have hX32 : (X32.1 0 5).toInt = 0 := by rw [eX32, wI_ne _ _ _ _ _ _ (by decide)]; exact hX26
  refine nP5.ck ?_
  refine nP5.lt (fun X34 eX34 => ?_)
  have hX34 : (X34.1 0 5).toInt = 0 := by rw [eX34]; exact zE_5 (by decide) hX32
  refine nP5.ck ?_
  refine nP5.lt (fun X41 eX41 => ?_)
  have hX41 : (X41.1 0 5).toInt = 0 := by rw [eX41]; exact zE_5 (by decide) hX34
  refine nP5.ck ?_
  refine nP5.lt (fun X48 eX48 => ?_)
  have hX48 : (X48.1 0 5).toInt = 0 := by rw [eX48]; exact zE_5 (by decide) hX41
  refine nP5.lt (fun X54 eX54 => ?_)
  have hX54 : (X54.1 0 5).toInt = 0 := by rw [eX54, wI_ne _ _ _ _ _ _ (by decide)]; exact hX48
  refine nP5.ck ?_
  refine nP5.lt (fun X56 eX56 => ?_)
  have hX56 : (X56.1 0 5).toInt = 0 := by rw [eX56]; exact zE_5 (by decide) hX54
  refine nP5.lt (fun X62 eX62 => ?_)
  have hX62 : (X62.1 0 5).toInt = 0 := by rw [eX62, wI_ne _ _ _ _ _ _ (by decide)]; exact hX56
  exact nP5.ret hX62
theorem n5_ctor_C_55 {X : St} (hX : (X.1 0 5).toInt = 0) : nP5 (ctor_C_55 X) := by
  unfold ctor_C_55
  refine nP5.ck ?_
  refine nP5.lt (fun X2 eX2 => ?_)
  have hX2 : (X2.1 0 5).toInt = 0 := by rw [eX2]; exact zE_5 (by decide) hX
  refine nP5.ck ?_
  refine nP5.lt (fun X9 eX9 => ?_)
  have hX9 : (X9.1 0 5).toInt = 0 := by rw [eX9]; exact zE_5 (by decide) hX2
  refine nP5.ck ?_
  refine nP5.lt (fun X16 eX16 => ?_)
  have hX16 : (X16.1 0 5).toInt = 0 := by rw [eX16]; exact zE_5 (by decide) hX9
  refine nP5.ck ?_
  refine nP5.lt (fun X23 eX23 => ?_)
  have hX23 : (X23.1 0 5).toInt = 0 := by rw [eX23]; exact zE_5 (by decide) hX16
  refine nP5.ck ?_
  refine nP5.lt (fun X30 eX30 => ?_)
  have hX30 : (X30.1 0 5).toInt = 0 := by rw [eX30]; exact zE_5 (by decide) hX23
  refine nP5.lt (fun X36 eX36 => ?_)
  have hX36 : (X36.1 0 5).toInt = 0 := by rw [eX36, wI_ne _ _ _ _ _ _ (by decide)]; exact hX30
  exact nP5.ret hX36
theorem n5_ctor_C_61 {X : St} (hX : (X.1 0 5).toInt = 0) : nP5 (ctor_C_61 X) := by
  unfold ctor_C_61
  refine nP5.lt (fun X1 eX1 => ?_)
  have hX1 : (X1.1 0 5).toInt = 0 := by rw [eX1]; exact hX
  refine nP5.lt (fun X2 eX2 => ?_)
  have hX2 : (X2.1 0 5).toInt = 0 := by rw [eX2]; exact hX1
  refine nP5.lt (fun X3 eX3 => ?_)
  have hX3 : (X3.1 0 5).toInt = 0 := by rw [eX3]; exact hX2
  refine nP5.lt (fun X4 eX4 => ?_)
  have hX4 : (X4.1 0 5).toInt = 0 := by rw [eX4, wI_ne _ _ _ _ _ _ (by decide)]; exact hX3
  refine nP5.lt (fun X5 eX5 => ?_)
  have hX5 : (X5.1 0 5).toInt = 0 := by rw [eX5, wI_ne _ _ _ _ _ _ (by decide)]; exact hX4
  refine nP5.lt (fun X6 eX6 => ?_)
  have hX6 : (X6.1 0 5).toInt = 0 := by rw [eX6, wI_ne _ _ _ _ _ _ (by decide)]; exact hX5
  refine nP5.ck ?_
  refine nP5.lt (fun X8 eX8 => ?_)
  have hX8 : (X8.1 0 5).toInt = 0 := by rw [eX8]; exact zE_5 (by decide) hX6
  refine nP5.ck ?_
  refine nP5.lt (fun X15 eX15 => ?_)
  have hX15 : (X15.1 0 5).toInt = 0 := by rw [eX15]; exact zE_5 (by decide) hX8
  refine nP5.ck ?_
  refine nP5.lt (fun X22 eX22 => ?_)
  have hX22 : (X22.1 0 5).toInt = 0 := by rw [eX22]; exact zE_5 (by decide) hX15
  refine nP5.ck ?_
  refine nP5.lt (fun X29 eX29 => ?_)
  have hX29 : (X29.1 0 5).toInt = 0 := by rw [eX29]; exact zE_5 (by decide) hX22
  refine nP5.ck ?_
  refine nP5.lt (fun X36 eX36 => ?_)
  have hX36 : (X36.1 0 5).toInt = 0 := by rw [eX36]; exact zE_5 (by decide) hX29
  refine nP5.ck ?_
  refine nP5.lt (fun X43 eX43 => ?_)
  have hX43 : (X43.1 0 5).toInt = 0 := by rw [eX43]; exact zE_5 (by decide) hX36
  refine nP5.ck ?_
  refine nP5.lt (fun X50 eX50 => ?_)
  have hX50 : (X50.1 0 5).toInt = 0 := by rw [eX50]; exact zE_5 (by decide) hX43
  refine nP5.ck ?_
  refine nP5.lt (fun X57 eX57 => ?_)
  have hX57 : (X57.1 0 5).toInt = 0 := by rw [eX57]; exact zE_5 (by decide) hX50
  refine nP5.lt (fun X63 eX63 => ?_)
  have hX63 : (X63.1 0 5).toInt = 0 := by rw [eX63, wI_ne _ _ _ _ _ _ (by decide)]; exact hX57
  exact nP5.ret hX63
theorem n5_ctor_C_71 {X : St} (hX : (X.1 0 5).toInt = 0) : nP5 (ctor_C_71 X) := by
  unfold ctor_C_71
  refine nP5.lt (fun X1 eX1 => ?_)
  have hX1 : (X1.1 0 5).toInt = 0 := by rw [eX1, wI_ne _ _ _ _ _ _ (by decide)]; exact hX
  refine nP5.lt (fun X2 eX2 => ?_)
  have hX2 : (X2.1 0 5).toInt = 0 := by rw [eX2, wI_ne _ _ _ _ _ _ (by decide)]; exact hX1
  refine nP5.lt (fun X3 eX3 => ?_)
  have hX3 : (X3.1 0 5).toInt = 0 := by rw [eX3, wI_ne _ _ _ _ _ _ (by decide)]; exact hX2
  refine nP5.ck ?_
  refine nP5.lt (fun X5 eX5 => ?_)
  have hX5 : (X5.1 0 5).toInt = 0 := by rw [eX5]; exact zE_5 (by decide) hX3
  refine nP5.ck ?_
  refine nP5.lt (fun X12 eX12 => ?_)
  have hX12 : (X12.1 0 5).toInt = 0 := by rw [eX12]; exact zE_5 (by decide) hX5
  refine nP5.ck ?_
  refine nP5.lt (fun X19 eX19 => ?_)
  have hX19 : (X19.1 0 5).toInt = 0 := by rw [eX19]; exact zE_5 (by decide) hX12
  refine nP5.ck ?_
  refine nP5.lt (fun X26 eX26 => ?_)
  have hX26 : (X26.1 0 5).toInt = 0 := by rw [eX26]; exact zE_5 (by decide) hX19
  refine nP5.ck ?_
  refine nP5.lt (fun X33 eX33 => ?_)
  have hX33 : (X33.1 0 5).toInt = 0 := by rw [eX33]; exact zE_5 (by decide) hX26
  refine nP5.ck ?_
  refine nP5.lt (fun X40 eX40 => ?_)
  have hX40 : (X40.1 0 5).toInt = 0 := by rw [eX40]; exact zE_5 (by decide) hX33
  refine nP5.ck ?_
  refine nP5.lt (fun X47 eX47 => ?_)
  have hX47 : (X47.1 0 5).toInt = 0 := by rw [eX47]; exact zE_5 (by decide) hX40
  refine nP5.ck ?_
  refine nP5.lt (fun X54 eX54 => ?_)
  have hX54 : (X54.1 0 5).toInt = 0 := by rw [eX54]; exact zE_5 (by decide) hX47
  refine nP5.ck ?_
  refine nP5.lt (fun X61 eX61 => ?_)
  have hX61 : (X61.1 0 5).toInt = 0 := by rw [eX61]; exact zE_5 (by decide) hX54
  refine nP5.ck ?_
  refine nP5.lt (fun X68 eX68 => ?_)
  have hX68 : (X68.1 0 5).toInt = 0 := by rw [eX68]; exact zE_5 (by decide) hX61
  exact nP5.ret hX68
theorem n5_ctor_C_70 {X : St} (hX : (X.1 0 5).toInt = 0) : nP5 (ctor_C_70 X) := by
  unfold ctor_C_70
  refine nP5.lt (fun X1 eX1 => ?_)
  have hX1 : (X1.1 0 5).toInt = 0 := by rw [eX1]; exact hX
  refine nP5.ck ?_
  refine nP5.lt (fun X3 eX3 => ?_)
  have hX3 : (X3.1 0 5).toInt = 0 := by rw [eX3]; exact zE_5 (by decide) hX1
  refine nP5.bd (n5_ctor_C_71 hX3) (fun X12 hX12 => ?_)
  refine nP5.lt (fun X15 eX15 => ?_)
  have hX15 : (X15.1 0 5).toInt = 0 := by rw [eX15]; exact hX12
  refine nP5.lt (fun X16 eX16 => ?_)
  have hX16 : (X16.1 0 5).toInt = 0 := by rw [eX16, wI_ne _ _ _ _ _ _ (by decide)]; exact hX15
  refine nP5.lt (fun X17 eX17 => ?_)
  have hX17 : (X17.1 0 5).toInt = 0 := by rw [eX17, wI_ne _ _ _ _ _ _ (by decide)]; exact hX16
  refine nP5.lt (fun X18 eX18 => ?_)
  have hX18 : (X18.1 0 5).toInt = 0 := by rw [eX18, wI_ne _ _ _ _ _ _ (by decide)]; exact hX17
  refine nP5.lt (fun X19 eX19 => ?_)
  have hX19 : (X19.1 0 5).toInt = 0 := by rw [eX19, wI_ne _ _ _ _ _ _ (by decide)]; exact hX18
  refine nP5.lt (fun X20 eX20 => ?_)
  have hX20 : (X20.1 0 5).toInt = 0 := by rw [eX20, wI_ne _ _ _ _ _ _ (by decide)]; exact hX19
  refine nP5.lt (fun X21 eX21 => ?_)
  have hX21 : (X21.1 0 5).toInt = 0 := by rw [eX21, wI_ne _ _ _ _ _ _ (by decide)]; exact hX20
  refine nP5.lt (fun X22 eX22 => ?_)
  have hX22 : (X22.1 0 5).toInt = 0 := by rw [eX22, wI_ne _ _ _ _ _ _ (by decide)]; exact hX21
  refine nP5.lt (fun X23 eX23 => ?_)
  have hX23 : (X23.1 0 5).toInt = 0 := by rw [eX23, wI_ne _ _ _ _ _ _ (by decide)]; exact hX22
  refine nP5.lt (fun X24 eX24 => ?_)
  have hX24 : (X24.1 0 5).toInt = 0 := by rw [eX24, wI_ne _ _ _ _ _ _ (by decide)]; exact hX23
  refine nP5.ck ?_
  refine nP5.lt (fun X26 eX26 => ?_)
  have hX26 : (X26.1 0 5).toInt = 0 := by rw [eX26]; exact zE_5 (by decide) hX24
  refine nP5.ck ?_
  refine nP5.lt (fun X33 eX33 => ?_)
  have hX33 : (X33.1 0 5).toInt = 0 := by rw [eX33]; exact zE_5 (by decide) hX26
  refine nP5.ck ?_
  refine nP5.lt (fun X40 eX40 => ?_)
  have hX40 : (X40.1 0 5).toInt = 0 := by rw [eX40]; exact zE_5 (by decide) hX33
  refine nP5.lt (fun X46 eX46 => ?_)
  have hX46 : (X46.1 0 5).toInt = 0 := by rw [eX46, wI_ne _ _ _ _ _ _ (by decide)]; exact hX40
  refine nP5.ck ?_
  refine nP5.lt (fun X48 eX48 => ?_)
  have hX48 : (X48.1 0 5).toInt = 0 := by rw [eX48]; exact zE_5 (by decide) hX46
  refine nP5.ck ?_
  refine nP5.lt (fun X55 eX55 => ?_)
  have hX55 : (X55.1 0 5).toInt = 0 := by rw [eX55]; exact zE_5 (by decide) hX48
  refine nP5.lt (fun X61 eX61 => ?_)
  have hX61 : (X61.1 0 5).toInt = 0 := by rw [eX61, wI_ne _ _ _ _ _ _ (by decide)]; exact hX55
  refine nP5.ck ?_
  refine nP5.lt (fun X63 eX63 => ?_)
  have hX63 : (X63.1 0 5).toInt = 0 := by rw [eX63]; exact zE_5 (by decide) hX61
  exact nP5.ret hX63
theorem n5_C (X : St) : nP5 (ctor_C X) := by
  unfold ctor_C
  refine nP5.ck ?_
  refine nP5.lt (fun X2 eX2 => ?_)
  refine nP5.lt (fun X8 eX8 => ?_)
  refine nP5.ck ?_
  refine nP5.lt (fun X10 eX10 => ?_)
  refine nP5.bt (fun X19 => ?_)
  refine nP5.lt (fun X22 eX22 => ?_)
  refine nP5.ck ?_
  refine nP5.lt (fun X24 eX24 => ?_)
  refine nP5.bt (fun X33 => ?_)
  refine nP5.lt (fun X36 eX36 => ?_)
  refine nP5.lt (fun X37 eX37 => ?_)
  refine nP5.lt (fun X38 eX38 => ?_)
  refine nP5.lt (fun X39 eX39 => ?_)
  have hX39 : (X39.1 0 5).toInt = 0 := by rw [eX39, wI_at]; rfl
  refine nP5.ck ?_
  refine nP5.lt (fun X41 eX41 => ?_)
  have hX41 : (X41.1 0 5).toInt = 0 := by rw [eX41]; exact zE_5 (by decide) hX39
  refine nP5.bd (n5_ctor_C_46 hX41) (fun X50 hX50 => ?_)
  refine nP5.ck ?_
  refine nP5.lt (fun X54 eX54 => ?_)
  have hX54 : (X54.1 0 5).toInt = 0 := by rw [eX54]; exact zE_5 (by decide) hX50
  refine nP5.bd (n5_ctor_C_55 hX54) (fun X63 hX63 => ?_)
  refine nP5.ck ?_
  refine nP5.lt (fun X67 eX67 => ?_)
  have hX67 : (X67.1 0 5).toInt = 0 := by rw [eX67]; exact zE_5 (by decide) hX63
  refine nP5.bd (n5_ctor_C_61 hX67) (fun X76 hX76 => ?_)
  refine nP5.ck ?_
  refine nP5.lt (fun X80 eX80 => ?_)
  have hX80 : (X80.1 0 5).toInt = 0 := by rw [eX80]; exact zE_5 (by decide) hX76
  refine nP5.bd (n5_ctor_C_70 hX80) (fun X89 hX89 => ?_)
  refine nP5.lt (fun X92 eX92 => ?_)
  have hX92 : (X92.1 0 5).toInt = 0 := by rw [eX92, wI_ne _ _ _ _ _ _ (by decide)]; exact hX89
  refine nP5.lt (fun X93 eX93 => ?_)
  have hX93 : (X93.1 0 5).toInt = 0 := by rw [eX93, wI_ne _ _ _ _ _ _ (by decide)]; exact hX92
  exact nP5.ret hX93
/-- a constructor that ends where no program stands -/
def nP18 (F : Option St) : Prop := ∀ X, F = some X → (X.1 0 18).toInt = 0
theorem nP18.ret {X : St} (h : (X.1 0 18).toInt = 0) : nP18 (some X) := fun Y e => by rw [← Option.some.inj e]; exact h
theorem nP18.ck {c : Prop} [Decidable c] {F : Option St} (h : nP18 F) : nP18 (chk c F) := by
  by_cases g : c
  · show nP18 (if c then F else none)
    rw [if_pos g]; exact h
  · show nP18 (if c then F else none)
    rw [if_neg g]; exact fun _ e => absurd e.symm (Option.some_ne_none _)
theorem nP18.lt {v : St} {K : St → Option St} (h : ∀ Y, Y = v → nP18 (K Y)) : nP18 (letV v K) := h v rfl
theorem nP18.bd {G : Option St} {K : St → Option St} (hG : nP18 G) (h : ∀ Y, (Y.1 0 18).toInt = 0 → nP18 (K Y)) : nP18 (bndN G K) := by
  cases g : G with
  | none => exact fun _ e => absurd e.symm (Option.some_ne_none _)
  | some Y => exact h Y (hG Y g)
theorem nP18.bt {G : Option St} {K : St → Option St} (h : ∀ Y, nP18 (K Y)) : nP18 (bndN G K) := by
  cases g : G with
  | none => exact fun _ e => absurd e.symm (Option.some_ne_none _)
  | some Y => exact h Y
theorem nP18.bf {ρ : Type} {G : Option (ρ × St)} {K : ρ → St → Option St} (hG : pw G (fun _ Y => (Y.1 0 18).toInt = 0)) (h : ∀ {r : ρ} (Y : St), (Y.1 0 18).toInt = 0 → nP18 (K r Y)) : nP18 (bnd G K) := by
  cases g : G with
  | none => exact fun _ e => absurd e.symm (Option.some_ne_none _)
  | some y => exact h y.2 (hG y.1 y.2 g)
theorem kinds_18 {X : St} (h : (X.1 0 18).toInt = 0) : pw (f_kinds 0 X) (fun _ Y => (Y.1 0 18).toInt = 0) := by
  unfold f_kinds
  refine pw_eq (fun A1 d1 => pw_eq (fun A2 d2 => ?_))
  refine pw_bd fw_kindOf (fun x3 A4 f4 => pw_bd fw_kindOf (fun x5 A6 f6 => pw_bd fw_kindOf (fun x7 A8 f8 => pw_ret ?_)))
  rw [f8.1 0 18 (by decide), f6.1 0 18 (by decide), f4.1 0 18 (by decide), d2, wI_ne _ _ _ _ _ _ (by decide), d1, wI_ne _ _ _ _ _ _ (by decide)]
  exact h
theorem zE_18 {X : St} {n : Nat} (hn : ¬ n = 0) (h : (X.1 0 18).toInt = 0) : ((zE X n).1 0 18).toInt = 0 := by
  show (uA X.1 n (fun _ => 0) 0 18).toInt = 0
  unfold uA
  rw [if_neg (fun g => hn g.symm)]
  exact h
theorem n18_R {X : St} (hX : (X.1 0 18).toInt = 0) : nP18 (ctor_R X) := by
  unfold ctor_R
  refine nP18.ck ?_
  refine nP18.lt (fun X2 eX2 => ?_)
  have hX2 : (X2.1 0 18).toInt = 0 := by rw [eX2]; exact zE_18 (by decide) hX
  refine nP18.ck ?_
  refine nP18.lt (fun X9 eX9 => ?_)
  have hX9 : (X9.1 0 18).toInt = 0 := by rw [eX9]; exact zE_18 (by decide) hX2
  refine nP18.ck ?_
  refine nP18.lt (fun X16 eX16 => ?_)
  have hX16 : (X16.1 0 18).toInt = 0 := by rw [eX16]; exact zE_18 (by decide) hX9
  refine nP18.lt (fun X22 eX22 => ?_)
  have hX22 : (X22.1 0 18).toInt = 0 := by rw [eX22, wI_ne _ _ _ _ _ _ (by decide)]; exact hX16
  refine nP18.lt (fun X23 eX23 => ?_)
  have hX23 : (X23.1 0 18).toInt = 0 := by rw [eX23, wI_ne _ _ _ _ _ _ (by decide)]; exact hX22
  refine nP18.ck ?_
  refine nP18.lt (fun X25 eX25 => ?_)
  have hX25 : (X25.1 0 18).toInt = 0 := by rw [eX25]; exact zE_18 (by decide) hX23
  refine nP18.ck ?_
  refine nP18.lt (fun X32 eX32 => ?_)
  have hX32 : (X32.1 0 18).toInt = 0 := by rw [eX32]; exact zE_18 (by decide) hX25
  refine nP18.ck ?_
  refine nP18.lt (fun X39 eX39 => ?_)
  have hX39 : (X39.1 0 18).toInt = 0 := by rw [eX39]; exact zE_18 (by decide) hX32
  refine nP18.ck ?_
  refine nP18.lt (fun X46 eX46 => ?_)
  have hX46 : (X46.1 0 18).toInt = 0 := by rw [eX46]; exact zE_18 (by decide) hX39
  refine nP18.ck ?_
  refine nP18.lt (fun X53 eX53 => ?_)
  have hX53 : (X53.1 0 18).toInt = 0 := by rw [eX53]; exact zE_18 (by decide) hX46
  refine nP18.ck ?_
  refine nP18.lt (fun X60 eX60 => ?_)
  have hX60 : (X60.1 0 18).toInt = 0 := by rw [eX60]; exact zE_18 (by decide) hX53
  refine nP18.ck ?_
  refine nP18.lt (fun X67 eX67 => ?_)
  have hX67 : (X67.1 0 18).toInt = 0 := by rw [eX67]; exact zE_18 (by decide) hX60
  refine nP18.ck ?_
  refine nP18.lt (fun X74 eX74 => ?_)
  have hX74 : (X74.1 0 18).toInt = 0 := by rw [eX74]; exact zE_18 (by decide) hX67
  refine nP18.ck ?_
  refine nP18.lt (fun X81 eX81 => ?_)
  have hX81 : (X81.1 0 18).toInt = 0 := by rw [eX81]; exact zE_18 (by decide) hX74
  refine nP18.ck ?_
  refine nP18.lt (fun X88 eX88 => ?_)
  have hX88 : (X88.1 0 18).toInt = 0 := by rw [eX88]; exact zE_18 (by decide) hX81
  refine nP18.ck ?_
  refine nP18.lt (fun X95 eX95 => ?_)
  have hX95 : (X95.1 0 18).toInt = 0 := by rw [eX95]; exact zE_18 (by decide) hX88
  refine nP18.ck ?_
  refine nP18.lt (fun X102 eX102 => ?_)
  have hX102 : (X102.1 0 18).toInt = 0 := by rw [eX102]; exact zE_18 (by decide) hX95
  refine nP18.ck ?_
  refine nP18.lt (fun X109 eX109 => ?_)
  have hX109 : (X109.1 0 18).toInt = 0 := by rw [eX109]; exact zE_18 (by decide) hX102
  refine nP18.ck ?_
  refine nP18.lt (fun X116 eX116 => ?_)
  have hX116 : (X116.1 0 18).toInt = 0 := by rw [eX116]; exact zE_18 (by decide) hX109
  refine nP18.ck ?_
  refine nP18.lt (fun X123 eX123 => ?_)
  have hX123 : (X123.1 0 18).toInt = 0 := by rw [eX123]; exact zE_18 (by decide) hX116
  refine nP18.ck ?_
  refine nP18.lt (fun X130 eX130 => ?_)
  have hX130 : (X130.1 0 18).toInt = 0 := by rw [eX130]; exact zE_18 (by decide) hX123
  refine nP18.ck ?_
  refine nP18.lt (fun X137 eX137 => ?_)
  have hX137 : (X137.1 0 18).toInt = 0 := by rw [eX137]; exact zE_18 (by decide) hX130
  refine nP18.ck ?_
  refine nP18.lt (fun X144 eX144 => ?_)
  have hX144 : (X144.1 0 18).toInt = 0 := by rw [eX144]; exact zE_18 (by decide) hX137
  refine nP18.ck ?_
  refine nP18.lt (fun X151 eX151 => ?_)
  have hX151 : (X151.1 0 18).toInt = 0 := by rw [eX151]; exact zE_18 (by decide) hX144
  refine nP18.ck ?_
  refine nP18.lt (fun X158 eX158 => ?_)
  have hX158 : (X158.1 0 18).toInt = 0 := by rw [eX158]; exact zE_18 (by decide) hX151
  refine nP18.ck ?_
  refine nP18.lt (fun X165 eX165 => ?_)
  have hX165 : (X165.1 0 18).toInt = 0 := by rw [eX165]; exact zE_18 (by decide) hX158
  refine nP18.ck ?_
  refine nP18.lt (fun X172 eX172 => ?_)
  have hX172 : (X172.1 0 18).toInt = 0 := by rw [eX172]; exact zE_18 (by decide) hX165
  refine nP18.ck ?_
  refine nP18.lt (fun X179 eX179 => ?_)
  have hX179 : (X179.1 0 18).toInt = 0 := by rw [eX179]; exact zE_18 (by decide) hX172
  refine nP18.ck ?_
  refine nP18.lt (fun X186 eX186 => ?_)
  have hX186 : (X186.1 0 18).toInt = 0 := by rw [eX186]; exact zE_18 (by decide) hX179
  refine nP18.ck ?_
  refine nP18.lt (fun X193 eX193 => ?_)
  have hX193 : (X193.1 0 18).toInt = 0 := by rw [eX193]; exact zE_18 (by decide) hX186
  refine nP18.ck ?_
  refine nP18.lt (fun X200 eX200 => ?_)
  have hX200 : (X200.1 0 18).toInt = 0 := by rw [eX200]; exact zE_18 (by decide) hX193
  refine nP18.ck ?_
  refine nP18.lt (fun X207 eX207 => ?_)
  have hX207 : (X207.1 0 18).toInt = 0 := by rw [eX207]; exact zE_18 (by decide) hX200
  refine nP18.ck ?_
  refine nP18.lt (fun X214 eX214 => ?_)
  have hX214 : (X214.1 0 18).toInt = 0 := by rw [eX214]; exact zE_18 (by decide) hX207
  refine nP18.ck ?_
  refine nP18.lt (fun X221 eX221 => ?_)
  have hX221 : (X221.1 0 18).toInt = 0 := by rw [eX221]; exact zE_18 (by decide) hX214
  refine nP18.ck ?_
  refine nP18.lt (fun X228 eX228 => ?_)
  have hX228 : (X228.1 0 18).toInt = 0 := by rw [eX228]; exact zE_18 (by decide) hX221
  refine nP18.ck ?_
  refine nP18.lt (fun X235 eX235 => ?_)
  have hX235 : (X235.1 0 18).toInt = 0 := by rw [eX235]; exact zE_18 (by decide) hX228
  refine nP18.ck ?_
  refine nP18.lt (fun X242 eX242 => ?_)
  have hX242 : (X242.1 0 18).toInt = 0 := by rw [eX242]; exact zE_18 (by decide) hX235
  refine nP18.ck ?_
  refine nP18.lt (fun X249 eX249 => ?_)
  have hX249 : (X249.1 0 18).toInt = 0 := by rw [eX249]; exact zE_18 (by decide) hX242
  refine nP18.ck ?_
  refine nP18.lt (fun X256 eX256 => ?_)
  have hX256 : (X256.1 0 18).toInt = 0 := by rw [eX256]; exact zE_18 (by decide) hX249
  refine nP18.ck ?_
  refine nP18.lt (fun X263 eX263 => ?_)
  have hX263 : (X263.1 0 18).toInt = 0 := by rw [eX263]; exact zE_18 (by decide) hX256
  refine nP18.ck ?_
  refine nP18.lt (fun X270 eX270 => ?_)
  have hX270 : (X270.1 0 18).toInt = 0 := by rw [eX270]; exact zE_18 (by decide) hX263
  refine nP18.ck ?_
  refine nP18.lt (fun X277 eX277 => ?_)
  have hX277 : (X277.1 0 18).toInt = 0 := by rw [eX277]; exact zE_18 (by decide) hX270
  refine nP18.ck ?_
  refine nP18.lt (fun X284 eX284 => ?_)
  have hX284 : (X284.1 0 18).toInt = 0 := by rw [eX284]; exact zE_18 (by decide) hX277
  refine nP18.ck ?_
  refine nP18.lt (fun X291 eX291 => ?_)
  have hX291 : (X291.1 0 18).toInt = 0 := by rw [eX291]; exact zE_18 (by decide) hX284
  refine nP18.ck ?_
  refine nP18.lt (fun X298 eX298 => ?_)
  have hX298 : (X298.1 0 18).toInt = 0 := by rw [eX298]; exact zE_18 (by decide) hX291
  refine nP18.ck ?_
  refine nP18.lt (fun X305 eX305 => ?_)
  have hX305 : (X305.1 0 18).toInt = 0 := by rw [eX305]; exact zE_18 (by decide) hX298
  refine nP18.ck ?_
  refine nP18.lt (fun X312 eX312 => ?_)
  have hX312 : (X312.1 0 18).toInt = 0 := by rw [eX312]; exact zE_18 (by decide) hX305
  refine nP18.ck ?_
  refine nP18.lt (fun X319 eX319 => ?_)
  have hX319 : (X319.1 0 18).toInt = 0 := by rw [eX319]; exact zE_18 (by decide) hX312
  refine nP18.ck ?_
  refine nP18.lt (fun X326 eX326 => ?_)
  have hX326 : (X326.1 0 18).toInt = 0 := by rw [eX326]; exact zE_18 (by decide) hX319
  refine nP18.ck ?_
  refine nP18.lt (fun X333 eX333 => ?_)
  have hX333 : (X333.1 0 18).toInt = 0 := by rw [eX333]; exact zE_18 (by decide) hX326
  refine nP18.ck ?_
  refine nP18.lt (fun X340 eX340 => ?_)
  have hX340 : (X340.1 0 18).toInt = 0 := by rw [eX340]; exact zE_18 (by decide) hX333
  refine nP18.ck ?_
  refine nP18.lt (fun X347 eX347 => ?_)
  have hX347 : (X347.1 0 18).toInt = 0 := by rw [eX347]; exact zE_18 (by decide) hX340
  refine nP18.ck ?_
  refine nP18.lt (fun X354 eX354 => ?_)
  have hX354 : (X354.1 0 18).toInt = 0 := by rw [eX354]; exact zE_18 (by decide) hX347
  refine nP18.ck ?_
  refine nP18.lt (fun X361 eX361 => ?_)
  have hX361 : (X361.1 0 18).toInt = 0 := by rw [eX361]; exact zE_18 (by decide) hX354
  refine nP18.ck ?_
  refine nP18.lt (fun X368 eX368 => ?_)
  have hX368 : (X368.1 0 18).toInt = 0 := by rw [eX368]; exact zE_18 (by decide) hX361
  refine nP18.ck ?_
  refine nP18.lt (fun X375 eX375 => ?_)
  have hX375 : (X375.1 0 18).toInt = 0 := by rw [eX375]; exact zE_18 (by decide) hX368
  refine nP18.ck ?_
  refine nP18.lt (fun X382 eX382 => ?_)
  have hX382 : (X382.1 0 18).toInt = 0 := by rw [eX382]; exact zE_18 (by decide) hX375
  refine nP18.ck ?_
  refine nP18.lt (fun X389 eX389 => ?_)
  have hX389 : (X389.1 0 18).toInt = 0 := by rw [eX389]; exact zE_18 (by decide) hX382
  refine nP18.ck ?_
  refine nP18.lt (fun X396 eX396 => ?_)
  have hX396 : (X396.1 0 18).toInt = 0 := by rw [eX396]; exact zE_18 (by decide) hX389
  refine nP18.ck ?_
  refine nP18.lt (fun X403 eX403 => ?_)
  have hX403 : (X403.1 0 18).toInt = 0 := by rw [eX403]; exact zE_18 (by decide) hX396
  refine nP18.ck ?_
  refine nP18.lt (fun X410 eX410 => ?_)
  have hX410 : (X410.1 0 18).toInt = 0 := by rw [eX410]; exact zE_18 (by decide) hX403
  refine nP18.ck ?_
  refine nP18.lt (fun X417 eX417 => ?_)
  have hX417 : (X417.1 0 18).toInt = 0 := by rw [eX417]; exact zE_18 (by decide) hX410
  refine nP18.ck ?_
  refine nP18.lt (fun X424 eX424 => ?_)
  have hX424 : (X424.1 0 18).toInt = 0 := by rw [eX424]; exact zE_18 (by decide) hX417
  refine nP18.ck ?_
  refine nP18.lt (fun X431 eX431 => ?_)
  have hX431 : (X431.1 0 18).toInt = 0 := by rw [eX431]; exact zE_18 (by decide) hX424
  refine nP18.ck ?_
  refine nP18.lt (fun X438 eX438 => ?_)
  have hX438 : (X438.1 0 18).toInt = 0 := by rw [eX438]; exact zE_18 (by decide) hX431
  refine nP18.ck ?_
  refine nP18.lt (fun X445 eX445 => ?_)
  have hX445 : (X445.1 0 18).toInt = 0 := by rw [eX445]; exact zE_18 (by decide) hX438
  refine nP18.ck ?_
  refine nP18.lt (fun X452 eX452 => ?_)
  have hX452 : (X452.1 0 18).toInt = 0 := by rw [eX452]; exact zE_18 (by decide) hX445
  refine nP18.ck ?_
  refine nP18.lt (fun X459 eX459 => ?_)
  have hX459 : (X459.1 0 18).toInt = 0 := by rw [eX459]; exact zE_18 (by decide) hX452
  refine nP18.ck ?_
  refine nP18.lt (fun X466 eX466 => ?_)
  have hX466 : (X466.1 0 18).toInt = 0 := by rw [eX466]; exact zE_18 (by decide) hX459
  refine nP18.ck ?_
  refine nP18.lt (fun X473 eX473 => ?_)
  have hX473 : (X473.1 0 18).toInt = 0 := by rw [eX473]; exact zE_18 (by decide) hX466
  refine nP18.ck ?_
  refine nP18.lt (fun X480 eX480 => ?_)
  have hX480 : (X480.1 0 18).toInt = 0 := by rw [eX480]; exact zE_18 (by decide) hX473
  refine nP18.ck ?_
  refine nP18.lt (fun X487 eX487 => ?_)
  have hX487 : (X487.1 0 18).toInt = 0 := by rw [eX487]; exact zE_18 (by decide) hX480
  refine nP18.ck ?_
  refine nP18.lt (fun X494 eX494 => ?_)
  have hX494 : (X494.1 0 18).toInt = 0 := by rw [eX494]; exact zE_18 (by decide) hX487
  refine nP18.ck ?_
  refine nP18.lt (fun X501 eX501 => ?_)
  have hX501 : (X501.1 0 18).toInt = 0 := by rw [eX501]; exact zE_18 (by decide) hX494
  refine nP18.ck ?_
  refine nP18.lt (fun X508 eX508 => ?_)
  have hX508 : (X508.1 0 18).toInt = 0 := by rw [eX508]; exact zE_18 (by decide) hX501
  refine nP18.ck ?_
  refine nP18.lt (fun X515 eX515 => ?_)
  have hX515 : (X515.1 0 18).toInt = 0 := by rw [eX515]; exact zE_18 (by decide) hX508
  refine nP18.ck ?_
  refine nP18.lt (fun X522 eX522 => ?_)
  have hX522 : (X522.1 0 18).toInt = 0 := by rw [eX522]; exact zE_18 (by decide) hX515
  refine nP18.ck ?_
  refine nP18.lt (fun X529 eX529 => ?_)
  have hX529 : (X529.1 0 18).toInt = 0 := by rw [eX529]; exact zE_18 (by decide) hX522
  refine nP18.ck ?_
  refine nP18.lt (fun X536 eX536 => ?_)
  have hX536 : (X536.1 0 18).toInt = 0 := by rw [eX536]; exact zE_18 (by decide) hX529
  refine nP18.ck ?_
  refine nP18.lt (fun X543 eX543 => ?_)
  have hX543 : (X543.1 0 18).toInt = 0 := by rw [eX543]; exact zE_18 (by decide) hX536
  refine nP18.ck ?_
  refine nP18.lt (fun X550 eX550 => ?_)
  have hX550 : (X550.1 0 18).toInt = 0 := by rw [eX550]; exact zE_18 (by decide) hX543
  refine nP18.ck ?_
  refine nP18.lt (fun X557 eX557 => ?_)
  have hX557 : (X557.1 0 18).toInt = 0 := by rw [eX557]; exact zE_18 (by decide) hX550
  refine nP18.ck ?_
  refine nP18.lt (fun X564 eX564 => ?_)
  have hX564 : (X564.1 0 18).toInt = 0 := by rw [eX564]; exact zE_18 (by decide) hX557
  refine nP18.bf (kinds_18 hX564) (fun X571 hX571 => ?_)
  exact nP18.ret hX571
theorem pn_Qv63 : ∀ x ∈ PN 2, x ∉ Qv63 := by decide +kernel
theorem pn_Qv50 : ∀ x ∈ PN 24, x ∉ Qv50 := by decide +kernel
theorem p8_Qv63 : ∀ x ∈ ([4, 11005, 11200, 11400, 11600, 11800, 12000, 12400] : List Nat), x ∉ Qv63 := by decide +kernel
theorem p8_Qv50 : ∀ x ∈ ([4, 11005, 11200, 11400, 11600, 11800, 12000, 12400] : List Nat), x ∉ Qv50 := by decide +kernel
/-- reading leaves the other program -/
theorem jr_into {X : St} {e f : Nat} (he : (e = 2 ∧ f = 24) ∨ (e = 24 ∧ f = 2)) (h : JC X) : pw (g_Reader_readInto f 1 (X.1 0 1) X) (fun _ Y => (Y.2.2 0 2 = X.2.2 0 2 ∧ Y.2.2 0 9 = X.2.2 0 9) ∧ Y.1 0 3 = X.1 0 3 ∧ PGS e X Y) := by
  have g1 : 0 ≤ (X.1 0 1).toInt ∧ (X.1 0 1).toInt ≤ 3000 := h.1.1 0 1
  rcases he with ⟨z1, z2⟩ | ⟨z1, z2⟩
  · rw [z1, z2]
    exact pw_mono (ok.pw1 (v_readInto_R24T h.1 g1)) (fun _ Y g => ⟨⟨g.1.1.2.2 0 2 n2_Qv63, g.1.1.2.2 0 9 n9_Qv63⟩, g.1.1.1 0 3 (show (3 : Nat) ∉ Qv63 from by decide), PGS.of (Or.inl rfl) g.1.1 pn_Qv63⟩)
  · rw [z1, z2]
    exact pw_mono (ok.pw1 (v_readInto_R2T h.1 g1)) (fun _ Y g => ⟨⟨g.1.1.2.2 0 2 n2_Qv50, g.1.1.2.2 0 9 n9_Qv50⟩, g.1.1.1 0 3 (show (3 : Nat) ∉ Qv50 from by decide), PGS.of (Or.inr rfl) g.1.1 pn_Qv50⟩)
/-- reading leaves the guards -/
theorem jr_into8 {X : St} {e f : Nat} (he : (e = 2 ∧ f = 24) ∨ (e = 24 ∧ f = 2)) (h : JC X) : pw (g_Reader_readInto f 1 (X.1 0 1) X) (fun _ Y => (Y.2.2 0 2 = X.2.2 0 2 ∧ Y.2.2 0 9 = X.2.2 0 9) ∧ C8 X Y) := by
  have g1 : 0 ≤ (X.1 0 1).toInt ∧ (X.1 0 1).toInt ≤ 3000 := h.1.1 0 1
  rcases he with ⟨z1, z2⟩ | ⟨z1, z2⟩
  · rw [z2]
    exact pw_mono (ok.pw1 (v_readInto_R24T h.1 g1)) (fun _ Y g => ⟨⟨g.1.1.2.2 0 2 n2_Qv63, g.1.1.2.2 0 9 n9_Qv63⟩, C8.of g.1.1 p8_Qv63⟩)
  · rw [z2]
    exact pw_mono (ok.pw1 (v_readInto_R2T h.1 g1)) (fun _ Y g => ⟨⟨g.1.1.2.2 0 2 n2_Qv50, g.1.1.2.2 0 9 n9_Qv50⟩, C8.of g.1.1 p8_Qv50⟩)
theorem jl_tell {X : St} {p1 : Int32} {p2 : Int32} (h : JC X) : pw (g_Court_tell p1 p2 X) (fun _ Y => CLl X Y) := by
  obtain ⟨hI, ⟨hr9, hr2, hP⟩ | ⟨hr9, hr2, hP⟩⟩ := h
  · exact pw_mono (ok.pw1 (v_Court_tell_C2 hI hr9)) (fun _ Y g => CLl.of g.1 (by decide +kernel))
  · exact pw_mono (ok.pw1 (v_Court_tell_C24 hI hr9)) (fun _ Y g => CLl.of g.1 (by decide +kernel))
theorem jl_judge {X : St} (h : JC X) : pw (g_Court_judge X) (fun _ Y => CLl X Y) := by
  obtain ⟨hI, ⟨hr9, hr2, hP⟩ | ⟨hr9, hr2, hP⟩⟩ := h
  · exact pw_mono (ok.pw1 (v_Court_judge_C2 hI hr9 hP)) (fun _ Y g => CLl.of g.1 (by decide +kernel))
  · exact pw_mono (ok.pw1 (v_Court_judge_C24 hI hr9 hP)) (fun _ Y g => CLl.of g.1 (by decide +kernel))
theorem jr_intoL {X : St} {e f : Nat} (he : (e = 2 ∧ f = 24) ∨ (e = 24 ∧ f = 2)) (h : JC X) : pw (g_Reader_readInto f 1 (X.1 0 1) X) (fun _ Y => (Y.2.2 0 2 = X.2.2 0 2 ∧ Y.2.2 0 9 = X.2.2 0 9) ∧ CLl X Y) := by
  have g1 : 0 ≤ (X.1 0 1).toInt ∧ (X.1 0 1).toInt ≤ 3000 := h.1.1 0 1
  rcases he with ⟨z1, z2⟩ | ⟨z1, z2⟩
  · rw [z2]
    exact pw_mono (ok.pw1 (v_readInto_R24T h.1 g1)) (fun _ Y g => ⟨⟨g.1.1.2.2 0 2 n2_Qv63, g.1.1.2.2 0 9 n9_Qv63⟩, CLl.of g.1.1 (by decide +kernel)⟩)
  · rw [z2]
    exact pw_mono (ok.pw1 (v_readInto_R2T h.1 g1)) (fun _ Y g => ⟨⟨g.1.1.2.2 0 2 n2_Qv50, g.1.1.2.2 0 9 n9_Qv50⟩, CLl.of g.1.1 (by decide +kernel)⟩)
set_option maxHeartbeats 4000000 in
theorem w5_run_C2 {p1 : Int32} {X : St} (hI : INV X) (hr0_9 : X.2.2 0 9 = 3) (hP : PGC 2 20 21 19 X) : ok (g_Court_run p1 X) (fun r Y => ¬ r.toInt = -1 → ¬ (Y.1 0 5).toInt = 0) := by
  unfold g_Court_run
  refine ok.letE (v1 := (X.1 0 4)) rfl ?_
  refine ok.ite (fun c1 => ?_) (fun c1 => ?_)
  · skip
    have g2 := i32_le (X.1 0 4)
    exact ok.ret (fun q => absurd (by decide) q)
  · skip
    refine ok.bd (v_Court_isFuel hI) ?_
    rintro x2 _ rfl
    refine ok.ite (fun c4 => ?_) (fun c4 => ?_)
    · skip
      have g5 := i32_le x2
      exact ok.ret (fun q => absurd (by decide) q)
    · skip
      refine ok.wI (L := [5]) hI (show True from trivial) (show (5 : Nat) ∈ [5] from by decide) (by decide) (fun Z6 hIZ6 hFZ6 hkZ6 hoZ6 => ?_)
      refine ok.ck (by rw [((hFZ6.2.2 0 9 (show (9 : Nat) ∉ [5] from by decide)).trans hr0_9)]; decide) ?_
      refine ok.letE (v1 := 2) (by rw [((hFZ6.2.2 0 9 (show (9 : Nat) ∉ [5] from by decide)).trans hr0_9)]) ?_
      refine ok.bd (v_Running_runAll_2_55 hIZ6 (show (1 : Int) = 0 ∨ (1 : Int) = 1 from by omega) (PGC.fr hP (Fr.rf.tr hFZ6 (by decide)) ⟨n406_Qv66, n401_Qv66, fun j => n4000_Qv66, fun j => n4200_Qv66, fun j => n3800_Qv66⟩)) ?_
      rintro x6 Z8 ⟨hFZ8, hIZ8⟩
      exact ok.ret (fun _ => by
        rw [hFZ8.1 0 5 (show (5 : Nat) ∉ Qv11 from by decide), hkZ6]
        decide)
set_option maxHeartbeats 4000000 in
theorem w5_run_C24 {p1 : Int32} {X : St} (hI : INV X) (hr0_9 : X.2.2 0 9 = 25) (hP : PGC 24 42 43 41 X) : ok (g_Court_run p1 X) (fun r Y => ¬ r.toInt = -1 → ¬ (Y.1 0 5).toInt = 0) := by
  unfold g_Court_run
  refine ok.letE (v1 := (X.1 0 4)) rfl ?_
  refine ok.ite (fun c1 => ?_) (fun c1 => ?_)
  · skip
    have g2 := i32_le (X.1 0 4)
    exact ok.ret (fun q => absurd (by decide) q)
  · skip
    refine ok.bd (v_Court_isFuel hI) ?_
    rintro x2 _ rfl
    refine ok.ite (fun c4 => ?_) (fun c4 => ?_)
    · skip
      have g5 := i32_le x2
      exact ok.ret (fun q => absurd (by decide) q)
    · skip
      refine ok.wI (L := [5]) hI (show True from trivial) (show (5 : Nat) ∈ [5] from by decide) (by decide) (fun Z6 hIZ6 hFZ6 hkZ6 hoZ6 => ?_)
      refine ok.ck (by rw [((hFZ6.2.2 0 9 (show (9 : Nat) ∉ [5] from by decide)).trans hr0_9)]; decide) ?_
      refine ok.letE (v1 := 24) (by rw [((hFZ6.2.2 0 9 (show (9 : Nat) ∉ [5] from by decide)).trans hr0_9)]) ?_
      refine ok.bd (v_Running_runAll_24_55 hIZ6 (show (1 : Int) = 0 ∨ (1 : Int) = 1 from by omega) (PGC.fr hP (Fr.rf.tr hFZ6 (by decide)) ⟨n4806_Qv66, n4801_Qv66, fun j => n8400_Qv66, fun j => n8600_Qv66, fun j => n8200_Qv66⟩)) ?_
      rintro x6 Z8 ⟨hFZ8, hIZ8⟩
      exact ok.ret (fun _ => by
        rw [hFZ8.1 0 5 (show (5 : Nat) ∉ Qv11 from by decide), hkZ6]
        decide)
theorem j5_run {X : St} {p1 : Int32} (h : JC X) : pw (g_Court_run p1 X) (fun r Y => ¬ r.toInt = -1 → ¬ (Y.1 0 5).toInt = 0) := by
  obtain ⟨hI, ⟨hr9, hr2, hP⟩ | ⟨hr9, hr2, hP⟩⟩ := h
  · exact ok.pw1 (w5_run_C2 hI hr9 hP)
  · exact ok.pw1 (w5_run_C24 hI hr9 hP)
set_option maxHeartbeats 4000000 in
theorem w5_runUntold_C2 {p1 : Int32} {X : St} (hI : INV X) (hr0_9 : X.2.2 0 9 = 3) (hP : PGC 2 20 21 19 X) : ok (g_Court_runUntold p1 X) (fun r Y => ¬ r.toInt = -1 → ¬ (Y.1 0 5).toInt = 0) := by
  unfold g_Court_runUntold
  refine ok.letE (v1 := (X.1 0 3)) rfl ?_
  refine ok.ite (fun c1 => ?_) (fun c1 => ?_)
  · skip
    have g2 := i32_le (X.1 0 3)
    exact ok.ret (fun q => absurd (by decide) q)
  · skip
    refine ok.bd (v_Court_isFuel hI) ?_
    rintro x2 _ rfl
    refine ok.ite (fun c4 => ?_) (fun c4 => ?_)
    · skip
      have g5 := i32_le x2
      exact ok.ret (fun q => absurd (by decide) q)
    · skip
      refine ok.wI (L := [5]) hI (show True from trivial) (show (5 : Nat) ∈ [5] from by decide) (by decide) (fun Z6 hIZ6 hFZ6 hkZ6 hoZ6 => ?_)
      refine ok.ck (by rw [((hFZ6.2.2 0 9 (show (9 : Nat) ∉ [5] from by decide)).trans hr0_9)]; decide) ?_
      refine ok.letE (v1 := 2) (by rw [((hFZ6.2.2 0 9 (show (9 : Nat) ∉ [5] from by decide)).trans hr0_9)]) ?_
      refine ok.bd (v_Running_runAll_2_55 hIZ6 (show (0 : Int) = 0 ∨ (0 : Int) = 1 from by omega) (PGC.fr hP (Fr.rf.tr hFZ6 (by decide)) ⟨n406_Qv66, n401_Qv66, fun j => n4000_Qv66, fun j => n4200_Qv66, fun j => n3800_Qv66⟩)) ?_
      rintro x6 Z8 ⟨hFZ8, hIZ8⟩
      exact ok.ret (fun _ => by
        rw [hFZ8.1 0 5 (show (5 : Nat) ∉ Qv11 from by decide), hkZ6]
        decide)
set_option maxHeartbeats 4000000 in
theorem w5_runUntold_C24 {p1 : Int32} {X : St} (hI : INV X) (hr0_9 : X.2.2 0 9 = 25) (hP : PGC 24 42 43 41 X) : ok (g_Court_runUntold p1 X) (fun r Y => ¬ r.toInt = -1 → ¬ (Y.1 0 5).toInt = 0) := by
  unfold g_Court_runUntold
  refine ok.letE (v1 := (X.1 0 3)) rfl ?_
  refine ok.ite (fun c1 => ?_) (fun c1 => ?_)
  · skip
    have g2 := i32_le (X.1 0 3)
    exact ok.ret (fun q => absurd (by decide) q)
  · skip
    refine ok.bd (v_Court_isFuel hI) ?_
    rintro x2 _ rfl
    refine ok.ite (fun c4 => ?_) (fun c4 => ?_)
    · skip
      have g5 := i32_le x2
      exact ok.ret (fun q => absurd (by decide) q)
    · skip
      refine ok.wI (L := [5]) hI (show True from trivial) (show (5 : Nat) ∈ [5] from by decide) (by decide) (fun Z6 hIZ6 hFZ6 hkZ6 hoZ6 => ?_)
      refine ok.ck (by rw [((hFZ6.2.2 0 9 (show (9 : Nat) ∉ [5] from by decide)).trans hr0_9)]; decide) ?_
      refine ok.letE (v1 := 24) (by rw [((hFZ6.2.2 0 9 (show (9 : Nat) ∉ [5] from by decide)).trans hr0_9)]) ?_
      refine ok.bd (v_Running_runAll_24_55 hIZ6 (show (0 : Int) = 0 ∨ (0 : Int) = 1 from by omega) (PGC.fr hP (Fr.rf.tr hFZ6 (by decide)) ⟨n4806_Qv66, n4801_Qv66, fun j => n8400_Qv66, fun j => n8600_Qv66, fun j => n8200_Qv66⟩)) ?_
      rintro x6 Z8 ⟨hFZ8, hIZ8⟩
      exact ok.ret (fun _ => by
        rw [hFZ8.1 0 5 (show (5 : Nat) ∉ Qv11 from by decide), hkZ6]
        decide)
theorem j5_runUntold {X : St} {p1 : Int32} (h : JC X) : pw (g_Court_runUntold p1 X) (fun r Y => ¬ r.toInt = -1 → ¬ (Y.1 0 5).toInt = 0) := by
  obtain ⟨hI, ⟨hr9, hr2, hP⟩ | ⟨hr9, hr2, hP⟩⟩ := h
  · exact ok.pw1 (w5_runUntold_C2 hI hr9 hP)
  · exact ok.pw1 (w5_runUntold_C24 hI hr9 hP)
theorem sides : SidesOK JJ := by
  refine ⟨?_, ?_, ?_, ?_, ?_, ?_, ?_, ?_, ?_, ?_, ?_, ?_, ?_, ?_, ?_⟩
  · obtain ⟨X, eu, h, h0⟩ := ctor_C_ok
    obtain ⟨X1, e1, h1, h2⟩ := ctor_R_ok
    obtain ⟨t3, t25⟩ := ct_C Z0 X eu
    have k3 : TOK (2 + 1) X := ⟨K9, t3, List.prefix_rfl⟩
    have k25 : TOK (24 + 1) X := ⟨K9, t25, List.prefix_rfl⟩
    have z : (X.1 0 3).toInt = 0 ∧ (X1.1 0 3).toInt = 0 := ⟨n3_C Z0 X eu, n3_R (show ((0 : Int32)).toInt = 0 from rfl) X1 e1⟩
    have z4 : (X.1 0 4).toInt = 0 ∧ (X1.1 0 4).toInt = 0 ∧ (X1.1 0 18).toInt = 0 := ⟨n4_C Z0 X eu, (h1.2.2.1 z.2).1, n18_R (show ((0 : Int32)).toInt = 0 from rfl) X1 e1⟩
    refine ⟨X, X1, eu, e1, h, h1, h0.trans h2.symm, fun n hn i hi => by omega, ?_⟩
    refine ⟨⟨?_, fun q => absurd z.2 q⟩, LST.zero (h1.2.2.1 z.2).2 (n5_C Z0 X eu)⟩
    obtain ⟨_, ⟨hr9, hr2, _⟩ | ⟨hr9, hr2, _⟩⟩ := h
    · exact ⟨2, 24, Or.inl ⟨rfl, rfl⟩, ⟨hr9, hr2⟩, ⟨k3, k25⟩, Or.inl ⟨z.1, z.2, z4⟩⟩
    · exact ⟨24, 2, Or.inr ⟨rfl, rfl⟩, ⟨hr9, hr2⟩, ⟨k25, k3⟩, Or.inl ⟨z.1, z.2, z4⟩⟩
  · intro v0 v1 v2 v3 v4 XC XR ⟨hC, hM, ht, hE, hG⟩
    obtain ⟨n, hn⟩ : ∃ n : Nat, (XR.1 0 0).toInt = (n : Int) := ⟨ix (XR.1 0 0), (ixc hM.1.1.1).symm⟩
    have hn3 : n ≤ 3000 := by
      have := hM.1.1.2
      omega
    refine both (ok_pw (jc_feed hC) (pw_and (cl_feed (n := n) (by omega) hn3) (jt_feed hC))) (ok_pw (m_feed hM v0 v1 v2 v3 v4) (pw_and (rl_feed hn hn3) (pw_and (pw_and (rc_feed R7k.rf) (pw_mono (pw_and (rg10_feed R10.rf) (rl11_feed RLq.rf)) (fun _ Y z => (⟨z.1.rk11, z.2⟩ : RK14 XR Y)))) (pw_im (fun (v : KVa True XR) => vkr_feed v))))) ?_
    rintro r X r1 X1 ⟨⟨q, qt⟩, ⟨qa, qb⟩, qc⟩ ⟨⟨p, pt, pu⟩, ⟨pa, pb⟩, pc, pv⟩
    rcases qt with ⟨a, b, c⟩ | ⟨a, b, c⟩
    · obtain ⟨e1, e2⟩ := pt (by omega)
      refine ⟨q, p, by omega, fun m hm => ?_, hG.kp qc pc pv⟩
      have em : m = n + 20 := by omega
      rw [em]
      exact (hE n hn).fd (qa (by omega)) (pa (by omega))
    · obtain ⟨e1, e2⟩ := pu (by omega)
      refine ⟨q, p, by omega, fun m hm => ?_, hG.kp qc pc pv⟩
      have em : m = n := by omega
      rw [em, qb (by omega), pb (by omega)]
      exact hE n hn
  · intro v0 XC XR ⟨hC, hM, ht, hE, hG⟩
    obtain ⟨n, hn⟩ : ∃ n : Nat, (XR.1 0 0).toInt = (n : Int) := ⟨ix (XR.1 0 0), (ixc hM.1.1.1).symm⟩
    refine both (ok_pw (jc_end hC) (jt_end hC)) (ok_pw (m_end hM v0) (pw_and (ra_end R1.rf) (pw_and (pw_and (rc_end R7k.rf) (pw_mono (pw_and (rg10_end R10.rf) (rl11_end RLq.rf)) (fun _ Y z => (⟨z.1.rk11, z.2⟩ : RK14 XR Y)))) (pw_im (fun (v : KVa True XR) => vkr_end v))))) ?_
    rintro r X r1 X1 ⟨⟨q, qt⟩, qr, qc⟩ ⟨⟨p, pt, pu⟩, pr, pc, pv⟩
    have pr : X1.1 1 = XR.1 1 := pr
    have rows : ∀ m : Nat, m ≤ n → EQn m X X1 := fun m hm i hi => by
      rw [qr, pr]
      exact hE n hn i (by omega)
    rcases qt with ⟨a, b, c, d⟩ | ⟨a, c, d⟩
    · obtain ⟨e1, e2⟩ := pt ⟨a, by omega⟩
      exact ⟨q, p, by omega, fun m hm => rows m (by omega), hG.kp qc pc pv⟩
    · obtain ⟨e1, e2⟩ := pu (by omega)
      exact ⟨q, p, by omega, fun m hm => rows m (by omega), hG.kp qc pc pv⟩
  · intro XC XR ⟨hC, hM, ht, hE, hG⟩
    obtain ⟨n, hn⟩ : ∃ n : Nat, (XR.1 0 0).toInt = (n : Int) := ⟨ix (XR.1 0 0), (ixc hM.1.1.1).symm⟩
    have hn3 : n ≤ 3000 := by
      have := hM.1.1.2
      omega
    have hT : TXT (chT XC n) n := chT_txt hn3
    have hc : ∀ i, i < n → (XC.1 1 i &&& 255).toInt = chT XC n i := fun i hi => by
      unfold chT
      rw [if_pos hi]
    have htn : (XC.1 0 1).toInt = (n : Int) := ht.trans hn
    obtain ⟨⟨⟨e, f, he, hG2⟩, hk⟩, hL⟩ := hG
    have hby : ∀ i, i < n → BY (vp_nar .byte (XR.1 1 i)) (chT XC n i) := fun i hi => by
      rw [← hc i hi, hE n hn i hi]
      exact BY_nar _
    have he1 : e = 2 ∨ e = 24 := he.elim (fun z => Or.inl z.1) (fun z => Or.inr z.1)
    have hf1 : f = 2 ∨ f = 24 := he.elim (fun z => Or.inr z.2) (fun z => Or.inl z.2)
    obtain ⟨⟨a1, a2⟩, ⟨b1, b2⟩, d⟩ := hG2
    have hd : ∃ (ch : Tx) (ps : List Pt) (c : List Ins) (told : Nat → Bool), ((XC.1 0 3).toInt = 0 ∧ (XR.1 0 3).toInt = 0 ∧ (XC.1 0 4).toInt = 0 ∧ (XR.1 0 4).toInt = 0 ∧ (XR.1 0 18).toInt = 0) ∨ (¬ (XC.1 0 3).toInt = 0 ∧ ¬ (XR.1 0 3).toInt = 0 ∧ ∃ n0, PG7 ch n0 ps c told XR ∧ CP7 e ch ps told c XC ∧ (PWd ps ∧ ∀ a ∈ c, a.1 = 34 → WKd 40 a.2.2.2) ∧ ps.length ≤ 40 ∧ KVa True XR ∧ (SC10 e ps c XC ∧ psx ps c 0 = 0) ∧ J10 e ch ps c told XC XR) := by
      rcases d with d | ⟨d1, d2, ch, n0, ps, c, told, d3⟩
      · exact ⟨chT XC n, [], [], fun _ => true, Or.inl d⟩
      · exact ⟨ch, ps, c, told, Or.inr ⟨d1, d2, n0, d3⟩⟩
    clear d
    obtain ⟨ch, ps, c, told, d⟩ := hd
    refine both (ok_pw (jc_read hC) (pw_and (l_read10 (e := f) (f := e) (ch := chT XC n) (n := n) hf1 he1 hT htn hc b2 a2 a1 (jr_into he hC)) (pw_and (l_read8 (w := f) hf1 a2 (jr_into8 he hC)) (l_readL (w := f) hf1 a2 (jr_intoL he hC))))) (ok_pw (m_read hM) (pw_and (x_read7 hj7 (ch := chT XC n) hT hn hby (fun z => ?_)) (pw_and (x_read10 (ch := ch) (ps := ps) (c := c) (told := told) hM.1.1 (fun z => ?_)) (k_read11 (ch := chT XC n) hT hn hby (fun z => ?_))))) ?_
    · rcases d with g | ⟨_, _, n1, g, _⟩
      · exact absurd g.2.1 z
      · exact ⟨ch, n1, ps, c, told, g⟩
    · rcases d with g | ⟨_, _, n1, g, _, g1, g2, _⟩
      · exact absurd g.2.1 z
      · exact ⟨⟨n1, g⟩, g1, g2⟩
    · rcases d with g | ⟨_, _, n1, g, _, g1, g2, _⟩
      · exact absurd g.2.1 z
      · exact ⟨ch, n1, ps, c, told, g, g1, g2⟩
    · rintro r X r1 X1 ⟨⟨q, qt⟩, qr, q8, qL⟩ ⟨⟨p, pt⟩, pr, p8, p11⟩
      exact ⟨q, p, qt.trans pt.symm, fun m hm i hi => by omega, ⟨PJ10.read he a1 a2 b1 d qr pr q8 p8 (fun z => (p.2.2.1 z).1), p11.2⟩, hL.read he a1 qr pr qL p11.1⟩
  · intro v0 XC XR h
    refine both (ok_pw (jc_fault h.1) (jt_fault h.1)) (ok_pw (m_fault h.2.1 v0) (pw_and (ra_fault R1.rf) (pw_and (pw_and (rc_fault R7k.rf) (pw_mono (pw_and (rg10_fault R10.rf) (rl11_fault RLq.rf)) (fun _ Y z => (⟨z.1.rk11, z.2⟩ : RK14 XR Y)))) (pw_im (fun (v : KVa True XR) => vkr_fault v))))) ?_
    rintro r X r1 X1 ⟨⟨q, qt⟩, qr, qc⟩ ⟨⟨p, pt⟩, pr, pc, pv⟩
    exact h.keep q p qt pt qr qc pr pc pv
  · intro v0 v1 XC XR hv h
    obtain ⟨⟨⟨e, f, he, hG⟩, hk⟩, hL⟩ := h.2.2.2.2
    have he1 : e = 2 ∨ e = 24 := he.elim (fun z => Or.inl z.1) (fun z => Or.inr z.1)
    have hp : ¬ (XR.1 0 3).toInt = 0 → 0 ≤ (XR.1 0 18).toInt ∧ (XR.1 0 18).toInt ≤ 100 := fun c => by
      rcases hG.2.2 with g | ⟨_, _, ch, n1, ps, c1, told, g, _, _, g2, _⟩
      · exact absurd g.2.1 c
      · have := g.prt
        omega
    refine both (ok_pw (jc_tell h.1) (pw_and (pw_and (jt_tell h.1) (jl_tell h.1)) (l_tell7 he1 hG.1.1))) (ok_pw (m_tell h.2.1 v0 v1) (pw_and (ra_tell R1.rf) (x_tell7 hp))) ?_
    rintro r X r1 X1 ⟨⟨q, qt⟩, ⟨qr, qL⟩, qa⟩ ⟨⟨p, pt⟩, pr, pa⟩
    exact h.kp0 q p qt pt qr pr ⟨⟨⟨e, f, he, hG.tell he hv qa pa⟩, hk.tell pa⟩, hL.kp qL (RLq.tell pa)⟩
  · intro XC XR h
    obtain ⟨⟨⟨e, f, he, hG⟩, hk⟩, hL⟩ := h.2.2.2.2
    have he1 : e = 2 ∨ e = 24 := he.elim (fun z => Or.inl z.1) (fun z => Or.inr z.1)
    have hf1 : f = 2 ∨ f = 24 := he.elim (fun z => Or.inr z.2) (fun z => Or.inl z.2)
    rcases hG.2.2 with ⟨h3, h3r, h4, h4r, h18⟩ | ⟨h3, h3r, ch, n, ps, c, told, d3, d4, ⟨d5, d6⟩, d7, d8, ⟨d10, d11⟩, d9⟩
    · refine both (ok_pw (jc_judge h.1) (pw_and (pw_and (jt_judge h.1) (jl_judge h.1)) (pw_and (l_judge0 h3) (l_judge08 h3)))) (ok_pw (m_judge h.2.1) (x_judge0 h3r)) ?_
      rintro r X r1 X1 ⟨⟨q, qt⟩, ⟨⟨qr, _⟩, qL⟩, ⟨q1, q2⟩, q3⟩ ⟨⟨p, pt⟩, p1, p2⟩
      exact h.kp0 q p qt pt qr (by rw [p2]) ⟨⟨⟨e, f, he, ⟨by rw [q2.2.1.1]; exact hG.1.1, by rw [q2.2.1.2]; exact hG.1.2⟩, ⟨hG.2.1.1.pgs (q2.pgs he1), hG.2.1.2.pgs (q2.pgs hf1)⟩, Or.inl ⟨by rw [q2.1]; exact h3, by rw [p2]; exact h3r, q3, by rw [p2]; exact h4r, by rw [p2]; exact h18⟩⟩, by rw [p2]; exact hk⟩, hL.kp qL (by rw [p2]; exact RLq.rf)⟩
    · have d30 := d3
      obtain ⟨hTx, _, _, ⟨hs, hsn⟩, ⟨N, hR⟩, ht⟩ := d30
      obtain ⟨W, po, hC⟩ := x_cpc h.2.1 h3r hR hsn d5 d6 d7
      have kd := kd_all hTx hs
      have hn3 := hTx.1
      refine both (ok_pw (jc_judge h.1) (pw_and (pw_and (jt_judge h.1) (jl_judge h.1)) (pw_and (l_judge7 he hG.1.1 h3 d4 hC (by omega) (by omega)) (l_judge10 d11 he hG.1.1 h3 d4 hC (by omega) (by omega))))) (ok_pw (m_judge h.2.1) (pw_and (pw_and (ra_judge R1.rf) (pw_and (k_judge h.2.1) (k_judgeL h.2.1))) (pw_and (x_judge10 h.2.1 h3r hR hsn d5 d6 d7 ht) (pw_and (v_judge d8) (k_judge11 h.2.1 h3r hR hsn d5 d6 d7 ht))))) ?_
      rintro r X r1 X1 ⟨⟨q, qt⟩, ⟨⟨qr, qa⟩, qL⟩, ⟨q1, q2, q3⟩, rr, q4, q5⟩ ⟨⟨p, pt⟩, ⟨p1, p2, pL⟩, ⟨rr1, p3, p4⟩, p5, p11⟩
      refine h.kp0 q p qt pt qr p1 ⟨⟨⟨e, f, he, ⟨by rw [qa.2.1]; exact hG.1.1, by rw [qa.2.2.1]; exact hG.1.2⟩, ⟨q2.tok, hG.2.1.2.pgs q3⟩, Or.inr ⟨by rw [qa.1]; exact h3, by rw [p2.1.1 0 3 (by omega)]; exact h3r, ch, n, ps, c, told, d3.kp p2, q2, ⟨d5, d6⟩, d7, p5, ⟨?_, d11⟩, J10.of q4 q5 p3 p4⟩⟩, p11⟩, hL.kp qL pL⟩
      obtain ⟨y1, ⟨k, y2, y3⟩, y4⟩ := d10
      exact ⟨by rw [(qa.2.2.2 e he1).2]; exact y1, ⟨k, y2, by rw [(qa.2.2.2 e he1).1]; exact y3⟩, y4⟩
  · intro v0 v1 XC XR h
    refine both (ok_pw (jc_guard h.1) (jt_guard h.1)) (ok_pw (m_guard h.2.1 v0 v1) (pw_and (ra_guard R1.rf) (pw_and (pw_and (rc_guard R7k.rf) (pw_mono (pw_and (rg10_guard R10.rf) (rl11_guard RLq.rf)) (fun _ Y z => (⟨z.1.rk11, z.2⟩ : RK14 XR Y)))) (pw_im (fun (v : KVa True XR) => vkr_guard v))))) ?_
    rintro r X r1 X1 ⟨⟨q, qt⟩, qr, qc⟩ ⟨⟨p, pt⟩, pr, pc, pv⟩
    exact h.keep q p qt pt qr qc pr pc pv
  · intro v0 v1 XC XR h
    refine both (ok_pw (jc_part h.1) (jt_part h.1)) (ok_pw (m_part h.2.1 v0 v1) (pw_and (ra_part_II_I R1.rf) (pw_and (pw_and (rc_part_II_I R7k.rf) (pw_mono (pw_and (rg10_part_II_I R10.rf) (rl11_part_II_I RLq.rf)) (fun _ Y z => (⟨z.1.rk11, z.2⟩ : RK14 XR Y)))) (pw_im (fun (v : KVa True XR) => vkr_part_II_I v))))) ?_
    rintro r X r1 X1 ⟨⟨q, qt⟩, qr, qc⟩ ⟨⟨p, pt⟩, pr, pc, pv⟩
    exact h.keep q p qt pt qr qc pr pc pv
  · intro v0 XC XR h
    have hN := h.2.2.2.2.1.1.run h.2.1 (p1 := v0)
    refine both (ok_pw (jc_run h.1) (pw_and (pw_and (jt_run h.1) (j5_run h.1)) (Q := fun a Y => g_Court_run v0 XC = some (a, Y)) (fun _ _ q => q))) (ok_pw (m_run h.2.1 v0) (pw_and (pw_and (ra_run R1.rf) (pw_and (pw_and (k_run h.2.1 v0) (pw_and (k_run8 h.2.1 v0) (pw_im (fun (v : KVa True XR) => pw_im (fun (z : 0 ≤ (XR.1 0 13).toInt) => pw_and (k_run10 v z) (k_run11 v z)))))) (pw_im (fun (v : KVa True XR) => vkr_run v)))) (Q := fun a Y => f_run v0 XR = some (a, Y)) (fun _ _ q => q))) ?_
    rintro r X r1 X1 ⟨⟨q, qt⟩, ⟨⟨qr, qc⟩, q5⟩, qq⟩ ⟨⟨p, pt⟩, ⟨pr, ⟨pc, p8, p10⟩, pv⟩, pq⟩
    obtain ⟨er, hQ⟩ := one_run hN qq pq
    exact h.kp0 q p qt pt qr pr ⟨h.2.2.2.2.1.go h.2.1 p qc pc p8 (fun v z _ k => (p10 v z).1 k) (fun v z => (p10 v z).2) pv, h.2.2.2.2.2.run hQ p (by rw [← er]; exact q5)⟩
  · intro v0 XC XR h
    have hN := h.2.2.2.2.1.runU h.2.1 (p1 := v0)
    refine both (ok_pw (jc_runUntold h.1) (pw_and (pw_and (jt_runUntold h.1) (j5_runUntold h.1)) (Q := fun a Y => g_Court_runUntold v0 XC = some (a, Y)) (fun _ _ q => q))) (ok_pw (m_runUntold h.2.1 v0) (pw_and (pw_and (ra_runUntold R1.rf) (pw_and (pw_and (k_runUntold h.2.1 v0) (pw_and (k_runUntold8 h.2.1 v0) (pw_im (fun (v : KVa True XR) => pw_im (fun (z : 0 ≤ (XR.1 0 13).toInt) => pw_and (k_runUntold10 v z) (k_runUntold11 h.2.1 v z)))))) (pw_im (fun (v : KVa True XR) => vkr_runUntold v)))) (Q := fun a Y => f_runUntold v0 XR = some (a, Y)) (fun _ _ q => q))) ?_
    rintro r X r1 X1 ⟨⟨q, qt⟩, ⟨⟨qr, qc⟩, q5⟩, qq⟩ ⟨⟨p, pt⟩, ⟨pr, ⟨pc, p8, p10⟩, pv⟩, pq⟩
    obtain ⟨er, hQ⟩ := one_runU hN qq pq
    exact h.kp0 q p qt pt qr pr ⟨h.2.2.2.2.1.go h.2.1 p qc pc p8 (fun v z y k => (p10 v z).1 y k) (fun v z => (p10 v z).2) pv, h.2.2.2.2.2.run hQ p (by rw [← er]; exact q5)⟩
  · intro v0 XC XR h
    refine both (ok_pw (jc_told h.1) (jt_told h.1)) (ok_pw (m_told h.2.1 v0) (pw_and (ra_told R1.rf) (pw_and (pw_and (rc_told R7k.rf) (pw_mono (pw_and (rg10_told R10.rf) (rl11_told RLq.rf)) (fun _ Y z => (⟨z.1.rk11, z.2⟩ : RK14 XR Y)))) (pw_im (fun (v : KVa True XR) => vkr_told v))))) ?_
    rintro r X r1 X1 ⟨⟨q, qt⟩, qr, qc⟩ ⟨⟨p, pt⟩, pr, pc, pv⟩
    exact h.keep q p qt pt qr qc pr pc pv
  · intro v0 XC XR h
    have hN := h.2.2.2.2.2.out (p1 := v0)
    refine both (ok_pw (jc_out h.1) (pw_and (jt_out h.1) (Q := fun a Y => g_Court_out v0 XC = some (a, Y)) (fun _ _ q => q))) (ok_pw (m_out h.2.1 v0) (pw_and (pw_and (ra_out R1.rf) (pw_and (pw_and (rc_out R7k.rf) (pw_mono (pw_and (rg10_out R10.rf) (rl11_out RLq.rf)) (fun _ Y z => (⟨z.1.rk11, z.2⟩ : RK14 XR Y)))) (pw_im (fun (v : KVa True XR) => vkr_out v)))) (Q := fun a Y => f_out v0 XR = some (a, Y)) (fun _ _ q => q))) ?_
    rintro r X r1 X1 ⟨⟨q, qt⟩, ⟨qr, qc⟩, qq⟩ ⟨⟨p, pt⟩, ⟨pr, pc, pv⟩, pq⟩
    exact ⟨h.keep q p qt pt qr qc pr pc pv, hN _ _ pq _ _ qq⟩
  · intro v0 v1 XC XR h
    refine both (ok_pw (jc_asked h.1) (jt_asked h.1)) (ok_pw (m_asked h.2.1 v0 v1) (pw_and (ra_asked R1.rf) (pw_and (pw_and (rc_asked R7k.rf) (pw_mono (pw_and (rg10_asked R10.rf) (rl11_asked RLq.rf)) (fun _ Y z => (⟨z.1.rk11, z.2⟩ : RK14 XR Y)))) (pw_im (fun (v : KVa True XR) => vkr_asked v))))) ?_
    rintro r X r1 X1 ⟨⟨q, qt⟩, qr, qc⟩ ⟨⟨p, pt⟩, pr, pc, pv⟩
    exact h.keep q p qt pt qr qc pr pc pv
  · intro v0 XC XR h
    refine both (ok_pw (jc_about h.1) (jt_about h.1)) (ok_pw (m_about h.2.1 v0) (pw_and (ra_about R1.rf) (pw_and (pw_and (rc_about R7k.rf) (pw_mono (pw_and (rg10_about R10.rf) (rl11_about RLq.rf)) (fun _ Y z => (⟨z.1.rk11, z.2⟩ : RK14 XR Y)))) (pw_im (fun (v : KVa True XR) => vkr_about v))))) ?_
    rintro r X r1 X1 ⟨⟨q, qt⟩, qr, qc⟩ ⟨⟨p, pt⟩, pr, pc, pv⟩
    exact h.keep q p qt pt qr qc pr pc pv
