/-! the reference reads an operand's beginning; signs in front -/
def SPq (ch : Tx) (n : Nat) (o : Int) (P : PFn) : Prop := ∀ (sc : List Nm) (q : Nat) (c : List Ins) (j N : Nat) (X : St) (Q : Int32 → St → Prop) (p1 : Int32) (ask work : Int), ((ty ch q = 45 ∧ ask = 27 ∧ work = 18) ∨ (ty ch q = 33 ∧ ask = 28 ∧ work = 19)) → p1.toInt = (pl ch q : Int) → XS ch n X q o sc (j + 1) N → (X.1 0 23).toInt = 1 → NMr ch X N c → 0 ≤ o → o ≤ 40 → HH (DQ Q) (fun a => ∀ Y, ER ch n X o sc (j + 1) N c a Y → ¬ (Y.1 20 (ix (Y.1 0 24))).toInt = 14 → prS Y Q) (P ask work o sc q c) → pw (f_operand_23 p1 X) (fun _ Z => pr Z Q)
section ROPER
variable {ch : Tx} {n q : Nat} {X Y Z X0 : St} {o : Int} {sc : List Nm} {j N s N0 : Nat} {Q : Int32 → St → Prop} {c c1 : List Ins} {NM : Prop}
theorem prS_st (h : ∀ M, pw (f_signs_0_s (f_signs_0 M) X) (fun _ Z => pr Z Q)) : prS X Q := by
  intro M
  cases M with
  | zero => exact pw_none
  | succ M =>
    have e : f_signs_0 (M + 1) = f_signs_0_s (f_signs_0 M) := by
      unfold f_signs_0
      exact lp_succ _ _ _
    rw [e]
    exact h M
theorem sp_pre {P : PFn} {E : EF} (hU : SUq ch n (o + 1) (sU ch P E)) : SPq ch n o (sPre ch P E) := by
  intro sc q c j N X Q p1 ask work hkw hp1 h hm hM ho ho40 H
  have hask : ¬ ask = 4 := by omega
  have hwork : ¬ work = 4 := by omega
  have L45 : (lg_cmp (X.2.1 0 47) 45).toInt = 0 ↔ ty ch q = 45 := by
    have l45 : (45 : Int64).toInt = 45 := by decide
    rw [cmp0, ← Int64.toInt_inj, l45]
    obtain ⟨_, _, tk⟩ := h.tk
    omega
  have lc : (c ++ [((0, 1, (pl ch q : Int), []) : Ins)]).length = c.length + 1 := by rw [List.length_append, List.length_singleton]
  have l1 : (1 : Int32).toInt = 1 := by decide
  have l15 : (15 : Int32).toInt = 15 := by decide
  unfold sPre at H
  have c42 : ∀ b0 : Int32, ((b0 = 12 ∧ ask = 27 ∧ work = 18) ∨ (b0 = 13 ∧ ask = 28 ∧ work = 19)) → pw (f_operand_42 p1 b0 X) (fun _ Z => pr Z Q) := by
    intro b0 hb
    have hb3 : ¬ b0.toInt = 3 ∧ ¬ b0.toInt = 14 := by rcases hb with ⟨e, _⟩ | ⟨e, _⟩ <;> rw [e] <;> decide
    unfold f_operand_42
    refine pw_bd (pw_and (x_make h b0 p1) (x_make21 h b0 p1)) ?_
    rintro x6 X7 ⟨⟨⟨hr, hi⟩, g7, m7⟩, p7⟩
    refine pw_bd (x_nests g7 ⟨ho, ho40⟩) ?_
    rintro _ X8 (⟨ho1, g8, t8⟩ | ⟨ho1, hd⟩)
    · have H := H.b.en ⟨rfl, ho1⟩
      refine pw_bd (q_well g8.w0) ?_
      rintro x9 X10 ⟨rfl, h9⟩
      refine pw_neg h9 ?_
      refine pw_bd (x_next g8) ?_
      rintro _ X11 ⟨g11, t11⟩
      refine pw_bd (x_enter g11 15 x6) ?_
      rintro _ X12 ⟨g12, n12⟩
      refine pw_ret ?_
      have t := t8.tr t11
      have m12 : (X12.1 0 23).toInt = 1 := by rw [n12.1 0 23 (by omega) (by omega), t.c 23 (by decide), m7.1 0 23 (by omega) (by omega)]; exact hm
      have q12 : NMr ch X12 (N + 1) (c ++ [(0, 1, (pl ch q : Int), [])]) := ((((hM.mk m7 hb3.1).tn t).en n12)).cd (fun p => NPl.snoc (show ¬ (0 : Int) = 4 by decide))
      have k12 : KP X X12 (j + 1) N sc.length := ((KP.rf.mk m7 (Nat.le_refl _)).tn t).en n12 (Nat.le_refl _)
      have h20 : X12.1 20 N = b0 := by rw [n12.1 20 N (by omega) (by omega), t.r 20 N (by decide)]; exact m7.2.2.1
      have h21 : X12.1 21 N = p1 := by rw [n12.1 21 N (by omega) (by omega), t.r 21 N (by decide)]; exact p7
      refine hU sc (nx ch q) _ (j + 1) (N + 1) X12 Q g12 m12 q12 (by omega) (by omega) (H.b.m (fun a H => ?_))
      rintro Y ⟨N2, t2, gY, mY, kY, hY, h1, h2, e, ee, eo⟩ _
      have H := H.s
      have kq := kY.1
      have y35 : Y.1 35 (j + 1) = 15 := by rw [kq 35 (j + 1) (by unfold KPs; omega)]; exact n12.2.2.1
      have y36 : Y.1 36 (j + 1) = x6 := by rw [kq 36 (j + 1) (by unfold KPs; omega)]; exact n12.2.2.2.1
      have y20 : Y.1 20 N = b0 := by rw [kq 20 N (by unfold KPs; omega)]; exact h20
      have y21 : Y.1 21 N = p1 := by rw [kq 21 N (by unfold KPs; omega)]; exact h21
      have h22 := (gY.fe (by omega))
      have h21 := gY.2.1
      refine prS_st (fun M => ?_)
      unfold f_signs_0_s
      refine pw_let ?_
      refine pw_eq (fun x2 e2 => ?_)
      have v2 : x2.toInt = ((j + 1 : Nat) : Int) := by
        rw [e2, ti_sub (by rw [h22, l1]; omega) (by rw [h22, l1]; have := Int32.toInt_lt (Y.1 0 22); omega), h22, l1]
        omega
      rw [ixn v2]
      refine pw_ck (fun _ => pw_let ?_)
      refine pw_pos (by rw [y35]; exact l15) ?_
      refine pw_let ?_
      refine pw_eq (fun x41 e41 => ?_)
      have v41 : x41.toInt = ((j + 1 : Nat) : Int) := by rw [e41, ← e2]; exact v2
      refine pw_eq (fun X42 e42 => ?_)
      have g42 : XS ch n X42 a.1 (o + 1) sc (j + 1) N2 := by rw [e42]; exact gY.w22 v41
      refine pw_let ?_
      refine pw_eq (fun x44 e44 => ?_)
      have v44 : x44.toInt = o := by rw [e44, ti_sub (by rw [g42.2.1, l1]; omega) (by rw [g42.2.1, l1]; omega), g42.2.1, l1]; omega
      refine pw_eq (fun X45 e45 => ?_)
      have g45 : XS ch n X45 a.1 o sc (j + 1) N2 := by rw [e45]; exact g42.w21 v44
      refine pw_let ?_
      have i46 : ix (X45.1 0 22) = j + 1 := ixn (g45.fe (by omega))
      rw [i46]
      have z36 : X45.1 36 (j + 1) = x6 := by rw [e45, wI_ne _ _ _ _ _ _ (by omega), e42, wI_ne _ _ _ _ _ _ (by omega)]; exact y36
      refine pw_ck (fun _ => ?_)
      rw [z36]
      refine pw_let (pw_let ?_)
      rw [hi]
      refine pw_ck (fun _ => ?_)
      refine pw_eq (fun X49 e49 => ?_)
      refine pw_eq (fun X50 e50 => ?_)
      have r50 : ∀ e k, 20 ≤ e → ¬ (e = 23 ∧ k = N) → X50.1 e k = Y.1 e k := fun e k he hk => by rw [e50, wI_ne _ _ _ _ _ _ (by omega), e49, wI_ne _ _ _ _ _ _ (by omega), e45, wI_ne _ _ _ _ _ _ (by omega), e42, wI_ne _ _ _ _ _ _ (by omega)]
      have c24 : X50.1 0 24 = x6 := by rw [e50, wI_at]
      have i21 : iv X50 21 N = (pl ch q : Int) := by unfold iv; rw [r50 21 N (by omega) (by omega), y21, hp1]
      have i20 : iv X50 20 N = b0.toInt := by unfold iv; rw [r50 20 N (by omega) (by omega), y20]
      have i23 : iv X50 23 N = (t2 : Int) := by unfold iv; rw [e50, wI_ne _ _ _ _ _ _ (by omega), e49, wI_at, e45, wI_ne _ _ _ _ _ _ (by omega), e42, wI_ne _ _ _ _ _ _ (by omega)]; exact hY
      refine H X50 ⟨N2, N, ?_, ?_, ?_, by rw [c24]; exact hr, Nat.le_refl _, by omega, (0, 1, (pl ch q : Int), []) :: (e ++ [(ask, 0, plh e, []), (work, 0, (pl ch q : Int), [])]), ?_, OM.in ⟨Nat.le_refl _, by omega, by rw [i21]; rfl, Or.inr (Or.inl ⟨t2, e, i23, ?_, ?_⟩)⟩⟩ ?_ M
      · rw [e50, e49]; exact (g45.wI (by omega)).wI (by omega)
      · rw [e50, e49, e45, e42]; exact (((((mY.wI (by omega)).wI (by omega)).wI (by omega)).wI (by omega))).cd (fun p => (NPl.snoc hwork).trans (NPl.snoc hask))
      · rw [e50, e49, e45, e42]
        exact ((((k12.tr (kY.mono (by omega) (by omega) (Nat.le_refl _))).wI (by unfold KPs; omega)).wI (by unfold KPs; omega)).wI (by unfold KPs; omega)).wI (by unfold KPs; omega)
      · show (a.2 ++ [(ask, 0, plc a.2 (c.length + 1), [])]) ++ [(work, 0, plc (a.2 ++ [(ask, 0, plc a.2 (c.length + 1), [])]) c.length, [])] = _
        rw [ee, ← lc, plc_app, List.append_assoc _ e, plc_st]
        simp only [List.append_assoc, List.cons_append, List.nil_append]
      · rw [← lc]
        exact eo.cg ⟨fun e k he k1 k2 _ => r50 e k (by omega) (by omega), fun k _ _ => by rw [e50, e49, e45, e42]; rfl, KDk.oj gY.kj (KXq.of (fun e k q => by rw [e50, wI_ne _ _ _ _ _ _ (by omega), e49, wI_ne _ _ _ _ _ _ (by omega), e45, wI_ne _ _ _ _ _ _ (by omega), e42, wI_ne _ _ _ _ _ _ (by omega)]))⟩
      · rw [i20, i21]
        rcases hb with ⟨b1, b2, b3⟩ | ⟨b1, b2, b3⟩
        · exact Or.inr (Or.inr (Or.inr (Or.inl ⟨by rw [b1]; decide, by rw [b2, b3]⟩)))
        · exact Or.inr (Or.inr (Or.inr (Or.inr ⟨by rw [b1]; decide, by rw [b2, b3]⟩)))
      · rw [c24, hi, r50 20 N (by omega) (by omega), y20]
        exact hb3.2
    · have hQ := H.b.en0 (fun z => ho1 z.2)
      refine pw_bd (q_isWell X8) ?_
      rintro x9 X10 ⟨rfl, h9⟩
      exact pw_pos (h9.mpr hd) (pw_ret (pr_dd hd hQ))
  unfold f_operand_23
  refine pw_let (pw_let ?_)
  exact pw_ite (fun g => c42 12 (Or.inl ⟨rfl, by have := L45.mp g; omega⟩)) (fun g => c42 13 (Or.inr ⟨rfl, by have := fun z => g (L45.mpr z); omega⟩))
/-- an operand's beginning -/
theorem b_operand {P : PFn} {E : EF} (hE : SEq ch n (o + 1) E) (hn : NBq ch E) (hO : MOE ch E) (hP : SPq ch n o P) (h : XS ch n X q o sc (j + 1) N) (hm : (X.1 0 23).toInt = 1) (hM : NMr ch X N c) (ho : 0 ≤ o ∧ o ≤ 40) (H1 : (ty ch q = 45 → HH (DQ Q) (fun a => ∀ Y, ER ch n X o sc (j + 1) N c a Y → ¬ (Y.1 20 (ix (Y.1 0 24))).toInt = 14 → prS Y Q) (P 27 18 o sc q c)) ∧ (¬ ty ch q = 45 → ty ch q = 33 → HH (DQ Q) (fun a => ∀ Y, ER ch n X o sc (j + 1) N c a Y → ¬ (Y.1 20 (ix (Y.1 0 24))).toInt = 14 → prS Y Q) (P 28 19 o sc q c)) ∧ (¬ ty ch q = 45 → ¬ ty ch q = 33 → HH (DQ Q) (CBq ch n X o sc j N c (ty ch q = 258 ∧ slot sc (nm ch q) = -1) Q) (sB ch E o sc q c))) : pw (f_operand X) (fun _ Z => pr Z Q) := by
  have s45 : (45 : Int32).toInt = 45 := by decide
  have s33 : (33 : Int32).toInt = 33 := by decide
  have s91 : (91 : Int32).toInt = 91 := by decide
  have s40 : (40 : Int32).toInt = 40 := by decide
  have s123 : (123 : Int32).toInt = 123 := by decide
  have s6 : (6 : Int32).toInt = 6 := by decide
  have s7 : (7 : Int32).toInt = 7 := by decide
  have s8 : (8 : Int32).toInt = 8 := by decide
  have s9 : (9 : Int32).toInt = 9 := by decide
  have s10 : (10 : Int32).toInt = 10 := by decide
  obtain ⟨H45, H33, H⟩ := H1
  have M0 : NMr ch X N (c ++ [(0, 1, (pl ch q : Int), [])]) := hM.cd (fun p => NPl.snoc (show ¬ (0 : Int) = 4 by decide))
  unfold f_operand
  refine pw_let ?_
  refine pw_bd (q_isSign h.1 (by decide)) ?_
  rintro x2 X3 ⟨rfl, h2⟩
  rw [s45] at h2
  refine pw_ite (fun c2 => ?_) (fun c2 => by
      have y : ty ch q = 45 := Classical.byContradiction (fun z => c2 (h2.mpr z))
      exact hP sc q c j N _ Q _ 27 18 (Or.inl ⟨y, rfl, rfl⟩) h.tk.2.1 h hm hM ho.1 ho.2 (H45 y))
  have n45 := h2.mp c2
  refine pw_bd (q_isSign h.1 (by decide)) ?_
  rintro x13 X14 ⟨rfl, h13⟩
  rw [s33] at h13
  refine pw_ite (fun c13 => ?_) (fun c13 => by
      have y : ty ch q = 33 := Classical.byContradiction (fun z => c13 (h13.mpr z))
      exact hP sc q c j N _ Q _ 28 19 (Or.inr ⟨y, rfl, rfl⟩) h.tk.2.1 h hm hM ho.1 ho.2 (H33 n45 y))
  have n33 := h13.mp c13
  have H := H n45 n33
  unfold sB at H
  refine pw_bd (q_well h.w0) ?_
  rintro x15 X16 ⟨rfl, h15⟩
  refine pw_neg h15 (pw_let ?_)
  have sort : ((X16.1 0 7).toInt = 3 ↔ ty ch q = 259) ∧ ((X16.1 0 7).toInt = 1 ↔ ty ch q = 258) ∧ (261 ≤ ty ch q → (X16.2.1 0 47).toInt = ty ch q - 261) := by
    obtain ⟨_, _, t⟩ := h.tk
    omega
  refine pw_ite (fun c3 => ?_) (fun c3 => ?_)
  · have y := sort.1.mp c3
    have H := ((((H.q (by omega)).q (by omega)).q (by omega)).q (by omega)).p y
    exact pw_bd (b_number h M0 y (fun z => by have := z.1; omega) h.tk.2.1 rfl H) (fun _ W h => pw_ret h)
  have n259 : ¬ ty ch q = 259 := fun e => c3 (sort.1.mpr e)
  unfold f_operand_95
  refine pw_bd (q_isWord h.1 (by decide)) ?_
  rintro x17 X18 ⟨rfl, h17⟩
  rw [s6] at h17
  refine pw_ite (fun c17 => ?_) (fun c17 => by
      have y : ty ch q = 261 + 6 := Classical.byContradiction (fun z => c17 (h17.mpr z))
      have H := (((((H.q (by omega)).q (by omega)).q (by omega)).q (by omega)).q n259).p (by omega)
      exact b_truth h M0 (fun (z : ty ch q = 258 ∧ slot sc (nm ch q) = -1) => by have := z.1; omega) (Or.inl (by omega)) h.tk.2.1 rfl (by rw [if_pos (by omega)]; exact H.s))
  have n6 := h17.mp c17
  refine pw_bd (q_isWord h.1 (by decide)) ?_
  rintro x26 X27 ⟨rfl, h26⟩
  rw [s7] at h26
  refine pw_ite (fun c26 => ?_) (fun c26 => by
      have y : ty ch q = 261 + 7 := Classical.byContradiction (fun z => c26 (h26.mpr z))
      have H := ((((((H.q (by omega)).q (by omega)).q (by omega)).q (by omega)).q n259).q (by omega)).p (by omega)
      exact b_truth h M0 (fun (z : ty ch q = 258 ∧ slot sc (nm ch q) = -1) => by have := z.1; omega) (Or.inr (by omega)) h.tk.2.1 rfl (by rw [if_neg (by omega)]; exact H.s))
  have n7 := h26.mp c26
  refine pw_bd (q_well h.w0) ?_
  rintro x28 X29 ⟨rfl, h28⟩
  refine pw_neg h28 (pw_let ?_)
  refine pw_ite (fun c66 => ?_) (fun c66 => ?_)
  · have y := sort.2.1.mp c66
    have H := (((H.q (by omega)).q (by omega)).q (by omega)).p y
    exact pw_bd (b_name h M0 y ⟨fun z => z.2, fun z => ⟨y, z⟩⟩ h.tk.2.1 rfl H.s) (fun _ W h => pw_ret h)
  have n258 : ¬ ty ch q = 258 := fun e => c66 (sort.2.1.mpr e)
  unfold f_operand_177
  refine pw_bd (q_isSign h.1 (by decide)) ?_
  rintro x30 X31 ⟨rfl, h30⟩
  rw [s91] at h30
  refine pw_ite (fun c30 => ?_) (fun c30 => by
      have y : ty ch q = 91 := Classical.byContradiction (fun z => c30 (h30.mpr z))
      exact b_list hE (fun z => by have := z.1; omega) hn h M0 ho y h.tk.2.1 rfl rfl ((H.q (by omega)).p y))
  have n91 := h30.mp c30
  have tow : ∀ k : Int, 8 ≤ k → k ≤ 10 → ty ch q = 261 + k → ((X31.2.1 0 47).toInt32).toInt = k := by
    intro k h1 h2 e
    have := sort.2.2 (by omega)
    rw [Int64.toInt_toInt32]
    exact (Int.bmod_eq_of_le (by omega) (by omega)).trans (by omega)
  have H259 := H
  refine pw_bd (q_isWord h.1 (by decide)) ?_
  rintro x32 X33 ⟨rfl, h32⟩
  rw [s8] at h32
  refine pw_ite (fun c32 => ?_) (fun c32 => by
      have y : ty ch q = 261 + 8 := Classical.byContradiction (fun z => c32 (h32.mpr z))
      have H := (((((((H.q (by omega)).q (by omega)).q (by omega)).q (by omega)).q n259).q (by omega)).q (by omega)).p (by omega)
      unfold f_operand_259
      refine pw_let (pw_let (pw_pos (tow 8 (by omega) (by omega) y) ?_))
      exact b_new hE (fun z => by have := z.1; omega) h M0 ho (tow 8 (by omega) (by omega) y) (by decide) (by decide) h.tk.2.1 rfl H)
  have n8 := h32.mp c32
  refine pw_bd (q_isWord h.1 (by decide)) ?_
  rintro x41 X42 ⟨rfl, h41⟩
  rw [s9] at h41
  refine pw_ite (fun c41 => ?_) (fun c41 => by
      have y : ty ch q = 261 + 9 := Classical.byContradiction (fun z => c41 (h41.mpr z))
      have H := ((((((((H.q (by omega)).q (by omega)).q (by omega)).q (by omega)).q n259).q (by omega)).q (by omega)).q (by omega)).p (by omega)
      have t9 := tow 9 (by omega) (by omega) y
      unfold f_operand_259
      refine pw_let (pw_let (pw_neg (by omega) (pw_pos t9 ?_)))
      exact b_work hE (fun z => by have := z.1; omega) h M0 ho (by omega) (by decide) (by decide) (by decide) h.tk.2.1 rfl (Or.inl ⟨by decide, rfl, rfl⟩) H)
  have n9 := h41.mp c41
  refine pw_bd (q_isWord h.1 (by decide)) ?_
  rintro x43 X44 ⟨rfl, h43⟩
  rw [s10] at h43
  refine pw_ite (fun c43 => ?_) (fun c43 => by
      have y : ty ch q = 261 + 10 := Classical.byContradiction (fun z => c43 (h43.mpr z))
      have H := (((((((((H.q (by omega)).q (by omega)).q (by omega)).q (by omega)).q n259).q (by omega)).q (by omega)).q (by omega)).q (by omega)).p (by omega)
      have t10 := tow 10 (by omega) (by omega) y
      unfold f_operand_259
      refine pw_let (pw_let (pw_neg (by omega) (pw_neg (by omega) ?_)))
      exact b_work hE (fun z => by have := z.1; omega) h M0 ho (by omega) (by decide) (by decide) (by decide) h.tk.2.1 rfl (Or.inr ⟨by decide, rfl, rfl⟩) H)
  have n10 := h43.mp c43
  refine pw_bd (q_isSign h.1 (by decide)) ?_
  rintro x45 X46 ⟨rfl, h45⟩
  rw [s40] at h45
  refine pw_ite (fun c45 => ?_) (fun c45 => by
      have y : ty ch q = 40 := Classical.byContradiction (fun z => c45 (h45.mpr z))
      exact b_paren hE (fun z => by have := z.1; omega) h M0 ho h.tk.2.1 rfl (H.p y))
  have n40 := h45.mp c45
  refine pw_bd (q_isSign h.1 (by decide)) ?_
  rintro x47 X48 ⟨rfl, h47⟩
  rw [s123] at h47
  refine pw_ite (fun c47 => ?_) (fun c47 => by
      have y : ty ch q = 123 := Classical.byContradiction (fun z => c47 (h47.mpr z))
      exact b_block hE (fun z => by have := z.1; omega) hO h M0 ho h.tk.2.1 rfl (((H.q n40).q n91).p y))
  have n123 := h47.mp c47
  have hQ := ((((((((((H.q n40).q n91).q n123).q n258).q n259).q (by omega)).q (by omega)).q (by omega)).q (by omega)).q (by omega)).n
  exact pw_bd (q_stray _) (fun _ W d => pw_ret (pr_dd d hQ))
end ROPER
