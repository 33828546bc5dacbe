/-! the class reads a kind -/
section CKIND
variable {e n : Nat} {ch : Tx} {X0 : St} {sc : List Nm} {ws : List Wt} {c : List Ins}
def KH (e : Nat) (ch : Tx) (n : Nat) (X0 : St) (sc : List Nm) (ws : List Wt) (c : List Ins) (v : St → Option (Int32 × St)) (sk : Int → Nat → Option (Nat × List Int)) : Prop :=
  ∀ (X : St) (q : Nat) (o lk : Int), RC e ch n X0 lk X q o sc ws c → 0 ≤ o → 0 ≤ lk → lk ≤ 4 * o → pw (v X) (fun r Z => PO Z (sk o q) (fun a => RC e ch n X0 lk Z a.1 o sc ws c ∧ pl ch q + 1 ≤ pl ch a.1 ∧ pl ch a.1 ≤ 3000 ∧ 0 ≤ r.toInt))
theorem sK_nb : ∀ (m : Nat) (o : Int) (q : Nat), bgK (ty ch q) = false → sK ch m o q = none := by
  intro m o q h
  have hb : bgK (ty ch q) = true ↔ (ty ch q = 91 ∨ (272 ≤ ty ch q ∧ ty ch q ≤ 275)) := decide_eq_true_iff
  have h := fun g => nb.mp h (hb.mpr g)
  cases m with
  | zero => rw [sK]
  | succ m => rw [sK, if_neg (fun g => h (by omega)), if_neg (fun g => h (by omega)), if_neg (fun g => h (by omega))]
theorem RC.listed {lk o : Int} {Y : St} {q : Nat} (h : RC e ch n X0 lk Y q o sc ws c) {v : Int32} {lk1 : Int} (hv : v.toInt = lk1) : RC e ch n X0 lk1 (wI Y 46 6 v) q o sc ws c :=
  h.cell (by rfl) (fun j k hj => wI_ne _ _ _ _ _ _ (fun g => hj g.1)) (wI_ne _ _ _ _ _ _ (by decide)) (wI_ne _ _ _ _ _ _ (by decide)) (wI_ne _ _ _ _ _ _ (by decide)) (by rw [wI_ne _ _ _ _ _ _ (by decide)]; exact h.op) (by rw [wI_at]; exact hv)
theorem l_kindList {v_takeKind : St → Option (Int32 × St)} (zv_takeKind : ∀ (X : St), fd X → pw (v_takeKind X) (fun _ Y => fd Y)) {m : Nat} (hv : KH e ch n X0 sc ws c v_takeKind (sK ch m)) {o lk : Int} (ho : 0 ≤ o ∧ o ≤ 40) (hlk : 0 ≤ lk ∧ lk + 8 ≤ 4 * o) : ∀ N (a : Int32) (X : St) (q j : Nat), RC e ch n X0 (lk + 4 - j) X q o sc ws c → a.toInt = 4 - (j : Int) → j ≤ 4 → pw (g_Reader_takeKindList_2 v_takeKind N a X) (fun _ Z => PO Z (sKL ch (sK ch m o) j q) (fun s => ∃ lk2, 0 ≤ lk2 ∧ lk2 ≤ lk + 4 ∧ RC e ch n X0 lk2 Z s.1 o sc ws c ∧ pl ch q + 1 ≤ pl ch s.1 ∧ pl ch s.1 ≤ 3000)) := by
  intro N
  unfold g_Reader_takeKindList_2
  refine lp_ind (P := fun (r : Int32 → St → Option (Int32 × St)) => (∀ (a : Int32) (X : St), fd X → pw (r a X) (fun _ Y => fd Y)) ∧ ∀ (a : Int32) (X : St) (q j : Nat), RC e ch n X0 (lk + 4 - j) X q o sc ws c → a.toInt = 4 - (j : Int) → j ≤ 4 → pw (r a X) (fun _ Z => PO Z (sKL ch (sK ch m o) j q) (fun s => ∃ lk2, 0 ≤ lk2 ∧ lk2 ≤ lk + 4 ∧ RC e ch n X0 lk2 Z s.1 o sc ws c ∧ pl ch q + 1 ≤ pl ch s.1 ∧ pl ch s.1 ≤ 3000))) ⟨fun _ _ _ => pw_none, fun _ _ _ _ _ _ _ => pw_none⟩ ?_ N |>.2
  rintro r2 ⟨zr2, ih⟩
  refine ⟨fun a X hd => ?_, fun a X q j hR ha hj => ?_⟩
  · unfold g_Reader_takeKindList_2_s
    refine pw_ite (fun _ => pw_ret hd) (fun _ => ?_)
    refine pw_ite (fun _ => z_Reader_takeKindList_24 zv_takeKind zr2 hd) (fun _ => ?_)
    refine pw_bd (z_Reader_beginsKind hd) (fun x13 X14 d14 => ?_)
    refine pw_ite (fun _ => z_Reader_takeKindList_24 zv_takeKind zr2 d14) (fun _ => ?_)
    exact pw_bd (z_Reader_refuse d14) (fun _ X15 d15 => z_Reader_takeKindList_24 zv_takeKind zr2 d15)
  · have h24 : ∀ j1, j = j1 + 1 → pw (g_Reader_takeKindList_24 v_takeKind r2 a X) (fun _ Z => PO Z (sKL ch (sK ch m o) j q) (fun s => ∃ lk2, 0 ≤ lk2 ∧ lk2 ≤ lk + 4 ∧ RC e ch n X0 lk2 Z s.1 o sc ws c ∧ pl ch q + 1 ≤ pl ch s.1 ∧ pl ch s.1 ≤ 3000)) := by
      intro j1 ej
      subst ej
      unfold g_Reader_takeKindList_24
      rw [sKL]
      refine pw_bo (hv X q o _ hR ho.1 (by omega) (by omega)) ?_ ?_
      · rintro x1 X2 s ⟨hR2, p1, p2, -⟩
        refine pw_let ?_
        refine pw_pos hR2.ok ?_
        have h6 := hR2.2.1.2.2.2
        refine pw_let ?_
        refine pw_pos (by omega) ?_
        refine pw_let ?_
        refine pw_ck (fun _ => ?_)
        refine pw_eq (fun X6 e6 => ?_)
        have hR6 : RC e ch n X0 (lk + 4 - ((j1 + 1 : Nat) : Int)) X6 s.1 o sc ws c := by
          rw [e6]
          refine hR2.rows (by rfl) (fun j k a _ _ _ => wI_ne _ _ _ _ _ _ (fun g => a g.1)) (hR2.2.2.2.2.1.cg (wI_ne _ _ _ _ _ _ (fun g => ?_)) (fun j k a b => wI_ne _ _ _ _ _ _ (fun g => ?_)))
          · have := hR2.he; omega
          · have := hR2.he; omega
        refine pw_let ?_
        refine pw_eq (fun x8 e8 => ?_)
        refine pw_eq (fun X9 e9 => ?_)
        have h66 := hR6.2.1.2.2.2
        have l1 : (1 : Int32).toInt = 1 := by decide
        have hR9 : RC e ch n X0 (lk + 4 - (j1 : Int)) X9 s.1 o sc ws c := by
          rw [e9]
          refine hR6.listed ?_
          rw [e8, ti_add (by rw [h66, l1]; omega) (by rw [h66, l1]; omega), h66, l1]
          omega
        refine pw_let ?_
        refine pw_ifo (by rw [hR9.ty]) (fun c1 => ?_) (fun c1 => ?_)
        · refine pw_bd (l_advance hR9 (by omega)) (fun _ X11 hR11 => ?_)
          refine pw_let ?_
          have p3 := pl_nx hR9.tx (q := s.1) (by omega)
          have h := ih (a + Int32.ofInt 1) X11 (nx ch s.1) j1 hR11 (by rw [i1 (by omega), ha]; omega) (by omega)
          revert h
          cases sKL ch (sK ch m o) j1 (nx ch s.1) with
          | none => exact fun h => h
          | some t =>
            intro h
            refine pw_mono h ?_
            rintro r Z ⟨lk2, b1, b2, b3, b4, b5⟩
            exact ⟨lk2, b1, b2, b3, by show pl ch q + 1 ≤ pl ch t.1; omega, b5⟩
        · exact pw_ret (PO.s ⟨_, by omega, by omega, hR9, p1, p2⟩)
      · intro x1 X2 hd
        refine pw_eq (fun x3 _ => ?_)
        refine pw_ite (fun _ => ?_) (fun _ => ?_)
        · refine pw_eq (fun x4 _ => ?_)
          refine pw_ite (fun _ => ?_) (fun _ => ?_)
          · refine pw_eq (fun x5 _ => ?_)
            refine pw_ck (fun _ => ?_)
            refine pw_eq (fun X6 eX6 => ?_)
            have dX6 : fd X6 := by rw [eX6]; exact fd_w hd (fun g_ => absurd g_.1 (by decide))
            refine pw_eq (fun x7 _ => ?_)
            refine pw_eq (fun x8 _ => ?_)
            refine pw_eq (fun X9 eX9 => ?_)
            have dX9 : fd X9 := by rw [eX9]; exact fd_w dX6 (by decide)
            refine pw_eq (fun x10 _ => ?_)
            refine pw_ite (fun _ => ?_) (fun _ => ?_)
            · refine pw_bd (z_Tokens_advance dX9) (fun _ X11 dX11 => ?_)
              refine pw_eq (fun x12 _ => ?_)
              exact zr2 _ _ dX11
            · exact pw_ret dX9
          · exact pw_ret hd
        · exact pw_ret hd
    unfold g_Reader_takeKindList_2_s
    refine pw_neg (by omega) ?_
    cases j with
    | succ j1 =>
      refine pw_pos (by omega) ?_
      exact h24 j1 rfl
    | zero =>
      refine pw_neg (by omega) ?_
      refine pw_bd (l_beginsKind hR) ?_
      rintro x13 X14 ⟨rfl, hz⟩
      rw [sKL]
      refine pw_ite (fun c1 => ?_) (fun c1 => ?_)
      · have hn := sK_nb m o q (hz.f c1)
        unfold g_Reader_takeKindList_24
        have h := hv X14 q o _ hR ho.1 (by omega) (by omega)
        rw [hn] at h
        refine pw_bd h (fun x1 X2 hd => ?_)
        have hd : fd X2 := hd
        show pw _ (fun _ Z => fd Z)
        refine pw_eq (fun x3 _ => ?_)
        refine pw_ite (fun _ => ?_) (fun _ => ?_)
        · refine pw_eq (fun x4 _ => ?_)
          refine pw_ite (fun _ => ?_) (fun _ => ?_)
          · refine pw_eq (fun x5 _ => ?_)
            refine pw_ck (fun _ => ?_)
            refine pw_eq (fun X6 eX6 => ?_)
            have dX6 : fd X6 := by rw [eX6]; exact fd_w hd (fun g_ => absurd g_.1 (by decide))
            refine pw_eq (fun x7 _ => ?_)
            refine pw_eq (fun x8 _ => ?_)
            refine pw_eq (fun X9 eX9 => ?_)
            have dX9 : fd X9 := by rw [eX9]; exact fd_w dX6 (by decide)
            refine pw_eq (fun x10 _ => ?_)
            refine pw_ite (fun _ => ?_) (fun _ => ?_)
            · refine pw_bd (z_Tokens_advance dX9) (fun _ X11 dX11 => ?_)
              refine pw_eq (fun x12 _ => ?_)
              exact zr2 _ _ dX11
            · exact pw_ret dX9
          · exact pw_ret hd
        · exact pw_ret hd
      · refine pw_bd (f_Reader_refuse X14 (by decide)) (fun _ X15 d15 => ?_)
        exact z_Reader_takeKindList_24 zv_takeKind zr2 d15
theorem l_kindTail {v_takeKind : St → Option (Int32 × St)} (zv_takeKind : ∀ (X : St), fd X → pw (v_takeKind X) (fun _ Y => fd Y)) {m : Nat} (hv : KH e ch n X0 sc ws c v_takeKind (sK ch m)) {o lk lk2 : Int} (ho : 0 ≤ o ∧ o ≤ 38) (hlk : 0 ≤ lk ∧ lk ≤ 4 * o ∧ 0 ≤ lk2 ∧ lk2 ≤ lk + 4) {a : Int32} (ha : a.toInt = lk) {X : St} {q : Nat} (hR : RC e ch n X0 lk2 X q (o + 2) sc ws c) (f : Nat × List Int → List Int) : pw (g_Reader_takeFunctionKind_34 v_takeKind a X) (fun r Z => PO Z ((sWant ch 41 q).bind fun q3 => (sK ch m (o + 1) q3).bind fun g => some (g.1, f g)) (fun b => RC e ch n X0 lk Z b.1 o sc ws c ∧ pl ch q + 1 ≤ pl ch b.1 ∧ pl ch b.1 ≤ 3000 ∧ 0 ≤ r.toInt)) := by
  unfold g_Reader_takeFunctionKind_34
  refine pw_bo (l_want hR (t := 41) (by decide) (by decide)) ?_ ?_
  · rintro _ X5 q3 ⟨hR5, e5, p1, p2⟩
    refine pw_let ?_
    refine pw_let ?_
    refine pw_eq (fun X8 e8 => ?_)
    have hR8 : RC e ch n X0 lk2 X8 q3 (o + 1) sc ws c := by
      have h := hR5.shut (by omega)
      rw [show o + 2 - 1 = o + 1 from by omega] at h
      rw [e8]
      exact h
    refine pw_bo (hv X8 q3 (o + 1) lk2 hR8 (by omega) (by omega) (by omega)) ?_ ?_
    · rintro x9 X10 g ⟨hR10, p3, p4, -⟩
      refine pw_ck (fun _ => ?_)
      refine pw_to hR10.pe ?_
      refine pw_to (kYp hR10.he).1 ?_
      refine pw_let ?_
      refine pw_let ?_
      refine pw_bd (pw_and (y_Kinds_functionOf (o := e + 1) (X0 := X10) ⟨rfl, by have := hR10.he; omega⟩ KFo.rf) x_Kinds_functionOf) ?_
      rintro x15 X16 ⟨hK, h15⟩
      have hR16 := hR10.kf hK
      refine pw_eq (fun X17 e17 => ?_)
      have hR17 : RC e ch n X0 lk X17 g.1 (o + 1) sc ws c := by rw [e17]; exact hR16.listed ha
      refine pw_let ?_
      refine pw_let ?_
      refine pw_eq (fun X20 e20 => ?_)
      have hR20 : RC e ch n X0 lk X20 g.1 o sc ws c := by
        have h := hR17.shut (by omega)
        rw [show o + 1 - 1 = o from by omega] at h
        rw [e20]
        exact h
      exact pw_ret (PO.s ⟨hR20, by show pl ch q + 1 ≤ pl ch g.1; omega, p4, h15⟩)
    · intro x9 X10 hd
      refine pw_ck (fun hck1 => ?_)
      refine pw_eq (fun e11 ee11 => ?_)
      have pke11 : PKo e11 := by rw [ee11]; exact refO_pk hck1
      have ne46_e11 : ¬ 46 = e11 := PKo.ne pke11
      refine pw_eq (fun e12 ee12 => ?_)
      have ne46_e12 : ¬ 46 = e12 := by rw [ee12]; exact PKo.row pke11 0
      have pke12 : PKo e12 := by rw [ee12]; rw [ee11]; exact PKo.kd hck1
      refine pw_eq (fun x13 _ => ?_)
      refine pw_eq (fun x14 _ => ?_)
      refine pw_bd (z_Kinds_functionOf pke12 hd) (fun x15 X16 dX16 => ?_)
      refine pw_eq (fun X17 eX17 => ?_)
      have dX17 : fd X17 := by rw [eX17]; exact fd_w dX16 (by decide)
      refine pw_eq (fun x18 _ => ?_)
      refine pw_eq (fun x19 _ => ?_)
      refine pw_eq (fun X20 eX20 => ?_)
      have dX20 : fd X20 := by rw [eX20]; exact fd_w dX17 (by decide)
      exact pw_ret dX20
  · intro _ X5 hd
    refine pw_eq (fun x6 _ => ?_)
    refine pw_eq (fun x7 _ => ?_)
    refine pw_eq (fun X8 eX8 => ?_)
    have dX8 : fd X8 := by rw [eX8]; exact fd_w hd (by decide)
    refine pw_bd (zv_takeKind _ dX8) (fun x9 X10 dX10 => ?_)
    refine pw_ck (fun hck1 => ?_)
    refine pw_eq (fun e11 ee11 => ?_)
    have pke11 : PKo e11 := by rw [ee11]; exact refO_pk hck1
    have ne46_e11 : ¬ 46 = e11 := PKo.ne pke11
    refine pw_eq (fun e12 ee12 => ?_)
    have ne46_e12 : ¬ 46 = e12 := by rw [ee12]; exact PKo.row pke11 0
    have pke12 : PKo e12 := by rw [ee12]; rw [ee11]; exact PKo.kd hck1
    refine pw_eq (fun x13 _ => ?_)
    refine pw_eq (fun x14 _ => ?_)
    refine pw_bd (z_Kinds_functionOf pke12 dX10) (fun x15 X16 dX16 => ?_)
    refine pw_eq (fun X17 eX17 => ?_)
    have dX17 : fd X17 := by rw [eX17]; exact fd_w dX16 (by decide)
    refine pw_eq (fun x18 _ => ?_)
    refine pw_eq (fun x19 _ => ?_)
    refine pw_eq (fun X20 eX20 => ?_)
    have dX20 : fd X20 := by rw [eX20]; exact fd_w dX17 (by decide)
    exact pw_ret dX20
theorem l_kindB {v_takeKind : St → Option (Int32 × St)} (zv_takeKind : ∀ (X : St), fd X → pw (v_takeKind X) (fun _ Y => fd Y)) {m : Nat} (hv : KH e ch n X0 sc ws c v_takeKind (sK ch m)) : KH e ch n X0 sc ws c (g_Reader_takeKind_b v_takeKind) (sK ch (m + 1)) := by
  intro X q o lk hR ho hl0 hl1
  rw [sK]
  unfold g_Reader_takeKind_b
  have hb : bgK (ty ch q) = true ↔ (ty ch q = 91 ∨ (272 ≤ ty ch q ∧ ty ch q ≤ 275)) := decide_eq_true_iff
  refine pw_bd (l_beginsKind hR) ?_
  rintro x1 X2 ⟨rfl, hz⟩
  by_cases hno : bgK (ty ch q) = true
  · have c1 : ¬ x1.toInt = 0 := fun g => by
      have := hz.f g
      rw [hno] at this
      exact absurd this (by decide)
    have hno := hb.mp hno
    refine pw_neg c1 ?_
    refine pw_let ?_
    refine pw_ifo (by rw [hR.ty]) (fun c2 => ?_) (fun c2 => ?_)
    · refine pw_bd (R := fun r Z => PO Z _ (fun (b : Nat × List Int) => RC e ch n X0 lk Z b.1 o sc ws c ∧ pl ch q + 1 ≤ pl ch b.1 ∧ pl ch b.1 ≤ 3000 ∧ 0 ≤ r.toInt)) ?_ (fun x20 X21 h => pw_ret h)
      unfold g_Reader_takeFunctionKind
      refine pw_eq (fun x e1 => ?_)
      have h6 := hR.2.1.2.2.2
      rw [← e1] at h6
      refine pw_bo (l_enter hR (t := 275) (by decide) (by decide) ho) ?_ ?_
      · rintro _ X3 q1 ⟨hR3, eq1, p1, p2, p3⟩
        refine pw_bo (l_enter hR3 (t := 40) (by decide) (by decide) (by omega)) ?_ ?_
        · rintro _ X4 q2 ⟨hR4, eq2, p4, p5, p6⟩
          rw [show o + 1 + 1 = o + 2 from by omega] at hR4
          refine pw_let ?_
          by_cases c3 : ty ch q2 = 41
          · rw [if_pos c3]
            refine pw_pos (by rw [hR4.ty]; exact c3) ?_
            refine pw_po (l_kindTail zv_takeKind hv (by omega) (by omega) h6 hR4 (fun g => (5 + (([] : List (List Int)).length : Int)) :: (([] : List (List Int)).flatten ++ g.2))) ?_
            rintro r Z b ⟨b1, b2, b3, b4⟩
            exact ⟨b1, by omega, b3, b4⟩
          · rw [if_neg c3]
            refine pw_neg (by rw [hR4.ty]; exact c3) ?_
            unfold g_Reader_takeKindList
            refine pw_bo (l_kindList zv_takeKind hv (lk := lk) (o := o + 2) (by omega) (by omega) BIG 0 X4 q2 4 (by rw [show lk + 4 - ((4 : Nat) : Int) = lk from by omega]; exact hR4) (by decide) (Nat.le_refl 4)) ?_ ?_
            · rintro _ X21 s ⟨lk2, b1, b2, hR21, b4, b5⟩
              refine pw_po (l_kindTail zv_takeKind hv (by omega) (by omega) h6 hR21 (fun g => (5 + (s.2.length : Int)) :: (s.2.flatten ++ g.2))) ?_
              rintro r Z b ⟨d1, d2, d3, d4⟩
              exact ⟨d1, by omega, d3, d4⟩
            · intro _ X21 hd
              exact z_Reader_takeFunctionKind_34 zv_takeKind hd
        · intro _ X4 hd
          refine pw_eq (fun x4 _ => ?_)
          refine pw_ite (fun _ => ?_) (fun _ => ?_)
          · exact z_Reader_takeFunctionKind_34 zv_takeKind hd
          · refine pw_bd (z_Reader_takeKindList zv_takeKind hd) (fun _ X21 dX21 => ?_)
            exact z_Reader_takeFunctionKind_34 zv_takeKind dX21
      · intro _ X3 hd
        refine pw_bd (z_Reader_enter hd) (fun _ X3 dX3 => ?_)
        refine pw_eq (fun x4 _ => ?_)
        refine pw_ite (fun _ => ?_) (fun _ => ?_)
        · exact z_Reader_takeFunctionKind_34 zv_takeKind dX3
        · refine pw_bd (z_Reader_takeKindList zv_takeKind dX3) (fun _ X21 dX21 => ?_)
          exact z_Reader_takeFunctionKind_34 zv_takeKind dX21
    · refine pw_let ?_
      refine pw_ifo (by rw [hR.ty]) (fun c3 => ?_) (fun c3 => ?_)
      · refine pw_bo (l_enter hR (t := 91) (by decide) (by decide) ho) ?_ ?_
        · rintro _ X9 q1 ⟨hR9, eq1, p1, p2, p3⟩
          refine pw_bo (hv X9 q1 (o + 1) lk hR9 (by omega) (by omega) (by omega)) ?_ ?_
          · rintro x10 X11 r ⟨hR11, p4, p5, -⟩
            refine pw_bo (l_want hR11 (t := 93) (by decide) (by decide)) ?_ ?_
            · rintro _ X12 q2 ⟨hR12, eq2, p6, p7⟩
              refine pw_let ?_
              refine pw_let ?_
              refine pw_eq (fun X15 e15 => ?_)
              have hR15 : RC e ch n X0 lk X15 q2 o sc ws c := by
                have h := hR12.shut (by omega)
                rw [show o + 1 - 1 = o from by omega] at h
                rw [e15]
                exact h
              refine pw_ck (fun _ => ?_)
              refine pw_to hR15.pe ?_
              refine pw_to (kYp hR15.he).1 ?_
              refine pw_bd (pw_and (y_Kinds_rowOf (o := e + 1) (X0 := X15) ⟨rfl, by have := hR15.he; omega⟩ KFo.rf) x_Kinds_rowOf) ?_
              rintro x18 X19 ⟨hK, h18⟩
              exact pw_ret (PO.s ⟨hR15.kf hK, by show pl ch q + 1 ≤ pl ch q2; omega, p7, h18⟩)
            · intro _ X12 hd
              refine pw_eq (fun x13 _ => ?_)
              refine pw_eq (fun x14 _ => ?_)
              refine pw_eq (fun X15 eX15 => ?_)
              have dX15 : fd X15 := by rw [eX15]; exact fd_w hd (by decide)
              refine pw_ck (fun hck1 => ?_)
              refine pw_eq (fun e16 ee16 => ?_)
              have pke16 : PKo e16 := by rw [ee16]; exact refO_pk hck1
              have ne46_e16 : ¬ 46 = e16 := PKo.ne pke16
              refine pw_eq (fun e17 ee17 => ?_)
              have ne46_e17 : ¬ 46 = e17 := by rw [ee17]; exact PKo.row pke16 0
              have pke17 : PKo e17 := by rw [ee17]; rw [ee16]; exact PKo.kd hck1
              refine pw_bd (z_Kinds_rowOf pke17 dX15) (fun x18 X19 dX19 => ?_)
              exact pw_ret dX19
          · intro x10 X11 hd
            refine pw_bd (z_Reader_want hd) (fun _ X12 dX12 => ?_)
            refine pw_eq (fun x13 _ => ?_)
            refine pw_eq (fun x14 _ => ?_)
            refine pw_eq (fun X15 eX15 => ?_)
            have dX15 : fd X15 := by rw [eX15]; exact fd_w dX12 (by decide)
            refine pw_ck (fun hck1 => ?_)
            refine pw_eq (fun e16 ee16 => ?_)
            have pke16 : PKo e16 := by rw [ee16]; exact refO_pk hck1
            have ne46_e16 : ¬ 46 = e16 := PKo.ne pke16
            refine pw_eq (fun e17 ee17 => ?_)
            have ne46_e17 : ¬ 46 = e17 := by rw [ee17]; exact PKo.row pke16 0
            have pke17 : PKo e17 := by rw [ee17]; rw [ee16]; exact PKo.kd hck1
            refine pw_bd (z_Kinds_rowOf pke17 dX15) (fun x18 X19 dX19 => ?_)
            exact pw_ret dX19
        · intro _ X9 hd
          refine pw_bd (zv_takeKind _ hd) (fun x10 X11 dX11 => ?_)
          refine pw_bd (z_Reader_want dX11) (fun _ X12 dX12 => ?_)
          refine pw_eq (fun x13 _ => ?_)
          refine pw_eq (fun x14 _ => ?_)
          refine pw_eq (fun X15 eX15 => ?_)
          have dX15 : fd X15 := by rw [eX15]; exact fd_w dX12 (by decide)
          refine pw_ck (fun hck1 => ?_)
          refine pw_eq (fun e16 ee16 => ?_)
          have pke16 : PKo e16 := by rw [ee16]; exact refO_pk hck1
          have ne46_e16 : ¬ 46 = e16 := PKo.ne pke16
          refine pw_eq (fun e17 ee17 => ?_)
          have ne46_e17 : ¬ 46 = e17 := by rw [ee17]; exact PKo.row pke16 0
          have pke17 : PKo e17 := by rw [ee17]; rw [ee16]; exact PKo.kd hck1
          refine pw_bd (z_Kinds_rowOf pke17 dX15) (fun x18 X19 dX19 => ?_)
          exact pw_ret dX19
      · refine pw_eq (fun x5 e5 => ?_)
        refine pw_eq (fun x6 e6 => ?_)
        refine pw_eq (fun x7 e7 => ?_)
        have h5 : x5.toInt = ty ch q := by rw [e5]; exact hR.ty
        have l0 : (0 : Int32).toInt = 0 := by decide
        have l2 : (272 : Int32).toInt = 272 := by decide
        have h6 : x6.toInt = ty ch q := by
          rw [e6, ti_add (by rw [h5, l0]; omega) (by rw [h5, l0]; omega), h5, l0]
          omega
        have h7 : 0 ≤ x7.toInt := by
          rw [e7, ti_sub (by rw [h6, l2]; omega) (by rw [h6, l2]; omega), h6, l2]
          omega
        rw [if_pos (show 272 ≤ ty ch q ∧ ty ch q ≤ 274 from by omega)]
        refine pw_bd (l_advance hR (by omega)) (fun _ X8 hR8 => ?_)
        have := hR8.pln
        exact pw_ret (PO.s ⟨hR8, pl_nx hR.tx (by omega), by show pl ch (nx ch q) ≤ 3000; omega, h7⟩)
  · have c1 : x1.toInt = 0 := by
      rcases hz with g | g
      · exact g.1
      · exact absurd g.2 hno
    have hno := fun g => hno (hb.mpr g)
    rw [if_neg (show ¬ ty ch q = 275 from fun g => hno (by omega)), if_neg (show ¬ ty ch q = 91 from fun g => hno (by omega)), if_neg (show ¬ (272 ≤ ty ch q ∧ ty ch q ≤ 274) from fun g => hno (by omega))]
    refine pw_pos c1 ?_
    refine pw_bd (f_Reader_refuse X2 (by decide)) (fun _ X22 d => ?_)
    exact pw_ret d
theorem l_takeKind : KH e ch n X0 sc ws c g_Reader_takeKind (sK ch 64) := by
  have h : ∀ N, (∀ (X : St), fd X → pw (rec_kind N X) (fun _ Y => fd Y)) ∧ KH e ch n X0 sc ws c (rec_kind N) (sK ch N) := by
    intro N
    unfold rec_kind
    refine lp_indN (γ := St → Option (Int32 × St)) (P := fun (m : Nat) (r : St → Option (Int32 × St)) => (∀ (X : St), fd X → pw (r X) (fun _ Y => fd Y)) ∧ KH e ch n X0 sc ws c r (sK ch m)) ⟨fun _ _ => pw_none, fun _ _ _ _ _ _ _ _ => pw_none⟩ (fun m r ih => ⟨fun X h => z_Reader_takeKind_b ih.1 h, l_kindB ih.1 ih.2⟩) N
  exact (h 64).2
end CKIND
