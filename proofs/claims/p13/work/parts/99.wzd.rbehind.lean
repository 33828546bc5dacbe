/-! the reference reads what stands behind an operand: calls, places, stores -/
section RBEHIND
variable {ch : Tx} {n q : Nat} {X Y Z X0 : St} {o : Int} {sc : List Nm} {j N s N0 : Nat} {Q : Int32 → St → Prop} {c c0 c1 : List Ins}
/-- behind an operand's part: how many calls and places in a row -/
def SFq (ch : Tx) (n : Nat) (X Y : St) (q : Nat) (o : Int) (sc : List Nm) (j N N1 t d : Nat) (c0 c : List Ins) : Prop := XS ch n Y q o sc (j + 1) N1 ∧ (Y.1 0 23).toInt = 2 ∧ NMr ch Y N1 c ∧ KP X Y (j + 1) N sc.length ∧ (Y.1 0 24).toInt = (t : Int) ∧ (N ≤ t ∧ t < N1) ∧ ¬ (Y.1 20 t).toInt = 14 ∧ (((Y.1 20 t).toInt = 10 ∨ (Y.1 20 t).toInt = 11) ∧ (Y.1 39 t).toInt = (d : Int) ∧ 1 ≤ d ∨ ¬ (Y.1 20 t).toInt = 10 ∧ ¬ (Y.1 20 t).toInt = 11 ∧ d = 0) ∧ OMx ch Y N N1 t c0 c
theorem modify_app {f : Ins → Ins} (e : List Ins) : ∀ c : List Ins, (c ++ e).modify c.length f = c ++ e.modify 0 f := by
  intro c
  induction c with
  | nil => rfl
  | cons a c ih => exact congrArg (List.cons a) ih
theorem addx_app (c e : List Ins) (d : Int) : addx (c ++ e) c.length d = c ++ addx e 0 d := modify_app e c
theorem setx_app (c e : List Ins) (d : Int) : setx (c ++ e) c.length d = c ++ setx e 0 d := modify_app e c
theorem stp_len (e : List Ins) : (stp e).length = e.length := List.length_modify ..
theorem plh_stp (e l : List Ins) (h : ¬ e = []) : plh (stp e ++ l) = plh e := by
  cases e with
  | nil => exact absurd rfl h
  | cons a e => rfl
theorem OM.ne {lo hi t i : Nat} {d : List Ins} (h : OM ch X lo hi t i d) : ¬ d = [] := by
  obtain ⟨m, h⟩ := h
  cases m with
  | zero => exact h.elim
  | succ m =>
    rw [OMf] at h
    have ap : ∀ (e : List Ins) (a : Ins) (l : List Ins), ¬ e ++ a :: l = [] := fun e a l g => by
      have := congrArg List.length g
      rw [List.length_append, List.length_cons] at this
      exact absurd this (Nat.succ_ne_zero _)
    obtain ⟨_, _, _, h⟩ := h
    rcases h with h | ⟨u, e, _, _, h⟩ | h | h | h | h
    · rcases h with ⟨_, h⟩ | ⟨_, h⟩ | ⟨_, h⟩ | ⟨_, h, _⟩ <;> rw [h] <;> exact List.cons_ne_nil _ _
    · rcases h with ⟨_, h⟩ | ⟨_, h⟩ | ⟨_, h⟩ | ⟨_, h⟩ | ⟨_, h⟩ <;> rw [h] <;> exact List.cons_ne_nil _ _
    · rcases h with ⟨_, es, _, _, _, h⟩ | ⟨_, es, _, _, _, h⟩ <;> rw [h] <;> exact List.cons_ne_nil _ _
    · rcases h with ⟨_, _, _, _, _, _, _, _, _, _, _, _, h⟩ | ⟨_, _, _, _, _, _, _, _, _, _, h⟩
      · rw [h]
        exact List.cons_ne_nil _ _
      · rw [h]
        exact ap _ _ _
    · rcases h with ⟨_, _, _, _, _, _, _, _, _, _, _, _, h⟩ | ⟨_, _, _, _, _, _, _, _, _, h⟩
      · rcases h with ⟨_, h⟩ | ⟨_, _, _, _, h⟩ <;> rw [h] <;> exact ap _ _ _
      · rw [h]
        exact ap _ _ _
    · rcases h with ⟨_, _, _, _, _, _, _, _, _, _, _, _, _, _, _, _, _, _, h⟩ | ⟨_, _, _, _, _, _, _, _, _, _, _, h⟩
      · rw [h]
        exact List.cons_ne_nil _ _
      · rcases h with ⟨_, _, h⟩ | ⟨_, _, _, _, _, h⟩ <;> rw [h] <;> exact List.cons_ne_nil _ _
theorem x_mk25 (h : XS ch n X q o sc j N) (p1 p2 : Int32) : pw (f_make p1 p2 X) (fun _ Y => (Y.1 25 N).toInt = -1) := by
  have hN : ix (X.1 0 19) = N := ixn h.2.2.2.2
  unfold f_make
  refine pw_let (pw_let (pw_eq (fun x3 e3 => pw_eq (fun X4 e4 => ?_))))
  rw [hN]
  refine pw_ck (fun _ => pw_eq (fun X5 e5 => ?_))
  refine pw_ck (fun _ => pw_eq (fun X6 e6 => ?_))
  refine pw_ck (fun _ => pw_eq (fun X7 e7 => ?_))
  refine pw_ck (fun _ => pw_eq (fun X8 e8 => ?_))
  refine pw_ck (fun _ => pw_eq (fun X9 e9 => ?_))
  refine pw_ck (fun _ => pw_eq (fun X10 e10 => ?_))
  refine pw_ck (fun _ => pw_eq (fun X11 e11 => ?_))
  refine pw_ck (fun _ => pw_eq (fun X12 e12 => ?_))
  refine pw_ck (fun _ => pw_eq (fun X13 e13 => ?_))
  refine pw_ck (fun _ => pw_eq (fun X14 e14 => ?_))
  refine pw_ck (fun _ => pw_eq (fun X15 e15 => ?_))
  refine pw_ret ?_
  rw [e15, wI_ne _ _ _ _ _ _ (by omega), e14]
  show (X13.1 25 N).toInt = _
  rw [e13, wI_ne _ _ _ _ _ _ (by omega), e12, wI_ne _ _ _ _ _ _ (by omega), e11, wI_ne _ _ _ _ _ _ (by omega), e10, wI_at]
  decide
/-- the node of a call or a place, its operand and where it stands -/
def SFz (ch : Tx) (Y Z : St) (q N N1 t : Nat) (c0 c : List Ins) : Prop := (∃ e, c = c0 ++ e ∧ OM ch Z N N1 t c0.length e ∧ (Z.1 21 N1).toInt = plh e) ∧ (Z.1 22 N1).toInt = (pl ch q : Int) ∧ (Z.1 23 N1).toInt = (t : Int) ∧ (Z.1 25 N1).toInt = -1 ∧ Z.1 20 t = Y.1 20 t
/-- the node of a call or a place, up to where its bracket opens -/
theorem b_suff {t d N1 : Nat} (h : SFq ch n X Y q o sc j N N1 t d c0 c) (ho : 0 ≤ o ∧ o ≤ 40) (hd : d ≤ 40) (hty : ty ch q = 40 ∨ ty ch q = 91) {a2 : Int32} (ha2 : (a2.toInt = 0 ↔ d = 0)) {a1 : Int32} (h1' : a1.toInt = (t : Int)) (dead : (d = 40 ∨ ¬ o < 40) → DQ Q) (live : ∀ (b0 r : Int32) (Z : St), (b0.toInt = if ty ch q = 40 then 11 else 10) → d < 40 → o < 40 → XS ch n Z (nx ch q) (o + 1) sc (j + 1) (N1 + 1) → NMr ch Z (N1 + 1) c → KP X Z (j + 1) N sc.length → r.toInt = (N1 : Int) → Z.1 20 N1 = b0 → (Z.1 39 N1).toInt = (d : Int) + 1 → (Z.1 27 N1).toInt = 0 → SFz ch Y Z q N N1 t c0 c → pw (if (if ty ch q = 40 then (1 : Int32) else 0).toInt = 0 then f_behind_201 r (if ty ch q = 40 then (1 : Int32) else 0) Z else bnd (f_isSign (41 : Int32) Z) fun x18 X19 => if x18.toInt = 0 then f_behind_201 r (if ty ch q = 40 then (1 : Int32) else 0) X19 else bnd (f_closes (41 : Int32) X19) fun _ X20 => bnd (f_done r X20) fun _ X21 => some ((0 : Int32), X21)) (fun _ Z => pr Z Q)) : pw (f_behind_51 a1 a2 Y) (fun _ Z => pr Z Q) := by
  obtain ⟨gY, mY, nY, kY, hY, ht, k14, kd, e, ee, eo⟩ := h
  have h1 : ix a1 = t := ixn h1'
  have l1 : (1 : Int32).toInt = 1 := by decide
  have l40 : (40 : Int64).toInt = 40 := by decide
  have L : (lg_cmp (Y.2.1 0 47) 40).toInt = 0 ↔ ty ch q = 40 := by
    rw [cmp0, ← Int64.toInt_inj, l40]
    obtain ⟨_, _, tk⟩ := gY.tk
    omega
  have main : ∀ b0 : Int32, (b0.toInt = if ty ch q = 40 then 11 else 10) → pw (f_behind_70 a1 a2 b0 Y) (fun _ Z => pr Z Q) := by
    intro b0 hb
    have hb3 : ¬ b0.toInt = 3 := by
      rw [hb]
      split <;> decide
    have hv : (if ty ch q = 40 then (40 : Int32) else 91).toInt = ty ch q := by
      rcases hty with e | e <;> rw [e] <;> decide
    unfold f_behind_70
    rw [h1]
    refine pw_ck (fun _ => pw_let ?_)
    refine pw_bd (pw_and (pw_and (x_make gY b0 _) (x_make21 gY b0 _)) (x_mk25 gY b0 _)) ?_
    rintro x8 X9 ⟨⟨⟨⟨hr, hi⟩, g9, m9⟩, p9⟩, p25⟩
    refine pw_let ?_
    rw [hi]
    refine pw_ck (fun _ => ?_)
    refine pw_eq (fun X11 e11 => ?_)
    refine pw_ck (fun _ => ?_)
    refine pw_eq (fun X12 e12 => ?_)
    have g12 : XS ch n X12 q o sc (j + 1) (N1 + 1) := by rw [e12, e11]; exact (g9.wI (by omega)).wI (by omega)
    have n12 : NMr ch X12 (N1 + 1) c := by rw [e12, e11]; exact ((nY.mk m9 hb3).wI (by omega)).wI (by omega)
    have k12 : KP X X12 (j + 1) N sc.length := by rw [e12, e11]; exact ((kY.mk m9 (by omega)).wI (by unfold KPs; omega)).wI (by unfold KPs; omega)
    have h20 : X12.1 20 N1 = b0 := by rw [e12, wI_ne _ _ _ _ _ _ (by omega), e11, wI_ne _ _ _ _ _ _ (by omega)]; exact m9.2.2.1
    have h27 : (X12.1 27 N1).toInt = 0 := by rw [e12, wI_ne _ _ _ _ _ _ (by omega), e11, wI_ne _ _ _ _ _ _ (by omega)]; exact m9.2.2.2.1
    have r12 : ∀ e k, 20 ≤ e → ¬ (e = 22 ∧ k = N1) → ¬ (e = 23 ∧ k = N1) → X12.1 e k = X9.1 e k := fun e k he x1 x2 => by rw [e12, wI_ne _ _ _ _ _ _ (by omega), e11, wI_ne _ _ _ _ _ _ (by omega)]
    have z22 : (X12.1 22 N1).toInt = (pl ch q : Int) := by rw [e12, wI_ne _ _ _ _ _ _ (by omega), e11, wI_at]; exact g9.tk.2.1
    have z23 : X12.1 23 N1 = a1 := by rw [e12, wI_at]
    have o12 : OM ch X12 N N1 t c0.length e := by
      rw [e12, e11]
      exact ((eo.mk gY.kj m9 (Nat.le_refl _)).wI g9.kj (by omega)).wI ((g9.wI (by omega)).kj) (by omega)
    have h39t : X12.1 39 t = Y.1 39 t := by rw [e12, wI_ne _ _ _ _ _ _ (by omega), e11, wI_ne _ _ _ _ _ _ (by omega)]; exact m9.1 39 t (by omega) (by omega)
    have c118 : ∀ v : Int32, v.toInt = (d : Int) + 1 → pw (f_behind_118 x8 v x8 X12) (fun _ Z => pr Z Q) := by
      intro v hv2
      unfold f_behind_118
      rw [hi]
      refine pw_ck (fun _ => ?_)
      refine pw_eq (fun X13 e13 => ?_)
      have g13 : XS ch n X13 q o sc (j + 1) (N1 + 1) := by rw [e13]; exact g12.wI (by omega)
      have n13 : NMr ch X13 (N1 + 1) c := by rw [e13]; exact n12.wI (by omega)
      have k13 : KP X X13 (j + 1) N sc.length := by rw [e13]; exact k12.wI (by unfold KPs; omega)
      have z20 : X13.1 20 N1 = b0 := by rw [e13, wI_ne _ _ _ _ _ _ (by omega)]; exact h20
      have z27 : (X13.1 27 N1).toInt = 0 := by rw [e13, wI_ne _ _ _ _ _ _ (by omega)]; exact h27
      have z39 : X13.1 39 N1 = v := by rw [e13, wI_at]
      have f13 : ∀ W, TNq X13 W → SFz ch Y W q N N1 t c0 c := fun W tW => by
        have rw3 : ∀ e k, 20 ≤ e ∧ e ≤ 28 → W.1 e k = X12.1 e k := fun e k he => by rw [tW.r e k (by omega), e13, wI_ne _ _ _ _ _ _ (by omega)]
        refine ⟨⟨e, ee, ?_, ?_⟩, ?_, ?_, ?_, ?_⟩
        · have o13 : OM ch X13 N N1 t c0.length e := by rw [e13]; exact o12.wI g12.kj (by omega)
          exact o13.tn g13.kj tW
        · rw [rw3 21 N1 (by omega), r12 21 N1 (by omega) (by omega) (by omega), p9]
          exact eo.bd.2.2.symm
        · rw [rw3 22 N1 (by omega)]
          exact z22
        · rw [rw3 23 N1 (by omega), z23]
          exact h1'
        · rw [rw3 25 N1 (by omega), r12 25 N1 (by omega) (by omega) (by omega)]
          exact p25
        · rw [rw3 20 t (by omega), r12 20 t (by omega) (by omega) (by omega)]
          exact m9.1 20 t (by omega) (by omega)
      refine pw_ck (fun _ => pw_let ?_)
      rw [z39]
      refine pw_ite (fun c1 => ?_) (fun c1 => ?_)
      · unfold f_behind_139
        rw [hi, z20]
        refine pw_ck (fun _ => pw_let ?_)
        have c170 : ∀ (v4 vs : Int32), v4 = (if ty ch q = 40 then (1 : Int32) else 0) → vs.toInt = ty ch q → pw (f_behind_170 x8 v4 vs X13) (fun _ Z => pr Z Q) := by
          intro v4 vs h4 hs
          unfold f_behind_170
          refine pw_bd (x_opens g13 ho (by omega)) ?_
          rintro _ X16 (⟨hop, g16, t16⟩ | ⟨hop, hdd⟩)
          · rw [h4]
            exact live b0 x8 X16 hb (by omega) hop.2 g16 (n13.tn t16) (k13.tn t16) hr (by rw [t16.r 20 N1 (by decide)]; exact z20) (by rw [t16.r 39 N1 (by decide), z39]; exact hv2) (by rw [t16.r 27 N1 (by decide)]; exact z27) (f13 _ t16)
          · have hQ := dead (Or.inr (fun z => hop ⟨hs.symm, z⟩))
            have d201 : ∀ W, wrX W → pw (f_behind_201 x8 v4 W) (fun _ Z => pr Z Q) := fun W hW => pw_mono (uw_behind_201 hW) (fun _ _ d => pr_dd d hQ)
            refine pw_ite (fun _ => d201 _ hdd) (fun _ => ?_)
            refine pw_bd (uw_isSign hdd) (fun x18 X19 d19 => ?_)
            refine pw_ite (fun _ => d201 _ d19) (fun _ => ?_)
            exact pw_bd (uw_closes d19) (fun _ X20 d20 => pw_bd (uw_done d20) (fun _ X21 d21 => pw_ret (pr_dd d21 hQ)))
        by_cases e40 : ty ch q = 40
        · rw [if_pos e40] at hb
          refine pw_pos hb ?_
          unfold f_behind_155
          exact pw_neg (by decide) (c170 1 40 (by rw [if_pos e40]) (by rw [e40]; decide))
        · rw [if_neg e40] at hb
          refine pw_neg (by omega) ?_
          unfold f_behind_155
          exact pw_pos rfl (c170 0 91 (by rw [if_neg e40]) (by rw [hty.resolve_left e40]; decide))
      · have hQ := dead (Or.inl (by
          have l40i : (40 : Int32).toInt = 40 := by decide
          omega))
        refine pw_let ?_
        refine pw_bd (q_fails _ (by decide)) (fun _ X23 d23 => ?_)
        exact pw_mono (uw_behind_139 d23) (fun _ _ d => pr_dd d hQ)
    refine pw_ite (fun c1 => ?_) (fun c1 => ?_)
    · have e0 := ha2.mp c1
      exact c118 1 (by rw [e0, l1]; rfl)
    · rw [h39t]
      refine pw_ck (fun _ => pw_let ?_)
      refine pw_eq (fun x25 e25 => ?_)
      have hd0 : ¬ d = 0 := fun z => c1 (ha2.mpr z)
      have h39 : (Y.1 39 t).toInt = (d : Int) := by
        rcases kd with g | g
        · exact g.2.1
        · exact absurd g.2.2 hd0
      refine c118 x25 ?_
      rw [e25, ti_add (by rw [h39, l1]; omega) (by rw [h39, l1]; omega), h39, l1]
  unfold f_behind_51
  refine pw_let (pw_let ?_)
  refine pw_ite (fun c1 => main 11 ?_) (fun c1 => main 10 ?_)
  · rw [if_pos (L.mp c1)]; decide
  · rw [if_neg (fun z => c1 (L.mpr z))]; decide
end RBEHIND
