/-! the reference reads an expression of a part; its params -/
/-- the parts' names, their places, how many params: they stay -/
def SPt (X Y : St) : Prop := (∀ k, Y.2.1 11 k = X.2.1 11 k) ∧ (∀ k, Y.1 12 k = X.1 12 k) ∧ (∀ k, Y.1 15 k = X.1 15 k) ∧ Y.1 0 18 = X.1 0 18
/-- the parts read so far -/
def PAq (ch : Tx) (X : St) (ps : List Pt) : Prop := (X.1 0 18).toInt = (ps.length : Int) ∧ ∀ k p, ps[k]? = some p → (X.2.1 11 k = lN (p6 p.2.2.1) ∧ LT p.2.2.1 ∧ p.2.2.1.length ≤ 8) ∧ PLk ch (X.1 12 k) ∧ (X.1 15 k).toInt = (p.2.2.2.1.length : Int)
/-- and the one that is being read -/
def PCq (ch : Tx) (X : St) (ps : List Pt) (l : Nm) (m : Nat) : Prop := PAq ch X ps ∧ (X.2.1 11 ps.length = lN (p6 l) ∧ LT l ∧ l.length ≤ 8) ∧ PLk ch (X.1 12 ps.length) ∧ (X.1 15 ps.length).toInt = (m : Int)
section RPARAM
variable {ch : Tx} {n q : Nat} {X Y Z X0 : St} {o : Int} {sc : List Nm} {j N N1 s N0 m : Nat} {Q : Int32 → St → Prop} {c c1 : List Ins} {ps : List Pt} {l : Nm}
theorem SPt.rf : SPt X X := ⟨fun _ => rfl, fun _ => rfl, fun _ => rfl, rfl⟩
theorem SPt.tr (h : SPt X Y) (g : SPt Y Z) : SPt X Z := ⟨fun k => (g.1 k).trans (h.1 k), fun k => (g.2.1 k).trans (h.2.1 k), fun k => (g.2.2.1 k).trans (h.2.2.1 k), g.2.2.2.trans h.2.2.2⟩
theorem SPt.tn (g : TNq X Y) : SPt X Y := ⟨fun k => g.2.1 11 k (by omega), fun k => g.1 12 k (by omega), fun k => g.1 15 k (by omega), g.1 0 18 (by omega)⟩
theorem SPt.wI {e k : Nat} {v : Int32} (g : ¬ (e = 12 ∨ e = 15 ∨ (e = 0 ∧ k = 18))) : SPt X (_root_.Jvm.Pilot.CBlameCourtLaw_law_r8381_f30dd1.wI X e k v) := ⟨fun _ => rfl, fun i => wI_ne _ _ _ _ _ _ (by omega), fun i => wI_ne _ _ _ _ _ _ (by omega), wI_ne _ _ _ _ _ _ (by omega)⟩
theorem SPt.wL {e k : Nat} {v : Int64} (g : ¬ e = 11) : SPt X (_root_.Jvm.Pilot.CBlameCourtLaw_law_r8381_f30dd1.wL X e k v) := ⟨fun i => wL_ne _ _ _ _ _ _ (by omega), fun _ => rfl, fun _ => rfl, rfl⟩
theorem SPt.fq {L : List Nat} (g : fq L X Y) (hL : ∀ c ∈ [18, 2200, 2400, 3000], c ∉ L) : SPt X Y := ⟨fun k => g.2.1 11 k (hL 2200 (by decide)), fun k => g.1 12 k (hL 2400 (by decide)), fun k => g.1 15 k (hL 3000 (by decide)), g.1 0 18 (hL 18 (by decide))⟩
theorem PAq.sp (h : PAq ch X ps) (g : SPt X Y) : PAq ch Y ps := by
  refine ⟨by rw [g.2.2.2]; exact h.1, fun k p hk => ?_⟩
  rw [g.1, g.2.1, g.2.2.1]
  exact h.2 k p hk
theorem PCq.sp (h : PCq ch X ps l m) (g : SPt X Y) : PCq ch Y ps l m := by
  refine ⟨h.1.sp g, ?_⟩
  rw [g.1, g.2.1, g.2.2.1]
  exact h.2
/-- a whole expression -/
theorem x_expr (h : XS ch n X q 0 sc j N) (hM : NMr ch X N c) (H : HH (DQ Q) (fun a => ∀ Y N1 r, XS ch n Y a.1 0 sc 0 N1 → NMr ch Y N1 a.2 → KP X Y 0 N sc.length → (∃ (t : Nat) (d : List Ins), r.toInt = (t : Int) ∧ a.2 = c ++ d ∧ OM ch Y N N1 t c.length d) → Q r Y) (sE ch 0 sc q c)) : pw (f_expression X) Q := by
  unfold f_expression
  refine pw_eq (fun X1 e1 => ?_)
  have g1 : XS ch n X1 q 0 sc 0 N := by rw [e1]; exact h.w22 (by decide)
  refine pw_bd (x_enter g1 0 _) ?_
  rintro _ X2 ⟨g2, n2⟩
  refine pw_eq (fun X3 e3 => pw_eq (fun X4 e4 => ?_))
  have g4 : XS ch n X4 q 0 sc (0 + 1) N := by rw [e4, e3]; exact (g2.wI (by omega)).wI (by omega)
  have f35 : X4.1 35 0 = 0 := by rw [e4, wI_ne _ _ _ _ _ _ (by omega), e3, wI_ne _ _ _ _ _ _ (by omega)]; exact n2.2.2.1
  have m4 : NMr ch X4 N c := by
    rw [e4, e3]
    refine (((NMr.en ?_ n2)).wI (by omega)).wI (by omega)
    rw [e1]
    exact hM.wI (by omega)
  have k4 : KP X X4 0 N sc.length := by
    rw [e4, e3]
    refine ((KP.en ?_ n2 (Nat.le_refl _)).wI (by unfold KPs; omega)).wI (by unfold KPs; omega)
    rw [e1]
    exact KP.rf.wI (by unfold KPs; omega)
  refine se_0 h.tx sc q c 0 N X4 Q g4 (by rw [e4, wI_ne _ _ _ _ _ _ (by omega), e3, wI_at]; rfl) ⟨⟨by rw [f35]; decide, by rw [f35]; decide⟩, fun e => by rw [f35] at e; exact absurd e (by decide), fun e => by rw [f35] at e; exact absurd e (by decide)⟩ m4 (by omega) (by omega) (H.m (fun a H => ?_)) BIG
  rintro Y ⟨N1, t, gY, mY, kY, hY, h1, h2, d, ed, od⟩
  have y35 : Y.1 35 0 = 0 := by rw [kY.1 35 0 (by unfold KPs; omega)]; exact f35
  unfold prE f_endsOne
  refine pw_let (pw_eq (fun x2 e2 => ?_))
  rw [(gY.tp e2).2]
  refine pw_ck (fun _ => pw_let (pw_ck (fun _ => pw_let ?_)))
  rw [y35]
  refine pw_pos (by decide) ?_
  refine pw_let (pw_eq (fun x7 e7 => pw_eq (fun X8 e8 => pw_ret ?_)))
  have g8 : XS ch n X8 a.1 0 sc 0 N1 := by rw [e8]; exact gY.w22 (gY.tp e7).1
  refine pr_st (fun M => ?_)
  unfold f_expression_21_s
  refine pw_bd (q_well g8.w0) ?_
  rintro x5 X6 ⟨e6, h5⟩
  rw [e6]
  refine pw_neg h5 (pw_let (pw_pos (by rcases g8.2.2.2.1.1 with e | e <;> omega) (pw_let (pw_ret ?_))))
  exact H X8 N1 _ g8 (by rw [e8]; exact mY.wI (by omega)) (by rw [e8]; exact (k4.tr (kY.mono (by omega) (Nat.le_refl _) (Nat.le_refl _))).wI (by unfold KPs; omega)) ⟨t, d, by rw [e8, wI_ne _ _ _ _ _ _ (by omega)]; exact hY, ed, by rw [e8]; exact od.wI gY.kj (by omega)⟩
/-- what follows a param's name -/
theorem x_param76 {a1 : Int32} (h : XS ch n X q 1 sc j N) (hM : NMr ch X N c) (hP : PCq ch X ps l sc.length) {pp : List (Nm × List Int)} {ow : List Int × Nat × Nat × Nat} (hB : PQq ch X ps c N pp ow) (hpl : pp.length = sc.length) (ha : a1.toInt = (ps.length : Int)) (hk : ps.length < 41) (hs : sc.length < 4) (hty : ty ch q = 258) (H : HH (DQ Q) (fun kq => ∀ Y z, XS ch n Y kq.1 1 (nm ch q :: sc) j N → NMr ch Y N c → PCq ch Y ps l (sc.length + 1) → PQq ch Y ps c N ((nm ch q, kq.2.getD [3]) :: pp) ow → Q z Y) (sColon ch 1 (nx ch q))) : pw (f_param_76 a1 X) Q := by
  have l1 : (1 : Int32).toInt = 1 := by decide
  have l58 : (58 : Int32).toInt = 58 := by decide
  have told : X.2.1 0 47 = lN (p6 (nm ch q)) := by
    obtain ⟨_, _, t⟩ := h.tk
    rcases t with t | t | t | t | t | t | t
    · omega
    · exact t.2.2.1
    all_goals omega
  have hw := ty_word h.tx (q := q) ⟨by omega, by omega, by omega⟩
  have hl : LT (nm ch q) ∧ (nm ch q).length ≤ 8 := ⟨nm_lt h.tx _, hw.2.2.1⟩
  unfold f_param_76
  refine pw_bd (q_well h.w0) ?_
  rintro x7 X8 ⟨e8, h7⟩
  rw [e8]
  have i20 := ixn h.2.2.1.1
  refine pw_neg h7 (pw_let (pw_let ?_))
  rw [i20]
  refine pw_ck (fun _ => pw_eq (fun X11 e11 => ?_))
  have g11 : XS ch n X11 q 1 sc j N := by rw [e11]; exact h.wL (by omega)
  have s11 : X11.2.1 30 sc.length = lN (p6 (nm ch q)) := by rw [e11, wL_at]; exact told
  refine pw_let (pw_eq (fun x13 e13 => ?_))
  have h20 := g11.2.2.1.1
  have v13 : x13.toInt = ((nm ch q :: sc).length : Int) := by
    rw [e13, ti_add (by rw [h20, l1]; omega) (by rw [h20, l1]; omega), h20, l1, List.length_cons]
    omega
  refine pw_eq (fun X14 e14 => ?_)
  have g14 : XS ch n X14 q 1 (nm ch q :: sc) j N := by rw [e14]; exact g11.w20 v13 ⟨⟨s11, hl⟩, g11.2.2.1.2⟩
  have v15 := g14.2.2.1.1
  refine pw_let ?_
  rw [ixn ha]
  refine pw_ck (fun _ => pw_eq (fun X16 e16 => ?_))
  have g16 : XS ch n X16 q 1 (nm ch q :: sc) j N := by rw [e16]; exact g14.wI (by omega)
  refine pw_let (pw_let (pw_let (pw_eq (fun x20 e20 => pw_ck (fun _ => pw_eq (fun X21 e21 => ?_))))))
  have l4 : (4 : Int32).toInt = 4 := by decide
  have h20b := g16.2.2.1.1
  have l20 : ((nm ch q :: sc).length : Int) = (sc.length : Int) + 1 := rfl
  have at16 : ∀ (W : St) (z : Int32), (W.1 0 20).toInt = ((nm ch q :: sc).length : Int) → z = (4 : Int32) * a1 + W.1 0 20 - (1 : Int32) → ix z = 4 * ps.length + pp.length := fun W z hW hz => by
    have v1 : ((4 : Int32) * a1).toInt = 4 * (ps.length : Int) := by rw [ti_mul (by rw [l4, ha]; omega) (by rw [l4, ha]; omega), l4, ha]
    have v2 : ((4 : Int32) * a1 + W.1 0 20).toInt = 4 * (ps.length : Int) + ((sc.length : Int) + 1) := by rw [ti_add (by rw [v1, hW, l20]; omega) (by rw [v1, hW, l20]; omega), v1, hW, l20]
    have v3 : z.toInt = ((4 * ps.length + pp.length : Nat) : Int) := by rw [hz, ti_sub (by rw [v2, l1]; omega) (by rw [v2, l1]; omega), v2, l1]; omega
    exact ixn v3
  rw [at16 X16 x20 h20b e20] at e21
  have b16 : PQq ch X16 ps c N pp ow := hB.sp h.kj (by rw [e16, e14, e11]; exact ((SPb.wL (by omega)).tr (SPb.wI (by omega))).tr (SPb.wI (by omega))) (fun i _ => by rw [e16, wI_ne _ _ _ _ _ _ (by omega), e14, wI_ne _ _ _ _ _ _ (by omega), e11]; rfl) (SPc.of (fun e he => by rw [e16, wI_ne _ _ _ _ _ _ (by omega), e14, wI_ne _ _ _ _ _ _ (by omega), e11]; rfl))
  have b21 : PQq ch X21 ps c N pp ow := b16.sp g16.kj (by rw [e21]; exact SPb.wI (by omega)) (fun i hi => by rw [e21, wI_ne _ _ _ _ _ _ (by omega)]) (SPc.of (fun e he => by rw [e21, wI_ne _ _ _ _ _ _ (by omega)]))
  have z21 : (X21.1 16 (4 * ps.length + pp.length)).toInt = ((2 : Nat) : Int) := by rw [e21, wI_at]; rfl
  have g21 : XS ch n X21 q 1 (nm ch q :: sc) j N := by rw [e21]; exact g16.wI (by omega)
  have m21 : NMr ch X21 N c := by
    rw [e21, e16, e14, e11]
    exact (((hM.wL (by omega)).wI (by omega)).wI (by omega)).wI (by omega)
  have p21 : PCq ch X21 ps l (sc.length + 1) := by
    have sp : SPt X X14 := by rw [e14, e11]; exact (SPt.wL (by omega)).tr (SPt.wI (by omega))
    have P := hP.sp sp
    have s2 : SPt X16 X21 := by rw [e21]; exact SPt.wI (by omega)
    refine PCq.sp ?_ s2
    obtain ⟨⟨A1, A2⟩, B, C, D⟩ := P
    refine ⟨⟨by rw [e16, wI_ne _ _ _ _ _ _ (by omega)]; exact A1, fun k p hk => ?_⟩, ?_, ?_, ?_⟩
    · have hlt : k < ps.length := (List.getElem?_eq_some_iff.mp hk).1
      rw [e16, wI_ne _ _ _ _ _ _ (by omega), wI_ne _ _ _ _ _ _ (by omega)]
      exact A2 k p hk
    · rw [e16]; exact B
    · rw [e16, wI_ne _ _ _ _ _ _ (by omega)]; exact C
    · rw [e16, wI_at, v15, List.length_cons]
  refine pw_bd (x_next g21) ?_
  rintro _ X22 ⟨g22, t22⟩
  refine pw_bd (q_isSign g22.1 (by decide)) ?_
  rintro x23 X24 ⟨e24, h23⟩
  rw [e24]
  rw [l58] at h23
  unfold sColon at H
  refine pw_ite (fun c23 => ?_) (fun c23 => ?_)
  · have H := (H.q (h23.mp c23)).s
    have k2 : KD X22 2 [3] := g22.kj.pl (i := 2) (by omega)
    exact pw_ret (H X22 _ g22 (m21.tn t22) (p21.sp (SPt.tn t22)) ((b21.tn g21.kj t22).co (by omega) (by rw [t22.1 16 _ (by omega)]; exact z21) k2))
  · have y58 : ty ch (nx ch q) = 58 := Classical.byContradiction (fun z => c23 (h23.mpr z))
    have H := (H.p y58).b
    refine pw_bd (x_next g22) ?_
    rintro _ X25 ⟨g25, t25⟩
    refine pw_let (pw_let (pw_let (pw_eq (fun x29 e29 => ?_))))
    rw [at16 X25 x29 g25.2.2.1.1 e29]
    refine pw_bd (pw_and (x_kind g25 ⟨by omega, by omega⟩) fw_kind) ?_
    rintro x30 X31 ⟨(⟨a, ea, hz, g31, kg31, kd31⟩ | ⟨ea, hd⟩), f31⟩
    · have H := (H.2 a ea).s
      refine pw_ck (fun _ => pw_eq (fun X32 e32 => pw_ret ?_))
      have s32 : SPt X31 X32 := by rw [e32]; exact SPt.wI (by omega)
      have g32 : XS ch n X32 a.1 1 (nm ch q :: sc) j N := by rw [e32]; exact g31.wI (by omega)
      have b31 : PQq ch X31 ps c N pp ow := ((b21.tn g21.kj t22).tn g22.kj t25).sp g25.kj (SPb.fk f31 kg31) (fun i _ => f31.1 16 _ (fq16 (by omega))) (SPc.of (fun e he => f31.1 e _ (fq16 (by omega))))
      have b32 : PQq ch X32 ps c N pp ow := b31.sp g31.kj (by rw [e32]; exact SPb.wI (by omega)) (fun i hi => by rw [e32, wI_ne _ _ _ _ _ _ (by omega)]) (SPc.of (fun e he => by rw [e32, wI_ne _ _ _ _ _ _ (by omega)]))
      have kd32 : KD X32 (ix x30) a.2 := KDk.oj g31.kj (show KXq X31 X32 from KXq.of (fun e k q => by rw [e32, wI_ne _ _ _ _ _ _ (by omega)])) _ _ kd31
      refine H X32 _ g32 ?_ ((((p21.sp (SPt.tn t22)).sp (SPt.tn t25)).sp (SPt.fq f31 (by decide))).sp s32) (b32.co (by omega) (by rw [e32, wI_at]; exact (ixc hz).symm) kd32)
      rw [e32]
      exact ((((m21.tn t22).tn t25).fk f31)).wI (by omega)
    · have hQ := H.1 ea
      refine pw_ck (fun _ => pw_eq (fun X32 e32 => pw_ret (hQ _ _ ?_)))
      rw [e32]
      exact wrX_w hd (by omega)
/-- a param -/
theorem x_param {a1 : Int32} (h : XS ch n X q 1 sc j N) (hM : NMr ch X N c) (hP : PCq ch X ps l sc.length) {pp : List (Nm × List Int)} {ow : List Int × Nat × Nat × Nat} (hB : PQq ch X ps c N pp ow) (hpl : pp.length = sc.length) (ha : a1.toInt = (ps.length : Int)) (hk : ps.length < 41) (hs : sc.length ≤ 4) (H : HH (DQ Q) (fun kq => ∀ Y z, XS ch n Y kq.1 1 (nm ch q :: sc) j N → NMr ch Y N c → PCq ch Y ps l (sc.length + 1) → PQq ch Y ps c N ((nm ch q, kq.2.getD [3]) :: pp) ow → Q z Y) (if ty ch q = 258 ∧ (¬ slot sc (nm ch q) = -1 ∨ sc.length = 4) then none else (sWant ch 258 q).bind fun q1 => sColon ch 1 q1)) : pw (f_param a1 X) Q := by
  have l1 : (Int32.ofInt 1).toInt = 1 := by decide
  have l2 : ¬ (2 : Int32).toInt = 0 := by decide
  have l3 : ¬ (3 : Int32).toInt = 0 := by decide
  have l4 : (4 : Int32).toInt = 4 := by decide
  unfold f_param
  refine pw_bd (q_well h.w0) ?_
  rintro x1 X2 ⟨e2, h1⟩
  rw [e2]
  refine pw_neg h1 (pw_let ?_)
  have sort : (X.1 0 7).toInt = 1 ↔ ty ch q = 258 := by
    obtain ⟨_, _, t⟩ := h.tk
    omega
  refine pw_ite (fun c4 => ?_) (fun c4 => ?_)
  · have hty := sort.mp c4
    have told : X.2.1 0 47 = lN (p6 (nm ch q)) := by
      obtain ⟨_, _, t⟩ := h.tk
      rcases t with t | t | t | t | t | t | t
      · omega
      · exact t.2.2.1
      all_goals omega
    have hw := ty_word h.tx (q := q) ⟨by omega, by omega, by omega⟩
    have hlt : LT (nm ch q) := nm_lt h.tx q
    have h20 := h.2.2.1.1
    have loop : ∀ M, ∀ (a2 : Int32) (i : Nat), a2.toInt = (i : Int) → i ≤ sc.length → (∀ k, k < i → ¬ sc.reverse[k]? = some (nm ch q)) → pw (f_param_22 M a1 a2 X) Q := by
      intro M
      induction M with
      | zero => exact fun _ _ _ _ _ => pw_none
      | succ M ih =>
        intro a2 i h2 hi hno
        have e : f_param_22 (M + 1) = f_param_22_s (f_param_22 M) := by
          unfold f_param_22
          exact lp_succ _ _ _
        rw [e]
        unfold f_param_22_s
        refine pw_let (pw_ite (fun c5 => ?_) (fun c5 => ?_))
        · have ei : i = sc.length := by omega
          have nmem : ¬ nm ch q ∈ sc := by
            rw [← List.mem_reverse]
            intro g
            obtain ⟨k, hk⟩ := List.getElem?_of_mem g
            have := (List.getElem?_eq_some_iff.mp hk).1
            rw [List.length_reverse] at this
            exact hno k (by omega) hk
          have hsl : slot sc (nm ch q) = -1 := by
            rcases slot_lt sc (nm ch q) with g | g
            · exact g.1
            · exact absurd g.2 nmem
          refine pw_let (pw_ite (fun c6 => ?_) (fun c6 => ?_))
          · have hQ := (H.p ⟨hty, Or.inr (by omega)⟩).n
            refine pw_let (pw_bd (q_fails X l3) ?_)
            intro _ X34 hd
            exact pw_mono (uw_param_76 hd) hQ
          · have H := ((H.q (fun z => z.2.elim (fun y => y hsl) (fun y => by omega))).b.wa hty)
            exact x_param76 h hM hP hB hpl ha hk (by omega) hty H
        · have hlen : i < sc.reverse.length := by rw [List.length_reverse]; omega
          have hat : sc.reverse[i]? = some sc.reverse[i] := List.getElem?_eq_getElem hlen
          obtain ⟨hx, hxl, hx8⟩ := SCR.at sc h.2.2.1.2 i _ hat
          refine pw_ck (fun hc => ?_)
          have hc2 := hc.2
          refine pw_let (pw_let (pw_let ?_))
          rw [ixn h2, hx, told]
          have hcmp : (lg_cmp (lN (p6 sc.reverse[i])) (lN (p6 (nm ch q)))).toInt = 0 ↔ sc.reverse[i] = nm ch q := by
            rw [cmp0, pk_lEQ (by have := p6_lt hxl hx8; omega) (by have := p6_lt hlt hw.2.2.1; omega)]
            exact ⟨fun g => p6_inj hxl hlt g, fun g => by rw [g]⟩
          refine pw_ite (fun c7 => ?_) (fun c7 => ?_)
          · have eq := hcmp.mp c7
            have mem : nm ch q ∈ sc := by
              rw [← eq, ← List.mem_reverse]
              exact List.getElem_mem hlen
            have hsl : ¬ slot sc (nm ch q) = -1 := by
              rcases slot_lt sc (nm ch q) with g | g
              · exact absurd mem g.2
              · omega
            have hQ := (H.p ⟨hty, Or.inl hsl⟩).n
            refine pw_let (pw_bd (q_fails X l2) ?_)
            intro _ X40 hd
            unfold f_param_53
            exact pw_let (pw_mono (uw_param_22 M _ _ _ hd) hQ)
          · unfold f_param_53
            refine pw_eq (fun x38 e38 => ?_)
            refine ih x38 (i + 1) (by rw [e38, ti_add (by rw [h2, l1]; omega) (by rw [h2, l1]; omega), h2, l1]; omega) (by rw [List.length_reverse] at hlen; omega) (fun k hk => ?_)
            by_cases ek : k = i
            · rw [ek, hat]
              exact fun z => c7 (hcmp.mpr (Option.some.inj z))
            · exact hno k (by omega)
    exact loop BIG 0 0 (by decide) (by omega) (fun k hk => by omega)
  · have hn : ¬ ty ch q = 258 := fun z => c4 (sort.mpr z)
    have hQ := (H.q (fun z => hn z.1)).b.wa0 hn
    unfold f_param_15
    exact pw_bd (q_stray X) (fun _ _ d => pw_ret (hQ _ _ d))
end RPARAM
