/-! the reference reads all that stands behind an operand: in a row -/
section RSUF2
variable {ch : Tx} {n q : Nat} {X Y Z X0 : St} {o : Int} {sc : List Nm} {j N s N0 : Nat} {Q : Int32 → St → Prop} {c c0 c1 : List Ins}
theorem b_suf {E : EF} (hE : SEq ch n (o + 1) E) (hn : NBq ch E) (ho : 0 ≤ o ∧ o ≤ 40) {named : Bool} {f : Nat} (hf0 : f = c0.length) : ∀ (k d q t N1 : Nat) (c : List Ins) (Y : St), SFq ch n X Y q o sc j N N1 t d c0 c → k + d = 41 → d ≤ 40 → ((Y.1 20 t).toInt = 10 → ¬ ty ch q = 256) → (d = 0 → ((Y.1 20 t).toInt = 3 ↔ named = true)) → HH (DQ Q) (CUq ch n X o sc j N c0 Q) (sU1 ch E o sc named f k false q c) → pr Y Q := by
  intro k
  induction k with
  | zero => intro d q t N1 c Y h hk hd hs hnm H; omega
  | succ k ih =>
  intro d q t N1 c Y h hk hd hs hnm H
  have hf := h
  obtain ⟨gY, mY, nY, kY, hY, ht, k14, kd, _⟩ := hf
  have hn3 : ((Y.1 20 t).toInt = 3 ↔ (named = true ∧ k = 40)) := by
    rcases kd with g | g
    · exact ⟨fun z => by omega, fun z => by omega⟩
    · exact ⟨fun z => ⟨(hnm g.2.2).mp z, by omega⟩, fun z => (hnm g.2.2).mpr z.1⟩
  have hi : ix (Y.1 0 24) = t := ixn hY
  have l40 : (40 : Int32).toInt = 40 := by decide
  have l91 : (91 : Int32).toInt = 91 := by decide
  have l41 : (41 : Int32).toInt = 41 := by decide
  have l93 : (93 : Int32).toInt = 93 := by decide
  have l11 : (11 : Int32).toInt = 11 := by decide
  have l12 : (12 : Int32).toInt = 12 := by decide
  have l10 : (10 : Int32).toInt = 10 := by decide
  have l13 : (13 : Int32).toInt = 13 := by decide
  rw [sU1] at H
  have call : ty ch q = 40 → ∀ b : Int32, (b.toInt = 0 ↔ d = 0) → pw (f_behind_51 (Y.1 0 24) b Y) (fun _ Z => pr Z Q) := by
    intro y b hb
    have H := H.p ⟨rfl, Or.inl y⟩
    refine b_suff h ho hd (Or.inl y) hb hY (fun z => ?_) ?_
    · by_cases hk0 : k = 0
      · exact (H.p hk0).n
      · have H := (H.q hk0).p y
        unfold sCall sList at H
        exact H.b.b.b.en0 (fun z2 => by rcases z with z | z; omega; exact z z2.2)
    · intro b0 r Z hb0 hd40 ho40 gZ mZ kZ hr h20 h39 h27 ⟨⟨e, ee, eo, e21⟩, e22, e23, e25, e20⟩
      have ea : addx c f 1 = c0 ++ stp e := by rw [ee, hf0]; exact addx_app c0 e 1
      have la : (addx c f 1).length = c0.length + e.length := by rw [ea, List.length_append, stp_len]
      have H := (H.q (by omega)).p y
      unfold sCall sList at H
      have H := H.b.b.b.en ⟨rfl, ho40⟩
      rw [if_pos y] at hb0
      rw [if_pos y]
      have next : ∀ (b : Nat × Out), HH (DQ Q) (fun r => HH (DQ Q) (CUq ch n X o sc j N c0 Q) (sU1 ch E o sc named f k false r.1 r.2)) (some (b.2.1, setx b.2.2 (addx c f 1).length b.1 ++ [((16, (b.1 : Int), (pl ch q : Int), []) : Ins)])) → CLq ch n Z o sc j N1 b.1 sepA (addx c f 1 ++ [((if named = true ∧ k = 40 then 31 else 30, 0, (pl ch q : Int), []) : Ins)]) Q b.2 := by
        intro b H W N3 es gW mW kW htN h24 h23 hT hm hC
        have w20 : W.1 20 N1 = Z.1 20 N1 := hT 20 (by omega)
        have w39 : W.1 39 N1 = Z.1 39 N1 := hT 39 (by omega)
        obtain ⟨a1, a2, a3, a4, a5⟩ := hC
        have i20 : iv W 20 N1 = 11 := by unfold iv; rw [w20, h20]; exact hb0
        have i21 : iv W 21 N1 = plh e := by unfold iv; rw [hT 21 (by omega)]; exact e21
        have i22 : iv W 22 N1 = (pl ch q : Int) := by unfold iv; rw [hT 22 (by omega)]; exact e22
        have i23 : iv W 23 N1 = (t : Int) := by unfold iv; rw [hT 23 (by omega)]; exact e23
        have it : iv W 20 t = (Y.1 20 t).toInt := by unfold iv; rw [kW.1 20 t (by unfold KPs; omega), e20]
        have lb : (addx c f 1 ++ [((if named = true ∧ k = 40 then 31 else 30, 0, (pl ch q : Int), []) : Ins)]).length = c0.length + e.length + 1 := by rw [List.length_append, la, List.length_singleton]
        refine ih (d + 1) b.2.1 N1 N3 _ W ⟨gW, h23, mW.cd (fun p => (NPl.snoc (show ¬ (16 : Int) = 4 by decide)).trans NPl.setx), kZ.tr (kW.mono (Nat.le_refl _) (by omega) (Nat.le_refl _)), h24, ⟨by omega, htN⟩, by rw [w20, h20]; omega, Or.inl ⟨Or.inr (by rw [w20, h20]; exact hb0), by rw [w39, h39]; omega, by omega⟩, ?_⟩ (by omega) (by omega) (fun e => by rw [w20, h20] at e; omega) (fun z => absurd z (Nat.succ_ne_zero d)) H.s
        refine ⟨stp e ++ ((if iv W 20 t = 3 then 31 else 30), (es.length : Int), iv W 22 N1, []) :: (cds es ++ [(16, (es.length : Int), iv W 22 N1, [])]), ?_, OM.in ⟨by omega, htN, by rw [plh_stp _ _ eo.ne, i21], Or.inr (Or.inr (Or.inr (Or.inr (Or.inl (Or.inr ⟨i20, t, e, es, i23, eo.kp kW gZ.kj (Nat.le_refl _), by rw [← lb]; exact a1, a2, a3, rfl⟩)))))⟩⟩
        have ei : (if iv W 20 t = 3 then (31 : Int) else 30) = if named = true ∧ k = 40 then 31 else 30 := by
          by_cases z : named = true ∧ k = 40
          · rw [if_pos z, if_pos (by rw [it]; exact hn3.mpr z)]
          · rw [if_neg z, if_neg (by rw [it]; exact fun y => z (hn3.mp y))]
        show setx b.2.2 (addx c f 1).length b.1 ++ [(16, (b.1 : Int), (pl ch q : Int), [])] = _
        rw [a4, ei, i22, hm, ea]
        rw [List.append_assoc (c0 ++ stp e), setx_app (c0 ++ stp e)]
        show (c0 ++ stp e) ++ (((if named = true ∧ k = 40 then 31 else 30, (b.1 : Int), (pl ch q : Int), []) : Ins) :: cds es) ++ [(16, (b.1 : Int), (pl ch q : Int), [])] = _
        simp only [List.append_assoc, List.cons_append, List.nil_append]
      refine pw_neg (by decide) ?_
      refine pw_bd (q_isSign gZ.1 (by decide)) ?_
      rintro x18 X19 ⟨rfl, h18⟩
      rw [l41] at h18
      have ha : ¬ (if named = true ∧ k = 40 then (31 : Int) else 30) = 4 := by split <;> decide
      have mZ2 : NMr ch X19 (N1 + 1) (addx c f 1 ++ [((if named = true ∧ k = 40 then 31 else 30, 0, (pl ch q : Int), []) : Ins)]) := mZ.cd (fun p => (NPl.snoc ha).trans NPl.addx)
      refine pw_ite (fun c18 => ?_) (fun c18 => ?_)
      · unfold f_behind_201
        refine pw_neg (by decide) ?_
        unfold f_behind_214
        exact pw_bd (b_first (t := N1) (k := 12) (cl := 41) (ask := 32) (most := 4) (sp := sepA) hE hn l12 hr (Or.inr ⟨rfl, rfl⟩) (by decide) (fun _ _ => rfl) ⟨ho.1, ho40⟩ gZ mZ2 h27 (h18.mp c18) ⟨fun e => absurd e (by decide), fun _ => rfl⟩ (H.m (fun b H => next b H))) (fun _ W h => pw_ret h)
      · have y41 : ty ch (nx ch q) = 41 := Classical.byContradiction (fun z => c18 (h18.mpr z))
        rw [sList1] at H
        have H := ((H.p ⟨rfl, y41⟩).b.wa y41).s
        refine pw_bd (x_closes gZ ⟨by omega, by omega⟩ (by decide)) ?_
        rintro _ X20 (⟨_, g20, t20⟩ | ⟨hc, hdd⟩)
        · rw [show o + 1 - 1 = o by omega] at g20
          unfold f_done
          refine pw_bd (R := fun _ W => pr W Q) ?_ (fun _ W h => pw_ret h)
          refine pw_eq (fun X5 e5 => ?_)
          refine pw_eq (fun X6 e6 => ?_)
          refine pw_ret ?_
          have r6 : ∀ e, 20 ≤ e → X6.1 e N1 = X19.1 e N1 := fun e he => by rw [e6, wI_ne _ _ _ _ _ _ (by omega), e5, wI_ne _ _ _ _ _ _ (by omega)]; exact t20.r e N1 (by omega)
          refine next _ H X6 (N1 + 1) [] ?_ ?_ ?_ (by omega) ?_ ?_ (fun e he => r6 e (by omega)) rfl ⟨trivial, by unfold iv; rw [r6 27 (by omega), h27]; rfl, fun a ha => absurd ha List.not_mem_nil, (List.append_nil _).symm, rfl⟩
          · rw [e6, e5]; exact (g20.wI (by omega)).wI (by omega)
          · rw [e6, e5]; exact ((mZ2.tn t20).wI (by omega)).wI (by omega)
          · rw [e6, e5]; exact (((KP.rf (X := X19) (j := j + 1) (N := N1) (s := sc.length)).tn t20).wI (by unfold KPs; omega)).wI (by unfold KPs; omega)
          · rw [e6, wI_ne _ _ _ _ _ _ (by omega), e5, wI_at]; exact hr
          · rw [e6, wI_at]; decide
        · exact absurd (by rw [l41]; exact y41) hc
  have place : ty ch q = 91 → ∀ b : Int32, (b.toInt = 0 ↔ d = 0) → pw (f_behind_51 (Y.1 0 24) b Y) (fun _ Z => pr Z Q) := by
    intro y b hb
    have n40 : ¬ ty ch q = 40 := by omega
    have H := H.p ⟨rfl, Or.inr y⟩
    refine b_suff h ho hd (Or.inr y) hb hY (fun z => ?_) ?_
    · by_cases hk0 : k = 0
      · exact (H.p hk0).n
      · have H := (H.q hk0).q n40
        unfold sPlace at H
        exact H.b.b.en0 (fun z2 => by rcases z with z | z; omega; exact z z2.2)
    · intro b0 r Z hb0 hd40 ho40 gZ mZ kZ hr h20 h39 h27 ⟨⟨e, ee, eo, e21⟩, e22, e23, e25, e20⟩
      have ea : addx c f 1 = c0 ++ stp e := by rw [ee, hf0]; exact addx_app c0 e 1
      have la : (addx c f 1).length = c0.length + e.length := by rw [ea, List.length_append, stp_len]
      have H := (H.q (by omega)).q n40
      unfold sPlace at H
      have H := H.b.b.en ⟨y, ho40⟩
      rw [if_neg n40] at hb0
      rw [if_neg n40]
      refine pw_pos rfl ?_
      unfold f_behind_201
      refine pw_pos rfl ?_
      unfold f_behind_214
      have mZ2 : NMr ch Z (N1 + 1) (addx c f 1 ++ [((29, 0, (pl ch q : Int), []) : Ins)]) := mZ.cd (fun p => (NPl.snoc (show ¬ (29 : Int) = 4 by decide)).trans NPl.addx)
      refine pw_bd (b_open (X := X) (N := N) (t := N1) (k := 13) hE l13 (by omega) gZ ⟨ho.1, ho40⟩ mZ2 kZ hr (by omega) ⟨by omega, by omega⟩ (H.b.m (fun a H => ?_))) (fun _ W h => pw_ret h)
      intro Y2 N2 t2 gY2 mY2 kY2 hY2 h1 h2 y20 y35 y36 y37 y39 kZ2 ⟨e2, ee2, eo2⟩
      refine prE_w gY2 y35 (by omega) (fun x2 v2 i2 => ?_)
      unfold f_endsWithin
      rw [i2, y36, ixn hr]
      refine pw_ck (fun _ => pw_let ?_)
      refine pw_neg (by omega) (pw_neg (by omega) (pw_neg (by omega) (pw_neg (by omega) (pw_pos y35 ?_))))
      refine pw_let (pw_ck (fun _ => ?_))
      refine pw_eq (fun X22 q22 => ?_)
      have lb : (addx c f 1 ++ [((29, 0, (pl ch q : Int), []) : Ins)]).length = c0.length + e.length + 1 := by rw [List.length_append, la, List.length_singleton]
      have k22 : KP Z X22 (j + 1) N1 sc.length := by rw [q22]; exact (kZ2.mono (Nat.le_refl _) (by omega) (Nat.le_refl _)).wI (by unfold KPs; omega)
      have r22 : ∀ a, (20 ≤ a ∧ a ≤ 28) ∨ a = 39 → ¬ a = 24 → X22.1 a N1 = Z.1 a N1 := fun a ha hn => by rw [q22, wI_ne _ _ _ _ _ _ (by omega)]; exact kZ2.1 a N1 (by unfold KPs; omega)
      have g22 : XS ch n X22 a.1 (o + 1) sc (j + 1 + 1) N2 := by rw [q22]; exact gY2.wI (by omega)
      have s22 : SFs ch X22 (pl ch q : Int) N N2 N1 c0 a.2 (c0.length + e.length + 1) := by
        refine ⟨t, t2, e, e2, ⟨?_, ?_⟩, ?_, ?_, ⟨?_, ?_, ?_, ?_⟩, ?_, rfl⟩
        · unfold iv; rw [r22 23 (by omega) (by omega)]; exact e23
        · unfold iv; rw [q22, wI_at]; exact hY2
        · exact eo.kp k22 gZ.kj (Nat.le_refl _)
        · rw [← lb, q22]
          exact eo2.wI gY2.kj (by omega)
        · unfold iv; rw [r22 22 (by omega) (by omega)]; exact e22
        · unfold iv; rw [r22 21 (by omega) (by omega)]; exact e21
        · unfold iv; rw [r22 20 (by omega) (by omega), h20]; exact hb0
        · unfold iv; rw [r22 25 (by omega) (by omega)]; exact e25
        · rw [ee2, ea]
          simp only [List.append_assoc, List.cons_append, List.nil_append]
      have key : HH (DQ Q) (fun q2 => ∀ W, XS ch n W q2 o sc (j + 1) N2 → NMr ch W N2 a.2 → KP X22 W (j + 1) N2 sc.length → (W.1 0 24).toInt = (N1 : Int) → (W.1 0 23).toInt = 2 → pr W Q) (sWant ch (93 : Int32).toInt a.1) := by
        rw [l93]
        refine H.b.m (fun q2 H => ?_)
        intro W gW mW kW h24 h23
        have w20 : W.1 20 N1 = Z.1 20 N1 := by rw [kW.1 20 N1 (by unfold KPs; omega)]; exact r22 20 (by omega) (by omega)
        have w39 : W.1 39 N1 = Z.1 39 N1 := by rw [kW.1 39 N1 (by unfold KPs; omega)]; exact r22 39 (by omega) (by omega)
        have kXW : KP X W (j + 1) N sc.length := kZ.tr ((k22.tr (kW.mono (Nat.le_refl _) (by omega) (Nat.le_refl _))).mono (Nat.le_refl _) (by omega) (Nat.le_refl _))
        have sW : SFs ch W (pl ch q : Int) N N2 N1 c0 a.2 (c0.length + e.length + 1) := by
          obtain ⟨u, u2, x1, x2, ⟨x3, x4⟩, x5, x6, ⟨x7, x8, x9, x10⟩, x11, x12⟩ := s22
          have gi : ∀ a, 20 ≤ a ∧ a ≤ 28 → iv W a N1 = iv X22 a N1 := fun a ha => by unfold iv; rw [kW.1 a N1 (by unfold KPs; omega)]
          exact ⟨u, u2, x1, x2, ⟨by rw [gi 23 (by omega)]; exact x3, by rw [gi 24 (by omega)]; exact x4⟩, x5.kp kW g22.kj (by omega), x6.kp kW g22.kj (Nat.le_refl _), ⟨by rw [gi 22 (by omega)]; exact x7, by rw [gi 21 (by omega)]; exact x8, by rw [gi 20 (by omega)]; exact x9, by rw [gi 25 (by omega)]; exact x10⟩, x11, x12⟩
        have n14 : ¬ (W.1 20 N1).toInt = 14 := by rw [w20, h20]; omega
        rw [show (addx c f 1).length + 1 = c0.length + e.length + 1 by omega] at H
        by_cases y256 : ty ch q2 = 256
        · have H := H.p y256
          refine b_store hE gW h23 mW kXW h24 ⟨by omega, by omega⟩ n14 sW ho y256 (by rw [w20, h20]; exact hb0) ?_
          refine HH.j (H.b.m (fun q3 H => HH.j (H.b.m (fun s H => ?_))))
          have H := H.s
          rw [sU1_st] at H
          exact H
        · have H := (H.q y256).s
          have en : NMr ch W N2 ((a.2 ++ [((27, 0, plc a.2 (c0.length + e.length + 1), []) : Ins)]) ++ [((14, 0, (pl ch q : Int), []) : Ins)]) := mW.cd (fun p => (NPl.snoc (show ¬ (14 : Int) = 4 by decide)).trans (NPl.snoc (show ¬ (27 : Int) = 4 by decide)))
          exact ih (d + 1) q2 N1 N2 _ W ⟨gW, h23, en, kXW, h24, ⟨by omega, by omega⟩, n14, Or.inl ⟨Or.inl (by rw [w20, h20]; exact hb0), by rw [w39, h39]; omega, by omega⟩, sW.rd ⟨by omega, by omega⟩⟩ (by omega) (by omega) (fun _ => y256) (fun z => absurd z (Nat.succ_ne_zero d)) H
      exact pw_bd (b_shut3 (t := N1) (c1 := a.2) (by decide) g22 ho (by rw [q22]; exact mY2.wI (by omega)) hr key) (fun _ W h => pw_ret h)
  have c32 : ∀ b : Int32, (b.toInt = 0 ↔ d = 0) → pw (f_behind_32 (Y.1 0 24) b Y) (fun _ Z => pr Z Q) := by
    intro b hb
    unfold f_behind_32
    refine pw_bd (q_isSign gY.1 (by decide)) ?_
    rintro x3 X4 ⟨rfl, h3⟩
    rw [l40] at h3
    refine pw_ite (fun c3 => ?_) (fun c3 => call (Classical.byContradiction (fun z => c3 (h3.mpr z))) b hb)
    have n40 := h3.mp c3
    refine pw_bd (q_isSign gY.1 (by decide)) ?_
    rintro x26 X27 ⟨rfl, h26⟩
    rw [l91] at h26
    refine pw_ite (fun c26 => ?_) (fun c26 => place (Classical.byContradiction (fun z => c26 (h26.mpr z))) b hb)
    have n91 := h26.mp c26
    have out : pw (f_behind_288 X27) (fun _ Z => pr Z Q) := b_288 h (H.q (fun z => by rcases z.2 with z | z; exact n40 z; exact n91 z)).s
    refine pw_bd (q_well gY.w0) ?_
    rintro x28 X29 ⟨rfl, h28⟩
    refine pw_neg h28 (pw_let ?_)
    refine pw_ite (fun c31 => pw_let (pw_let (pw_ite (fun c33 => ?_) (fun _ => out)))) (fun _ => out)
    rw [hi]
    refine pw_ck (fun _ => pw_let (pw_neg ?_ out))
    intro k10
    refine hs k10 ?_
    have l1000 : (1000 : Int64).toInt = 1000 := by decide
    rw [cmp0, ← Int64.toInt_inj, l1000] at c33
    obtain ⟨_, _, tk⟩ := gY.tk
    omega
  refine pr_2 gY mY ?_
  unfold f_behind f_behind_27
  refine pw_let ?_
  rw [hi]
  refine pw_ck (fun _ => pw_let ?_)
  have h1 : (1 : Int32).toInt = 1 := by decide
  refine pw_ite (fun k11 => c32 1 ?_) (fun k11 => pw_ck (fun _ => pw_let (pw_ite (fun k10 => c32 1 ?_) (fun k10 => c32 0 ?_))))
  · rcases kd with g | g
    · exact ⟨fun z => absurd z (by rw [h1]; decide), fun z => by omega⟩
    · exact absurd k11 g.2.1
  · rcases kd with g | g
    · exact ⟨fun z => absurd z (by rw [h1]; decide), fun z => by omega⟩
    · exact absurd k10 g.1
  · rcases kd with g | g
    · rcases g.1 with g | g
      · exact absurd g k10
      · exact absurd g k11
    · exact ⟨fun _ => g.2.2, fun _ => rfl⟩
end RSUF2
