/-! the reference reads what stands in brackets: the words' own, blocks, lists -/
section RBASE2
variable {ch : Tx} {n q : Nat} {X Y Z X0 : St} {o : Int} {sc : List Nm} {j N s N0 : Nat} {Q : Int32 → St → Prop} {c c0 c1 : List Ins} {NM : Prop}
theorem plc_app (c e : List Ins) : plc (c ++ e) c.length = plh e := by
  unfold plh plc
  rw [List.getD_eq_getElem?_getD, List.getD_eq_getElem?_getD, List.getElem?_append_right (Nat.le_refl _), Nat.sub_self]
/-- a node, a bracket of its own, and the frame of its first expression -/
theorem b_work {E : EF} (hE : SEq ch n (o + 1) E) (hnm : ¬ NM) (h : XS ch n X q o sc (j + 1) N) (hM : NMr ch X N c) (ho : 0 ≤ o ∧ o ≤ 40) {a1 a2 b0 : Int32} (h8 : ¬ a2.toInt = 8) (hb : ¬ b0.toInt = 3 ∧ ¬ b0.toInt = 10 ∧ ¬ b0.toInt = 11 ∧ ¬ b0.toInt = 14) {ask work : Int} (ha : ¬ ask = 4) (hw : ¬ work = 4) (hp1 : a1.toInt = (pl ch q : Int)) (hc : c = c0 ++ [(0, 1, (pl ch q : Int), [])]) (hk : (b0.toInt = 6 ∧ ask = 29 ∧ work = 12) ∨ (b0.toInt = 7 ∧ ask = 27 ∧ work = 13)) (H : HH (DQ Q) (CBq ch n X o sc j N c0 NM Q) (sWork ch E o sc ask work q c)) : pw (f_operand_289 a1 a2 b0 X) (fun _ Z => pr Z Q) := by
  have l41 : (41 : Int32).toInt = 41 := by decide
  unfold sWork at H
  unfold f_operand_289
  refine pw_bd (pw_and (x_make h b0 a1) (x_make21 h b0 a1)) ?_
  rintro x54 X55 ⟨⟨⟨hr, hi⟩, g55, m55⟩, p55⟩
  have lc : c.length = c0.length + 1 := by rw [hc, List.length_append, List.length_singleton]
  refine pw_bd (x_next g55) ?_
  rintro _ X58 ⟨g58, t58⟩
  refine pw_bd (x_opens g58 ho (by decide)) ?_
  rintro _ X56 (⟨ht, g56, t56⟩ | ⟨ht, hd⟩)
  · have H := H.b.en ht
    have t := t58.tr t56
    have hZ20 : X56.1 20 N = b0 := by rw [t.r 20 N (by decide)]; exact m55.2.2.1
    refine pw_neg h8 ?_
    unfold f_operand_318
    refine pw_bd (b_open (X := X) (c1 := c) (N := N) (t := N) (k := 11) hE (by decide) (by omega) g56 ⟨ho.1, ht.2⟩ ((hM.mk m55 hb.1).tn t) ((KP.rf.mk m55 (Nat.le_refl _)).tn t) hr (by omega) ⟨Nat.le_refl _, by omega⟩ (H.b.m (fun a H => ?_))) (fun _ W h => pw_ret h)
    intro Y N2 t2 gY mY kY hY h1 h2 h20 h35 h36 h37 _ kZ ⟨e, ee, eo⟩
    refine prE_w gY h35 (by omega) (fun x2 v2 i2 => ?_)
    unfold f_endsWithin
    rw [i2, h36, hi]
    refine pw_ck (fun _ => pw_let ?_)
    refine pw_neg (by omega) (pw_neg (by omega) (pw_neg (by omega) (pw_pos h35 ?_)))
    refine pw_let (pw_ck (fun _ => ?_))
    refine pw_eq (fun X4 e4 => ?_)
    have h4 : X4.1 20 N = b0 := by rw [e4, wI_ne _ _ _ _ _ _ (by omega), h20, hZ20]
    have i21 : iv X4 21 N = (pl ch q : Int) := by unfold iv; rw [e4, wI_ne _ _ _ _ _ _ (by omega), kZ.1 21 N (by unfold KPs; omega), t.r 21 N (by decide), p55, hp1]
    have i23 : iv X4 23 N = (t2 : Int) := by unfold iv; rw [e4, wI_at]; exact hY
    have i20 : iv X4 20 N = b0.toInt := by unfold iv; rw [h4]
    have O4 : ∃ d, (a.2 ++ [(ask, 0, plc a.2 c.length, [])]) ++ [(work, 0, (pl ch q : Int), [])] = c0 ++ d ∧ OM ch X4 N N2 N c0.length d := by
      refine ⟨(0, 1, (pl ch q : Int), []) :: (e ++ [(ask, 0, plh e, []), (work, 0, (pl ch q : Int), [])]), ?_, OM.in ⟨Nat.le_refl _, by omega, by rw [i21]; rfl, Or.inr (Or.inl ⟨t2, e, i23, ?_, ?_⟩)⟩⟩
      · rw [ee, plc_app, hc]
        simp only [List.append_assoc, List.cons_append, List.nil_append]
      · rw [← lc, e4]
        exact eo.wI gY.kj (by omega)
      · rw [i20, i21]
        rcases hk with ⟨k1, k2, k3⟩ | ⟨k1, k2, k3⟩
        · exact Or.inr (Or.inl ⟨k1, by rw [k2, k3]⟩)
        · exact Or.inr (Or.inr (Or.inl ⟨k1, by rw [k2, k3]⟩))
    refine pw_bd (b_shuts (X := X) (N := N) (t := N) (c1 := (a.2 ++ [(ask, 0, plc a.2 c.length, [])]) ++ [(work, 0, (pl ch q : Int), [])]) (by decide) (by rw [e4]; exact gY.wI (by omega)) ho (by rw [e4]; exact (mY.wI (by omega)).cd (fun p => (NPl.snoc hw).trans (NPl.snoc ha))) (by rw [e4]; exact kY.wI (by unfold KPs; omega)) hr ⟨Nat.le_refl _, by omega⟩ (by rw [h4]; exact NMn hnm hb.2 hb.1) O4 (by rw [l41]; exact H.b.m (fun q2 H => H.s))) (fun _ W h => pw_ret h)
  · have hQ := H.b.en0 ht
    refine pw_neg h8 ?_
    unfold f_operand_318
    exact pw_bd (uw_opened hd) (fun _ W d => pw_ret (pr_dd d hQ))
theorem b_new {E : EF} (hE : SEq ch n (o + 1) E) (hnm : ¬ NM) (h : XS ch n X q o sc (j + 1) N) (hM : NMr ch X N c) (ho : 0 ≤ o ∧ o ≤ 40) {a1 a2 b0 : Int32} (h8 : a2.toInt = 8) (hb : ¬ b0.toInt = 3 ∧ ¬ b0.toInt = 10 ∧ ¬ b0.toInt = 11 ∧ ¬ b0.toInt = 14) (hb5 : b0.toInt = 5) (hp1 : a1.toInt = (pl ch q : Int)) (hc : c = c0 ++ [(0, 1, (pl ch q : Int), [])]) (H : HH (DQ Q) (CBq ch n X o sc j N c0 NM Q) (sNew ch E o sc q c)) : pw (f_operand_289 a1 a2 b0 X) (fun _ Z => pr Z Q) := by
  have l41 : (41 : Int32).toInt = 41 := by decide
  have l44 : (44 : Int32).toInt = 44 := by decide
  unfold sNew at H
  unfold f_operand_289
  refine pw_bd (pw_and (x_make h b0 a1) (x_make21 h b0 a1)) ?_
  rintro x54 X55 ⟨⟨⟨hr, hi⟩, g55, m55⟩, p55⟩
  have lc : c.length = c0.length + 1 := by rw [hc, List.length_append, List.length_singleton]
  refine pw_bd (x_next g55) ?_
  rintro _ X58 ⟨g58, t58⟩
  refine pw_bd (x_opens g58 ho (by decide)) ?_
  rintro _ X56 (⟨ht, g56, t56⟩ | ⟨ht, hd⟩)
  · have H := H.b.en ht
    have t := t58.tr t56
    have hZ20 : X56.1 20 N = b0 := by rw [t.r 20 N (by decide)]; exact m55.2.2.1
    refine pw_pos h8 ?_
    unfold f_operand_318
    refine pw_bd (b_open (X := X) (c1 := c) (N := N) (t := N) (k := 9) hE (by decide) (by omega) g56 ⟨ho.1, ht.2⟩ ((hM.mk m55 hb.1).tn t) ((KP.rf.mk m55 (Nat.le_refl _)).tn t) hr (by omega) ⟨Nat.le_refl _, by omega⟩ (H.b.m (fun a H => ?_))) (fun _ W h => pw_ret h)
    intro Y N2 t2 gY mY kY hY h1 h2 h20 h35 h36 h37 _ kZ ⟨e, ee, eo⟩
    refine prE_w gY h35 (by omega) (fun x2 v2 i2 => ?_)
    unfold f_endsWithin
    rw [i2, h36, hi]
    refine pw_ck (fun _ => pw_let ?_)
    refine pw_neg (by omega) (pw_pos h35 ?_)
    refine pw_let (pw_ck (fun _ => ?_))
    refine pw_eq (fun X8 e8 => ?_)
    have g8 : XS ch n X8 a.1 (o + 1) sc (j + 1 + 1) N2 := by rw [e8]; exact gY.wI (by omega)
    refine pw_bd (x_takes g8 (by decide)) ?_
    rintro _ X9 (⟨hty, g9, t9⟩ | ⟨hty, hd⟩)
    · have H := H.b.wa hty
      refine pw_ck (fun _ => ?_)
      refine pw_eq (fun X10 e10 => ?_)
      refine pw_eq (fun X11 e11 => ?_)
      refine pw_ret ?_
      have g11 : XS ch n X11 (nx ch a.1) (o + 1) sc (j + 1 + 1) N2 := by rw [e11, e10]; exact (g9.wI (by omega)).wI (by omega)
      have m11 : NMr ch X11 N2 (a.2 ++ [(27, 0, plc a.2 c.length, [])]) := by
        rw [e11, e10]
        refine NMr.cd ((NMr.tn (X := X8) ?_ t9).wI (by omega) |>.wI (by omega)) (fun p => NPl.snoc (show ¬ (27 : Int) = 4 by decide))
        rw [e8]
        exact mY.wI (by omega)
      have k11 : KP X X11 (j + 1) N sc.length := by
        rw [e11, e10]
        refine KP.wI (KP.wI (KP.tn (Y := X8) ?_ t9) (by unfold KPs; omega)) (by unfold KPs; omega)
        rw [e8]
        exact kY.wI (by unfold KPs; omega)
      have f35 : X11.1 35 (j + 1) = 10 := by rw [e11, wI_ne _ _ _ _ _ _ (by omega), e10, wI_at]
      have f36 : X11.1 36 (j + 1) = x54 := by rw [e11, wI_ne _ _ _ _ _ _ (by omega), e10, wI_ne _ _ _ _ _ _ (by omega), t9.r 36 (j + 1) (by decide), e8, wI_ne _ _ _ _ _ _ (by omega), h36]
      have r11 : ∀ e k, 20 ≤ e ∧ e ≤ 28 → X11.1 e k = X8.1 e k := fun e k he => by rw [e11, wI_ne _ _ _ _ _ _ (by omega), e10, wI_ne _ _ _ _ _ _ (by omega), t9.r e k (by omega)]
      have f21 : X11.1 21 N = a1 := by rw [r11 21 N (by omega), e8, wI_ne _ _ _ _ _ _ (by omega), kZ.1 21 N (by unfold KPs; omega), t.r 21 N (by decide)]; exact p55
      have f23 : (X11.1 23 N).toInt = (t2 : Int) := by rw [r11 23 N (by omega), e8, wI_at]; exact hY
      have eo11 : OM ch X11 (N + 1) N2 t2 c.length e := by
        rw [e11, e10]
        have o8 : OM ch X8 (N + 1) N2 t2 c.length e := by rw [e8]; exact eo.wI gY.kj (by omega)
        exact ((o8.tn g8.kj t9).wI g9.kj (by omega)).wI ((g9.wI (by omega)).kj) (by omega)
      have f20 : X11.1 20 N = b0 := by rw [e11, wI_ne _ _ _ _ _ _ (by omega), e10, wI_ne _ _ _ _ _ _ (by omega), t9.r 20 N (by decide), e8, wI_ne _ _ _ _ _ _ (by omega), h20, hZ20]
      have lt10 : (10 : Int32).toInt = 10 := by decide
      refine hE sc _ _ (j + 1) N2 X11 Q g11 (by rw [e11, wI_at]; rfl) ⟨⟨by rw [f35]; decide, by rw [f35]; decide⟩, fun e => by rw [f35] at e; exact absurd e (by decide), fun e => by rw [f35] at e; exact absurd e (by decide)⟩ m11 (by omega) (by omega) (H.b.m (fun b H => ?_))
      rintro Y2 ⟨N3, t3, gY2, mY2, kY2, hY2, h3, h4, e2, ee2, eo2⟩
      have kq := kY2.1
      have k20 : Y2.1 20 N = b0 := by rw [kq 20 N (by unfold KPs; omega)]; exact f20
      have k35 : (Y2.1 35 (j + 1)).toInt = 10 := by rw [kq 35 (j + 1) (by unfold KPs; omega), f35, lt10]
      have k36 : Y2.1 36 (j + 1) = x54 := by rw [kq 36 (j + 1) (by unfold KPs; omega), f36]
      refine prE_w gY2 k35 (by omega) (fun x2 v2 i2 => ?_)
      unfold f_endsWithin
      rw [i2, k36, hi]
      refine pw_ck (fun _ => pw_let ?_)
      refine pw_neg (by omega) (pw_neg (by omega) (pw_pos k35 ?_))
      refine pw_let (pw_ck (fun _ => ?_))
      refine pw_eq (fun X14 e14 => ?_)
      have h14 : X14.1 20 N = b0 := by rw [e14, wI_ne _ _ _ _ _ _ (by omega), k20]
      have i21 : iv X14 21 N = (pl ch q : Int) := by unfold iv; rw [e14, wI_ne _ _ _ _ _ _ (by omega), kq 21 N (by unfold KPs; omega), f21, hp1]
      have i20 : iv X14 20 N = 5 := by unfold iv; rw [h14, hb5]
      have i23 : iv X14 23 N = (t2 : Int) := by unfold iv; rw [e14, wI_ne _ _ _ _ _ _ (by omega), kq 23 N (by unfold KPs; omega), f23]
      have i24 : iv X14 24 N = (t3 : Int) := by unfold iv; rw [e14, wI_at]; exact hY2
      have O14 : ∃ d, b.2 ++ [(11, 0, (pl ch q : Int), [])] = c0 ++ d ∧ OM ch X14 N N3 N c0.length d := by
        refine ⟨(0, 1, (pl ch q : Int), []) :: (e ++ (27, 0, plh e, []) :: (e2 ++ [(11, 0, (pl ch q : Int), [])])), ?_, OM.in ⟨Nat.le_refl _, by omega, by rw [i21]; rfl, Or.inr (Or.inr (Or.inr (Or.inl (Or.inl ⟨i20, t2, N2, t3, e, e2, i23, i24, ?_, ?_, by omega, by omega, by rw [i21]⟩))))⟩⟩
        · rw [ee2, ee, plc_app, hc]
          simp only [List.append_assoc, List.cons_append, List.nil_append]
        · rw [← lc, e14]
          exact (eo11.kp kY2 g11.kj (Nat.le_refl _)).wI gY2.kj (by omega)
        · rw [ee, List.length_append, List.length_append, List.length_singleton, lc] at eo2
          rw [e14]
          exact eo2.wI gY2.kj (by omega)
      refine pw_bd (b_shuts (X := X) (N := N) (t := N) (c1 := b.2 ++ [(11, 0, (pl ch q : Int), [])]) (by decide) (by rw [e14]; exact gY2.wI (by omega)) ho (by rw [e14]; exact (mY2.wI (by omega)).cd (fun p => NPl.snoc (show ¬ (11 : Int) = 4 by decide))) (by rw [e14]; exact (k11.tr (kY2.mono (by omega) (by omega) (Nat.le_refl _))).wI (by unfold KPs; omega)) hr ⟨Nat.le_refl _, by omega⟩ (by rw [h14]; exact NMn hnm hb.2 hb.1) O14 (by rw [l41]; exact H.b.m (fun q2 H => H.s))) (fun _ W h => pw_ret h)
    · have hQ := H.b.wa0 hty
      refine pw_ck (fun _ => ?_)
      refine pw_eq (fun X10 e10 => ?_)
      refine pw_eq (fun X11 e11 => ?_)
      exact pw_ret (pr_dd (by rw [e11, e10]; exact wrX_w (wrX_w hd (by omega)) (by omega)) hQ)
  · have hQ := H.b.en0 ht
    refine pw_pos h8 ?_
    unfold f_operand_318
    exact pw_bd (uw_opened hd) (fun _ W d => pw_ret (pr_dd d hQ))
/-- one more item of a frame -/
def ADq (X Y : St) (j1 t : Nat) : Prop := (∀ e k, ¬ (e = 37 ∧ k = j1) → ¬ ((e = 24 ∨ e = 27) ∧ k = t) → ¬ (e = 28 ∧ ∃ i : Nat, (X.1 37 j1).toInt = (i : Int) ∧ k = i) → Y.1 e k = X.1 e k) ∧ Y.2 = X.2 ∧ Y.1 37 j1 = X.1 0 24 ∧ (Y.1 27 t).toInt = (X.1 27 t).toInt + 1 ∧ ((X.1 37 j1).toInt = -1 → Y.1 24 t = X.1 0 24) ∧ (¬ (X.1 37 j1).toInt = -1 → Y.1 24 t = X.1 24 t ∧ ∀ i : Nat, (i : Int) = (X.1 37 j1).toInt → Y.1 28 i = X.1 0 24)
theorem x_add {p1 r : Int32} {t : Nat} (hp : ix p1 = j) (hr : X.1 36 j = r) (hi : ix r = t) (h27 : 0 ≤ (X.1 27 t).toInt ∧ (X.1 27 t).toInt ≤ 5000) : pw (f_add p1 X) (fun _ Y => ADq X Y j t) := by
  have l1 : (1 : Int32).toInt = 1 := by decide
  have c45 : ∀ Z : St, (∀ e k, ¬ (e = 24 ∧ k = t) → ¬ (e = 28 ∧ ∃ i : Nat, (X.1 37 j).toInt = (i : Int) ∧ k = i) → Z.1 e k = X.1 e k) → Z.2 = X.2 → ((X.1 37 j).toInt = -1 → Z.1 24 t = X.1 0 24) → (¬ (X.1 37 j).toInt = -1 → Z.1 24 t = X.1 24 t ∧ ∀ i : Nat, (i : Int) = (X.1 37 j).toInt → Z.1 28 i = X.1 0 24) → pw (f_add_45 p1 r Z) (fun _ Y => ADq X Y j t) := by
    intro Z h1 h2 h3 h4
    unfold f_add_45
    rw [hp, hi]
    refine pw_let (pw_ck (fun _ => ?_))
    refine pw_eq (fun X7 e7 => ?_)
    refine pw_ck (fun _ => pw_let ?_)
    refine pw_eq (fun x9 e9 => ?_)
    refine pw_ck (fun _ => ?_)
    refine pw_eq (fun X10 e10 => ?_)
    have z27 : X7.1 27 t = X.1 27 t := by rw [e7, wI_ne _ _ _ _ _ _ (by omega)]; exact h1 27 t (by omega) (by omega)
    refine pw_ret ⟨fun e k a b d => ?_, ?_, ?_, ?_, fun g => ?_, fun g => ⟨?_, fun i hi => ?_⟩⟩
    · rw [e10, wI_ne _ _ _ _ _ _ (by omega), e7, wI_ne _ _ _ _ _ _ (by omega)]
      exact h1 e k (by omega) d
    · rw [e10, e7]
      exact h2
    · rw [e10, wI_ne _ _ _ _ _ _ (by omega), e7, wI_at]
      exact h1 0 24 (by omega) (by omega)
    · rw [e10, wI_at, e9, z27, ti_add (by rw [l1]; omega) (by rw [l1]; omega), l1]
    · rw [e10, wI_ne _ _ _ _ _ _ (by omega), e7, wI_ne _ _ _ _ _ _ (by omega)]
      exact h3 g
    · rw [e10, wI_ne _ _ _ _ _ _ (by omega), e7, wI_ne _ _ _ _ _ _ (by omega)]
      exact (h4 g).1
    · rw [e10, wI_ne _ _ _ _ _ _ (by omega), e7, wI_ne _ _ _ _ _ _ (by omega)]
      exact (h4 g).2 i hi
  unfold f_add
  rw [hp, hr]
  refine pw_ck (fun _ => pw_let ?_)
  rw [hi]
  refine pw_ck (fun _ => pw_let ?_)
  refine pw_ite (fun c => ?_) (fun c => ?_)
  · refine pw_let (pw_ck (fun _ => ?_))
    refine pw_eq (fun X12 e12 => ?_)
    exact c45 X12 (fun e k a b => by rw [e12, wI_ne _ _ _ _ _ _ (by omega)]) (by rw [e12]; rfl) (fun _ => by rw [e12, wI_at]) (fun z => absurd c z)
  · refine pw_ck (fun _ => pw_let (pw_let (pw_ck (fun hc => ?_))))
    refine pw_eq (fun X5 e5 => ?_)
    refine c45 X5 (fun e k a b => ?_) (by rw [e5]; rfl) (fun z => absurd z c) (fun _ => ⟨by rw [e5, wI_ne _ _ _ _ _ _ (by omega)], fun i hi => by rw [e5, ixn hi.symm, wI_at]⟩)
    rw [e5, wI_ne _ _ _ _ _ _ (fun g => b ⟨g.1, k, ?_, rfl⟩)]
    have h0 := hc.1
    have : ix (X.1 37 j) = k := g.2.symm
    rw [ixn (z := X.1 37 j) (n := (X.1 37 j).toInt.toNat) (by omega)] at this
    omega
end RBASE2
