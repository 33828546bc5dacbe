/-! judging leaves what a run needs -/
/-- the compiled text -/
def SRf (ch : Tx) (ps : List Pt) (c : List Ins) (po : Nat → Nat) (X8 : St) : Prop := CDq X8 po ps.length ∧ (∀ k p, ps[k]? = some p → PRT X8 (nrp ch ps) c po k p.2.2.2.2.2 (pend ps c k) ∧ (X8.1 15 k).toInt = (p.2.2.2.1.length : Int)) ∧ KJq X8 ∧ (X8.1 0 26).toInt = (po ps.length : Int) ∧ (X8.1 0 18).toInt = (ps.length : Int)
/-- its tables stay -/
def TBX (X8 Y : St) : Prop := (∀ e k, (11 ≤ e ∧ e ≤ 28) ∨ (40 ≤ e ∧ e ≤ 42) ∨ (44 ≤ e ∧ e ≤ 51) → Y.1 e k = X8.1 e k) ∧ KJq Y ∧ KU Y ∧ KXq X8 Y ∧ Y.1 0 18 = X8.1 0 18 ∧ Y.1 0 26 = X8.1 0 26
def J10R (ch : Tx) (ps : List Pt) (c : List Ins) (Y : St) (rr : Sum (List JG × List Bool) (Int × Int)) : Prop := (∃ G, rr = Sum.inl G ∧ ¬ (Y.1 0 4).toInt = 0 ∧ ∃ X8 po, SRf ch ps c po X8 ∧ TBX X8 Y ∧ G8R Y G.1 ∧ LR (po ps.length) c G.1 Y) ∨ ∃ f, rr = Sum.inr f ∧ (Y.1 0 4).toInt = 0
def J10C (e : Nat) (c : List Ins) (Y : St) (rr : Sum (List JG × List Bool) (Int × Int)) : Prop := (∃ G, rr = Sum.inl G ∧ ¬ (Y.1 0 4).toInt = 0 ∧ ((Y.1 55 5).toInt = (G.1.length : Int) ∧ ∃ ks, TKS (e + 1) Y ks ∧ K9 <+: ks ∧ ∀ (i : Nat) (G1 : JG), G.1[i]? = some G1 → CGd Y ks i G1) ∧ LC e c c.length G.1 Y) ∨ ∃ f, rr = Sum.inr f ∧ (Y.1 0 4).toInt = 0
/-- what is kept of the reference between calls -/
def R10 (X Y : St) : Prop := Y.1 0 4 = X.1 0 4 ∧ Y.1 0 28 = X.1 0 28 ∧ Y.1 0 18 = X.1 0 18 ∧ Y.1 0 26 = X.1 0 26 ∧ (∀ e k, 11 ≤ e → e < 60 → Y.1 e k = X.1 e k) ∧ (KJq X → KU X → KJq Y) ∧ (KJq X → KU X → KU Y) ∧ KXq X Y
section J10S
variable {e f n N m : Nat} {ch : Tx} {ps : List Pt} {told : Nat → Bool} {c : List Ins} {X Y Z W X8 : St} {po : Nat → Nat} {rr : Sum (List JG × List Bool) (Int × Int)} {kt ksP : List (List Int)}
theorem J10R.kp (h : J10R ch ps c X rr) (g : R10 X Y) : J10R ch ps c Y rr := by
  obtain ⟨g4, g28, g18, g26, gr, gj, gu, gx⟩ := g
  rcases h with ⟨G, a, b, X8, po, d1, ⟨t1, t2, t3, t4, t5, t6⟩, ⟨d3, d4⟩, d5⟩ | ⟨ff, a, b⟩
  · exact Or.inl ⟨G, a, by rw [g4]; exact b, X8, po, d1, ⟨fun e k q => (gr e k (by omega) (by omega)).trans (t1 e k q), gj t2 t3, gu t2 t3, t4.tr gx, g18.trans t5, g26.trans t6⟩, ⟨by rw [g28]; exact d3, fun i G1 hG => (d4 i G1 hG).kx t2 gx (fun e q => gr e i (by omega) (by omega))⟩, d5.cg (fun q => gr 43 q (by omega) (by omega))⟩
  · exact Or.inr ⟨ff, a, by rw [g4]; exact b⟩
theorem x_comp10 (hJ : PGM X) (hR : RDs ch n ps c N (TX X)) : ∃ (r : Int32) (X8 : St) (po : Nat → Nat), f_compiles (JX7 X) = some (r, X8) ∧ RDs ch n ps c N X8 ∧ CDq X8 po ps.length ∧ (X8.1 0 26).toInt = (po ps.length : Int) ∧ (X8.1 0 9).toInt = 0 ∧ (X8.1 0 28).toInt = 0 ∧ (∀ k, X8.1 19 k = X.1 19 k) ∧ ∀ o, o < po ps.length → X8.1 43 o = -1 := by
  obtain ⟨⟨g1, g2, ⟨gF, gA, ⟨gN, gK⟩, gM, gm⟩⟩, ⟨g4, g5, g6, g7⟩, -⟩ := hJ
  have t18 : (TX X).1 0 18 = X.1 0 18 := TX.fr.1 0 18 (by decide)
  have t19 : (TX X).1 0 19 = X.1 0 19 := TX.fr.1 0 19 (by decide)
  have hF7 : Fr YR [9, 10, 28] (TX X) (JX7 X) := ((Fr.rf.wI 0 9 _ (show (9 : Nat) ∈ [9, 10, 28] from by decide)).wI 0 10 _ (show (10 : Nat) ∈ [9, 10, 28] from by decide)).wI 0 28 _ (show (28 : Nat) ∈ [9, 10, 28] from by decide)
  have a7 : ALLP (JX7 X) := gA.fr g1 hF7 (by decide) (fun i _ => hF7.1 26 i (show (5200 : Nat) ∉ [9, 10, 28] from by decide))
  have s18 : (JX7 X).1 0 18 = X.1 0 18 := (hF7.1 0 18 (by decide)).trans t18
  have s19 : (JX7 X).1 0 19 = X.1 0 19 := (hF7.1 0 19 (by decide)).trans t19
  obtain ⟨r, X8, hc, hF8, lo, po, l0, lP, lm, p0, pP, p5, hC, h43⟩ := t_f_compiles (X := JX7 X) a7 (by rw [s18]; exact ⟨g4, g5⟩) (by rw [s19]; rw [t19] at gN; exact ⟨g6, gN⟩)
  have hFt : Fr YR [9, 10, 28, 26, 27, 8000, 8200, 8400, 8600, 8800, 9000, 9200, 9400, 9600, 9800, 10000, 10200] (TX X) X8 := (hF7.mono (by decide)).tr hF8 (by decide)
  obtain ⟨k1, k2⟩ := RDk.of hFt (by decide)
  have R8 := hR.fr k1
  have e18 : ix (X8.1 0 18) = ps.length := ixn R8.2.1.1
  rw [e18] at hC pP h43
  have c9 : ((JX7 X).1 0 9).toInt = 0 := by
    unfold JX7
    rw [wI_ne _ _ _ _ _ _ (by omega), wI_ne _ _ _ _ _ _ (by omega), wI_at]
    rfl
  have c28 : ((JX7 X).1 0 28).toInt = 0 := by
    unfold JX7
    rw [wI_at]
    rfl
  refine ⟨r, X8, po, hc, R8, ⟨p0, fun p hp => ?_⟩, pP, by rw [hF8.1 0 9 (by decide)]; exact c9, by rw [hF8.1 0 28 (by decide)]; exact c28, fun k => (k2 k).trans (tx_ne (by omega)), h43⟩
  obtain ⟨q1, q2, e, q3, q4, q5, q6⟩ := hC p hp
  exact ⟨q1, q2, lo p, lo (p + 1), e, q3, q4, q5, q6⟩
theorem x_judges3710 (hp : JPRE ch X ps told c po) (hR : RDs ch n ps c N X) (h9 : (X.1 0 9).toInt = 0) (h28 : (X.1 0 28).toInt = 0) (h43 : ∀ o, o < po ps.length → X.1 43 o = -1) : pw (f_judges_37 BIG (0 : Int32) X) (fun _ Y => ∃ r, JALL ch ps told c ps.length 0 ([], []) r ∧ RJfA (po ps.length) c X Y r) := by
  obtain ⟨_, _, _, _, h5, h6, _⟩ := hR
  refine x_partsA hp BIG 0 ([], []) 0 X (fun r => JALL ch ps told c ps.length 0 ([], []) r) (by decide) (Nat.zero_le _) ⟨⟨RJB.rf h6 h5, h9, h28, fun i G1 hG => absurd hG.symm (Option.some_ne_none _)⟩, fun o ho => Or.inl ⟨by rw [h43 o ho]; decide, fun y hy => absurd hy List.not_mem_nil⟩⟩ (fun r hr => ?_)
  rw [Nat.sub_zero] at hr
  exact hr
theorem x_judges10 (hJ : PGM X) (hR : RDs ch n ps c N (TX X)) (hn : sNames ch ps c) (hW : PWd ps) (h34 : ∀ a ∈ c, a.1 = 34 → WKd 40 a.2.2.2) (hl : ps.length ≤ 40) (ht : ∀ k, k < ps.length → ((X.1 19 k).toInt = 0 ↔ ¬ told k = true)) : pw (f_judges X) (fun _ Y => ∃ (X8 : St) (po : Nat → Nat) (rr : Sum (List JG × List Bool) (Int × Int)), JALL ch ps told c ps.length 0 ([], []) rr ∧ RJfA (po ps.length) c X8 Y rr ∧ SRf ch ps c po X8) := by
  obtain ⟨r, X8, po, hc, R8, hC, h26, h9, h28, h19, h43⟩ := x_comp10 hJ hR
  have hp := (R8.jpre (told := told) hn hW h34 (fun k hk => by rw [h19]; exact ht k hk) hl hC h26).1
  unfold f_judges
  refine pw_eq (fun x1 e1 => pw_eq (fun X2 e2 => pw_eq (fun x3 e3 => pw_eq (fun X4 e4 => pw_eq (fun X5 e5 => pw_eq (fun X6 e6 => pw_eq (fun X7 e7 => ?_)))))))
  have q4 : X4 = TX X := by
    rw [e4, e3, e2, e1, wI_ne _ _ _ _ _ _ (by omega)]
    rfl
  have q7 : X7 = JX7 X := by
    rw [e7, e6, e5, q4]
    rfl
  rw [q7]
  refine pw_bd (R := fun _ Y => Y = X8) (fun r1 Y1 z => ?_) (fun _ Y hY => ?_)
  · rw [hc] at z
    exact (congrArg Prod.snd (Option.some.inj z)).symm
  · rw [hY]
    exact pw_mono (x_judges3710 hp R8 h9 h28 h43) (fun _ Y2 ⟨rr, a, b⟩ => ⟨X8, po, rr, a, b, hC, fun k p hk => ((R8.jpre (told := told) hn hW h34 (fun k hk => by rw [h19]; exact ht k hk) hl hC h26).2 k p hk).1, R8.2.2.2.2.2.1, h26, R8.2.1.1⟩)
theorem J10R.of (h : RJfA (po ps.length) c X8 Y rr) (hs : SRf ch ps c po X8) : J10R ch ps c Y rr := by
  cases rr with
  | inl G =>
    have h : (RG X8 Y G.1 ∧ LR (po ps.length) c G.1 Y) ∧ (Y.1 0 4).toInt = 1 := h
    obtain ⟨⟨⟨⟨b1, b2, b3, b4⟩, _, h28, hG⟩, hL⟩, h4⟩ := h
    exact Or.inl ⟨G, rfl, by rw [h4]; decide, X8, po, hs, ⟨fun e k q => b1 e k (by unfold kpJ; omega), b2, b3, b4, b1 0 18 (by unfold kpJ; omega), b1 0 26 (by unfold kpJ; omega)⟩, ⟨h28, hG⟩, hL⟩
  | inr f =>
    have h : RJB X8 Y ∧ (Y.1 0 9).toInt = f.1 ∧ (Y.1 0 10).toInt = f.2 ∧ ¬ f.1 = 0 ∧ (Y.1 0 4).toInt = 0 := h
    exact Or.inr ⟨f, rfl, h.2.2.2.2⟩
theorem x_judge10 (hJ : JM X) (h3 : ¬ (X.1 0 3).toInt = 0) (hR : RDs ch n ps c N (TX X)) (hn : sNames ch ps c) (hW : PWd ps) (h34 : ∀ a ∈ c, a.1 = 34 → WKd 40 a.2.2.2) (hl : ps.length ≤ 40) (ht : ∀ k, k < ps.length → ((X.1 19 k).toInt = 0 ↔ ¬ told k = true)) : pw (f_judge X) (fun _ Y => ∃ rr, JALL ch ps told c ps.length 0 ([], []) rr ∧ J10R ch ps c Y rr) := by
  unfold f_judge
  refine pw_let (pw_neg h3 (pw_bd (x_judges10 (hJ.2.1 h3).1 hR hn hW h34 hl ht) ?_))
  rintro _ X2 ⟨X8, po, rr, q1, q2, q3⟩
  refine pw_eq (fun x3 e3 => pw_eq (fun X4 e4 => pw_eq (fun x5 e5 => pw_eq (fun X6 e6 => ?_))))
  have r6 : ∀ i k, ¬ (i = 0 ∧ (k = 11 ∨ k = 12)) → X6.1 i k = X2.1 i k := fun i k z => by rw [e6, wI_ne _ _ _ _ _ _ (by omega), e4, wI_ne _ _ _ _ _ _ (by omega)]
  have g6 : R10 X2 X6 := ⟨r6 0 4 (by omega), r6 0 28 (by omega), r6 0 18 (by omega), r6 0 26 (by omega), fun e k q _ => r6 e k (by omega), fun h _ => h.cg (fun e k q => r6 e k (by omega)), fun _ => (KGq.of (fun e k q => r6 e k (by omega))).2, KXq.of (fun e k q => r6 e k (by omega))⟩
  have fin : ∃ rr, JALL ch ps told c ps.length 0 ([], []) rr ∧ J10R ch ps c X6 rr := ⟨rr, q1, (J10R.of q2 q3).kp g6⟩
  exact pw_let (pw_ite (fun _ => pw_ret fin) (fun _ => pw_let (pw_ret fin)))
theorem l_judgeAllA (h00 : psx ps c 0 = 0) (he : e = 2 ∨ e = 24) (hR : CPRr e ch X ps told c kt) (hP : CPP e X ps c kt) (hC : CPC ch W ps c po) (hT : TKS (e + 1) X ksP) (hkt : kt = ksP.take m) (h5 : (X.1 e 5).toInt = (m : Int)) (hm : 9 ≤ m) (hml : m ≤ ksP.length) (h9 : K9 <+: kt) (hW : ∀ d ∈ kt, WKd 40 d) (hb0 : wks 0 c ≤ 3000) (hb1 : wks 1 c ≤ 3000) (hb2 : m + ps.length + rns c ≤ 1549) : pw (g_Judging_judgeAll e 55 X) (fun _ Y => ∃ X4 : St, X4.1 = X.1 ∧ X4.2.1 = X.2.1 ∧ (∀ q, ¬ q = 61 → X4.2.2 q = X.2.2 q) ∧ CArA e ch ps told c X4 Y 0 ([], []) kt) := by
  have ho : e + 1 = 3 ∨ e + 1 = 25 := by omega
  have ky := (kYp he).1
  unfold g_Judging_judgeAll
  refine pw_eq (fun X1 e1 => pw_to ky (pw_eq (fun X3 e3 => pw_eq (fun X4 e4 => ?_))))
  clear ky
  have r4 : X4.1 = X.1 := by rw [e4, e3, e1]; rfl
  have s4 : X4.2.1 = X.2.1 := by rw [e4, e3, e1]; rfl
  have q1 : X4.2.2 61 1 = e + 1 := by rw [e4, wR_se, if_neg (by decide), e3, wR_se, if_neg (by decide), e1, wR_se, if_pos rfl]
  have q2 : X4.2.2 61 2 = e + 2 := by rw [e4, wR_se, if_neg (by decide), e3, wR_se, if_pos rfl]
  have q0 : X4.2.2 61 0 = 56 := by rw [e4, wR_se, if_pos rfl]
  have qn : ∀ q, ¬ q = 61 → X4.2.2 q = X.2.2 q := fun q z => by rw [e4, wR_sn z, e3, wR_sn z, e1, wR_sn z]
  have ht : CPR e ch X4 ps told c kt := by
    unfold CPR
    rw [r4]
    exact ⟨⟨he, q1, q2, q0⟩, hR⟩
  have hP4 : CPP e X4 ps c kt := by
    unfold CPP PKSq at hP ⊢
    rw [r4]
    exact hP
  have hT4 : TKS (e + 1) X4 ksP := hT.cg (fun a b _ _ _ => by rw [r4])
  refine pw_ck (fun _ => pw_to (show X4.2.2 61 2 - 1 = e + 1 by rw [q2]; rfl) (pw_ck (fun _ => pw_to (show X4.2.2 61 1 - 1 = e by rw [q1]; rfl) (pw_eq (fun x7 e7 => pw_bd (kk_cutTo (m := m) ho hT4 (by rw [e7, r4]; exact h5) hm hml) ?_)))))
  rintro _ X8 ⟨t8, y8, r8⟩
  rw [← hkt] at t8
  refine pw_ck (fun _ => pw_eq (fun X9 f9 => pw_eq (fun X10 f10 => pw_eq (fun X11 f11 => ?_))))
  have C8 : CJT e X4 X8 kt := ⟨⟨y8, fun a b b1 b2 b3 => r8 a b (by omega)⟩, t8, h9, hW⟩
  have C11 : CJT e X4 X11 kt := by
    rw [f11, f10, f9]
    exact ((C8.wr he (Or.inl (by decide))).wr he (Or.inl (by decide))).wr he (Or.inl (by decide))
  have l0 : (0 : Int32).toInt = 0 := by decide
  have hl : kt.length = m := by rw [hkt, List.length_take]; omega
  refine pw_mono (l_headersA h00 ht hP4 hC hb0 hb1 BIG 0 0 X11 kt (by decide) (Nat.zero_le _) ⟨C11, fun q hq => absurd hq (Nat.not_lt_zero _), ?_, ?_⟩ List.prefix_rfl (by omega)) (fun _ Y h => ⟨X4, r4, s4, qn, h⟩)
  · rw [f11, wI_ne _ _ _ _ _ _ (by omega), f10, wI_at]
    exact l0
  · rw [f11, wI_ne _ _ _ _ _ _ (by omega), f10, wI_ne _ _ _ _ _ _ (by omega), f9, wI_at]
    exact l0
theorem l_judge10 (h00 : psx ps c 0 = 0) (he : (e = 2 ∧ f = 24) ∨ (e = 24 ∧ f = 2)) (r9 : X.2.2 0 9 = e + 1) (h3 : ¬ (X.1 0 3).toInt = 0) (hP : CP7 e ch ps told c X) (hC : CPC ch W ps c po) (hb0 : wks 0 c ≤ 3000) (hb1 : wks 1 c ≤ 3000) : pw (g_Court_judge X) (fun _ Y => ∃ rr, JALL ch ps told c ps.length 0 ([], []) rr ∧ J10C e c Y rr) := by
  have he2 : e = 2 ∨ e = 24 := by omega
  obtain ⟨m, kt, ksP, a1, a2, ⟨c1, c2, c3, c4, c5⟩, ⟨d1, d2⟩, g⟩ := hP
  have hml : m ≤ ksP.length := by rw [← c3]; exact c2.length_le
  have hkt : kt = ksP.take m := by
    obtain ⟨l, hl⟩ := c2
    rw [← hl, ← c3, List.take_left]
  unfold g_Court_judge
  refine pw_eq (fun X1 e1 => pw_eq (fun X2 e2 => pw_eq (fun X3 e3 => pw_eq (fun x4 e4 => ?_))))
  have r3 : ∀ i k, ¬ i = 0 → X3.1 i k = X.1 i k := fun i k z => by rw [e3, wI_ne _ _ _ _ _ _ (by omega), e2, wI_ne _ _ _ _ _ _ (by omega), e1, wI_ne _ _ _ _ _ _ (by omega)]
  have s3 : X3.2 = X.2 := by rw [e3, e2, e1]; rfl
  have k3 : X3.1 0 3 = X.1 0 3 := by rw [e3, wI_ne _ _ _ _ _ _ (by omega), e2, wI_ne _ _ _ _ _ _ (by omega), e1, wI_ne _ _ _ _ _ _ (by omega)]
  have a13 : CPRr e ch X3 ps told c kt := by
    obtain ⟨y1, y2, y3⟩ := a1
    exact ⟨fun i a ha => by rw [r3 (e + 18) _ (by omega), r3 (e + 21) _ (by omega), r3 (e + 19) _ (by omega)]; exact y1 i a ha, fun k hk => by rw [r3 _ _ (by omega)]; exact y2 k hk, y3⟩
  have a23 : CPP e X3 ps c kt := by
    obtain ⟨b1, b2, b3, b4⟩ := a2
    refine ⟨fun k p hk => ?_, by rw [r3 _ _ (by omega)]; exact b2, by rw [r3 _ _ (by omega)]; exact b3, fun k p hk => ?_⟩
    · rw [r3 (e + 13) _ (by omega), r3 (e + 17) _ (by omega)]
      exact b1 k p hk
    · obtain ⟨q1, q2⟩ := b4 k p hk
      exact ⟨fun i hi => by rw [r3 (e + 14) _ (by omega)]; exact q1 i hi, by rw [r3 (e + 15) _ (by omega)]; exact q2⟩
  refine pw_neg (by rw [e4, k3]; exact h3) (pw_ck (fun _ => pw_to (w := e) (by rw [s3, r9]; rfl) (pw_bd (l_judgeAllA h00 (W := W) (m := m) (ksP := ksP) he2 a13 a23 hC (c1.cg (fun j k q1 q2 _ => r3 j k (by omega))) hkt (by rw [r3 e 5 (by omega)]; exact c4) c5 hml d1 d2 hb0 hb1 g) ?_)))
  rintro _ X6 ⟨X4, q1, q2, q3, rr, ks1, y1, y2, y3⟩
  rw [Nat.sub_zero] at y1
  refine pw_eq (fun x7 e7 => pw_eq (fun X8 e8 => pw_eq (fun x9 e9 => pw_eq (fun X10 e10 => pw_eq (fun x11 e11 => ?_)))))
  have v11 : x11 = X6.1 61 4 := by rw [e11, e10, wI_ne _ _ _ _ _ _ (by omega), e8, wI_at, e7]
  have r10 : ∀ i k, ¬ i = 0 → X10.1 i k = X6.1 i k := fun i k z => by rw [e10, wI_ne _ _ _ _ _ _ (by omega), e8, wI_ne _ _ _ _ _ _ (by omega)]
  have fin : ∀ b0 : Int32, (b0.toInt = 0 → ∃ ff, rr = Sum.inr ff) → (¬ b0.toInt = 0 → ∃ G, rr = Sum.inl G) → pw (g_Court_judge_74 b0 X10) (fun _ Y => ∃ rr, JALL ch ps told c ps.length 0 ([], []) rr ∧ J10C e c Y rr) := fun b0 z0 z1 => by
    unfold g_Court_judge_74
    refine pw_ck (fun _ => pw_eq (fun X12 e12 => pw_eq (fun x13 e13 => ?_)))
    have v12 : X12.1 0 4 = b0 := by rw [e12, wI_at]
    have r12 : ∀ i k, ¬ i = 0 → X12.1 i k = X6.1 i k := fun i k z => by rw [e12, wI_ne _ _ _ _ _ _ (by omega)]; exact r10 i k z
    rw [e13, v12]
    refine pw_ite (fun c13 => ?_) (fun c13 => ?_)
    · obtain ⟨ff, hf⟩ := z0 c13
      exact pw_ret ⟨rr, y1, Or.inr ⟨ff, hf, by rw [v12]; exact c13⟩⟩
    · obtain ⟨G, hG⟩ := z1 c13
      rw [hG] at y3
      have y3 : CG e ps told X4 X6 ks1 G.1 ∧ LC e c c.length G.1 X6 := y3
      obtain ⟨y3, yL⟩ := y3
      refine pw_let (pw_ret ⟨rr, y1, Or.inl ⟨G, hG, by rw [v12]; exact c13, ⟨?_, ks1, ?_, y3.1.1.2.2.1, fun i G1 hi => ?_⟩, yL.cg (fun q => r12 (e + 20) q (by omega))⟩⟩)
      · rw [r12 55 5 (by omega)]
        exact y3.2.2.1
      · exact y3.1.1.2.1.cg (fun j k b1 b2 _ => r12 j k (by omega))
      · exact (y3.2.2.2 i G1 hi).cg (fun j hj => r12 j i (by omega))
  rw [v11]
  cases rr with
  | inl G =>
    have y3 : CG e ps told X4 X6 ks1 G.1 ∧ LC e c c.length G.1 X6 := y3
    exact pw_pos y3.1.2.1 (fin 1 (fun z => absurd z (by decide)) (fun _ => ⟨G, rfl⟩))
  | inr ff =>
    have y3 : CJT e X4 X6 ks1 ∧ (X6.1 61 4).toInt = ff.1 ∧ (X6.1 61 5).toInt = ff.2 ∧ ¬ ff.1 = 0 := y3
    exact pw_neg (by rw [y3.2.1]; exact y3.2.2.2) (fin 0 (fun _ => ⟨ff, rfl⟩) (fun z => absurd (by decide) z))
end J10S
