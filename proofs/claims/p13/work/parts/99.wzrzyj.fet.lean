/-! what has been asked is put on; a place is read: both sides -/
section FETS
variable {X Y Z X1 Y1 X2 Y2 X0 Y0 V V1 V2 : St} {r r1 r2 : Nat → Int32} {s w k a b p p1 p2 v pl o1 n1 x cc a2 a3 a4 a5 : Int32} {y y1 y2 : Int64} {ks : List (List Int)} {e c m n i j sb tp t0 nn nn1 o q D L P F q0 A : Nat} {u : Bool} {G : Nat → Int32} {f : Nat → Int32}
theorem RBk.by (h : RBk e X Y ks) (hx : ∀ e k, ¬ (e = 0 ∧ k = 31) → e < 60 → X2.1 e k = X.1 e k) (hy : ∀ j k, j < 60 → Y2.1 j k = Y.1 j k) (hl : Y2.2 = Y.2) : RBk e X2 Y2 ks := by
  obtain ⟨a1, ⟨a2, a3⟩, ⟨a4, a5⟩, a6⟩ := h
  exact ⟨a1, ⟨a2.cg (fun e k q => hx e k (by omega) (by omega)), (KGq.of (fun e k q => hx e k (by omega) (by omega))).2 a3⟩, ⟨a4.cg (fun i k q1 q2 _ => hy i k (by omega)), a5⟩, by rw [hl]; exact a6⟩
theorem PRm.by (h : PRm e X Y) (he : e = 2 ∨ e = 24) (hx : ∀ e k, ¬ (e = 0 ∧ k = 31) → e < 60 → X2.1 e k = X.1 e k) (hy : ∀ j k, j < 60 → Y2.1 j k = Y.1 j k) : PRm e X2 Y2 := by
  obtain ⟨h1, h2, h3⟩ := h
  unfold PRm
  rw [hx 0 18 (by omega) (by omega), hy e 1 (by omega)]
  exact ⟨h1, h2, fun k hk => by rw [hy _ k (by omega), hx 15 k (by omega) (by omega)]; exact h3 k hk⟩
/-- what an asking leaves, put on the class's stack -/
theorem ASQ.opq (h : INS e X Y r ks sb c (t0 + m) nn) (hm : sb ≤ t0) (hx : ∀ e k, ¬ (e = 0 ∧ k = 31) → ¬ ((e = 60 ∨ e = 61) ∧ t0 ≤ k) → ¬ e = 81 → X2.1 e k = X.1 e k) (h31 : (X2.1 0 31).toInt = (t0 : Int) + 1) (hy : ∀ j k, ¬ (j = 70 ∧ k = 15) → ¬ j = 85 → Y2.1 j k = Y.1 j k) (hyl : Y2.2 = Y.2) (g : ASQ X2 Y2 r ks t0 y1 Z V) (hp : PSHq V (t0 + c + 1) y1 V2) : OPQ X Y r ks sb c (t0 + 1) nn Z V2 ∧ V2.1 70 10 = Y.1 70 10 := by
  obtain ⟨hB, hS, hO, hH, hK, hN⟩ := h
  obtain ⟨⟨a1, a2⟩, ⟨a3, a4, a5⟩, a6, a7⟩ := g
  obtain ⟨b1, b2, b3, b4, b5⟩ := hp
  have hX : HXc X X2 := ⟨fun k _ => hx 0 k (by omega) (by omega) (by omega), fun e k _ => hx e k (by omega) (by omega) (by omega)⟩
  have hKX : KXq X X2 := KXq.of (fun e k q => hx e k (by omega) (by omega) (by omega))
  have rz : ∀ k, (k = 60 ∨ k = 62 ∨ k = 63) → ∀ i, Z.1 k i = X2.1 k i := fun k q i => a1 k i (fun z => by omega) (by omega) (by omega) (by omega) (by omega) (by omega) (by omega)
  have z61 : ∀ i, ¬ i = t0 → Z.1 61 i = X2.1 61 i := fun i q => a1 61 i (fun z => by omega) (by omega) (by omega) (by omega) (by omega) (by omega) (by omega)
  have z31 : Z.1 0 31 = X2.1 0 31 := a1 0 31 (fun _ => by omega) (by omega) (by omega) (by omega) (by omega) (by omega) (by omega)
  have hSV : SCr Z V2 := a6.cg ⟨fun _ _ => rfl, fun _ => rfl, fun _ => rfl⟩ ⟨fun k q => b2 70 k (by omega), fun k q => b2 71 k (by omega), fun k => b2 86 k (by omega), fun k => b2 87 k (by omega)⟩
  refine ⟨⟨⟨by rw [b3, a2.1, hyl], fun j k q1 q2 q3 q4 => ?_, fun j k q1 q2 q3 q4 => ?_⟩, ⟨a3, a4, hKX.tr a5⟩, hSV, ?_⟩, ?_⟩
  · rw [b2 j k (by omega), a2.2.1 j k (by omega) (by omega) q3 (by omega), hy j k (by omega) (by omega)]
  · rw [b4 j k (by omega), a2.2.2 j k q2, hyl]
  · rcases a7 with a7 | ⟨c1, r1, c2, c3, c4⟩
    · refine Or.inl ⟨a7.1, ?_, ?_, ?_⟩
      · rw [b2 70 4 (by omega)]; exact a7.2.1
      · rw [b2 70 5 (by omega)]; exact a7.2.2.1
      · rw [b2 70 6 (by omega)]; exact a7.2.2.2
    · have hg : HG X Z r r1 := (HG.of hX).tr c2
      refine Or.inr ⟨c1.cg rfl rfl (fun k q => b2 70 k (by omega)), r1, hg, c3.cg a3 KXq.rf ⟨fun _ _ => rfl, fun _ _ _ => rfl⟩ ⟨fun e k q => b2 e k (by omega), fun e k q => b4 e k (by omega)⟩, hK.rep (m := m) hg hm (by rw [z31, h31]; omega) (by rw [b1]; omega) (fun i hi => ⟨?_, ?_⟩) (fun i hi => ?_) ?_, hN.cg hg (Nat.le_refl _) (fun s _ => ⟨?_, ?_⟩) (fun s _ => ?_)⟩
      · rw [rz 60 (by omega), hx 60 i (by omega) (by omega) (by omega)]
      · rw [z61 i (by omega), hx 61 i (by omega) (by omega) (by omega)]
      · rw [b4 84 i (by omega), a2.2.2 84 i (by omega), hyl]
      · rw [b5]
        exact c4
      · rw [rz 62 (by omega), hx 62 _ (by omega) (by omega) (by omega)]
      · rw [rz 63 (by omega), hx 63 _ (by omega) (by omega) (by omega)]
      · rw [b4 83 _ (by omega), a2.2.2 83 _ (by omega), hyl]
  · rw [b2 70 10 (by omega), a2.2.1 70 10 (by omega) (by omega) (by omega) (by omega), hy 70 10 (by omega) (by omega)]
theorem n_aro : ∀ (N : Nat) (a2 w : Int32) (Z : St), pw (f_aroundOf_4 N a2 w Z) (fun _ Y => ∀ e k, ¬ e = 81 → Y.1 e k = Z.1 e k) := by
  intro N
  induction N with
  | zero => exact fun _ _ _ => pw_none
  | succ N ih =>
    intro a2 w Z
    have e1 : f_aroundOf_4 (N + 1) = f_aroundOf_4_s (f_aroundOf_4 N) := by
      unfold f_aroundOf_4
      exact lp_succ _ _ _
    rw [e1]
    unfold f_aroundOf_4_s
    refine pw_ck (fun _ => pw_let (pw_ite (fun _ => pw_ret (fun _ _ _ => rfl)) (fun _ => pw_ck (fun _ => pw_eq (fun X2 e2 => pw_let (pw_ck (fun _ => pw_let (pw_mono (ih _ _ X2) (fun _ Y g e k q => ?_)))))))))
    rw [g e k q, e2, wI_ne _ _ _ _ _ _ (by omega)]
theorem n_around (hc : CHN X f D) (hD : D ≤ 20) (h33 : (X.1 0 33).toInt ≤ 1000) : pw (f_aroundOf (f 0) X) (fun z Y => (Fr YR [16200] X Y ∧ z.toInt = (D : Int) ∧ ∀ j, j < D → Y.1 81 j = f j) ∧ ∀ e k, ¬ e = 81 → Y.1 e k = X.1 e k) := by
  refine pw_and (pw_ok (r_aroundOf hc hD h33)) ?_
  unfold f_aroundOf
  exact n_aro BIG 0 (f 0) X
theorem l_fetch (h : 0 ≤ cc.toInt ∧ cc.toInt < (Y.1 71 0).toInt) (hp : p.toInt = (i : Int)) (hi : (i : Int) < (Y.1 73 (ix cc)).toInt) (h72 : (Y.1 72 (ix cc)).toInt = (P : Int)) (hP : P + i < 4000) : pw (g_Heap_fetch (VLs 3 cc) p Y) (fun z Y1 => Y1 = Y ∧ z = Y.2.1 74 (P + i)) := by
  unfold g_Heap_fetch
  refine pw_bd (l_hasPlace h) ?_
  rintro x1 X2 ⟨e2, h1⟩
  rw [e2]
  refine pw_neg (fun z => absurd (⟨by omega, by omega⟩ : _ ∧ _) (h1.mp z)) (pw_bd l_contentOf ?_)
  rintro x3 X4 ⟨e4, e3⟩
  rw [e4, e3]
  refine pw_ck (fun _ => pw_let (pw_eq (fun x6 e6 => pw_ck (fun _ => pw_let (pw_ret ⟨rfl, ?_⟩)))))
  rw [show ix x6 = P + i from ixn (by rw [e6, ti_add (by rw [h72, hp]; omega) (by rw [h72, hp]; omega), h72, hp]; omega)]
theorem l_askOut {R : Int64 → St → Prop} {yc : Nat → Int64} {qc : Nat → Int32} (hC : CCH Y yc qc D) (hk : ∀ (Y2 : St) (a7 : Int32), (∀ j k, ¬ j = 85 → Y2.1 j k = Y.1 j k) → Y2.2 = Y.2 → (∀ i, i < D → Y2.1 85 i = qc i) → a7.toInt = (D : Int) - 1 → pw (g_Running_askOutward_12 BIG y a7 Y2) R) : pw (g_Running_askOutward (yc 0) y Y) R := by
  have l1 : (1 : Int32).toInt = 1 := by decide
  have hD := hC.1
  unfold g_Running_askOutward
  refine pw_bd (l_unwrap hC) ?_
  rintro x1 X2 ⟨g1, g2, g3, g4⟩
  exact pw_eq (fun x3 e3 => hk X2 x3 g3 g4 g2 (by rw [e3, ti_sub (by rw [g1, l1]; omega) (by rw [g1, l1]; omega), g1, l1]))
set_option maxHeartbeats 4000000 in
/-- FETCH -/
theorem op14 (ho : o1.toInt = (o : Int)) (h1 : (X.1 40 o).toInt = 26) (h : INS e X Y r ks sb c (t0 + 2) nn) (hm : sb ≤ t0) (hn : t0 + c + 1 < 20002) (ht : t0 ≤ 20000) (hM : PRm e X Y) (hP : HP u X G) (hT : KT X) (h3 : K3 X) (hPB : PBD X) (hs : (X.1 60 t0).toInt = 3) (hr : RV X (X.1 61 t0)) (hs1 : (X.1 60 (t0 + 1)).toInt = 0) (hpl : X.1 22 (ix n1) = pl) : pw (f_does o1 n1 X) (fun z X1 => z = o1 + 1 ∧ pw (g_Running_workRowOrCall 14 x pl Y) (fun _ Y1 => OPQ X Y r ks sb c (t0 + 1) nn X1 Y1 ∧ Y1.1 70 10 = Y.1 70 10)) := by
  have hK := h.2.2.2.2.1
  have hH := h.2.2.2.1
  have he := h.1.1
  have l1 : (1 : Int32).toInt = 1 := by decide
  have l2 : (2 : Int32).toInt = 2 := by decide
  have hv := hK.2.2.2 t0 hm (by omega)
  have hyi := (hK.2.2.2 (t0 + 1) (by omega) (by omega)).int hs1
  obtain ⟨f, D, f0, hc, _, hD⟩ := r_chain hP 1001 (X.1 61 t0) (by have := hr.2.1; have := hP.1.2.1; omega) hr
  obtain ⟨q1, ⟨q2, q3⟩, q4, q5, q6⟩ := hH.raw hc
  have hy0 : Y.2.1 84 (t0 + c + 1) = tvl X r (ix (f 0)) := by rw [f0]; exact (hv.to3 hs).i3.2
  have rvd := hc.1 D (Nat.le_refl _)
  have erd := ixc rvd.1
  have rdl := rvd.2.1
  obtain ⟨p1', p2', p3', p4', p5', p6'⟩ := (hP.2 (ix (f D)) (by omega)).1 hc.2.2
  obtain ⟨F, hF⟩ : ∃ F : Nat, (X.1 65 (ix (f D))).toInt = (F : Int) := ⟨(X.1 65 (ix (f D))).toInt.toNat, by omega⟩
  have h34 := hP.1.2.2.2
  obtain ⟨idx, hidx⟩ : ∃ idx : Int32, X.1 61 (t0 + 1) = idx := ⟨_, rfl⟩
  -- the class up to the look
  have cls : ∀ (Q : St → Prop), (∀ Y4, TOPq Y Y4 (t0 + c + 1) → (¬ (0 ≤ idx.toInt ∧ idx.toInt < (X.1 66 (ix (f D))).toInt) → pw (g_Running_failWith 1 pl Y4) (fun _ V => Q V)) ∧ (0 ≤ idx.toInt ∧ idx.toInt < (X.1 66 (ix (f D))).toInt → ∀ (Y2 : St) (a7 : Int32), (Y2.1 70 15).toInt = ((t0 + c + 1 : Nat) : Int) → (∀ j k, ¬ (j = 70 ∧ k = 15) → ¬ j = 85 → Y2.1 j k = Y.1 j k) → Y2.2 = Y.2 → (∀ i, i < D → Y2.1 85 i = r (ix (f i))) → a7.toInt = (D : Int) - 1 → pw (g_Running_askOutward_12 BIG (Y.2.1 74 (F + ix idx)) a7 Y2) (fun y11 X12 => pw (g_Running_push y11 X12) (fun _ V => Q V)))) → pw (g_Running_workRowOrCall 14 x pl Y) (fun _ V => Q V) := by
    intro Q hk
    unfold g_Running_workRowOrCall
    refine pw_neg (by decide) (pw_neg (by decide) (pw_neg (by decide) (pw_neg (by decide) (pw_pos (by decide) (pw_bd (R := fun _ V => Q V) ?_ (fun _ V q => pw_ret q))))))
    unfold g_Running_fetch
    refine pw_bd (l_popC2 (TOPq.rf (n := t0 + 1 + c + 1 + 1) (by have := hK.2.1; omega))) ?_
    rintro x1 Y1 ⟨hT1, e1⟩
    rw [hyi, vl_con, hidx] at e1
    refine pw_bd (l_pop2 (n := t0 + c + 1) (by rw [show t0 + c + 1 + 1 = t0 + 1 + c + 1 by omega]; exact hT1)) ?_
    rintro y3 Y4 ⟨hT4, e3⟩
    rw [hy0] at e3
    obtain ⟨k1, k2⟩ := hk Y4 hT4
    have hH4 : HR X Y4 r ks := hH.cg h.1.2.1.1 KXq.rf ⟨fun _ _ => rfl, fun _ _ _ => rfl⟩ ⟨fun e k q => hT4.2.1 e k (by omega), fun e k _ => by rw [hT4.2.2]⟩
    obtain ⟨yc, qc, hC, hyc0, hycD, hqc⟩ := hH4.rch hc hD
    rw [e1, e3, ← hyc0]
    refine pw_bd (l_core hC) ?_
    rintro y5 Y6 ⟨e6, e5⟩
    rw [e6, e5, hycD]
    have q14 : 0 ≤ (r (ix (f D))).toInt ∧ (r (ix (f D))).toInt < (Y4.1 71 0).toInt := by rw [hT4.2.1 71 0 (by omega)]; exact q1
    have q34 : Y4.1 73 (ix (r (ix (f D)))) = X.1 66 (ix (f D)) := by rw [hT4.2.1 73 _ (by omega), q3]
    refine pw_bd (l_hasPlace q14) ?_
    rintro x7 Y8 ⟨e8, h7⟩
    rw [e8]
    rw [q34] at h7
    refine pw_ite (fun z => pw_bd (k1 (h7.mp z)) (fun _ V q => pw_ret q)) (fun z => ?_)
    have hin : 0 ≤ idx.toInt ∧ idx.toInt < (X.1 66 (ix (f D))).toInt := Classical.byContradiction (fun q => z (h7.mpr q))
    have ei := ixc hin.1
    refine pw_bd (l_fetch (i := ix idx) (P := F) q14 ei.symm (by rw [q34]; omega) (by rw [hT4.2.1 72 _ (by omega), q2]; exact hF) (by omega)) ?_
    rintro y9 Y10 ⟨e10, e9⟩
    rw [e10, e9, hT4.2.2]
    refine pw_bd (l_askOut (R := fun y11 X12 => pw (g_Running_push y11 X12) (fun _ V => Q V)) hC (fun Y2 a7 z1 z2 z3 z4 => k2 hin Y2 a7 (by rw [z1 70 15 (by omega)]; exact hT4.1) (fun j k w1 w2 => (z1 j k w2).trans (hT4.2.1 j k w1)) (by rw [z2, hT4.2.2]) (fun i hi => by rw [z3 i hi, hqc]) z4)) ?_
    intro y11 V12 h12
    exact pw_bd h12 (fun _ V q => pw_ret q)
  refine n_dw ho (by omega) (fun x' hx' => ?_)
  rw [h1] at hx'
  unfold f_works
  refine pw_neg (by omega) (pw_neg (by omega) (pw_neg (by omega) (pw_neg (by omega) (pw_neg (by omega) (pw_neg (by omega) (pw_neg (by omega) (pw_neg (by omega) (pw_pos hx' (pw_bd (R := fun _ X1 => pw (g_Running_workRowOrCall 14 x pl Y) (fun _ Y1 => OPQ X Y r ks sb c (t0 + 1) nn X1 Y1 ∧ Y1.1 70 10 = Y.1 70 10)) ?_ (fun _ X9 q => pw_ret q))))))))))
  unfold f_readsPlace
  refine pw_let (pw_eq (fun x2 e2 => pw_ck (fun _ => ?_)))
  have v2 : x2.toInt = (t0 : Int) := by rw [e2]; exact n_dec (q := 2) (by have := hK.1; omega) (by rw [l2]; rfl)
  have i2 : ix x2 = t0 := ixn v2
  rw [i2]
  refine pw_to f0.symm (pw_bd (n_within3 hP.1.2.1 (by decide) hc hD) ?_)
  rintro x4 X5 ⟨e5, e4⟩
  rw [e5, e4]
  refine pw_let (pw_eq (fun x7 e7 => pw_ck (fun _ => ?_)))
  have i7 : ix x7 = t0 + 1 := ixn (by rw [e7]; exact n_dec (q := 1) (by have := hK.1; omega) (by rw [l1]; rfl))
  rw [i7]
  refine pw_to hidx (pw_ck (fun _ => pw_let (pw_eq (fun x10 e10 => pw_bd (r_in _ _ _ _) ?_))))
  rintro x11 X12 ⟨e12, h11⟩
  rw [e12]
  have v10 : x10.toInt = (X.1 66 (ix (f D))).toInt - 1 := by rw [e10, ti_sub (by rw [l1]; omega) (by rw [l1]; omega), l1]
  rw [show (0 : Int32).toInt = 0 from by decide, v10] at h11
  refine pw_ite (fun g => ?_) (fun g => ?_)
  · have bad : ¬ (0 ≤ idx.toInt ∧ idx.toInt < (X.1 66 (ix (f D))).toInt) := by omega
    refine pw_ck (fun _ => pw_to hpl (pw_bd (pw_all (Q := fun (Y4 : St) _ X1 => TOPq Y Y4 (t0 + c + 1) → pw (g_Running_failWith 1 pl Y4) (fun _ Y1 => OPQ X Y r ks sb c (t0 + 1) nn X1 Y1 ∧ Y1.1 70 10 = Y.1 70 10)) (fun Y4 => pw_im (fun hT4 => OPQ.fail h (fun _ _ _ => rfl) hT4 (by decide)))) (fun _ X1 hall => pw_ret (cls _ (fun Y4 hT4 => ⟨fun _ => hall Y4 hT4, fun z => absurd z bad⟩)))))
  · have hin : 0 ≤ idx.toInt ∧ idx.toInt < (X.1 66 (ix (f D))).toInt := by omega
    have ei := ixc hin.1
    refine pw_let (pw_eq (fun x14 e14 => pw_eq (fun X15 e15 => pw_ck (fun _ => pw_eq (fun x16 e16 => pw_eq (fun x17 e17 => pw_ck (fun _ => pw_eq (fun x18 e18 => pw_ck (fun _ => pw_eq (fun X19 e19 => pw_ck (fun _ => pw_eq (fun x20 e20 => pw_eq (fun x21 e21 => pw_ck (fun _ => pw_eq (fun x22 e22 => pw_ck (fun _ => pw_eq (fun X23 e23 => ?_)))))))))))))))))
    have r15 : ∀ e k, ¬ (e = 0 ∧ k = 31) → X15.1 e k = X.1 e k := fun e k q => by rw [e15, wI_ne _ _ _ _ _ _ q]
    have i17 : ix x17 = F + ix idx := ixn (by rw [e17, e16, r15 65 _ (by omega), ti_add (by rw [hF]; omega) (by rw [hF]; omega), hF]; omega)
    rw [i17, r15 74 _ (by omega)] at e18
    have r19 : ∀ e k, ¬ (e = 60 ∧ k = t0) → X19.1 e k = X15.1 e k := fun e k q => by rw [e19, wI_ne _ _ _ _ _ _ q]
    have i21 : ix x21 = F + ix idx := by rw [e21, e20, r19 65 _ (by omega), ← e16, ← e17]; exact i17
    rw [i21, r19 75 _ (by omega), r15 75 _ (by omega)] at e22
    have r23 : ∀ e k, ¬ (e = 0 ∧ k = 31) → ¬ ((e = 60 ∨ e = 61) ∧ k = t0) → X23.1 e k = X.1 e k := fun e k z1 z2 => by rw [e23, wI_ne _ _ _ _ _ _ (by omega), r19 e k (by omega), r15 e k z1]
    have f31 : (X23.1 0 31).toInt = (t0 : Int) + 1 := by
      rw [e23, wI_ne _ _ _ _ _ _ (by omega), r19 0 31 (by omega), e15, wI_at, e14]
      have := n_dec (X := X) (n := t0 + 1) (q := 1) (p := 1) (by have := hK.1; omega) (by rw [l1]; rfl)
      omega
    have f60 : X23.1 60 t0 = X.1 74 (F + ix idx) := by rw [e23, wI_ne _ _ _ _ _ _ (by omega), e19, wI_at, e18]
    have f61 : X23.1 61 t0 = X.1 75 (F + ix idx) := by rw [e23, wI_at, e22]
    have hF15 : Fr YR [31] X X15 := by rw [e15]; exact Fr.rf.wI 0 31 _ (show (31 : Nat) ∈ [31] from by decide)
    have hF19 : Fr YR [31, 12000] X X19 := by rw [e19]; exact (hF15.mono (by decide)).wI 60 _ _ (show (12000 : Nat) ∈ [31, 12000] from by decide)
    have hF23 : Fr YR [31, 12000, 12200] X X23 := by rw [e23]; exact (hF19.mono (by decide)).wI 61 _ _ (show (12200 : Nat) ∈ [31, 12000, 12200] from by decide)
    have hX23 : HX X X23 G G := HX.fr hF23 (KX.fr hF23 (by decide)) (by decide)
    refine pw_bd (n_around (hc.hx hX23) hD (by rw [r23 0 33 (by omega) (by omega)]; exact hP.1.2.1)) ?_
    rintro x24 X25 ⟨⟨hFZ, v24, h81⟩, hrd⟩
    have hXZ : Fr YR [31, 12000, 12200, 16200] X X25 := (hF23.mono (by decide)).tr hFZ (by decide)
    have hKZ : KX X X25 := KX.fr hXZ (by decide)
    have hHZ : HX X X25 G G := HX.fr hXZ hKZ (by decide)
    have hPZ : PER [31, 12000, 12200, 16200] X X25 := PER.fr hT hXZ (by decide)
    have z60 : X25.1 60 t0 = X.1 74 (F + ix idx) := (hFZ.1 60 t0 (show (12000 : Nat) ∉ [16200] from by decide)).trans f60
    have z61 : X25.1 61 t0 = X.1 75 (F + ix idx) := (hFZ.1 61 t0 (show (12200 : Nat) ∉ [16200] from by decide)).trans f61
    have z31 : (X25.1 0 31).toInt = (t0 : Int) + 1 := by rw [hFZ.1 0 31 (by decide)]; exact f31
    refine pw_eq (fun x26 e26 => ?_)
    have v26 : x26.toInt = (D : Int) - 1 := by rw [e26, ti_sub (by rw [v24, l1]; omega) (by rw [v24, l1]; omega), v24, l1]
    have hway : WAY u X25 G f D D x2 := by
      refine ⟨hP.same hT hXZ hKZ (by decide) (by decide), hc.hx hHZ, ?_⟩
      rw [i2, z60, z61, EK.hx rvd hT hHZ, EK.raw hc]
      exact (p6' (F + ix idx) (by omega) (by omega)).hx hT hHZ
    have hpre : PRE X25 x2 f D := ⟨⟨hPZ.2.1, h3.kx hKZ, hPB.pot hPZ.2.2.2⟩, ⟨by rw [hXZ.1 0 18 (by decide)]; exact hM.1.2, by omega, by omega⟩, h81⟩
    have rX : ∀ e k, ¬ (e = 0 ∧ k = 31) → ¬ ((e = 60 ∨ e = 61) ∧ k = t0) → ¬ e = 81 → X25.1 e k = X.1 e k := fun e k w1 w2 w3 => (hrd e k w3).trans (r23 e k w1 w2)
    have hXc : HXc X X25 := ⟨fun k _ => rX 0 k (by omega) (by omega) (by omega), fun e k _ => rX e k (by omega) (by omega) (by omega)⟩
    have hKX : KXq X X25 := KXq.of (fun e k q => rX e k (by omega) (by omega) (by omega))
    have hvv := hH.2.2 (F + ix idx) (by omega)
    -- the askings
    have key : ∀ (Y2 : St) (a7 : Int32), (Y2.1 70 15).toInt = ((t0 + c + 1 : Nat) : Int) → (∀ j k, ¬ (j = 70 ∧ k = 15) → ¬ j = 85 → Y2.1 j k = Y.1 j k) → Y2.2 = Y.2 → (∀ i, i < D → Y2.1 85 i = r (ix (f i))) → a7.toInt = (D : Int) - 1 → pw (f_readsPlace_126 BIG x2 x26 X25) (fun _ Z1 => pw (g_Running_askOutward_12 BIG (Y.2.1 74 (F + ix idx)) a7 Y2) (fun y1 V1 => ASQ X25 Y2 r ks t0 y1 Z1 V1)) := by
      intro Y2 a7 w15 wy wl w85 w7
      have hB2 : RBk e X25 Y2 ks := h.1.by (fun e k z1 z2 => rX e k z1 (by omega) (by omega)) (fun j k z => wy j k (by omega) (by omega)) wl
      have hM2 : PRm e X25 Y2 := hM.by he (fun e k z1 z2 => rX e k z1 (by omega) (by omega)) (fun j k z => wy j k (by omega) (by omega))
      have hS2 : SCr X25 Y2 := h.2.1.cg ⟨fun k q => rX 0 k (by omega) (by omega) (by omega), fun k => rX 79 k (by omega) (by omega) (by omega), fun k => rX 80 k (by omega) (by omega) (by omega)⟩ ⟨fun k q => wy 70 k (by omega) (by omega), fun k q => wy 71 k (by omega) (by omega), fun k => wy 86 k (by omega) (by omega), fun k => wy 87 k (by omega) (by omega)⟩
      have hO2 : ONr X25 Y2 := h.2.2.1.cg (rX 0 43 (by omega) (by omega) (by omega)) (rX 0 44 (by omega) (by omega) (by omega)) (fun k _ => wy 70 k (by omega) (by omega))
      have hH2 : HR X25 Y2 r ks := hH.cg h.1.2.1.1 hKX hXc ⟨fun e k q => wy e k (by omega) (by omega), fun e k _ => by rw [wl]⟩
      have hA : ASQ X25 Y2 r ks t0 (Y.2.1 74 (F + ix idx)) X25 Y2 := ASQ.id hB2 hS2 hO2 hH2 (by rw [z60, z61]; exact hvv.up (HG.of hXc))
      refine pw_mono (n_out (u := u) (G := G) i2 hB2 hM2 hD (fun i hi => ?_) w85 BIG D X25 Y2 _ x26 a7 v26 w7 (Nat.le_refl _) hA hpre (fun _ => hway)) (fun _ Z1 g => g BIG)
      have w := (hc.1 i (by omega)).2.1
      rw [rX 0 33 (by omega) (by omega) (by omega)]
      exact w
    refine pw_mono (pw_all (Q := fun (q : St × Int32) _ Z1 => (q.1.1 70 15).toInt = ((t0 + c + 1 : Nat) : Int) → (∀ j k, ¬ (j = 70 ∧ k = 15) → ¬ j = 85 → q.1.1 j k = Y.1 j k) → q.1.2 = Y.2 → (∀ i, i < D → q.1.1 85 i = r (ix (f i))) → q.2.toInt = (D : Int) - 1 → pw (g_Running_askOutward_12 BIG (Y.2.1 74 (F + ix idx)) q.2 q.1) (fun y1 V1 => ASQ X25 q.1 r ks t0 y1 Z1 V1)) (fun q => pw_im (fun w1 => pw_im (fun w2 => pw_im (fun w3 => pw_im (fun w4 => pw_im (fun w5 => key q.1 q.2 w1 w2 w3 w4 w5))))))) (fun _ Z1 hall => ?_)
    refine cls _ (fun Y4 hT4 => ⟨fun z => absurd hin z, fun _ Y2 a7 w1 w2 w3 w4 w5 => pw_mono (hall (Y2, a7) w1 w2 w3 w4 w5) (fun y1 V1 hA => ?_)⟩)
    have hA2 := hA.1.2
    have hTV : TOPq V1 V1 (t0 + c + 1) := TOPq.rf (by rw [hA2.2.1 70 15 (by omega) (by omega) (by omega) (by omega)]; exact w1)
    exact pw_mono (l_push2 hTV hn) (fun _ V2 hp => ASQ.opq (m := 2) h hm (fun e k z1 z2 z3 => rX e k z1 (by omega) z3) z31 w2 w3 hA hp)
end FETS
