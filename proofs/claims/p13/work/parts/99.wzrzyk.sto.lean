/-! a place is written: both sides -/
section STOS
variable {X Y Z X1 Y1 X2 Y2 X0 Y0 V V1 V2 Z1 Z2 : St} {r r1 r2 : Nat → Int32} {s w k a b p p1 p2 v pl o1 n1 x cc a2 a3 a4 a5 : Int32} {y y1 y2 : Int64} {ks : List (List Int)} {e c m n i j sb tp t0 nn nn1 o q D L P F q0 A : Nat} {u : Bool} {G : Nat → Int32} {f : Nat → Int32}
/-- one place of the heap is written -/
theorem HR.put (h : HR X Y r ks) (hJ : KJq X) (g : KXq X X1) (hx : (∀ k, 33 ≤ k ∧ k ≤ 36 → X1.1 0 k = X.1 0 k) ∧ ∀ e k, 64 ≤ e ∧ e ≤ 73 → X1.1 e k = X.1 e k) (h7 : ∀ k, ¬ k = q → X1.1 74 k = X.1 74 k ∧ X1.1 75 k = X.1 75 k) (hy : ∀ e k, 71 ≤ e ∧ e ≤ 81 → Y1.1 e k = Y.1 e k) (hy5 : ∀ k, Y1.2.1 75 k = Y.2.1 75 k) (hy4 : ∀ k, ¬ k = q → Y1.2.1 74 k = Y.2.1 74 k) (hv : VR X1 r (X1.1 74 q) (X1.1 75 q) (Y1.2.1 74 q)) : HR X1 Y1 r ks ∧ HG X X1 r r := by
  obtain ⟨⟨a1, a2, a3, a4⟩, b, c⟩ := h
  obtain ⟨x1, x2⟩ := hx
  have hg : HG X X1 r r := ⟨by rw [x1 33 (by omega)]; exact Int.le_refl _, fun t _ => ⟨x2 64 t (by omega), rfl⟩⟩
  refine ⟨⟨?_, fun t ht => ?_, fun i hi => ?_⟩, hg⟩
  · unfold HCq
    rw [x1 33 (by omega), x1 34 (by omega), x1 35 (by omega), x1 36 (by omega), hy 71 0 (by omega), hy 71 1 (by omega), hy 71 2 (by omega)]
    exact ⟨a1, a2, a3, a4⟩
  · rw [x1 33 (by omega)] at ht
    obtain ⟨p, q⟩ := b t ht
    unfold THr wrp
    rw [x1 34 (by omega), x1 35 (by omega), x1 36 (by omega), x2 64 t (by omega), x2 65 t (by omega), x2 66 t (by omega), hy 72 _ (by omega), hy 73 _ (by omega)]
    exact ⟨p, fun z => ⟨(q z).1, (q z).2.up hJ g hg (fun e he => x2 e t (by omega)) (fun e he => hy e _ (by omega)) (hy5 _)⟩⟩
  · rw [x1 34 (by omega)] at hi
    by_cases z : i = q
    · rw [z]
      exact hv
    · rw [(h7 i z).1, (h7 i z).2, hy4 i z]
      exact (c i hi).up hg
theorem n_242 (hn : (p.toInt : Int) = (n : Int)) (hn2 : n < 100000) : pw (f_writes_242 p s w X) (fun _ X1 => VALq X n s w X1) := by
  unfold f_writes_242
  refine pw_eq (fun X23 e23 => ?_)
  refine pw_bd (n_value2 (n := n) (by rw [e23, wI_at]; exact hn) hn2) ?_
  rintro _ X24 ⟨b1, b2, b3, b4⟩
  exact pw_ret ⟨b1, b2, b3, fun e k q1 q2 => by rw [b4 e k q1 q2, e23, wI_ne _ _ _ _ _ _ q1]⟩
set_option maxHeartbeats 4000000 in
/-- STORE -/
theorem op15 (ho : o1.toInt = (o : Int)) (h1 : (X.1 40 o).toInt = 27) (h : INS e X Y r ks sb c (t0 + 3) nn) (hm : sb ≤ t0) (hn : t0 + c + 1 < 20002) (ht : t0 ≤ 20000) (hM : PRm e X Y) (hP : HP u X G) (hT : KT X) (h3 : K3 X) (hPB : PBD X) (hs : (X.1 60 t0).toInt = 3) (hr : RV X (X.1 61 t0)) (hs1 : (X.1 60 (t0 + 1)).toInt = 0) (hve : VV u X G (EK X G (X.1 61 t0)) (X.1 60 (t0 + 2)) (X.1 61 (t0 + 2))) (hpl : X.1 22 (ix n1) = pl) : pw (f_does o1 n1 X) (fun z X1 => z = o1 + 1 ∧ pw (g_Running_workRowOrCall 15 x pl Y) (fun _ Y1 => OPQ X Y r ks sb c (t0 + 1) nn X1 Y1 ∧ Y1.1 70 10 = Y.1 70 10)) := by
  have hK := h.2.2.2.2.1
  have hH := h.2.2.2.1
  have he := h.1.1
  have l1 : (1 : Int32).toInt = 1 := by decide
  have l2 : (2 : Int32).toInt = 2 := by decide
  have l3 : (3 : Int32).toInt = 3 := by decide
  have hv := hK.2.2.2 t0 hm (by omega)
  have hyi := (hK.2.2.2 (t0 + 1) (by omega) (by omega)).int hs1
  have hvv := hK.2.2.2 (t0 + 2) (by omega) (by omega)
  obtain ⟨f, D, f0, hc, _, hD⟩ := r_chain hP 1001 (X.1 61 t0) (by have := hr.2.1; have := hP.1.2.1; omega) hr
  obtain ⟨q1, ⟨q2, q3⟩, q4, q5, q6⟩ := hH.raw hc
  have hy0 : Y.2.1 84 (t0 + c + 1) = tvl X r (ix (f 0)) := by rw [f0]; exact (hv.to3 hs).i3.2
  have rvd := hc.1 D (Nat.le_refl _)
  have erd := ixc rvd.1
  have rdl := rvd.2.1
  obtain ⟨F, hF⟩ : ∃ F : Nat, (X.1 65 (ix (f D))).toInt = (F : Int) := ⟨(X.1 65 (ix (f D))).toInt.toNat, by omega⟩
  have h34 := hP.1.2.2.2
  obtain ⟨idx, hidx⟩ : ∃ idx : Int32, X.1 61 (t0 + 1) = idx := ⟨_, rfl⟩
  obtain ⟨yv, hyv⟩ : ∃ yv : Int64, Y.2.1 84 (t0 + 2 + c + 1) = yv := ⟨_, rfl⟩
  rw [hyv] at hvv
  -- the class up to the look
  have cls : ∀ (Q : St → Prop), (∀ Y4, TOPq Y Y4 (t0 + c + 1) → (¬ (0 ≤ idx.toInt ∧ idx.toInt < (X.1 66 (ix (f D))).toInt) → pw (g_Running_failWith 1 pl Y4) (fun _ V => Q V)) ∧ (0 ≤ idx.toInt ∧ idx.toInt < (X.1 66 (ix (f D))).toInt → ∀ (Y2 : St) (x11 : Int32), (Y2.1 70 15).toInt = ((t0 + c + 1 : Nat) : Int) → (∀ j k, ¬ (j = 70 ∧ k = 15) → ¬ j = 85 → Y2.1 j k = Y.1 j k) → Y2.2 = Y.2 → (∀ i, i < D → Y2.1 85 i = r (ix (f i))) → x11.toInt = (D : Int) → pw (g_Running_store_63 BIG yv idx (VLs 3 (r (ix (f D)))) x11 yv (0 : Int32) Y2) (fun _ V => Q V))) → pw (g_Running_workRowOrCall 15 x pl Y) (fun _ V => Q V) := by
    intro Q hk
    unfold g_Running_workRowOrCall
    refine pw_neg (by decide) (pw_neg (by decide) (pw_neg (by decide) (pw_neg (by decide) (pw_neg (by decide) (pw_pos (by decide) (pw_bd (R := fun _ V => Q V) ?_ (fun _ V q => pw_ret q)))))))
    unfold g_Running_store
    refine pw_bd (l_pop2 (TOPq.rf (n := t0 + 2 + c + 1 + 1) (by have := hK.2.1; omega))) ?_
    rintro y1 Y1 ⟨hT1, e1⟩
    rw [hyv] at e1
    refine pw_bd (l_popC2 (n := t0 + 1 + c + 1) (by rw [show t0 + 1 + c + 1 + 1 = t0 + 2 + c + 1 by omega]; exact hT1)) ?_
    rintro x3 Y3 ⟨hT3, e3⟩
    rw [hyi, vl_con, hidx] at e3
    refine pw_bd (l_pop2 (n := t0 + c + 1) (by rw [show t0 + c + 1 + 1 = t0 + 1 + c + 1 by omega]; exact hT3)) ?_
    rintro y5 Y4 ⟨hT4, e5⟩
    rw [hy0] at e5
    obtain ⟨k1, k2⟩ := hk Y4 hT4
    have hH4 : HR X Y4 r ks := hH.cg h.1.2.1.1 KXq.rf ⟨fun _ _ => rfl, fun _ _ _ => rfl⟩ ⟨fun e k q => hT4.2.1 e k (by omega), fun e k _ => by rw [hT4.2.2]⟩
    obtain ⟨yc, qc, hC, hyc0, hycD, hqc⟩ := hH4.rch hc hD
    rw [e1, e3, e5, ← hyc0]
    refine pw_bd (l_core hC) ?_
    rintro y7 Y6 ⟨e6, e7⟩
    rw [e6, e7, hycD]
    have q14 : 0 ≤ (r (ix (f D))).toInt ∧ (r (ix (f D))).toInt < (Y4.1 71 0).toInt := by rw [hT4.2.1 71 0 (by omega)]; exact q1
    have q34 : Y4.1 73 (ix (r (ix (f D)))) = X.1 66 (ix (f D)) := by rw [hT4.2.1 73 _ (by omega), q3]
    refine pw_bd (l_hasPlace q14) ?_
    rintro x9 Y8 ⟨e8, h7⟩
    rw [e8]
    rw [q34] at h7
    refine pw_ite (fun z => pw_bd (k1 (h7.mp z)) (fun _ V q => pw_ret q)) (fun z => ?_)
    have hin : 0 ≤ idx.toInt ∧ idx.toInt < (X.1 66 (ix (f D))).toInt := Classical.byContradiction (fun q => z (h7.mpr q))
    refine pw_bd (l_unwrap hC) ?_
    rintro x11 Y2 ⟨g1, g2, g3, g4⟩
    exact k2 hin Y2 x11 (by rw [g3 70 15 (by omega)]; exact hT4.1) (fun j k w1 w2 => (g3 j k w2).trans (hT4.2.1 j k w1)) (by rw [g4, hT4.2.2]) (fun i hi => by rw [g2 i hi, hqc]) g1
  refine n_dw ho (by omega) (fun x' hx' => ?_)
  rw [h1] at hx'
  unfold f_works
  refine pw_neg (by omega) (pw_neg (by omega) (pw_neg (by omega) (pw_neg (by omega) (pw_neg (by omega) (pw_neg (by omega) (pw_neg (by omega) (pw_neg (by omega) (pw_neg (by omega) (pw_pos hx' (pw_bd (R := fun _ X1 => pw (g_Running_workRowOrCall 15 x pl Y) (fun _ Y1 => OPQ X Y r ks sb c (t0 + 1) nn X1 Y1 ∧ Y1.1 70 10 = Y.1 70 10)) ?_ (fun _ X9 q => pw_ret q)))))))))))
  unfold f_writes
  refine pw_let (pw_eq (fun x2 e2 => pw_ck (fun _ => ?_)))
  have v2 : x2.toInt = (t0 : Int) := by rw [e2]; exact n_dec (q := 3) (by have := hK.1; omega) (by rw [l3]; rfl)
  have i2 : ix x2 = t0 := ixn v2
  rw [i2]
  refine pw_to f0.symm (pw_bd (n_within3 hP.1.2.1 (by decide) hc hD) ?_)
  rintro x4 X5 ⟨e5, e4⟩
  rw [e5, e4]
  refine pw_let (pw_eq (fun x7 e7 => pw_ck (fun _ => ?_)))
  have i7 : ix x7 = t0 + 1 := ixn (by rw [e7]; exact n_dec (q := 2) (by have := hK.1; omega) (by rw [l2]; rfl))
  rw [i7]
  refine pw_to hidx (pw_ck (fun _ => pw_let (pw_eq (fun x10 e10 => pw_bd (r_in _ _ _ _) ?_))))
  rintro x11 X12 ⟨e12, h11⟩
  rw [e12]
  have v10 : x10.toInt = (X.1 66 (ix (f D))).toInt - 1 := by rw [e10, ti_sub (by rw [l1]; omega) (by rw [l1]; omega), l1]
  rw [show (0 : Int32).toInt = 0 from by decide, v10] at h11
  refine pw_ite (fun g => ?_) (fun g => ?_)
  · have bad : ¬ (0 ≤ idx.toInt ∧ idx.toInt < (X.1 66 (ix (f D))).toInt) := by omega
    refine pw_ck (fun _ => pw_to hpl (pw_bd (pw_all (Q := fun (Y4 : St) _ X1 => TOPq Y Y4 (t0 + c + 1) → pw (g_Running_failWith 1 pl Y4) (fun _ Y1 => OPQ X Y r ks sb c (t0 + 1) nn X1 Y1 ∧ Y1.1 70 10 = Y.1 70 10)) (fun Y4 => pw_im (fun hT4 => OPQ.fail h (fun _ _ _ => rfl) hT4 (by decide)))) (fun _ X1 hall => pw_ret (cls _ (fun Y4 hT4 => ⟨fun _ => hall Y4 hT4, fun z => absurd z bad⟩)))))
  · have hin : 0 ≤ idx.toInt ∧ idx.toInt < (X.1 66 (ix (f D))).toInt := by omega
    have ei := ixc hin.1
    refine pw_let (pw_eq (fun x14 e14 => pw_ck (fun _ => pw_eq (fun x15 e15 => pw_let (pw_eq (fun x17 e17 => pw_ck (fun _ => pw_eq (fun x18 e18 => ?_))))))))
    have v14 : x14.toInt = ((t0 + 2 : Nat) : Int) := by rw [e14]; exact n_dec (q := 1) (by have := hK.1; omega) (by rw [l1]; rfl)
    have i14 : ix x14 = t0 + 2 := ixn v14
    have i17 : ix x17 = t0 + 2 := by rw [e17, ← e14]; exact i14
    rw [i14] at e15
    rw [i17] at e18
    refine pw_bd (n_around hc hD hP.1.2.1) ?_
    rintro x19 X20 ⟨⟨hFZ, v19, h81⟩, hrd⟩
    have hKZ : KX X X20 := KX.fr hFZ (by decide)
    have hHZ : HX X X20 G G := HX.fr hFZ hKZ (by decide)
    have hPZ : PER [16200] X X20 := PER.fr hT hFZ (by decide)
    have hway : WAY u X20 G f D 0 x14 := by
      refine ⟨hP.same hT hFZ hKZ (by decide) (by decide), hc.hx hHZ, ?_⟩
      rw [i14, hrd 60 _ (by omega), hrd 61 _ (by omega), EK.hx (hc.1 0 (Nat.zero_le _)) hT hHZ, f0]
      exact hve.hx hT hHZ
    have hpre : PRE X20 x14 f D := ⟨⟨hPZ.2.1, h3.kx hKZ, hPB.pot hPZ.2.2.2⟩, ⟨by rw [hrd 0 18 (by omega)]; exact hM.1.2, by omega, by omega⟩, h81⟩
    have hXc : HXc X X20 := ⟨fun k _ => hrd 0 k (by omega), fun e k _ => hrd e k (by omega)⟩
    have hKX : KXq X X20 := KXq.of (fun e k q => hrd e k (by omega))
    -- the askings and what stands behind them
    have key : ∀ (Y2 : St) (a11 : Int32), (Y2.1 70 15).toInt = ((t0 + c + 1 : Nat) : Int) → (∀ j k, ¬ (j = 70 ∧ k = 15) → ¬ j = 85 → Y2.1 j k = Y.1 j k) → Y2.2 = Y.2 → (∀ i, i < D → Y2.1 85 i = r (ix (f i))) → a11.toInt = (D : Int) → pw (f_writes_101 BIG x2 (f D) idx x15 x18 x19 (0 : Int32) X20) (fun _ Z1 => pw (g_Running_store_63 BIG yv idx (VLs 3 (r (ix (f D)))) a11 yv (0 : Int32) Y2) (fun _ V1 => OPQ X Y r ks sb c (t0 + 1) nn Z1 V1 ∧ V1.1 70 10 = Y.1 70 10)) := by
      intro Y2 a11 w15 wy wl w85 w11
      have hB2 : RBk e X20 Y2 ks := h.1.by (fun e k z1 z2 => hrd e k (by omega)) (fun j k z => wy j k (by omega) (by omega)) wl
      have hM2 : PRm e X20 Y2 := hM.by he (fun e k z1 z2 => hrd e k (by omega)) (fun j k z => wy j k (by omega) (by omega))
      have hS2 : SCr X20 Y2 := h.2.1.cg ⟨fun k q => hrd 0 k (by omega), fun k => hrd 79 k (by omega), fun k => hrd 80 k (by omega)⟩ ⟨fun k q => wy 70 k (by omega) (by omega), fun k q => wy 71 k (by omega) (by omega), fun k => wy 86 k (by omega) (by omega), fun k => wy 87 k (by omega) (by omega)⟩
      have hO2 : ONr X20 Y2 := h.2.2.1.cg (hrd 0 43 (by omega)) (hrd 0 44 (by omega)) (fun k _ => wy 70 k (by omega) (by omega))
      have hH2 : HR X20 Y2 r ks := hH.cg h.1.2.1.1 hKX hXc ⟨fun e k q => wy e k (by omega) (by omega), fun e k _ => by rw [wl]⟩
      have hA : ASQ X20 Y2 r ks (t0 + 2) yv X20 Y2 := ASQ.id hB2 hS2 hO2 hH2 (by rw [hrd 60 _ (by omega), hrd 61 _ (by omega)]; exact hvv.up (HG.of hXc))
      refine pw_mono (n_into (u := u) (G := G) (e := e) (X := X20) (Y := Y2) (r := r) (ks := ks) (c := t0 + 2) (cell := x14) (f := f) (D := D) (an := a11) (a8 := x19) (a2 := x2) (a4 := f D) (a5 := idx) (a6 := x15) (a7 := x18) (l2 := yv) (ac := idx) (l7 := VLs 3 (r (ix (f D)))) (P := fun Z1 V1 => OPQ X Y r ks sb c (t0 + 1) nn Z1 V1 ∧ V1.1 70 10 = Y.1 70 10) i14 hB2 hM2 hD v19 w11 (by rw [hrd 0 31 (by omega), v14]; have := hK.1; omega) (fun i hi => ?_) w85 (fun Z V y' hA' hPZ' hon => ?_) BIG 0 X20 Y2 yv 0 0 (by decide) (by decide) (Nat.zero_le _) hA hpre (PER.rf hPZ.2.1) (fun _ => ⟨hway, fun _ _ => rfl⟩)) (fun _ Z1 g => g BIG)
      · have w := (hc.1 i (by omega)).2.1
        rw [hrd 0 33 (by omega)]
        exact w
      · -- behind the askings
        obtain ⟨⟨b1, b2⟩, ⟨b3, b4, b5⟩, b6, b7⟩ := id hA'
        have rz : ∀ e k, (e = 0 → k < 100) → ¬ (e = 0 ∧ (k = 13 ∨ k = 15 ∨ k = 33 ∨ k = 36 ∨ k = 37 ∨ k = 43 ∨ k = 44 ∨ k = 45)) → ¬ (4 ≤ e ∧ e ≤ 10) → ¬ (e = 61 ∧ k = t0 + 2) → ¬ e = 64 → ¬ (67 ≤ e ∧ e ≤ 73) → ¬ (e = 76 ∨ e = 80) → ¬ e = 81 → Z.1 e k = X.1 e k := fun e k z1 z2 z3 z4 z5 z6 z7 z8 => (b1 e k z1 z2 z3 z4 z5 z6 z7).trans (hrd e k z8)
        have ry : ∀ j k, ¬ (j = 70 ∧ ((4 ≤ k ∧ k ≤ 7) ∨ k = 15)) → ¬ (j = 71 ∧ k = 2) → ¬ (76 ≤ j ∧ j ≤ 81) → ¬ j = 85 → ¬ j = 87 → V.1 j k = Y.1 j k := fun j k z1 z2 z3 z4 z5 => (b2.2.1 j k (by omega) z2 z3 z5).trans (wy j k (by omega) z4)
        have rl : ∀ j k, ¬ j = 75 → V.2.1 j k = Y.2.1 j k := fun j k z => by rw [b2.2.2 j k z, wl]
        have v15 : (V.1 70 15).toInt = ((t0 + c + 1 : Nat) : Int) := by rw [b2.2.1 70 15 (by omega) (by omega) (by omega) (by omega)]; exact w15
        have hKXZ : KXq X Z := hKX.tr b5
        unfold f_writes_183
        by_cases hz : (Z.1 0 43).toInt < 0
        · have hOz := hA'.on hz
          obtain ⟨hw2, _⟩ := hon hz
          obtain ⟨r1, hG1, hH1, hv1⟩ : ∃ r1, HG X20 Z r r1 ∧ HR Z V r1 ks ∧ VR Z r1 (Z.1 60 (t0 + 2)) (Z.1 61 (t0 + 2)) y' := by
            rcases b7 with z | ⟨_, r1, z1, z2, z3⟩
            · have := z.1
              omega
            · exact ⟨r1, z1, z2, z3⟩
          have hGX : HG X Z r r1 := (HG.of hXc).tr hG1
          have cZ := hw2.2.1
          obtain ⟨p1', ⟨p2', p3'⟩, p4', p5', p6'⟩ := hH1.raw cZ
          have eCC : r1 (ix (f D)) = r (ix (f D)) := (hGX.2 (ix (f D)) (by omega)).2
          rw [eCC] at p1' p2' p3'
          have z65 : Z.1 65 (ix (f D)) = X.1 65 (ix (f D)) := rz 65 _ (by omega) (by omega) (by omega) (by omega) (by omega) (by omega) (by omega) (by omega)
          have z66 : Z.1 66 (ix (f D)) = X.1 66 (ix (f D)) := rz 66 _ (by omega) (by omega) (by omega) (by omega) (by omega) (by omega) (by omega) (by omega)
          have z31 : (Z.1 0 31).toInt = ((t0 + 3 : Nat) : Int) := by rw [rz 0 31 (by omega) (by omega) (by omega) (by omega) (by omega) (by omega) (by omega) (by omega)]; exact hK.1
          have z34 := hH1.1.1.2.2.2.2.2
          refine pw_bd (n_isOn1 hOz) ?_
          rintro z21 X22 ⟨e22, e21⟩
          rw [e22, e21]
          refine pw_neg (by decide) (pw_ck (fun _ => pw_to z65 (pw_eq (fun x26 e26 => pw_let (pw_eq (fun x28 e28 => pw_ck (fun _ => pw_let (pw_ck (fun _ => pw_eq (fun X30 e30 => pw_ck (fun _ => pw_eq (fun x31 e31 => pw_eq (fun x32 e32 => pw_let (pw_eq (fun x34 e34 => pw_ck (fun _ => pw_let (pw_ck (fun _ => pw_eq (fun X36 e36 => ?_)))))))))))))))))))
          have i26 : ix x26 = F + ix idx := ixn (by rw [e26, ti_add (by rw [hF]; omega) (by rw [hF]; omega), hF]; omega)
          have i28 : ix x28 = t0 + 2 := ixn (by rw [e28]; exact n_dec (q := 1) (by rw [z31]; omega) (by rw [l1]; rfl))
          rw [i26, i28] at e30
          have r30 : ∀ e k, ¬ (e = 74 ∧ k = F + ix idx) → X30.1 e k = Z.1 e k := fun e k q => by rw [e30, wI_ne _ _ _ _ _ _ q]
          have i32 : ix x32 = F + ix idx := by rw [e32, e31, r30 65 _ (by omega), z65, ← e26]; exact i26
          have i34 : ix x34 = t0 + 2 := by rw [e34, r30 0 31 (by omega), ← e28]; exact i28
          rw [i32, i34, r30 61 _ (by omega)] at e36
          have r36 : ∀ e k, ¬ ((e = 74 ∨ e = 75) ∧ k = F + ix idx) → X36.1 e k = Z.1 e k := fun e k q => by rw [e36, wI_ne _ _ _ _ _ _ (by omega), r30 e k (by omega)]
          have f74 : X36.1 74 (F + ix idx) = Z.1 60 (t0 + 2) := by rw [e36, wI_ne _ _ _ _ _ _ (by omega), e30, wI_at]
          have f75 : X36.1 75 (F + ix idx) = Z.1 61 (t0 + 2) := by rw [e36, wI_at]
          refine pw_mono (n_242 (n := t0) v2 (by omega)) (fun _ Z1 hZ1 M a12 h12 => ?_)
          obtain ⟨d1, d2, d3, d4⟩ := hZ1
          have h12' : a12.toInt = (D : Int) := by
            rcases h12 with z | z
            · exact z
            · exact absurd z hOz.2.1
          cases M with
          | zero => exact pw_none
          | succ M =>
            have e63 : g_Running_store_63 (M + 1) = g_Running_store_63_s (g_Running_store_63 M) := by
              unfold g_Running_store_63
              exact lp_succ _ _ _
            rw [e63]
            unfold g_Running_store_63_s
            refine pw_pos (by omega) (pw_let (pw_neg hOz.2.1 (pw_bd (l_store (P := F) (i := ix idx) p1' ei.symm (by rw [p3', z66]; omega) (by rw [p2', z65]; exact hF) (by omega)) ?_)))
            rintro _ V14 e14'
            have hT14 : TOPq V14 V14 (t0 + c + 1) := TOPq.rf (by rw [e14']; exact v15)
            refine pw_bd (l_push2 (y := yv) hT14 hn) ?_
            rintro _ V15 ⟨g1, g2, g3, g4, g5⟩
            have ry2 : ∀ j k, ¬ (j = 70 ∧ k = 15) → V15.1 j k = V.1 j k := fun j k z => by rw [g2 j k z, e14']; rfl
            have rl2 : ∀ j k, ¬ (j = 84 ∧ k = t0 + c + 1) → ¬ (j = 74 ∧ k = F + ix idx) → V15.2.1 j k = V.2.1 j k := fun j k z1 z2 => by rw [g4 j k z1, e14', wL_ne _ _ _ _ _ _ z2]
            have rzz : ∀ e k, ¬ (e = 0 ∧ k = 31) → ¬ ((e = 60 ∨ e = 61) ∧ k = t0) → ¬ ((e = 74 ∨ e = 75) ∧ k = F + ix idx) → Z1.1 e k = Z.1 e k := fun e k z1 z2 z3 => (d4 e k z1 z2).trans (r36 e k z3)
            have hK1 : KXq Z Z1 := KXq.of (fun e k q => rzz e k (by omega) (by omega) (by omega))
            have v74 : V15.2.1 74 (F + ix idx) = y' := by rw [g4 74 _ (by omega), e14', wL_at]
            obtain ⟨hHf, hGf⟩ := hH1.put (X1 := Z1) (Y1 := V15) (q := F + ix idx) b3 hK1 ⟨fun k q => rzz 0 k (by omega) (by omega) (by omega), fun e k q => rzz e k (by omega) (by omega) (by omega)⟩ (fun k z => ⟨rzz 74 k (by omega) (by omega) (by omega), rzz 75 k (by omega) (by omega) (by omega)⟩) (fun e k q => ry2 e k (by omega)) (fun k => rl2 75 k (by omega) (by omega)) (fun k z => rl2 74 k (by omega) (by omega)) (by
              rw [d4 74 _ (by omega) (by omega), d4 75 _ (by omega) (by omega), f74, f75, v74]
              exact hv1.up ⟨by rw [rzz 0 33 (by omega) (by omega) (by omega)]; exact Int.le_refl _, fun t _ => ⟨rzz 64 t (by omega) (by omega) (by omega), rfl⟩⟩)
            have hGG : HG X Z1 r r1 := hGX.tr hGf
            have rX : ∀ e k, (e = 60 ∨ e = 61) → k < t0 → Z1.1 e k = X.1 e k := fun e k z1 z2 => (rzz e k (by omega) (by omega) (by omega)).trans (rz e k (by omega) (by omega) (by omega) (by omega) (by omega) (by omega) (by omega) (by omega))
            refine pw_ret ⟨⟨⟨by rw [g3, e14', ← wl, ← b2.1]; rfl, fun j k z1 z2 z3 z4 => ?_, fun j k z1 z2 z3 z4 => ?_⟩, ⟨b3.cg (fun e k q => rzz e k (by omega) (by omega) (by omega)), (KGq.of (fun e k q => rzz e k (by omega) (by omega) (by omega))).2 b4, hKXZ.tr hK1⟩, b6.cg ⟨fun k q => rzz 0 k (by omega) (by omega) (by omega), fun k => rzz 79 k (by omega) (by omega) (by omega), fun k => rzz 80 k (by omega) (by omega) (by omega)⟩ ⟨fun k q => ry2 70 k (by omega), fun k q => ry2 71 k (by omega), fun k => ry2 86 k (by omega), fun k => ry2 87 k (by omega)⟩, Or.inr ⟨hOz.cg (rzz 0 43 (by omega) (by omega) (by omega)) (rzz 0 44 (by omega) (by omega) (by omega)) (fun k q => ry2 70 k (by omega)), r1, hGG, hHf, hK.rep (m := 3) hGG hm (by rw [d1]; omega) (by rw [g1]; omega) (fun i hi => ⟨rX 60 i (by omega) hi, rX 61 i (by omega) hi⟩) (fun i hi => by rw [rl2 84 i (by omega) (by omega), rl 84 i (by omega)]) ?_, h.2.2.2.2.2.cg hGG (Nat.le_refl _) (fun s _ => ⟨?_, ?_⟩) (fun s _ => by rw [rl2 83 _ (by omega) (by omega), rl 83 _ (by omega)])⟩⟩, ?_⟩
            · rw [ry2 j k (by omega), ry j k (by omega) (by omega) z3 (by omega) (by omega)]
            · rw [rl2 j k (by omega) (by omega), rl j k z2]
            · rw [d2, d3, g5, e15, e18]
              exact hvv.up hGG
            · rw [rzz 62 _ (by omega) (by omega) (by omega)]
              exact rz 62 _ (by omega) (by omega) (by omega) (by omega) (by omega) (by omega) (by omega) (by omega)
            · rw [rzz 63 _ (by omega) (by omega) (by omega)]
              exact rz 63 _ (by omega) (by omega) (by omega) (by omega) (by omega) (by omega) (by omega) (by omega)
            · rw [ry2 70 10 (by omega), ry 70 10 (by omega) (by omega) (by omega) (by omega) (by omega)]
        · have hOz := hA'.of hz
          refine pw_bd (n_isOn0 hOz) ?_
          rintro z21 X22 ⟨e22, e21⟩
          rw [e22, e21]
          refine pw_pos (by decide) (pw_mono (n_242 (n := t0) v2 (by omega)) (fun _ Z1 hZ1 M a12 _ => pw_mono (l_storeOff hOz.2.1 M _ _) (fun _ V1 e1 => ?_)))
          obtain ⟨d1, d2, d3, d4⟩ := hZ1
          rw [e1]
          have hO1 : OFr Z1 V := by
            unfold OFr
            rw [d4 0 43 (by omega) (by omega), d4 0 44 (by omega) (by omega)]
            exact hOz
          refine ⟨⟨⟨by rw [b2.1, wl], fun j k z1 z2 z3 z4 => ry j k (by omega) (by omega) z3 (by omega) (by omega), fun j k z1 z2 z3 z4 => rl j k z2⟩, ⟨b3.cg (fun e k q => d4 e k (by omega) (by omega)), (KGq.of (fun e k q => d4 e k (by omega) (by omega))).2 b4, hKXZ.tr (KXq.of (fun e k q => d4 e k (by omega) (by omega)))⟩, b6.cg ⟨fun k q => d4 0 k (by omega) (by omega), fun k => d4 79 k (by omega) (by omega), fun k => d4 80 k (by omega) (by omega)⟩ ⟨fun _ _ => rfl, fun _ _ => rfl, fun _ => rfl, fun _ => rfl⟩, Or.inl hO1⟩, ry 70 10 (by omega) (by omega) (by omega) (by omega) (by omega)⟩
    refine pw_mono (pw_all (Q := fun (q : St × Int32) _ Z1 => (q.1.1 70 15).toInt = ((t0 + c + 1 : Nat) : Int) → (∀ j k, ¬ (j = 70 ∧ k = 15) → ¬ j = 85 → q.1.1 j k = Y.1 j k) → q.1.2 = Y.2 → (∀ i, i < D → q.1.1 85 i = r (ix (f i))) → q.2.toInt = (D : Int) → pw (g_Running_store_63 BIG yv idx (VLs 3 (r (ix (f D)))) q.2 yv (0 : Int32) q.1) (fun _ V1 => OPQ X Y r ks sb c (t0 + 1) nn Z1 V1 ∧ V1.1 70 10 = Y.1 70 10)) (fun q => pw_im (fun w1 => pw_im (fun w2 => pw_im (fun w3 => pw_im (fun w4 => pw_im (fun w5 => key q.1 q.2 w1 w2 w3 w4 w5))))))) (fun _ Z1 hall => ?_)
    exact cls _ (fun Y4 hT4 => ⟨fun z => absurd hin z, fun _ Y2 x11 w1 w2 w3 w4 w5 => hall (Y2, x11) w1 w2 w3 w4 w5⟩)
end STOS
