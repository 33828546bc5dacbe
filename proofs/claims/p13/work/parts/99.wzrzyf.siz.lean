/-! sizes and prints on both sides; rows of the class -/
section SIZS
variable {X Y Z X1 Y1 X0 Y0 V V1 : St} {r r1 r2 : Nat → Int32} {s w k a b p p1 p2 v pl o1 n1 x cc : Int32} {y y1 : Int64} {ks : List (List Int)} {e c m n i j sb tp t0 nn nn1 o q D : Nat} {u : Bool} {G : Nat → Int32} {f : Nat → Int32}
/-- how many places a row has -/
theorem l_len (h : 0 ≤ cc.toInt ∧ cc.toInt < (Y.1 71 0).toInt) : pw (g_Heap_lengthOf (VLs 3 cc) Y) (fun z Y1 => Y1 = Y ∧ z = Y.1 73 (ix cc)) := by
  unfold g_Heap_lengthOf
  refine pw_bd l_contentOf ?_
  rintro x1 X2 ⟨e2, e1⟩
  rw [e2, e1]
  refine pw_bd l_hsortOf ?_
  rintro x3 X4 ⟨e4, e3⟩
  rw [e4, e3]
  exact pw_pos (by decide) (pw_neg (by omega) (pw_let (pw_neg (by omega) (pw_ck (fun _ => pw_let (pw_ret ⟨rfl, rfl⟩))))))
theorem l_hasPlace (h : 0 ≤ cc.toInt ∧ cc.toInt < (Y.1 71 0).toInt) : pw (g_Heap_hasPlace (VLs 3 cc) p Y) (fun z Y1 => Y1 = Y ∧ (z.toInt = 0 ↔ ¬ (0 ≤ p.toInt ∧ p.toInt < (Y.1 73 (ix cc)).toInt))) := by
  unfold g_Heap_hasPlace
  refine pw_ite (fun g => pw_ret ⟨rfl, ?_⟩) (fun g => pw_bd (l_len h) ?_)
  · constructor
    · intro _; omega
    · intro _; decide
  · rintro x1 X2 ⟨e2, e1⟩
    rw [e2, e1]
    refine pw_ite (fun g2 => pw_ret ⟨rfl, ?_⟩) (fun g2 => pw_ret ⟨rfl, ?_⟩)
    · constructor
      · intro _; omega
      · intro _; decide
    · constructor
      · intro z
        exact absurd z (by decide)
      · intro z
        omega
/-- a row's long, and what is around what in the class -/
theorem HR.rch (h : HR X Y r ks) (hF : CHN X f D) (hD : D ≤ 20) : ∃ (yc : Nat → Int64) (qc : Nat → Int32), CCH Y yc qc D ∧ yc 0 = tvl X r (ix (f 0)) ∧ yc D = VLs 3 (r (ix (f D))) ∧ ∀ i, qc i = r (ix (f i)) := by
  have q := h.ch3 hF hD
  obtain ⟨yc, hy⟩ : ∃ yc : Nat → Int64, yc = fun i => tvl X r (ix (f i)) := ⟨_, rfl⟩
  obtain ⟨qc, hq⟩ : ∃ qc : Nat → Int32, qc = fun i => r (ix (f i)) := ⟨_, rfl⟩
  rw [← hy, ← hq] at q
  refine ⟨yc, qc, q, by rw [hy], ?_, fun i => by rw [hq]⟩
  rw [hy]
  exact if_pos (Classical.byContradiction (fun z => hF.2.2 z))
/-- what a row is on both sides: where it is unwrapped -/
theorem HR.raw (h : HR X Y r ks) (hc : CHN X f D) : (0 ≤ (r (ix (f D))).toInt ∧ (r (ix (f D))).toInt < (Y.1 71 0).toInt) ∧ (Y.1 72 (ix (r (ix (f D)))) = X.1 65 (ix (f D)) ∧ Y.1 73 (ix (r (ix (f D)))) = X.1 66 (ix (f D))) ∧ 0 ≤ (X.1 65 (ix (f D))).toInt ∧ 0 ≤ (X.1 66 (ix (f D))).toInt ∧ (X.1 65 (ix (f D))).toInt + (X.1 66 (ix (f D))).toInt ≤ (X.1 0 34).toInt := by
  have q := hc.1 D (Nat.le_refl _)
  have e1 := ixc q.1
  have q2 := q.2.1
  obtain ⟨a1, a2, a3, a4, a5⟩ := (h.2.1 (ix (f D)) (by omega)).1 hc.2.2
  rw [h.1.2.1]
  exact ⟨a1, a2, a3, a4, a5⟩
theorem max0 (h : 0 ≤ x.toInt) : (if (0 : Int32) < x then x else (0 : Int32)) = x := by
  by_cases g : (0 : Int32) < x
  · rw [if_pos g]
  · rw [if_neg g]
    have g2 : ¬ (0 : Int32).toInt < x.toInt := fun z => g (Int32.lt_iff_toInt_lt.mpr z)
    rw [show (0 : Int32).toInt = 0 from by decide] at g2
    exact Int32.toInt_inj.mp (by rw [show (0 : Int32).toInt = 0 from by decide]; omega)
/-- SIZE -/
theorem op12 (ho : o1.toInt = (o : Int)) (h1 : (X.1 40 o).toInt = 20) (h : INS e X Y r ks sb c (t0 + 1) nn) (hm : sb ≤ t0) (hn : t0 + c + 1 < 20002) (hP : HP u X G) (hs : (X.1 60 t0).toInt = 3) (hr : RV X (X.1 61 t0)) : pw (f_does o1 n1 X) (fun z X1 => z = o1 + 1 ∧ pw (g_Running_workRowOrCall 12 x pl Y) (fun _ Y1 => OPQ X Y r ks sb c (t0 + 1) nn X1 Y1 ∧ Y1.1 70 10 = Y.1 70 10)) := by
  have hK := h.2.2.2.2.1
  have hH := h.2.2.2.1
  have l1 : (1 : Int32).toInt = 1 := by decide
  have hv := hK.2.2.2 t0 hm (by omega)
  have s3 : X.1 60 t0 = 3 := Int32.toInt_inj.mp (by rw [hs]; decide)
  obtain ⟨f, D, f0, hc, _, hD⟩ := r_chain hP 1001 (X.1 61 t0) (by have := hr.2.1; have := hP.1.2.1; omega) hr
  obtain ⟨q1, ⟨q2, q3⟩, q4, q5, q6⟩ := hH.raw hc
  have hy0 : Y.2.1 84 (t0 + c + 1) = tvl X r (ix (f 0)) := by rw [f0]; exact (hv.to3 hs).i3.2
  refine n_dw ho (by omega) (fun x hx => ?_)
  rw [h1] at hx
  unfold f_works
  refine pw_neg (by omega) (pw_neg (by omega) (pw_pos hx (pw_let (pw_let (pw_eq (fun X32 e32 => pw_eq (fun x33 e33 => pw_ck (fun _ => pw_eq (fun x34 e34 => ?_)))))))))
  have rx : ∀ e k, ¬ (e = 0 ∧ k = 31) → X32.1 e k = X.1 e k := fun e k q => by rw [e32, wI_ne _ _ _ _ _ _ q]
  have f31 : (X32.1 0 31).toInt = (t0 : Int) := by rw [e32, wI_at]; exact n_dec (q := 1) (by have := hK.1; omega) (by rw [l1]; rfl)
  have i33 : ix x33 = t0 := by rw [e33]; exact ixn f31
  have w34 : x34 = f 0 := by rw [e34, i33, rx 61 _ (by omega), f0]
  have hF : Fr YR [31] X X32 := by rw [e32]; exact Fr.rf.wI 0 31 _ (show (31 : Nat) ∈ [31] from by decide)
  have hX : HX X X32 G G := HX.fr hF (KX.fr hF (by decide)) (by decide)
  rw [w34]
  refine pw_bd (n_within3 (by rw [rx 0 33 (by omega)]; exact hP.1.2.1) (by decide) (hc.hx hX) hD) ?_
  rintro x35 X36 ⟨e36, e35⟩
  rw [e36, e35]
  refine pw_ck (fun _ => pw_to (rx 66 _ (by omega)) (pw_bd (n_value2 f31 (by omega)) (fun _ X38 hv2 => pw_ret ?_)))
  unfold g_Running_workRowOrCall
  refine pw_neg (by decide) (pw_neg (by decide) (pw_pos (by decide) (pw_bd (l_pop2 (TOPq.rf (n := t0 + c + 1 + 1) (by have := hK.2.1; omega))) ?_)))
  rintro y6 Y7 ⟨hT, e6⟩
  rw [e6]
  have hH7 : HR X Y7 r ks := hH.cg h.1.2.1.1 KXq.rf ⟨fun _ _ => rfl, fun _ _ _ => rfl⟩ ⟨fun e k q => hT.2.1 e k (by omega), fun e k _ => by rw [hT.2.2]⟩
  obtain ⟨yc, qc, hC, hyc0, hycD, _⟩ := hH7.rch hc hD
  rw [hy0, ← hyc0]
  refine pw_bd (l_core hC) ?_
  rintro y8 Y9 ⟨e9, e8⟩
  rw [e9, e8, hycD]
  refine pw_bd (l_len (by rw [hT.2.1 71 0 (by omega)]; exact q1)) ?_
  rintro x10 Y11 ⟨e11, e10⟩
  rw [e11, e10, hT.2.1 73 _ (by omega), q3]
  refine pw_to (max0 q5) (pw_bd (l_pushN2 hT hn) (fun _ Y3 e3 => pw_ret ?_))
  exact OPQ.pp (m := 1) h hm rx hv2 e3 (VR.num _)
/-- PRINT -/
theorem op13 (ho : o1.toInt = (o : Int)) (h1 : (X.1 40 o).toInt = 21) (h : INS e X Y r ks sb c (t0 + 1) nn) (hm : sb ≤ t0) (hn : t0 + c + 1 < 20002) (hs : (X.1 60 t0).toInt = 0) (h46 : 0 ≤ (X.1 0 46).toInt ∧ (X.1 0 46).toInt ≤ 200) (hpl : X.1 21 (ix n1) = pl) : pw (f_does o1 n1 X) (fun z X1 => z = o1 + 1 ∧ pw (g_Running_workRowOrCall 13 x pl Y) (fun _ Y1 => OPQ X Y r ks sb c (t0 + 1) nn X1 Y1 ∧ Y1.1 70 10 = Y.1 70 10)) := by
  have hK := h.2.2.2.2.1
  have hS := h.2.1
  have l1 : (1 : Int32).toInt = 1 := by decide
  have hy := (hK.2.2.2 t0 hm (by omega)).int hs
  have hs0 : X.1 60 t0 = 0 := Int32.toInt_inj.mp (by rw [hs]; decide)
  have y18 : Y.1 70 18 = X.1 0 46 := hS.1.2.2.2
  refine n_dw ho (by omega) (fun x' hx => ?_)
  rw [h1] at hx
  unfold f_works
  refine pw_neg (by omega) (pw_neg (by omega) (pw_neg (by omega) (pw_pos hx (pw_let (pw_ite (fun g => pw_ck (fun _ => pw_to hpl ?_)) (fun g => ?_))))))
  · refine pw_bd (OPQ.fail (tp1 := t0 + 1) (nn1 := nn) h (fun _ _ _ => rfl) (TOPq.rf (n := t0 + 1 + c + 1) hK.2.1) (by decide)) (fun _ X50 q => pw_ret ?_)
    unfold g_Running_workRowOrCall
    refine pw_neg (by decide) (pw_neg (by decide) (pw_neg (by decide) (pw_pos (by decide) (pw_bd (R := fun _ Y1 => OPQ X Y r ks sb c (t0 + 1) nn X50 Y1 ∧ Y1.1 70 10 = Y.1 70 10) ?_ (fun _ V q => pw_ret q)))))
    unfold g_Running_print
    exact pw_let (pw_neg (by rw [y18]; omega) (pw_bd q (fun _ V q => pw_ret q)))
  · obtain ⟨k, hk⟩ : ∃ k : Nat, (X.1 0 46).toInt = (k : Int) := ⟨(X.1 0 46).toInt.toNat, by omega⟩
    have ik : ix (X.1 0 46) = k := ixn hk
    refine pw_let (pw_let (pw_eq (fun x43 e43 => pw_ck (fun _ => pw_let (pw_ck (fun _ => pw_eq (fun X45 e45 => pw_let (pw_eq (fun x47 e47 => pw_eq (fun X48 e48 => pw_ret ?_))))))))))
    have i43 : ix x43 = t0 := ixn (by rw [e43]; exact n_dec (q := 1) (by have := hK.1; omega) (by rw [l1]; rfl))
    rw [i43, ik] at e45
    have rx : ∀ e k', ¬ (e = 0 ∧ k' = 46) → ¬ (e = 79 ∧ k' = k) → X48.1 e k' = X.1 e k' := fun e k' q1 q2 => by rw [e48, wI_ne _ _ _ _ _ _ q1, e45, wI_ne _ _ _ _ _ _ q2]
    have f46 : (X48.1 0 46).toInt = (k : Int) + 1 := by rw [e48, wI_at, e47, e45, wI_ne _ _ _ _ _ _ (by omega), ti_add (by rw [hk, l1]; omega) (by rw [hk, l1]; omega), hk, l1]
    have f79 : X48.1 79 k = X.1 61 t0 := by rw [e48, wI_ne _ _ _ _ _ _ (by omega), e45, wI_at]
    have hX : HXc X X48 := ⟨fun k _ => rx 0 k (by omega) (by omega), fun e k _ => rx e k (by omega) (by omega)⟩
    unfold g_Running_workRowOrCall
    refine pw_neg (by decide) (pw_neg (by decide) (pw_neg (by decide) (pw_pos (by decide) (pw_bd (R := fun _ Y1 => OPQ X Y r ks sb c (t0 + 1) nn X48 Y1 ∧ Y1.1 70 10 = Y.1 70 10) ?_ (fun _ V q => pw_ret q)))))
    unfold g_Running_print
    refine pw_let (pw_pos (by rw [y18]; omega) (pw_let (pw_bd (l_popC2 (TOPq.rf (n := t0 + c + 1 + 1) (by have := hK.2.1; omega))) ?_)))
    rintro x3 Y4 ⟨hT, e3⟩
    rw [hy, vl_con] at e3
    refine pw_ck (fun _ => pw_eq (fun Y5 d5 => pw_let (pw_ck (fun _ => ?_))))
    rw [y18, ik, e3] at d5
    have y5 : Y5.1 70 18 = Y.1 70 18 := by rw [d5, wI_ne _ _ _ _ _ _ (by omega)]; exact hT.2.1 70 18 (by omega)
    have y7 : Y5.1 86 (ix (Y5.1 70 18)) = X.1 61 t0 := by rw [y5, y18, ik, d5, wI_at]
    have hT5 : TOPq (wI Y 86 k (X.1 61 t0)) Y5 (t0 + c + 1) := by
      refine ⟨?_, fun j k' q => ?_, ?_⟩
      · rw [d5, wI_ne _ _ _ _ _ _ (by omega)]
        exact hT.1
      · rw [d5]
        by_cases g2 : j = 86 ∧ k' = k
        · rw [g2.1, g2.2, wI_at, wI_at]
        · rw [wI_ne _ _ _ _ _ _ g2, wI_ne _ _ _ _ _ _ g2]
          exact hT.2.1 j k' q
      · rw [d5]
        exact hT.2.2
    refine pw_to y7 (pw_bd (l_pushN2 hT5 hn) ?_)
    rintro _ Y8 ⟨b1, b2, b3, b4, b5⟩
    refine pw_let (pw_eq (fun x10 e10 => pw_eq (fun Y11 e11 => pw_ret ?_)))
    have b18 : Y8.1 70 18 = X.1 0 46 := by rw [b2 70 18 (by omega), wI_ne _ _ _ _ _ _ (by omega), y18]
    have ry : ∀ j k', ¬ (j = 70 ∧ (k' = 15 ∨ k' = 18)) → ¬ (j = 86 ∧ k' = k) → Y11.1 j k' = Y.1 j k' := fun j k' q1 q2 => by rw [e11, wI_ne _ _ _ _ _ _ (by omega), b2 j k' (by omega), wI_ne _ _ _ _ _ _ q2]
    have rl : ∀ j k', ¬ (j = 84 ∧ k' = t0 + c + 1) → Y11.2.1 j k' = Y.2.1 j k' := fun j k' q => by
      rw [e11]
      exact b4 j k' q
    refine ⟨OPQ.pure h (fun e k' q1 q2 q3 => rx e k' (by omega) (by omega)) (fun j k' q1 q2 => ry j k' (by omega) (by omega)) (by rw [e11]; exact b3) (fun j k' q1 q2 => rl j k' (by omega)) ⟨⟨?_, ?_, ?_, ?_⟩, ⟨?_, ?_⟩, fun i hi => ?_, fun g t hg ht => ?_⟩ (hK.rep (m := 1) (HG.of hX) hm (by rw [rx 0 31 (by omega) (by omega)]; exact hK.1) ?_ (fun i hi => ⟨rx 60 i (by omega) (by omega), rx 61 i (by omega) (by omega)⟩) (fun i hi => rl 84 i (by omega)) ?_) (h.2.2.2.2.2.cg (HG.of hX) (Nat.le_refl _) (fun s _ => ⟨rx 62 _ (by omega) (by omega), rx 63 _ (by omega) (by omega)⟩) (fun s _ => rl 83 _ (by omega))), ry 70 10 (by omega) (by omega)⟩
    · rw [ry 70 7 (by omega) (by omega), rx 0 45 (by omega) (by omega)]; exact hS.1.1
    · rw [ry 70 9 (by omega) (by omega), rx 0 40 (by omega) (by omega)]; exact hS.1.2.1
    · rw [ry 70 8 (by omega) (by omega), rx 0 39 (by omega) (by omega)]; exact hS.1.2.2.1
    · rw [e11, wI_at, e10, b18, e48, wI_at, e47, e45, wI_ne _ _ _ _ _ _ (by omega)]
    · rw [ry 71 0 (by omega) (by omega), rx 0 35 (by omega) (by omega)]; exact hS.2.1.1
    · rw [ry 71 2 (by omega) (by omega), rx 0 36 (by omega) (by omega)]; exact hS.2.1.2
    · rw [f46] at hi
      by_cases g2 : i = k
      · rw [g2, f79, e11, wI_ne _ _ _ _ _ _ (by omega), b2 86 k (by omega), wI_at]
      · rw [ry 86 i (by omega) (by omega), rx 79 i (by omega) (by omega)]
        exact hS.2.2.1 i (by omega)
    · rw [ry 87 _ (by omega) (by omega), rx 80 _ (by omega) (by omega)]
      exact hS.2.2.2 g t hg ht
    · rw [e11, wI_ne _ _ _ _ _ _ (by omega), b1]
      omega
    · rw [rx 60 _ (by omega) (by omega), rx 61 _ (by omega) (by omega), hs0, e11]
      show VR X48 r 0 _ (Y8.2.1 84 (t0 + c + 1))
      rw [b5]
      exact VR.num _
end SIZS
