/-! a value is wrapped on both sides -/
section WRSS
variable {X Y Z X1 Y1 X2 Y2 : St} {r r1 r2 : Nat → Int32} {s w k k1 a b p g t p1 p2 dp b0 : Int32} {y y1 : Int64} {ks : List (List Int)} {e c m n : Nat} {d d1 : List Int}
/-- what stands where a wrapping has been made -/
theorem ASQ.wrap (hB : RBk e X Y ks) (hS : SCr X Y) (hO : ONr X Y) (hH : HR X Y r ks) (hv : VR X r (X.1 60 c) (X.1 61 c) y) (kd : KR X ks k a d) (kd1 : KR X ks k1 b d1) (hs : sot d = sot d1 ∧ ((sot d = 3 ∧ (X.1 60 c).toInt = 3) ∨ (sot d = 4 ∧ tkn d = tkn d1 ∧ (X.1 60 c).toInt = 4))) (hg : 0 ≤ g.toInt ∧ g.toInt ≤ 39) (ht : 0 ≤ t.toInt ∧ t.toInt ≤ 39) (hd : 0 ≤ dp.toInt ∧ dp.toInt < 20) (h33 : (X.1 0 33).toInt < 1000) (hn : n = ix (X.1 0 33)) (hm : m = ix (X.1 0 36)) (x33 : (X1.1 0 33).toInt = (X.1 0 33).toInt + 1) (x36 : X1.1 0 36 = X.1 0 36 + 1) (x64 : ¬ (X1.1 64 n).toInt = 0) (x67 : X1.1 67 n = X.1 61 c) (x68 : X1.1 68 n = k) (x69 : X1.1 69 n = k1) (x70 : X1.1 70 n = g) (x71 : X1.1 71 n = t) (x72 : X1.1 72 n = p) (x73 : X1.1 73 n = dp + 1) (x61 : ((X.1 60 c).toInt = 3 ∧ X1.1 61 c = X.1 0 33) ∨ ((X.1 60 c).toInt = 4 ∧ (X1.1 61 c).toInt = 100 + (X.1 0 33).toInt)) (rx : ∀ e k, ¬ ((e = 64 ∨ (67 ≤ e ∧ e ≤ 73)) ∧ k = n) → ¬ (e = 61 ∧ k = c) → ¬ (e = 0 ∧ (k = 33 ∨ k = 36)) → X1.1 e k = X.1 e k) (y71 : Y1.1 71 2 = Y.1 71 2 + 1) (y76 : Y1.1 76 m = a) (y77 : Y1.1 77 m = b) (y78 : Y1.1 78 m = g) (y79 : Y1.1 79 m = t) (y80 : Y1.1 80 m = p) (y81 : Y1.1 81 m = dp + 1) (y75 : Y1.2.1 75 m = y) (ry : ∀ j k, ¬ ((76 ≤ j ∧ j ≤ 81) ∧ k = m) → ¬ (j = 71 ∧ k = 2) → Y1.1 j k = Y.1 j k) (rl : ∀ j k, ¬ (j = 75 ∧ k = m) → Y1.2.1 j k = Y.2.1 j k) (rr : Y1.2.2 = Y.2.2) : ASQ X Y r ks c (VLs 2 (Y.1 71 2)) X1 Y1 := by
  have l1 : (1 : Int32).toInt = 1 := by decide
  have hq := hH.1
  obtain ⟨⟨a1, a2, a3, a4, a5, a6⟩, a7, a8, a9⟩ := hq
  have hnI : (n : Int) = (X.1 0 33).toInt := by rw [hn]; exact ixc (by omega)
  have v36 : (X1.1 0 36).toInt = (X.1 0 36).toInt + 1 := by rw [x36, ti_add (by rw [l1]; omega) (by rw [l1]; omega), l1]
  have hJ : KJq X1 := hB.2.1.1.cg (fun e k q => rx e k (by omega) (by omega) (by omega))
  have hK : KXq X X1 := KXq.of (fun e k q => rx e k (by omega) (by omega) (by omega))
  have hU : KU X1 := (KGq.of (fun e k q => rx e k (by omega) (by omega) (by omega))).2 hB.2.1.2
  have r0 : ∀ k, ¬ k = 33 → ¬ k = 36 → X1.1 0 k = X.1 0 k := fun k q1 q2 => rx 0 k (by omega) (by omega) (by omega)
  have vdp : (dp + 1).toInt = dp.toInt + 1 := by rw [ti_add (by rw [l1]; omega) (by rw [l1]; omega), l1]
  have hgg : HG X X1 r (fun t => if t = n then X.1 0 36 else r t) := ⟨by omega, fun t ht => ⟨rx 64 t (by omega) (by omega) (by omega), if_neg (by omega)⟩⟩
  have hw : WRr X1 Y1 (fun t => if t = n then X.1 0 36 else r t) ks n (ix (X.1 0 36)) := by
    rw [← hm]
    unfold WRr
    rw [x67, x68, x69, x70, x71, x72, x73, y75, y76, y77, y78, y79, y80, y81, vdp]
    refine ⟨⟨rfl, rfl, rfl, rfl⟩, ⟨hg, ht, by omega, by omega⟩, d, d1, kd.kx hB.2.1.1 hK, kd1.kx hB.2.1.1 hK, hs.1, ?_⟩
    rcases hs.2 with ⟨q1, q2⟩ | ⟨q1, q2, q3⟩
    · have v := hv.to3 q2
      exact Or.inl ⟨q1, v.up hgg, by have := v.i3.1; omega⟩
    · have v := hv.to4 q3
      refine Or.inr ⟨q1, q2, v.up hgg, ?_⟩
      by_cases z : 100 ≤ (X.1 61 c).toInt
      · have := (v.i4.2.2 z).1
        omega
      · omega
  obtain ⟨hR, _⟩ := hH.wrap hB.2.1.1 hK hnI (by omega) ⟨x33, r0 34 (by omega) (by omega), r0 35 (by omega) (by omega), v36⟩ (fun e k q1 q2 => rx e k (by omega) (by omega) (by omega)) (fun k => ⟨rx 74 k (by omega) (by omega) (by omega), rx 75 k (by omega) (by omega) (by omega)⟩) x64 ⟨ry 71 0 (by omega) (by omega), ry 71 1 (by omega) (by omega), by rw [y71, a9, x36]⟩ (fun e k q1 q2 => ry e k (by omega) (by omega)) (fun k => ⟨ry 72 k (by omega) (by omega), ry 73 k (by omega) (by omega)⟩) (fun k => rl 74 k (by omega)) (fun k q => rl 75 k (by omega)) hw
  have hO1 : ONr X1 Y1 := hO.cg (r0 43 (by omega) (by omega)) (r0 44 (by omega) (by omega)) (fun k q => ry 70 k (by omega) (by omega))
  obtain ⟨⟨s1, s2, s3, s4⟩, ⟨s5, s6⟩, s7, s8⟩ := hS
  have hS1 : SCr X1 Y1 := by
    unfold SCr
    rw [r0 45 (by omega) (by omega), r0 40 (by omega) (by omega), r0 39 (by omega) (by omega), r0 46 (by omega) (by omega), r0 35 (by omega) (by omega), ry 70 7 (by omega) (by omega), ry 70 8 (by omega) (by omega), ry 70 9 (by omega) (by omega), ry 70 18 (by omega) (by omega), ry 71 0 (by omega) (by omega), y71, x36, s6]
    exact ⟨⟨s1, s2, s3, s4⟩, ⟨s5, rfl⟩, fun i hi => by rw [ry 86 i (by omega) (by omega), rx 79 i (by omega) (by omega) (by omega)]; exact s7 i hi, fun g t q1 q2 => by rw [ry 87 _ (by omega) (by omega), rx 80 _ (by omega) (by omega) (by omega)]; exact s8 g t q1 q2⟩
  refine ⟨⟨fun e k _ q2 q3 q4 q5 q6 q7 => rx e k (by omega) (by omega) (by omega), rr, fun j k q1 q2 q3 q4 => ry j k (by omega) (by omega), fun j k q => rl j k (by omega)⟩, ⟨hJ, hU, hK⟩, hS1, Or.inr ⟨hO1, _, hgg, hR, ?_⟩⟩
  rw [rx 60 c (by omega) (by omega) (by omega), a9]
  rcases x61 with ⟨q1, q2⟩ | ⟨q1, q2⟩
  · refine Or.inr (Or.inl ⟨q1, by rw [q2]; omega, ?_⟩)
    unfold tvl
    rw [q2, ← hn, if_neg x64]
    show _ = VLs 2 (if n = n then X.1 0 36 else r n)
    rw [if_pos rfl]
  · have i61 : ix (X1.1 61 c) - 100 = n := by
      have := ixc (z := X1.1 61 c) (by omega)
      omega
    refine Or.inr (Or.inr ⟨q1, Or.inr ⟨by omega, by omega, by rw [i61]; exact x64, ?_⟩⟩)
    rw [i61]
    show _ = VLs 2 (if n = n then X.1 0 36 else r n)
    rw [if_pos rfl]
/-- the class's wrap, the depth known -/
theorem l_wrap30 (hw : pw (g_Heap_wrappingOf y Y) (fun x Y1 => Y1 = Y ∧ ((x = -1 ∧ dp = 0) ∨ (0 ≤ x.toInt ∧ Y.1 81 (ix x) = dp)))) {Q : Int64 → St → Prop} (h : pw (g_Running_wrap_30 y a b g t p dp Y) Q) : pw (g_Running_wrap y a b g t p Y) Q := by
  have l1 : (-1 : Int32).toInt = -1 := by decide
  unfold g_Running_wrap
  refine pw_bd hw ?_
  rintro x Y1 ⟨e1, hx⟩
  rw [e1]
  rcases hx with ⟨h1, h2⟩ | ⟨h1, h2⟩
  · rw [h2] at h
    exact pw_pos (by rw [h1]; decide) h
  · exact pw_neg (by omega) (pw_ck (fun _ => pw_to h2 h))
theorem l_hasRoom (h : HCq X Y) : pw (g_Heap_hasRoom p Y) (fun z Y1 => Y1 = Y ∧ ((z = 1 ∧ (X.1 0 33).toInt < 1000 ∧ (X.1 0 34).toInt + p.toInt ≤ 4000) ∨ (z = 0 ∧ ¬ ((X.1 0 33).toInt < 1000 ∧ (X.1 0 34).toInt + p.toInt ≤ 4000)))) := by
  have l4 : (4000 : Int32).toInt = 4000 := by decide
  obtain ⟨⟨a1, a2, a3, a4, a5, a6⟩, a7, a8, a9⟩ := h
  unfold g_Heap_hasRoom
  refine pw_eq (fun x1 e1 => pw_eq (fun x2 e2 => pw_eq (fun x3 e3 => ?_)))
  have v3 : x3.toInt = (X.1 0 33).toInt := by rw [e3, e1, e2, a7, a9, ti_add (by omega) (by omega)]; omega
  refine pw_ite (fun c => pw_ret ⟨rfl, Or.inr ⟨rfl, by omega⟩⟩) (fun c => pw_eq (fun x4 e4 => pw_eq (fun x5 e5 => ?_)))
  have v5 : x5.toInt = 4000 - (X.1 0 34).toInt := by rw [e5, e4, a8, ti_sub (by rw [l4]; omega) (by rw [l4]; omega), l4]
  exact pw_ite (fun c2 => pw_ret ⟨rfl, Or.inr ⟨rfl, by omega⟩⟩) (fun c2 => pw_ret ⟨rfl, Or.inl ⟨rfl, by omega, by omega⟩⟩)
theorem n_wraps (hB : RBk e X Y ks) (hS : SCr X Y) (hO : ONr X Y) (hH : HR X Y r ks) (hi : ix p1 = c) (hv : VR X r (X.1 60 c) (X.1 61 c) y) (kd : KR X ks k a d) (kd1 : KR X ks k1 b d1) (hs : sot d = sot d1 ∧ ((sot d = 3 ∧ (X.1 60 c).toInt = 3) ∨ (sot d = 4 ∧ tkn d = tkn d1 ∧ (X.1 60 c).toInt = 4))) (hg : 0 ≤ g.toInt ∧ g.toInt ≤ 39) (ht : 0 ≤ t.toInt ∧ t.toInt ≤ 39) : pw (f_wraps p1 k k1 g t p X) (fun _ X1 => pw (g_Running_wrap y a b g t p Y) (fun y1 Y1 => ASQ X Y r ks c y1 X1 Y1)) := by
  have l1 : (1 : Int32).toInt = 1 := by decide
  have l6 : (6 : Int32).toInt = 6 := by decide
  have l0 : (0 : Int32).toInt = 0 := by decide
  have l20 : (20 : Int32).toInt = 20 := by decide
  have l100 : (100 : Int32).toInt = 100 := by decide
  have l4 : (4000 : Int32).toInt = 4000 := by decide
  have nb : ¬ (vp_nar .boolean (1 : Int32)).toInt = 0 := by decide
  have hq := hH.1
  obtain ⟨⟨a1, a2, a3, a4, a5, a6⟩, a7, a8, a9⟩ := hq
  have s34 : (X.1 60 c).toInt = 3 ∨ (X.1 60 c).toInt = 4 := by
    rcases hs.2 with q | q
    · exact Or.inl q.2
    · exact Or.inr q.2.2
  have vsum : (X.1 0 35 + X.1 0 36).toInt = (X.1 0 33).toInt := by rw [ti_add (by omega) (by omega)]; omega
  unfold f_wraps
  refine pw_ck (fun _ => pw_to (by rw [hi]) (pw_ck (fun _ => pw_to (by rw [hi]) (pw_bd (n_deep hH s34 hv) ?_))))
  rintro dp X4 ⟨e4, hdp, hw⟩
  rw [e4]
  have failq : (X.1 0 33).toInt = 1000 ∨ dp.toInt = 20 → pw (f_wraps_39 p X) (fun _ X1 => pw (g_Running_wrap y a b g t p Y) (fun y1 Y1 => ASQ X Y r ks c y1 X1 Y1)) := by
    intro hf
    unfold f_wraps_39
    refine pw_bd (n_ends hO) ?_
    rintro _ X6 e6
    refine pw_ret (l_wrap30 hw ?_)
    rw [e6]
    have f50 : pw (g_Running_wrap_50 y p Y) (fun y1 Y1 => ASQ X Y r ks c y1 (wI (wI X 0 43 6) 0 44 p) Y1) := by
      unfold g_Running_wrap_50
      refine pw_bd (l_failW hO) ?_
      rintro _ Y6 e6
      rw [e6]
      exact pw_ret (ASQ.off hB hS (by decide))
    unfold g_Running_wrap_30
    refine pw_ite (fun _ => f50) (fun c20 => pw_bd (l_hasRoom hH.1) ?_)
    rintro z Y5 ⟨e5, hz⟩
    rw [e5]
    rcases hz with ⟨_, z1, z2⟩ | ⟨z0, _⟩
    · omega
    · exact pw_pos (by rw [z0]; decide) f50
  have mk : ∀ (b0 : Int32) (X24 : St), (∀ e k, ¬ ((e = 64 ∨ (67 ≤ e ∧ e ≤ 73)) ∧ k = ix (X.1 0 33)) → X24.1 e k = X.1 e k) → ¬ (X24.1 64 (ix (X.1 0 33))).toInt = 0 → X24.1 67 (ix (X.1 0 33)) = X.1 61 c → X24.1 68 (ix (X.1 0 33)) = k → X24.1 69 (ix (X.1 0 33)) = k1 → X24.1 70 (ix (X.1 0 33)) = g → X24.1 71 (ix (X.1 0 33)) = t → X24.1 72 (ix (X.1 0 33)) = p → X24.1 73 (ix (X.1 0 33)) = dp + 1 → dp.toInt < 20 → (X.1 0 33).toInt < 1000 → (((X.1 60 c).toInt = 3 ∧ b0 = X.1 0 33) ∨ ((X.1 60 c).toInt = 4 ∧ b0.toInt = 100 + (X.1 0 33).toInt)) → pw (f_wraps_164 b0 p1 X24) (fun _ X1 => pw (g_Running_wrap y a b g t p Y) (fun y1 Y1 => ASQ X Y r ks c y1 X1 Y1)) := by
    intro b0 X24 rr x64 x67 x68 x69 x70 x71 x72 x73 hd20 h33 hb
    unfold f_wraps_164
    refine pw_ck (fun _ => pw_eq (fun X27 e27 => pw_eq (fun x28 e28 => pw_eq (fun x29 e29 => pw_eq (fun X30 e30 => pw_eq (fun x31 e31 => pw_eq (fun x32 e32 => pw_eq (fun X33 e33 => pw_ret (l_wrap30 hw ?_)))))))))
    rw [hi] at e27
    have q27 : ∀ e k, ¬ (e = 61 ∧ k = c) → X27.1 e k = X24.1 e k := fun e k z => by rw [e27, wI_ne _ _ _ _ _ _ z]
    have q30 : ∀ e k, ¬ (e = 0 ∧ k = 33) → X30.1 e k = X27.1 e k := fun e k z => by rw [e30, wI_ne _ _ _ _ _ _ z]
    have q33 : ∀ e k, ¬ (e = 0 ∧ k = 36) → X33.1 e k = X30.1 e k := fun e k z => by rw [e33, wI_ne _ _ _ _ _ _ z]
    have qa : ∀ e k, ¬ (e = 61 ∧ k = c) → ¬ (e = 0 ∧ (k = 33 ∨ k = 36)) → X33.1 e k = X24.1 e k := fun e k z1 z2 => by rw [q33 e k (by omega), q30 e k (by omega), q27 e k z1]
    have v28 : x28 = X.1 0 33 := by rw [e28, q27 0 33 (by omega), rr 0 33 (by omega)]
    have v31 : x31 = X.1 0 36 := by rw [e31, q30 0 36 (by omega), q27 0 36 (by omega), rr 0 36 (by omega)]
    unfold g_Running_wrap_30
    refine pw_neg (by omega) (pw_bd (l_hasRoom hH.1) ?_)
    rintro z Y5 ⟨e5, hz⟩
    rw [e5]
    rcases hz with ⟨z1, _⟩ | ⟨_, z2⟩
    · refine pw_neg (by rw [z1]; decide) (pw_eq (fun x7 e7 => pw_eq (fun x8 e8 => pw_eq (fun x9 e9 => pw_eq (fun Y10 f10 => pw_eq (fun x11 e11 => pw_ck (fun _ => pw_eq (fun Y12 f12 => pw_ck (fun _ => pw_eq (fun Y13 f13 => pw_ck (fun _ => pw_eq (fun Y14 f14 => pw_ck (fun _ => pw_eq (fun Y15 f15 => pw_ck (fun _ => pw_eq (fun Y16 f16 => pw_ck (fun _ => pw_eq (fun Y17 f17 => pw_ck (fun _ => pw_eq (fun Y18 f18 => pw_bd l_valueOf ?_))))))))))))))))))))
      rintro y19 Y20 ⟨e20, ey⟩
      rw [e20]
      have i7 : ix x7 = ix (X.1 0 36) := by rw [e7, a9]
      rw [i7] at f12 f13 f14 f15 f16 f17 f18
      have ev : y19 = VLs 2 (Y.1 71 2) := by rw [ey, e7]
      rw [ev]
      have ry : ∀ j k, ¬ ((76 ≤ j ∧ j ≤ 81) ∧ k = ix (X.1 0 36)) → ¬ (j = 71 ∧ k = 2) → Y18.1 j k = Y.1 j k := fun j k q1 q2 => by rw [f18, wI_ne _ _ _ _ _ _ (by omega), f17, wI_ne _ _ _ _ _ _ (by omega), f16, wI_ne _ _ _ _ _ _ (by omega), f15, wI_ne _ _ _ _ _ _ (by omega), f14, wI_ne _ _ _ _ _ _ (by omega), f13, show (wL Y12 75 (ix (X.1 0 36)) y).1 j k = Y12.1 j k from rfl, f12, wI_ne _ _ _ _ _ _ (by omega), f10, wI_ne _ _ _ _ _ _ (by omega)]
      have l18 : Y18.2.1 = Y13.2.1 := by rw [f18, f17, f16, f15, f14]; rfl
      have l12 : Y12.2.1 = Y.2.1 := by rw [f12, f10]; rfl
      have rl : ∀ j k, ¬ (j = 75 ∧ k = ix (X.1 0 36)) → Y18.2.1 j k = Y.2.1 j k := fun j k q => by rw [l18, f13, wL_ne _ _ _ _ _ _ q, l12]
      have rq : Y18.2.2 = Y.2.2 := by rw [f18, f17, f16, f15, f14, f13, f12, f10]; rfl
      refine pw_ret (ASQ.wrap (dp := dp) (p := p) (n := ix (X.1 0 33)) (m := ix (X.1 0 36)) hB hS hO hH hv kd kd1 hs hg ht ⟨hdp.1, hd20⟩ h33 rfl rfl ?_ ?_ ?_ ?_ ?_ ?_ ?_ ?_ ?_ ?_ ?_ (fun e k q1 q2 q3 => ?_) ?_ ?_ ?_ ?_ ?_ ?_ ?_ ?_ ry rl rq)
      · rw [q33 0 33 (by omega), e30, wI_at, e29, v28, ti_add (by rw [l1]; omega) (by rw [l1]; omega), l1]
      · rw [e33, wI_at, e32, v31]
      · rw [qa 64 _ (by omega) (by omega)]; exact x64
      · rw [qa 67 _ (by omega) (by omega)]; exact x67
      · rw [qa 68 _ (by omega) (by omega)]; exact x68
      · rw [qa 69 _ (by omega) (by omega)]; exact x69
      · rw [qa 70 _ (by omega) (by omega)]; exact x70
      · rw [qa 71 _ (by omega) (by omega)]; exact x71
      · rw [qa 72 _ (by omega) (by omega)]; exact x72
      · rw [qa 73 _ (by omega) (by omega)]; exact x73
      · have v61 : X33.1 61 c = b0 := by rw [q33 61 c (by omega), q30 61 c (by omega), e27, wI_at]
        rw [v61]
        exact hb
      · rw [qa e k q2 q3]
        exact rr e k q1
      · rw [f18, wI_ne _ _ _ _ _ _ (by omega), f17, wI_ne _ _ _ _ _ _ (by omega), f16, wI_ne _ _ _ _ _ _ (by omega), f15, wI_ne _ _ _ _ _ _ (by omega), f14, wI_ne _ _ _ _ _ _ (by omega), f13, show (wL Y12 75 (ix (X.1 0 36)) y).1 71 2 = Y12.1 71 2 from rfl, f12, wI_ne _ _ _ _ _ _ (by omega), f10, wI_at, e9, e8]
      · rw [f18, wI_ne _ _ _ _ _ _ (by omega), f17, wI_ne _ _ _ _ _ _ (by omega), f16, wI_ne _ _ _ _ _ _ (by omega), f15, wI_ne _ _ _ _ _ _ (by omega), f14, wI_at]
      · rw [f18, wI_ne _ _ _ _ _ _ (by omega), f17, wI_ne _ _ _ _ _ _ (by omega), f16, wI_ne _ _ _ _ _ _ (by omega), f15, wI_at]
      · rw [f18, wI_ne _ _ _ _ _ _ (by omega), f17, wI_ne _ _ _ _ _ _ (by omega), f16, wI_at]
      · rw [f18, wI_ne _ _ _ _ _ _ (by omega), f17, wI_at]
      · rw [f18, wI_at]
      · rw [f18, wI_ne _ _ _ _ _ _ (by omega), f17, wI_ne _ _ _ _ _ _ (by omega), f16, wI_ne _ _ _ _ _ _ (by omega), f15, wI_ne _ _ _ _ _ _ (by omega), f14, wI_ne _ _ _ _ _ _ (by omega), f13, show (wL Y12 75 (ix (X.1 0 36)) y).1 81 (ix (X.1 0 36)) = Y12.1 81 (ix (X.1 0 36)) from rfl, f12, wI_at, e11]
      · rw [l18, f13, wL_at]
    · omega
  refine pw_eq (fun x5 e5 => pw_ite (fun c5 => failq (Or.inl (by rw [← e5]; exact c5))) (fun c5 => pw_ite (fun c20 => failq (Or.inr c20)) (fun c20 => ?_)))
  rw [e5] at c5
  have h33 : (X.1 0 33).toInt < 1000 := by
    have : (1000 : Int32).toInt = 1000 := by decide
    omega
  have hd20 : dp.toInt < 20 := by omega
  refine pw_eq (fun x7 e7 => pw_ck (fun _ => pw_eq (fun X8 f8 => pw_eq (fun x9 e9 => pw_ck (fun _ => pw_to (by rw [hi]) (pw_ck (fun _ => pw_eq (fun X11 f11 => pw_eq (fun x12 e12 => pw_ck (fun _ => pw_eq (fun X13 f13 => pw_eq (fun x14 e14 => pw_ck (fun _ => pw_eq (fun X15 f15 => pw_eq (fun x16 e16 => pw_ck (fun _ => pw_eq (fun X17 f17 => pw_eq (fun x18 e18 => pw_ck (fun _ => pw_eq (fun X19 f19 => pw_eq (fun x20 e20 => pw_ck (fun _ => pw_eq (fun X21 f21 => pw_eq (fun x22 e22 => pw_eq (fun x23 e23 => pw_ck (fun _ => pw_eq (fun X24 f24 => ?_)))))))))))))))))))))))))))
  have z8 : X8.1 0 33 = X.1 0 33 := by rw [f8, wI_ne _ _ _ _ _ _ (by omega)]
  have z11 : X11.1 0 33 = X.1 0 33 := by rw [f11, wI_ne _ _ _ _ _ _ (by omega), z8]
  have z13 : X13.1 0 33 = X.1 0 33 := by rw [f13, wI_ne _ _ _ _ _ _ (by omega), z11]
  have z15 : X15.1 0 33 = X.1 0 33 := by rw [f15, wI_ne _ _ _ _ _ _ (by omega), z13]
  have z17 : X17.1 0 33 = X.1 0 33 := by rw [f17, wI_ne _ _ _ _ _ _ (by omega), z15]
  have z19 : X19.1 0 33 = X.1 0 33 := by rw [f19, wI_ne _ _ _ _ _ _ (by omega), z17]
  have z21 : X21.1 0 33 = X.1 0 33 := by rw [f21, wI_ne _ _ _ _ _ _ (by omega), z19]
  have z24 : X24.1 0 33 = X.1 0 33 := by rw [f24, wI_ne _ _ _ _ _ _ (by omega), z21]
  rw [e7] at f8
  rw [e9, z8] at f11
  rw [e12, z11] at f13
  rw [e14, z13] at f15
  rw [e16, z15] at f17
  rw [e18, z17] at f19
  rw [e20, z19] at f21
  rw [e22, z21] at f24
  have rr : ∀ e k, ¬ ((e = 64 ∨ (67 ≤ e ∧ e ≤ 73)) ∧ k = ix (X.1 0 33)) → X24.1 e k = X.1 e k := fun e k z => by rw [f24, wI_ne _ _ _ _ _ _ (by omega), f21, wI_ne _ _ _ _ _ _ (by omega), f19, wI_ne _ _ _ _ _ _ (by omega), f17, wI_ne _ _ _ _ _ _ (by omega), f15, wI_ne _ _ _ _ _ _ (by omega), f13, wI_ne _ _ _ _ _ _ (by omega), f11, wI_ne _ _ _ _ _ _ (by omega), f8, wI_ne _ _ _ _ _ _ (by omega)]
  have w73 : X24.1 73 (ix (X.1 0 33)) = dp + 1 := by rw [f24, wI_at, e23]
  have w72 : X24.1 72 (ix (X.1 0 33)) = p := by rw [f24, wI_ne _ _ _ _ _ _ (by omega), f21, wI_at]
  have w71 : X24.1 71 (ix (X.1 0 33)) = t := by rw [f24, wI_ne _ _ _ _ _ _ (by omega), f21, wI_ne _ _ _ _ _ _ (by omega), f19, wI_at]
  have w70 : X24.1 70 (ix (X.1 0 33)) = g := by rw [f24, wI_ne _ _ _ _ _ _ (by omega), f21, wI_ne _ _ _ _ _ _ (by omega), f19, wI_ne _ _ _ _ _ _ (by omega), f17, wI_at]
  have w69 : X24.1 69 (ix (X.1 0 33)) = k1 := by rw [f24, wI_ne _ _ _ _ _ _ (by omega), f21, wI_ne _ _ _ _ _ _ (by omega), f19, wI_ne _ _ _ _ _ _ (by omega), f17, wI_ne _ _ _ _ _ _ (by omega), f15, wI_at]
  have w68 : X24.1 68 (ix (X.1 0 33)) = k := by rw [f24, wI_ne _ _ _ _ _ _ (by omega), f21, wI_ne _ _ _ _ _ _ (by omega), f19, wI_ne _ _ _ _ _ _ (by omega), f17, wI_ne _ _ _ _ _ _ (by omega), f15, wI_ne _ _ _ _ _ _ (by omega), f13, wI_at]
  have w67 : X24.1 67 (ix (X.1 0 33)) = X.1 61 c := by rw [f24, wI_ne _ _ _ _ _ _ (by omega), f21, wI_ne _ _ _ _ _ _ (by omega), f19, wI_ne _ _ _ _ _ _ (by omega), f17, wI_ne _ _ _ _ _ _ (by omega), f15, wI_ne _ _ _ _ _ _ (by omega), f13, wI_ne _ _ _ _ _ _ (by omega), f11, wI_at, f8, wI_ne _ _ _ _ _ _ (by omega)]
  have w64 : ¬ (X24.1 64 (ix (X.1 0 33))).toInt = 0 := by rw [f24, wI_ne _ _ _ _ _ _ (by omega), f21, wI_ne _ _ _ _ _ _ (by omega), f19, wI_ne _ _ _ _ _ _ (by omega), f17, wI_ne _ _ _ _ _ _ (by omega), f15, wI_ne _ _ _ _ _ _ (by omega), f13, wI_ne _ _ _ _ _ _ (by omega), f11, wI_ne _ _ _ _ _ _ (by omega), f8, wI_at]; exact nb
  refine pw_ite (fun c3 => pw_to z24 (mk _ X24 rr w64 w67 w68 w69 w70 w71 w72 w73 hd20 h33 (Or.inl ⟨c3, rfl⟩))) (fun c3 => pw_to z24 (pw_eq (fun x26 e26 => mk _ X24 rr w64 w67 w68 w69 w70 w71 w72 w73 hd20 h33 (Or.inr ⟨s34.resolve_left c3, ?_⟩))))
  rw [e26, ti_add (by rw [l100]; omega) (by rw [l100]; omega), l100]
end WRSS
