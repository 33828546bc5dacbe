/-! the whole of an asking: both sides -/
section ASK4S
variable {X Y Z X1 Y1 X2 Y2 : St} {r r1 r2 : Nat → Int32} {s w k k1 a b p g t p1 p2 ai b0 : Int32} {y y1 : Int64} {ks : List (List Int)} {e c m n i j : Nat} {d d1 : List Int} {u : Bool} {G : Nat → Int32}
theorem SCr.bl (h : SCr X Y) : SCr (wI X 0 45 g) (wI Y 70 7 g) := by
  obtain ⟨⟨a1, a2, a3, a4⟩, ⟨b1, b2⟩, c1, c2⟩ := h
  unfold SCr
  rw [wI_at, wI_at, wI_ne _ 0 45 g 0 40 (by omega), wI_ne _ 0 45 g 0 39 (by omega), wI_ne _ 0 45 g 0 46 (by omega), wI_ne _ 0 45 g 0 35 (by omega), wI_ne _ 0 45 g 0 36 (by omega), wI_ne _ 70 7 g 70 8 (by omega), wI_ne _ 70 7 g 70 9 (by omega), wI_ne _ 70 7 g 70 18 (by omega), wI_ne _ 70 7 g 71 0 (by omega), wI_ne _ 70 7 g 71 2 (by omega)]
  exact ⟨⟨rfl, a2, a3, a4⟩, ⟨b1, b2⟩, fun i hi => by rw [wI_ne _ _ _ _ _ _ (by omega), wI_ne _ _ _ _ _ _ (by omega)]; exact c1 i hi, fun g t q1 q2 => by rw [wI_ne _ _ _ _ _ _ (by omega), wI_ne _ _ _ _ _ _ (by omega)]; exact c2 g t q1 q2⟩
/-- who is to blame is told on both sides -/
theorem ASQ.blame (hB : RBk e X Y ks) (hS : SCr X Y) (hO : ONr X Y) : ASQ X Y r ks c y (wI (wI (wI X 0 45 g) 0 43 3) 0 44 p) (wI (wI (wI (wI Y 70 7 g) 70 4 0) 70 5 3) 70 6 p) := by
  have rx : ∀ e k, ¬ (e = 0 ∧ k = 45) → (wI X 0 45 g).1 e k = X.1 e k := fun e k z => wI_ne _ _ _ _ _ _ (by omega)
  have hJ : KJq (wI X 0 45 g) := hB.2.1.1.cg (fun e k q => rx e k (by omega))
  have hU : KU (wI X 0 45 g) := (KGq.of (fun e k q => rx e k (by omega))).2 hB.2.1.2
  have hC : CF Y (wI Y 70 7 g) := ⟨rfl, fun j k q _ _ _ => wI_ne _ _ _ _ _ _ (by omega), fun _ _ _ => rfl⟩
  have hX : HXc X (wI X 0 45 g) := ⟨fun k _ => rx 0 k (by omega), fun e k q => rx e k (by omega)⟩
  exact (ASQ.off (r := r) (c := c) (y1 := y) (hB.cf ⟨hJ, hU⟩ hC) hS.bl (by decide)).pre (fun e k _ q2 _ _ _ _ _ => rx e k (by omega)) hC (KXq.of (fun e k q => rx e k (by omega))) (HG.of hX)
theorem RBk.wk (hB : RBk e X Y ks) (h : KC ks a d) : 0 ≤ sot d ∧ sot d ≤ 4 ∧ tkn d ≤ 4 ∧ (sot d = 2 ↔ d = [3]) := by
  obtain ⟨z, _, h2⟩ := h
  obtain ⟨mw, hw⟩ := (hB.2.2.1.1.2.1 z d h2).2
  have q := sot5 hw
  exact ⟨q.1, q.2.1, tkn4 hw, q.2.2.2.1⟩
theorem n_ask (h : APR e X Y r ks c y) (hM : PRm e X Y) (hP : HP false X G) (hT : KT X) (h3 : (X.1 60 c).toInt = 3 → RV X (X.1 61 c)) (h4 : (X.1 60 c).toInt = 4 → FV X (X.1 61 c)) (hi : ix p1 = c) (kd : KR X ks k a d) (kd1 : KR X ks k1 b d1) (hty : (sot d = 3 → (X.1 60 c).toInt = 3) ∧ (sot d = 4 → (X.1 60 c).toInt = 4)) (hfit : ¬ d = d1 → ¬ d = [3] → ¬ d1 = [3] → sot d = sot d1 ∧ 3 ≤ sot d ∧ tkn d = tkn d1) (hg : 0 ≤ g.toInt ∧ g.toInt ≤ 39) (ht : 0 ≤ t.toInt ∧ t.toInt ≤ 39) : pw (f_asks p1 k k1 g t p X) (fun _ X1 => pw (g_Running_ask y a b g t p Y) (fun y1 Y1 => ASQ X Y r ks c y1 X1 Y1)) := by
  have l41 : (41 : Int32).toInt = 41 := by decide
  have l0 : (0 : Int32).toInt = 0 := by decide
  have h0 := h
  obtain ⟨hB, hS, hO, hH, hv⟩ := h
  obtain ⟨q1, q2⟩ := kd.same hB kd1
  obtain ⟨q3, q4⟩ := kd.any hB
  obtain ⟨q5, q6⟩ := kd1.any hB
  obtain ⟨t1, t2, t3, t4⟩ := hB.wk kd.2
  obtain ⟨t5, t6, t7, t8⟩ := hB.wk kd1.2
  unfold f_asks g_Running_ask
  obtain ⟨N, hN⟩ : ∃ N, BIG = N + 1 := ⟨BIG - 1, by decide⟩
  rw [hN]
  have e9 : f_asks_9 (N + 1) = f_asks_9_s (f_asks_9 N) := by
    unfold f_asks_9
    exact lp_succ _ _ _
  have e10 : g_Running_ask_10 (N + 1) = g_Running_ask_10_s (g_Running_ask_10 N) := by
    unfold g_Running_ask_10
    exact lp_succ _ _ _
  rw [e9]
  unfold f_asks_9_s
  refine pw_neg (by decide) (pw_ite (fun c0 => pw_ret (l_askE hO (q2.mpr (q1.mp c0)) (by decide) _ (ASQ.id hB hS hO hH hv))) (fun c0 => ?_))
  have nd : ¬ d = d1 := fun z => c0 (q1.mpr z)
  have nab : ¬ a.toInt = b.toInt := fun z => nd (q2.mp z)
  refine pw_eq (fun x1 e1 => pw_eq (fun x2 e2 => pw_ck (fun _ => pw_eq (fun x3 e3 => pw_eq (fun x4 e4 => pw_ck (fun _ => pw_eq (fun X5 e5 => ?_)))))))
  have v1 : x1.toInt = 41 * g.toInt := by rw [e1, ti_mul (by rw [l41]; omega) (by rw [l41]; omega), l41]
  have v2 : x2.toInt = 41 * g.toInt + t.toInt := by rw [e2, ti_add (by rw [v1]; omega) (by rw [v1]; omega), v1]
  have f5 : X5 = wI X 80 (ix x2) (X.1 80 (ix x2) + 1) := by rw [e5, e4, e3]
  have i2 := ixc (z := x2) (by omega)
  obtain ⟨j, hj⟩ : ∃ j : Nat, (j : Int) = 40 * g.toInt + t.toInt := ⟨(40 * g.toInt + t.toInt).toNat, by omega⟩
  obtain ⟨A5, hXF, hCF, hKX, hHG⟩ := h0.cnt hg ht (i := ix x2) (j := j) (by omega) hj
  rw [← f5] at A5 hXF hKX hHG
  have A5' := A5
  obtain ⟨hB5, hS5, hO5, hH5, hv5⟩ := A5'
  have rx5 : ∀ e k, ¬ e = 80 → X5.1 e k = X.1 e k := fun e k q => by rw [f5, wI_ne _ _ _ _ _ _ (by omega)]
  have r5 : X5.1 60 c = X.1 60 c := rx5 60 c (by omega)
  have kd5 := kd.kx hB.2.1.1 hKX
  have kd15 := kd1.kx hB.2.1.1 hKX
  refine pw_ite (fun c8 => ?_) (fun c8 => pw_ite (fun c7 => ?_) (fun c7 => ?_))
  · -- to any
    have A : ∀ fl : Int32, ((sot d ≤ 2 ∧ fl = 0) ∨ (3 ≤ sot d ∧ fl = 1)) → pw (f_asks_60 (f_asks_9 N) p1 g t p k k1 fl X5) (fun _ X1 => pw (g_Running_ask_10 (N + 1) y g t p a b 0 Y) (fun y1 Y1 => ASQ X Y r ks c y1 X1 Y1)) := by
      intro fl hf
      refine pw_mono (n_askA A5 hi kd5 c8 ⟨t1, t2, t3⟩ (by rw [r5]; exact hty) hg ht fl hf N) (fun _ X1 q => ?_)
      refine l_askA (fun Z hZ => hB.cf hB.2.1 hZ) hO (by decide) (by decide) kd.2 nab (q6.mpr (q5.mp c8)) hg ht _ (fun j1 hj1 => ?_)
      have ej : j1 = j := by omega
      rw [ej]
      exact ⟨fun z1 z2 => (q.1 z1 z2).pre hXF hCF hKX hHG, fun z a2 M1 hz ha => pw_mono (q.2 z a2 M1 hz ha) (fun y1 Y1 g => g.pre hXF hCF hKX hHG)⟩
    obtain ⟨w1, _⟩ := kd5.1.srt
    refine pw_ck (fun _ => pw_eq (fun x22 e22 => pw_ite (fun c3 => A 0 (Or.inl ⟨?_, rfl⟩)) (fun c3 => A 1 (Or.inr ⟨?_, rfl⟩))))
    · rw [e22] at c3
      omega
    · rw [e22] at c3
      omega
  · -- from any
    have d3 : d = [3] := q3.mp c7
    have n2 : ¬ sot d1 = 2 := fun z => nd (d3.trans (t8.mp z).symm)
    have hM5 : PRm e X5 (wI Y 87 j (Y.1 87 j + 1)) := by
      unfold PRm
      rw [rx5 0 18 (by omega)]
      refine ⟨hM.1, ?_, fun k hk => ?_⟩
      · rw [wI_ne _ _ _ _ _ _ (by rcases hB.1 with z | z <;> omega)]
        exact hM.2.1
      · rw [wI_ne _ _ _ _ _ _ (by rcases hB.1 with z | z <;> omega), rx5 15 k (by omega)]
        exact hM.2.2 k hk
    have hF5 : Fr YR [16000] X X5 := by
      rw [f5]
      exact Fr.rf.wI 80 _ _ (show (16000 : Nat) ∈ [16000] from by decide)
    have hP5 : HP false X5 G := hP.same hT hF5 (KX.fr hF5 (by decide)) (by decide) (by decide)
    have h35 : (X5.1 60 c).toInt = 3 → RV X5 (X5.1 61 c) := by
      rw [r5, rx5 61 c (by omega)]
      intro z
      have q := h3 z
      unfold RV VK _root_.Jvm.Pilot.CBlameCourtLaw_law_r8381_f30dd1.so wrp at q ⊢
      rw [rx5 0 33 (by omega), rx5 64 _ (by omega), rx5 69 _ (by omega), rx5 0 13 (by omega), rx5 4 _ (by omega)]
      exact q
    have h45 : (X5.1 60 c).toInt = 4 → FV X5 (X5.1 61 c) := by
      rw [r5, rx5 61 c (by omega)]
      exact fun z => (h4 z).cg rx5
    obtain ⟨cc, hcore, hsuch⟩ := n_such (p1 := p1) hB5 hM5 hP5 hH5 hi hv5 h35 h45 kd15.1 ⟨t5, t6, n2⟩
    -- the class up to the look
    have cls : ∀ (x7 : Int32) (Q : Int64 → St → Prop), (∀ x9 x13 : Int32, x9.toInt = sot d1 → x13.toInt = (tkn d1 : Int) → pw (g_Running_isSuch (VLs (X5.1 60 c) cc) x9 x13 (wI Y 87 j (Y.1 87 j + 1))) (fun v Y1 => Y1 = wI Y 87 j (Y.1 87 j + 1) ∧ (v.toInt = 0 ↔ x7.toInt = 0))) → (x7.toInt = 0 → pw (g_Running_ask_124 (g_Running_ask_10 N) y g t p b 0 (wI (wI (wI (wI (wI Y 87 j (Y.1 87 j + 1)) 70 7 g) 70 4 0) 70 5 3) 70 6 p)) Q) → (¬ x7.toInt = 0 → pw (g_Running_ask_124 (g_Running_ask_10 N) y g t p b 0 (wI Y 87 j (Y.1 87 j + 1))) Q) → pw (g_Running_ask_10 (N + 1) y g t p a b 0 Y) Q := by
      intro x7 Q hs g0 g1
      rw [e10]
      unfold g_Running_ask_10_s
      refine pw_neg (by decide) (pw_let (pw_neg hO.2.1 (pw_neg nab (pw_bd (l_count hg ht) ?_))))
      rintro _ Y2 ⟨j1, hj1, e2⟩
      have ej : j1 = j := by omega
      rw [ej] at e2
      rw [e2]
      refine pw_neg (fun z => c8 (q5.mpr (q6.mp z))) (pw_pos (q4.mpr d3) (pw_bd hcore ?_))
      rintro y5 X6 ⟨e6, ey⟩
      rw [e6, ey]
      obtain ⟨zb, b1, b2⟩ := kd15.2
      refine pw_ck (fun _ => pw_to hB5.pe (pw_to (kYp hB5.1).1 (pw_bd (kk_sortOf hB5.o3 hB5.2.2.1.1 b1 b2) ?_)))
      rintro x9 X10 ⟨f10, v9⟩
      rw [f10]
      refine pw_ck (fun _ => pw_to hB5.pe (pw_to (kYp hB5.1).1 (pw_bd (kk_takenBy hB5.o3 hB5.2.2.1.1 b1 b2) ?_)))
      rintro x13 X14 ⟨f14, v13⟩
      rw [f14]
      refine pw_bd (hs x9 x13 v9 v13) ?_
      rintro x15 X16 ⟨f16, v15⟩
      rw [f16]
      refine pw_ite (fun z => pw_eq (fun X22 f22 => ?_)) (fun z => g1 (fun z2 => z (v15.mpr z2)))
      rw [f22]
      have hO22 : ONr X5 (wI (wI Y 87 j (Y.1 87 j + 1)) 70 7 g) := hO5.cg rfl rfl (fun k q => wI_ne _ _ _ _ _ _ (by omega))
      refine pw_bd (l_failW hO22) ?_
      rintro _ X23 f23
      rw [f23]
      exact g0 (v15.mp z)
    refine pw_bd hsuch ?_
    rintro x7 X8 ⟨e8, hm, hcl⟩
    rw [e8]
    refine pw_ite (fun z7 => pw_eq (fun X20 e20 => ?_)) (fun z7 => ?_)
    · have hO20 : ONr X20 (wI Y 87 j (Y.1 87 j + 1)) := by
        rw [e20]
        exact hO5.cg (wI_ne _ _ _ _ _ _ (by omega)) (wI_ne _ _ _ _ _ _ (by omega)) (fun _ _ => rfl)
      refine pw_bd (n_ends hO20) ?_
      rintro _ X21 e21
      have hbl := ASQ.blame (r := r) (c := c) (y := y) (g := g) (p := p) hB5 hS5 hO5
      rw [← e20, ← e21] at hbl
      have hOF : OFr X21 (wI (wI (wI (wI (wI Y 87 j (Y.1 87 j + 1)) 70 7 g) 70 4 0) 70 5 3) 70 6 p) := by
        rcases hbl.2.2.2 with q | ⟨q, _⟩
        · exact q
        · have := q.1.1
          rw [e21, wI_ne _ _ _ _ _ _ (by omega), wI_at] at this
          exact absurd this (by decide)
      have hJ21 := hbl.2.1
      have kd21 : KTo X21 k1 d1 := kd15.1.kx hB5.2.1.1 hJ21.2.2
      have fin : pw (f_asks_166 (f_asks_9 N) p1 g t p k k1 X21) (fun _ X1 => pw (g_Running_ask_10 (N + 1) y g t p a b 0 Y) (fun y1 Y1 => ASQ X Y r ks c y1 X1 Y1)) := by
        unfold f_asks_166
        refine pw_mono (n_167off hJ21.1 hJ21.2.1 kd21 (by omega) N) (fun _ X1 q => ?_)
        have hq := (hbl.fq hOF q.1 q.2).pre hXF hCF hKX hHG
        refine cls x7 _ hcl (fun _ => ?_) (fun z => absurd z7 z)
        have hBz : RBk e X1 (wI (wI (wI (wI (wI Y 87 j (Y.1 87 j + 1)) 70 7 g) 70 4 0) 70 5 3) 70 6 p) ks := hB.cf ⟨hq.2.1.1, hq.2.1.2.1⟩ hq.1.2
        have hOFz : OFr X1 (wI (wI (wI (wI (wI Y 87 j (Y.1 87 j + 1)) 70 7 g) 70 4 0) 70 5 3) 70 6 p) := by
          rcases hq.2.2.2 with z | ⟨z, _⟩
          · exact z
          · exact absurd hOF.2.1 z.2.1
        exact l_ask124 hBz (by decide) (by decide) kd1.2 N ⟨fun _ _ => hq, fun zz a2 _ _ => l_askO hOFz N hq⟩
      unfold f_asks_144
      refine pw_ck (fun _ => pw_eq (fun x9 e9 => pw_ite (fun _ => fin) (fun _ => pw_bd (n_isOn0 hOF) ?_)))
      rintro z18 X19 ⟨e19, e18⟩
      rw [e19, e18]
      exact pw_pos (by decide) fin
    · refine pw_mono (n_askB A5 hi kd15 ⟨t5, t6, t7⟩ n2 (hm z7) hg ht N) (fun _ X1 q => ?_)
      refine cls x7 _ hcl (fun z => absurd z z7) (fun _ => ?_)
      exact l_ask124 hB5 (by decide) (by decide) kd1.2 N ⟨fun z1 z2 => (q.1 z1 z2).pre hXF hCF hKX hHG, fun zz a2 hz ha => pw_mono (q.2 zz a2 N hz ha) (fun y1 Y1 g => g.pre hXF hCF hKX hHG)⟩
  · -- neither
    have n3 : ¬ d = [3] := fun z => c7 (q3.mpr z)
    have n13 : ¬ d1 = [3] := fun z => c8 (q5.mpr z)
    obtain ⟨f1, f2, f3⟩ := hfit nd n3 n13
    have hs : sot d = sot d1 ∧ ((sot d = 3 ∧ (X5.1 60 c).toInt = 3) ∨ (sot d = 4 ∧ tkn d = tkn d1 ∧ (X5.1 60 c).toInt = 4)) := by
      rw [r5]
      refine ⟨f1, ?_⟩
      by_cases z : sot d = 3
      · exact Or.inl ⟨z, hty.1 z⟩
      · have z4 : sot d = 4 := by omega
        exact Or.inr ⟨z4, f3, hty.2 z4⟩
    refine pw_bd (n_wraps (p := p) hB5 hS5 hO5 hH5 hi hv5 kd5 kd15 hs hg ht) ?_
    rintro _ X6 h6
    refine pw_mono (n_ask0 N) (fun _ X1 eX => ?_)
    rw [eX]
    refine l_ask2 hO (by decide) nab (fun z => n3 (q4.mp z)) (fun z => n13 (q6.mp z)) hg ht _ (fun j1 hj1 => ?_)
    have ej : j1 = j := by omega
    rw [ej]
    exact pw_mono h6 (fun y1 Y1 q => q.pre hXF hCF hKX hHG)
end ASK4S
