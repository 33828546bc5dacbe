/-! the reference reads let and if, and what begins an expression -/
section RIF
variable {ch : Tx} {n q : Nat} {X Y Z X0 : St} {o : Int} {sc : List Nm} {j N N1 s N0 : Nat} {Q : Int32 → St → Prop} {c c1 : List Ins}
theorem b_let {E : EF} (hE : SEq ch n (o + 1) E) (h : XS ch n X q o sc (j + 1) N) (hm : (X.1 0 23).toInt = 0) (hM : NMr ch X N c) (ho : 0 ≤ o ∧ o ≤ 40) (hty : ty ch q = 262) (H : HH (DQ Q) (CEq ch n X o sc j N Q) (sLet ch E o sc q c)) : pw (f_beginsLet X) (fun _ Z => pr Z Q) := by
  have l58 : (58 : Int32).toInt = 58 := by decide
  unfold sLet at H
  unfold f_beginsLet
  refine pw_let ?_
  refine pw_bd (x_make h 17 _) ?_
  rintro x2 X3 ⟨⟨hr, hi⟩, g3, m3⟩
  refine pw_bd (x_nests g3 ho) ?_
  rintro _ X4 (⟨ho1, g4, t4⟩ | ⟨ho1, hd⟩)
  · have H := H.b.en ⟨hty, ho1⟩
    refine pw_bd (q_well g4.w0) ?_
    rintro x5 X6 ⟨e6, h5⟩
    rw [e6]
    refine pw_neg h5 ?_
    refine pw_bd (x_next g4) ?_
    rintro _ X7 ⟨g7, t7⟩
    refine pw_let ?_
    have sort : (X7.1 0 7).toInt = 1 ↔ ty ch (nx ch q) = 258 := by
      obtain ⟨_, _, t⟩ := g7.tk
      omega
    refine pw_ite (fun c8 => ?_) (fun c8 => ?_)
    · have y := sort.mp c8
      have H := H.b.wa y
      have told : X7.2.1 0 47 = lN (p6 (nm ch (nx ch q))) := by
        obtain ⟨_, _, t⟩ := g7.tk
        rcases t with t | t | t | t | t | t | t
        · omega
        · exact t.2.2.1
        all_goals omega
      have hw := ty_word g7.tx (q := nx ch q) ⟨by omega, by omega, by omega⟩
      have hl : LT (nm ch (nx ch q)) ∧ (nm ch (nx ch q)).length ≤ 8 := ⟨nm_lt g7.tx _, hw.2.2.1⟩
      refine pw_let ?_
      rw [hi]
      refine pw_ck (fun _ => pw_eq (fun X10 e10 => ?_))
      have g10 : XS ch n X10 (nx ch q) (o + 1) sc (j + 1) (N + 1) := by rw [e10]; exact g7.wL (by omega)
      refine pw_bd (x_next g10) ?_
      rintro _ X11 ⟨g11, t11⟩
      refine pw_ck (fun _ => pw_eq (fun X12 e12 => ?_))
      refine pw_ck (fun _ => pw_eq (fun X13 e13 => ?_))
      have g13 : XS ch n X13 (nx ch (nx ch q)) (o + 1) sc (j + 1) (N + 1) := by rw [e13, e12]; exact (g11.wI (by omega)).wI (by omega)
      have tt := t4.tr t7
      have M0 : NMr ch X13 N c := by
        rw [e13, e12]
        refine ((NMr.tn ?_ t11).wI (by omega)).wI (by omega)
        rw [e10]
        refine NMr.wL (NMr.tn ?_ tt) (by omega)
        exact hM.cg (fun i hi => m3.1 20 i (by omega) (by omega)) (fun i hi => m3.2.1 29 i (by omega)) (fun i hi => m3.1 21 i (by omega) (by omega))
      have c20 : (X13.1 20 N).toInt = 17 := by
        rw [e13, wI_ne _ _ _ _ _ _ (by omega), e12, wI_ne _ _ _ _ _ _ (by omega), t11.r 20 N (by omega), e10]
        show (X7.1 20 N).toInt = 17
        rw [tt.r 20 N (by omega), m3.2.2.1]
        decide
      have K0 : KP X X13 (j + 1) N sc.length := by
        rw [e13, e12]
        refine ((KP.tn ?_ t11).wI (by unfold KPs; omega)).wI (by unfold KPs; omega)
        rw [e10]
        exact ((KP.rf.mk m3 (Nat.le_refl _)).tn tt).wL (by omega)
      have c23 : (X13.1 0 23).toInt = 0 := by
        rw [e13, wI_ne _ _ _ _ _ _ (by omega), e12, wI_ne _ _ _ _ _ _ (by omega), t11.c 23 (by decide), e10]
        show (X7.1 0 23).toInt = 0
        rw [tt.c 23 (by decide), m3.1 0 23 (by omega) (by omega)]
        exact hm
      have c29 : X13.2.1 29 N = lN (p6 (nm ch (nx ch q))) := by
        rw [e13, e12]
        show X11.2.1 29 N = _
        rw [t11.2.1 29 N (by omega), e10, wL_at]
        exact told
      have L0 : LEq ch n X X13 (nx ch (nx ch q)) o sc j N c (nm ch (nx ch q)) := ⟨g13, c23, M0.up (by omega), K0, c29⟩
      have nz : ¬ (0 : Int) = 4 := by decide
      have n34 : ¬ (34 : Int) = 4 := by decide
      have n5 : ¬ (5 : Int) = 4 := by decide
      refine pw_bd (q_isSign g13.1 (by decide)) ?_
      rintro x14 X15 ⟨e15, h14⟩
      rw [e15]
      rw [l58] at h14
      have H := H.b
      unfold sColon at H
      refine pw_ite (fun c14 => ?_) (fun c14 => ?_)
      · have H := (H.q (h14.mp c14)).s
        exact b_let91 (F := fun x => x ++ [((5, (sc.length : Int), plc x (c.length + 1), []) : Ins)]) hE (fun c p => NPl.snoc n5) (fun p => NPl.snoc nz) hl hr ⟨ho.1, ho1⟩ L0 H
      · have y58 : ty ch (nx ch (nx ch q)) = 58 := Classical.byContradiction (fun z => c14 (h14.mpr z))
        have H := (H.p y58).b
        refine pw_bd (x_next g13) ?_
        rintro _ X18 ⟨g18, t18⟩
        refine pw_bd (pw_and (x_kind g18 ⟨by omega, by omega⟩) fw_kind) ?_
        rintro x19 X20 ⟨(⟨a, ea, hz, g20⟩ | ⟨ea, hd⟩), f20⟩
        · have H := (H.2 a ea).s
          refine pw_ck (fun _ => pw_eq (fun X21 e21 => ?_))
          have L1 : LEq ch n X X21 a.1 o sc j N c (nm ch (nx ch q)) := by
            refine ⟨by rw [e21]; exact g20.wI (by omega), ?_, ?_, ?_, ?_⟩
            · rw [e21, wI_ne _ _ _ _ _ _ (by omega), f20.1 0 23 (fq16 (by omega)), t18.c 23 (by decide)]
              exact c23
            · rw [e21]
              exact (((M0.up (by omega)).tn t18).fk f20).wI (by omega)
            · rw [e21]
              exact ((K0.tn t18).fk f20).wI (by unfold KPs; omega)
            · rw [e21]
              show X20.2.1 29 N = _
              rw [f20.2.1 29 N (fq16 (by omega)), t18.2.1 29 N (by omega)]
              exact c29
          exact b_let91 (F := fun x => (x ++ [(34, 0, plc x (c.length + 1), a.2)]) ++ [((5, (sc.length : Int), plc (x ++ [(34, 0, plc x (c.length + 1), a.2)]) (c.length + 1), []) : Ins)]) hE (fun c p => (NPl.snoc n5).trans (NPl.snoc n34)) (fun p => NPl.snoc nz) hl hr ⟨ho.1, ho1⟩ L1 H
        · have hQ := H.1 ea
          refine pw_ck (fun _ => pw_eq (fun X21 e21 => ?_))
          exact pw_mono (uw_beginsLet_91 (by rw [e21]; exact wrX_w hd (by omega))) (fun _ _ d => pr_dd d hQ)
    · have hQ := H.b.wa0 (fun z => c8 (sort.mpr z))
      exact pw_bd (q_stray X7) (fun _ _ d => pw_ret (pr_dd d hQ))
  · have hQ := H.b.en0 (fun z => ho1 z.2)
    refine pw_bd (q_isWell X4) ?_
    rintro x5 X6 ⟨e6, h5⟩
    rw [e6]
    exact pw_pos (h5.mpr hd) (pw_ret (pr_dd hd hQ))
/-- then, else -/
theorem b_step {E : EF} (hE : SEq ch n (o + 1) E) {r x2 v k' : Int32} {e t N2 q1 : Nat} {vi : Int} (he : e = 23 ∨ e = 24) (hvi : v.toInt = vi) (hv : 0 ≤ v.toInt ∧ v.toInt ≤ 14) (hk : k'.toInt = 4 ∨ k'.toInt = 5) (hi : ix r = t) (gY : XS ch n Y q1 (o + 1) sc (j + 1 + 1) N2) (mY : NMr ch Y N2 c) (kY : KP X Y (j + 1) N sc.length) (y36 : Y.1 36 (j + 1) = r) (hN : N ≤ N2) (ht : N ≤ t ∧ t < N2) (ho : 0 ≤ o ∧ o < 40) {c2 : List Ins} (hc : ∀ p, NPl c2 p ↔ NPl c p) (H : HH (DQ Q) (fun q4 => HH (DQ Q) (fun a => ∀ V (N3 t3 : Nat), XS ch n V a.1 (o + 1) sc (j + 1 + 1) N3 → NMr ch V N3 a.2 → KP X V (j + 1) N sc.length → V.1 35 (j + 1) = k' → V.1 36 (j + 1) = r → t < N3 → prE V Q) (E (o + 1) sc q4 c2)) (sWant ch (261 + vi) q1)) : pw (letV (Y.1 0 24) fun x31 => chk (inR r 3100) (letV (wI Y e (ix r) x31) fun X32 => bnd (f_word v X32) fun _ X33 => chk (inR x2 400) (letV (wI X33 35 (j + 1) k') fun X34 => letV (wI X34 0 23 (0 : Int32)) fun X35 => some ((0 : Int32), X35)))) (fun _ Z => pr Z Q) := by
  refine pw_let (pw_ck (fun _ => pw_eq (fun X32 e32 => ?_)))
  rw [hi] at e32
  have g32 : XS ch n X32 q1 (o + 1) sc (j + 1 + 1) N2 := by rw [e32]; exact gY.wI (by omega)
  refine pw_bd (x_word g32 hv) ?_
  rintro _ X33 (⟨hw, g33, t33⟩ | ⟨hw, hd⟩)
  · rw [hvi] at hw
    have H := H.wa hw
    refine pw_ck (fun _ => pw_eq (fun X34 e34 => pw_eq (fun X35 e35 => pw_ret ?_)))
    have g35 : XS ch n X35 (nx ch q1) (o + 1) sc (j + 1 + 1) N2 := by rw [e35, e34]; exact (g33.wI (by omega)).wI (by omega)
    have f35 : X35.1 35 (j + 1) = k' := by rw [e35, wI_ne _ _ _ _ _ _ (by omega), e34, wI_at]
    have f36 : X35.1 36 (j + 1) = r := by rw [e35, wI_ne _ _ _ _ _ _ (by omega), e34, wI_ne _ _ _ _ _ _ (by omega), t33.r 36 _ (by omega), e32, wI_ne _ _ _ _ _ _ (by omega)]; exact y36
    have m35 : NMr ch X35 N2 c2 := by
      rw [e35, e34]
      refine (((NMr.tn ?_ t33).wI (by omega)).wI (by omega)).cd hc
      rw [e32]
      exact mY.wI (by omega)
    have k35 : KP X X35 (j + 1) N sc.length := by
      rw [e35, e34]
      refine ((KP.tn ?_ t33).wI (by unfold KPs; omega)).wI (by unfold KPs; omega)
      rw [e32]
      exact kY.wI (by unfold KPs; omega)
    refine hE sc (nx ch q1) c2 (j + 1) N2 X35 Q g35 (by rw [e35, wI_at]; rfl) ⟨⟨by rw [f35]; omega, by rw [f35]; omega⟩, fun e => by rw [f35] at e; omega, fun e => by rw [f35] at e; omega⟩ m35 (by omega) (by omega) (H.m (fun a H => ?_))
    rintro V ⟨N3, t3, gV, mV, kV, hV, h1, h2⟩
    exact H V N3 t3 gV mV (k35.tr (kV.mono (by omega) hN (Nat.le_refl _))) (by rw [kV.1 35 (j + 1) (by unfold KPs; omega)]; exact f35) (by rw [kV.1 36 (j + 1) (by unfold KPs; omega)]; exact f36) (by omega)
  · rw [hvi] at hw
    have hQ := H.wa0 hw
    refine pw_ck (fun _ => pw_eq (fun X34 e34 => pw_eq (fun X35 e35 => pw_ret ?_)))
    exact pr_dd (by rw [e35, e34]; exact wrX_w (wrX_w hd (by omega)) (by omega)) hQ
theorem b_if {E : EF} (hE : SEq ch n (o + 1) E) {p1 : Int32} (h : XS ch n X q o sc (j + 1) N) (hm : (X.1 0 23).toInt = 0) (hM : NMr ch X N c) (ho : 0 ≤ o ∧ o ≤ 40) (hty : ty ch q = 264) (H : HH (DQ Q) (CEq ch n X o sc j N Q) (sIf ch E o sc q c)) : pw (bnd (f_make (16 : Int32) p1 X) fun x13 X14 => bnd (f_nests X14) fun _ X15 => bnd (f_next X15) fun _ X16 => bnd (f_enter (3 : Int32) x13 X16) fun _ X17 => some ((0 : Int32), X17)) (fun _ Z => pr Z Q) := by
  have k0 : ¬ (0 : Int) = 4 := by decide
  have k28 : ¬ (28 : Int) = 4 := by decide
  have k6 : ¬ (6 : Int) = 4 := by decide
  have k36 : ¬ (36 : Int) = 4 := by decide
  have k7 : ¬ (7 : Int) = 4 := by decide
  have k8 : ¬ (8 : Int) = 4 := by decide
  have l4 : (4 : Int32).toInt = 4 := by decide
  have l5 : (5 : Int32).toInt = 5 := by decide
  unfold sIf at H
  refine pw_bd (x_make h 16 p1) ?_
  rintro x13 X14 ⟨⟨hr, hi⟩, g14, m14⟩
  refine pw_bd (x_nests g14 ho) ?_
  rintro _ X15 (⟨ho1, g15, t15⟩ | ⟨ho1, hd⟩)
  · have H := H.b.en ⟨hty, ho1⟩
    refine pw_bd (x_next g15) ?_
    rintro _ X16 ⟨g16, t16⟩
    refine pw_bd (x_enter g16 3 x13) ?_
    rintro _ X17 ⟨g17, n17⟩
    refine pw_ret ?_
    have tt := t15.tr t16
    have k17 : KP X X17 (j + 1) N sc.length := ((KP.rf.mk m14 (Nat.le_refl _)).tn tt).en n17 (Nat.le_refl _)
    have m17 : NMr ch X17 (N + 1) (c ++ [(0, 1, (pl ch q : Int), [])]) := (((hM.mk m14 (by decide)).tn tt).en n17).cd (fun p => NPl.snoc k0)
    have f35 : X17.1 35 (j + 1) = 3 := n17.2.2.1
    have f36 : X17.1 36 (j + 1) = x13 := n17.2.2.2.1
    refine hE sc (nx ch q) _ (j + 1) (N + 1) X17 Q g17 (by rw [n17.1 0 23 (by omega) (by omega), tt.c 23 (by decide), m14.1 0 23 (by omega) (by omega)]; exact hm) ⟨⟨by rw [f35]; decide, by rw [f35]; decide⟩, fun e => by rw [f35] at e; exact absurd e (by decide), fun e => by rw [f35] at e; exact absurd e (by decide)⟩ m17 (by omega) (by omega) (H.b.m (fun r H => ?_))
    rintro Y ⟨N2, t2, gY, mY, kY, hY, h1, h2⟩
    have y35 : Y.1 35 (j + 1) = 3 := by rw [kY.1 35 (j + 1) (by unfold KPs; omega)]; exact f35
    have y36 : Y.1 36 (j + 1) = x13 := by rw [kY.1 36 (j + 1) (by unfold KPs; omega)]; exact f36
    have kk : KP X Y (j + 1) N sc.length := k17.tr (kY.mono (by omega) (by omega) (Nat.le_refl _))
    unfold prE f_endsOne
    refine pw_let (pw_eq (fun xt et => ?_))
    rw [(gY.tp et).2]
    refine pw_ck (fun _ => pw_let (pw_ck (fun _ => pw_let ?_)))
    rw [y35, y36]
    refine pw_neg (by decide) (pw_neg (by decide) (pw_neg (by decide) (pw_pos (by decide) ?_)))
    refine b_step (X := X) (N := N) (t := N) (vi := 4) hE (Or.inl rfl) l4 (by decide) (Or.inl l4) hi gY mY kk y36 (by omega) ⟨Nat.le_refl _, by omega⟩ ⟨ho.1, ho1⟩ (fun p => (NPl.snoc k6).trans (NPl.snoc k28)) (H.b.m (fun q2 H => H.b.m (fun s H => ?_)))
    intro V N3 t3 gV mV kV v35 v36 htN
    unfold prE f_endsOne
    refine pw_let (pw_eq (fun xt et => ?_))
    rw [(gV.tp et).2]
    refine pw_ck (fun _ => pw_let (pw_ck (fun _ => pw_let ?_)))
    rw [v35, v36]
    refine pw_neg (by decide) (pw_neg (by decide) (pw_neg (by decide) (pw_neg (by decide) (pw_pos (by decide) ?_))))
    refine b_step (X := X) (N := N) (t := N) (vi := 5) hE (Or.inr rfl) l5 (by decide) (Or.inr l5) hi gV mV kV v36 (by omega) ⟨Nat.le_refl _, by omega⟩ ⟨ho.1, ho1⟩ (fun p => NPl.setx.trans ((NPl.snoc k7).trans (NPl.snoc k36))) (H.b.m (fun q3 H => H.b.m (fun a H => ?_)))
    have H := H.s
    intro W N4 t4 gW mW kW w35 w36 htN2
    unfold prE f_endsOne
    refine pw_let (pw_eq (fun xt et => ?_))
    rw [(gW.tp et).2]
    refine pw_ck (fun _ => pw_let (pw_ck (fun _ => pw_let ?_)))
    rw [w35, w36]
    refine pw_neg (by decide) (pw_neg (by decide) (pw_neg (by decide) (pw_neg (by decide) (pw_neg (by decide) (pw_pos (by decide) ?_)))))
    refine pw_let ?_
    rw [hi]
    refine pw_ck (fun _ => pw_eq (fun X44 e44 => ?_))
    refine pw_bd (b_leave (X := X) (N := N) (t := N) (N1 := N4) (by rw [e44]; exact gW.wI (by omega)) ?_ ?_ hr ⟨Nat.le_refl _, by omega⟩ ⟨ho.1, by omega⟩ H) (fun _ _ d => pw_ret d)
    · rw [e44]
      exact (mW.wI (by omega)).cd (fun p => NPl.setx.trans ((NPl.snoc k8).trans (NPl.snoc k36)))
    · rw [e44]
      exact kW.wI (by unfold KPs; omega)
  · have hQ := H.b.en0 (fun z => ho1 z.2)
    exact pw_bd (uw_next hd) (fun _ _ d => pw_bd (uw_enter d) (fun _ _ d => pw_ret (pr_dd d hQ)))
end RIF
