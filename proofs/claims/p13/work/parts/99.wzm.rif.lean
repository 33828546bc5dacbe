/-! the reference reads let and if, and what begins an expression -/
section RIF
variable {ch : Tx} {n q : Nat} {X Y Z X0 : St} {o : Int} {sc : List Nm} {j N N1 s N0 : Nat} {Q : Int32 → St → Prop} {c c1 : List Ins}
theorem plh_app (e l : List Ins) (h : ¬ e = []) : plh (e ++ l) = plh e := by
  cases e with
  | nil => exact absurd rfl h
  | cons a e => rfl
theorem b_let {E : EF} (hE : SEq ch n (o + 1) E) (h : XS ch n X q o sc (j + 1) N) (hm : (X.1 0 23).toInt = 0) (hM : NMr ch X N c) (ho : 0 ≤ o ∧ o ≤ 40) (hty : ty ch q = 262) (H : HH (DQ Q) (CEq ch n X o sc j N c Q) (sLet ch E o sc q c)) : pw (f_beginsLet X) (fun _ Z => pr Z Q) := by
  have l58 : (58 : Int32).toInt = 58 := by decide
  unfold sLet at H
  unfold f_beginsLet
  refine pw_let ?_
  refine pw_bd (pw_and (x_make h 17 _) (x_make21 h 17 _)) ?_
  rintro x2 X3 ⟨⟨⟨hr, hi⟩, g3, m3⟩, p3⟩
  refine pw_bd (x_nests g3 ho) ?_
  rintro _ X4 (⟨ho1, g4, t4⟩ | ⟨ho1, hd⟩)
  · have H := H.b.en ⟨hty, ho1⟩
    refine pw_bd (q_well g4.w0) ?_
    rintro x5 X6 ⟨e6, h5⟩
    rw [e6]
    refine pw_neg h5 ?_
    refine pw_bd (x_next g4) ?_
    rintro _ X7 ⟨g7, t7⟩
    refine pw_let ?_
    have sort : (X7.1 0 7).toInt = 1 ↔ ty ch (nx ch q) = 258 := by
      obtain ⟨_, _, t⟩ := g7.tk
      omega
    refine pw_ite (fun c8 => ?_) (fun c8 => ?_)
    · have y := sort.mp c8
      have H := H.b.wa y
      have told : X7.2.1 0 47 = lN (p6 (nm ch (nx ch q))) := by
        obtain ⟨_, _, t⟩ := g7.tk
        rcases t with t | t | t | t | t | t | t
        · omega
        · exact t.2.2.1
        all_goals omega
      have hw := ty_word g7.tx (q := nx ch q) ⟨by omega, by omega, by omega⟩
      have hl : LT (nm ch (nx ch q)) ∧ (nm ch (nx ch q)).length ≤ 8 := ⟨nm_lt g7.tx _, hw.2.2.1⟩
      refine pw_let ?_
      rw [hi]
      refine pw_ck (fun _ => pw_eq (fun X10 e10 => ?_))
      have g10 : XS ch n X10 (nx ch q) (o + 1) sc (j + 1) (N + 1) := by rw [e10]; exact g7.wL (by omega)
      refine pw_bd (x_next g10) ?_
      rintro _ X11 ⟨g11, t11⟩
      refine pw_ck (fun _ => pw_eq (fun X12 e12 => ?_))
      refine pw_ck (fun _ => pw_eq (fun X13 e13 => ?_))
      have g13 : XS ch n X13 (nx ch (nx ch q)) (o + 1) sc (j + 1) (N + 1) := by rw [e13, e12]; exact (g11.wI (by omega)).wI (by omega)
      have tt := t4.tr t7
      have M0 : NMr ch X13 N c := by
        rw [e13, e12]
        refine ((NMr.tn ?_ t11).wI (by omega)).wI (by omega)
        rw [e10]
        refine NMr.wL (NMr.tn ?_ tt) (by omega)
        exact hM.cg (fun i hi => m3.1 20 i (by omega) (by omega)) (fun i hi => m3.2.1 29 i (by omega)) (fun i hi => m3.1 21 i (by omega) (by omega))
      have c20 : (X13.1 20 N).toInt = 17 := by
        rw [e13, wI_ne _ _ _ _ _ _ (by omega), e12, wI_ne _ _ _ _ _ _ (by omega), t11.r 20 N (by omega), e10]
        show (X7.1 20 N).toInt = 17
        rw [tt.r 20 N (by omega), m3.2.2.1]
        decide
      have K0 : KP X X13 (j + 1) N sc.length := by
        rw [e13, e12]
        refine ((KP.tn ?_ t11).wI (by unfold KPs; omega)).wI (by unfold KPs; omega)
        rw [e10]
        exact ((KP.rf.mk m3 (Nat.le_refl _)).tn tt).wL (by omega)
      have c23 : (X13.1 0 23).toInt = 0 := by
        rw [e13, wI_ne _ _ _ _ _ _ (by omega), e12, wI_ne _ _ _ _ _ _ (by omega), t11.c 23 (by decide), e10]
        show (X7.1 0 23).toInt = 0
        rw [tt.c 23 (by decide), m3.1 0 23 (by omega) (by omega)]
        exact hm
      have c29 : X13.2.1 29 N = lN (p6 (nm ch (nx ch q))) := by
        rw [e13, e12]
        show X11.2.1 29 N = _
        rw [t11.2.1 29 N (by omega), e10, wL_at]
        exact told
      have lc : (c ++ [((0, 1, (pl ch q : Int), []) : Ins)]).length = c.length + 1 := by rw [List.length_append, List.length_singleton]
      have c21 : iv X13 21 N = (pl ch q : Int) := by
        unfold iv
        rw [e13, wI_ne _ _ _ _ _ _ (by omega), e12, wI_ne _ _ _ _ _ _ (by omega), t11.r 21 N (by omega), e10]
        show (X7.1 21 N).toInt = _
        rw [tt.r 21 N (by omega), p3]
        exact h.tk.2.1
      have c25 : iv X13 25 N = -1 := by
        unfold iv
        rw [e13, wI_at]
        decide
      have L0 : LEq ch n X X13 (nx ch (nx ch q)) o sc j N c (nm ch (nx ch q)) (pl ch q : Int) none := ⟨g13, c23, M0.up (by omega), K0, c29, ⟨c20, c21⟩, c25⟩
      have nz : ¬ (0 : Int) = 4 := by decide
      have n34 : ¬ (34 : Int) = 4 := by decide
      have n5 : ¬ (5 : Int) = 4 := by decide
      refine pw_bd (q_isSign g13.1 (by decide)) ?_
      rintro x14 X15 ⟨e15, h14⟩
      rw [e15]
      rw [l58] at h14
      have H := H.b
      unfold sColon at H
      refine pw_ite (fun c14 => ?_) (fun c14 => ?_)
      · have H := (H.q (h14.mp c14)).s
        exact b_let91 (F := fun x => x ++ [((5, (sc.length : Int), plc x (c.length + 1), []) : Ins)]) hE (fun c p => NPl.snoc n5) rfl (fun e he => by
          show _ ++ [((5, (sc.length : Int), plc ((c ++ [((0, 1, (pl ch q : Int), []) : Ins)]) ++ e) (c.length + 1), []) : Ins)] = _
          rw [← lc, plc_app]
          rfl) hl hr ⟨ho.1, ho1⟩ L0 H
      · have y58 : ty ch (nx ch (nx ch q)) = 58 := Classical.byContradiction (fun z => c14 (h14.mpr z))
        have H := (H.p y58).b
        refine pw_bd (x_next g13) ?_
        rintro _ X18 ⟨g18, t18⟩
        refine pw_bd (pw_and (x_kind g18 ⟨by omega, by omega⟩) fw_kind) ?_
        rintro x19 X20 ⟨(⟨a, ea, hz, g20, kg20, kd20⟩ | ⟨ea, hd⟩), f20⟩
        · have H := (H.2 a ea).s
          refine pw_ck (fun _ => pw_eq (fun X21 e21 => ?_))
          have hx : x19.toInt = ((x19.toInt.toNat : Nat) : Int) := by omega
          have f21 : ∀ b, 20 ≤ b ∧ b ≤ 28 → ¬ b = 25 → iv X21 b N = iv X13 b N := fun b hb hn => by unfold iv; rw [e21, wI_ne _ _ _ _ _ _ (by omega), f20.1 b N (fq16 (by omega)), t18.r b N (by omega)]
          have L1 : LEq ch n X X21 a.1 o sc j N c (nm ch (nx ch q)) (pl ch q : Int) (some a.2) := by
            refine ⟨by rw [e21]; exact g20.wI (by omega), ?_, ?_, ?_, ?_, ⟨by rw [f21 20 (by omega) (by omega)]; exact c20, by rw [f21 21 (by omega) (by omega)]; exact c21⟩, ix x19, ?_, ?_⟩
            · rw [e21, wI_ne _ _ _ _ _ _ (by omega), f20.1 0 23 (fq16 (by omega)), t18.c 23 (by decide)]
              exact c23
            · rw [e21]
              exact (((M0.up (by omega)).tn t18).fk f20).wI (by omega)
            · rw [e21]
              exact ((K0.tn t18).fk f20 kg20).wI (by unfold KPs; omega)
            · rw [e21]
              show X20.2.1 29 N = _
              rw [f20.2.1 29 N (fq16 (by omega)), t18.2.1 29 N (by omega)]
              exact c29
            · unfold iv
              rw [e21, wI_at, ixn hx]
              exact hx
            · exact KDk.oj g20.kj (KXq.of (fun b k q => by rw [e21, wI_ne _ _ _ _ _ _ (by omega)])) _ _ kd20
          exact b_let91 (F := fun x => (x ++ [(34, 0, plc x (c.length + 1), a.2)]) ++ [((5, (sc.length : Int), plc (x ++ [(34, 0, plc x (c.length + 1), a.2)]) (c.length + 1), []) : Ins)]) hE (fun c p => (NPl.snoc n5).trans (NPl.snoc n34)) rfl (fun e he => by
            show (_ ++ [((34, 0, plc ((c ++ [((0, 1, (pl ch q : Int), []) : Ins)]) ++ e) (c.length + 1), a.2) : Ins)]) ++ [((5, (sc.length : Int), plc (((c ++ [((0, 1, (pl ch q : Int), []) : Ins)]) ++ e) ++ [((34, 0, plc ((c ++ [((0, 1, (pl ch q : Int), []) : Ins)]) ++ e) (c.length + 1), a.2) : Ins)]) (c.length + 1), []) : Ins)] = _
            rw [← lc, plc_app, List.append_assoc _ e, plc_app, plh_app _ _ he]
            simp only [tlk, List.append_assoc, List.cons_append, List.nil_append]) hl hr ⟨ho.1, ho1⟩ L1 H
        · have hQ := H.1 ea
          refine pw_ck (fun _ => pw_eq (fun X21 e21 => ?_))
          exact pw_mono (uw_beginsLet_91 (by rw [e21]; exact wrX_w hd (by omega))) (fun _ _ d => pr_dd d hQ)
    · have hQ := H.b.wa0 (fun z => c8 (sort.mpr z))
      exact pw_bd (q_stray X7) (fun _ _ d => pw_ret (pr_dd d hQ))
  · have hQ := H.b.en0 (fun z => ho1 z.2)
    refine pw_bd (q_isWell X4) ?_
    rintro x5 X6 ⟨e6, h5⟩
    rw [e6]
    exact pw_pos (h5.mpr hd) (pw_ret (pr_dd hd hQ))
/-- what a piece read leaves, but where it is put down -/
def STq (Y V : St) (e t N2 : Nat) : Prop := (∀ b k, 20 ≤ b ∧ b ≤ 28 → k < N2 → ¬ (b = e ∧ k = t) → V.1 b k = Y.1 b k) ∧ (∀ k, k < N2 → V.2.1 29 k = Y.2.1 29 k) ∧ KGq Y V ∧ iv V e t = (Y.1 0 24).toInt
theorem OM.st {V : St} {e t N2 lo hi u i : Nat} {d : List Ins} (h : OM ch Y lo hi u i d) (g : STq Y V e t N2) (hX : KJq Y) (hh : hi ≤ N2) (ht : t < lo ∨ hi ≤ t) : OM ch V lo hi u i d := h.cg ⟨fun b k hb k1 k2 _ => g.1 b k hb (by omega) (by omega), fun k _ k2 => g.2.1 k (by omega), KDk.oj hX g.2.2.1.1⟩
/-- then, else -/
theorem b_step {E : EF} (hE : SEq ch n (o + 1) E) {r x2 v k' : Int32} {e t N2 q1 : Nat} {vi : Int} (he : e = 23 ∨ e = 24) (hvi : v.toInt = vi) (hv : 0 ≤ v.toInt ∧ v.toInt ≤ 14) (hk : k'.toInt = 4 ∨ k'.toInt = 5) (hi : ix r = t) (gY : XS ch n Y q1 (o + 1) sc (j + 1 + 1) N2) (mY : NMr ch Y N2 c) (kY : KP X Y (j + 1) N sc.length) (y36 : Y.1 36 (j + 1) = r) (hN : N ≤ N2) (ht : N ≤ t ∧ t < N2) (ho : 0 ≤ o ∧ o < 40) {c2 : List Ins} (hc : ∀ p, NPl c2 p ↔ NPl c p) (H : HH (DQ Q) (fun q4 => HH (DQ Q) (fun a => ∀ V (N3 t3 : Nat), XS ch n V a.1 (o + 1) sc (j + 1 + 1) N3 → NMr ch V N3 a.2 → KP X V (j + 1) N sc.length → V.1 35 (j + 1) = k' → V.1 36 (j + 1) = r → t < N3 → STq Y V e t N2 → (V.1 0 24).toInt = (t3 : Int) → N2 ≤ N3 → OMx ch V N2 N3 t3 c2 a.2 → prE V Q) (E (o + 1) sc q4 c2)) (sWant ch (261 + vi) q1)) : pw (letV (Y.1 0 24) fun x31 => chk (inR r 3100) (letV (wI Y e (ix r) x31) fun X32 => bnd (f_word v X32) fun _ X33 => chk (inR x2 400) (letV (wI X33 35 (j + 1) k') fun X34 => letV (wI X34 0 23 (0 : Int32)) fun X35 => some ((0 : Int32), X35)))) (fun _ Z => pr Z Q) := by
  refine pw_let (pw_ck (fun _ => pw_eq (fun X32 e32 => ?_)))
  rw [hi] at e32
  have g32 : XS ch n X32 q1 (o + 1) sc (j + 1 + 1) N2 := by rw [e32]; exact gY.wI (by omega)
  refine pw_bd (x_word g32 hv) ?_
  rintro _ X33 (⟨hw, g33, t33⟩ | ⟨hw, hd⟩)
  · rw [hvi] at hw
    have H := H.wa hw
    refine pw_ck (fun _ => pw_eq (fun X34 e34 => pw_eq (fun X35 e35 => pw_ret ?_)))
    have g35 : XS ch n X35 (nx ch q1) (o + 1) sc (j + 1 + 1) N2 := by rw [e35, e34]; exact (g33.wI (by omega)).wI (by omega)
    have f35 : X35.1 35 (j + 1) = k' := by rw [e35, wI_ne _ _ _ _ _ _ (by omega), e34, wI_at]
    have f36 : X35.1 36 (j + 1) = r := by rw [e35, wI_ne _ _ _ _ _ _ (by omega), e34, wI_ne _ _ _ _ _ _ (by omega), t33.r 36 _ (by omega), e32, wI_ne _ _ _ _ _ _ (by omega)]; exact y36
    have m35 : NMr ch X35 N2 c2 := by
      rw [e35, e34]
      refine (((NMr.tn ?_ t33).wI (by omega)).wI (by omega)).cd hc
      rw [e32]
      exact mY.wI (by omega)
    have k35 : KP X X35 (j + 1) N sc.length := by
      rw [e35, e34]
      refine ((KP.tn ?_ t33).wI (by unfold KPs; omega)).wI (by unfold KPs; omega)
      rw [e32]
      exact kY.wI (by unfold KPs; omega)
    refine hE sc (nx ch q1) c2 (j + 1) N2 X35 Q g35 (by rw [e35, wI_at]; rfl) ⟨⟨by rw [f35]; omega, by rw [f35]; omega⟩, fun e => by rw [f35] at e; omega, fun e => by rw [f35] at e; omega⟩ m35 (by omega) (by omega) (H.m (fun a H => ?_))
    rintro V ⟨N3, t3, gV, mV, kV, hV, h1, h2, hOM⟩
    have r35 : ∀ b k, 20 ≤ b ∧ b ≤ 28 → X35.1 b k = X32.1 b k := fun b k hb => by rw [e35, wI_ne _ _ _ _ _ _ (by omega), e34, wI_ne _ _ _ _ _ _ (by omega), t33.r b k (by omega)]
    have kg35 : KGq Y X35 := KGq.of (fun b k q => by rw [e35, wI_ne _ _ _ _ _ _ (by omega), e34, wI_ne _ _ _ _ _ _ (by omega), t33.1 b k (by omega), e32, wI_ne _ _ _ _ _ _ (by omega)])
    refine H V N3 t3 gV mV (k35.tr (kV.mono (by omega) hN (Nat.le_refl _))) (by rw [kV.1 35 (j + 1) (by unfold KPs; omega)]; exact f35) (by rw [kV.1 36 (j + 1) (by unfold KPs; omega)]; exact f36) (by omega) ⟨fun b k hb hk hn => ?_, fun k hk => ?_, kg35.tr kV.2.2.2, ?_⟩ hV (by omega) hOM
    · rw [kV.1 b k (by unfold KPs; omega), r35 b k hb, e32, wI_ne _ _ _ _ _ _ (by omega)]
    · rw [kV.2.1 k hk, e35, e34]
      show X33.2.1 29 k = _
      rw [t33.2.1 29 k (by omega), e32]
      rfl
    · unfold iv
      rw [kV.1 e t (by unfold KPs; omega), r35 e t (by omega), e32, wI_at]
  · rw [hvi] at hw
    have hQ := H.wa0 hw
    refine pw_ck (fun _ => pw_eq (fun X34 e34 => pw_eq (fun X35 e35 => pw_ret ?_)))
    exact pr_dd (by rw [e35, e34]; exact wrX_w (wrX_w hd (by omega)) (by omega)) hQ
theorem b_if {E : EF} (hE : SEq ch n (o + 1) E) {p1 : Int32} (hp1 : p1.toInt = (pl ch q : Int)) (h : XS ch n X q o sc (j + 1) N) (hm : (X.1 0 23).toInt = 0) (hM : NMr ch X N c) (ho : 0 ≤ o ∧ o ≤ 40) (hty : ty ch q = 264) (H : HH (DQ Q) (CEq ch n X o sc j N c Q) (sIf ch E o sc q c)) : pw (bnd (f_make (16 : Int32) p1 X) fun x13 X14 => bnd (f_nests X14) fun _ X15 => bnd (f_next X15) fun _ X16 => bnd (f_enter (3 : Int32) x13 X16) fun _ X17 => some ((0 : Int32), X17)) (fun _ Z => pr Z Q) := by
  have k0 : ¬ (0 : Int) = 4 := by decide
  have k28 : ¬ (28 : Int) = 4 := by decide
  have k6 : ¬ (6 : Int) = 4 := by decide
  have k36 : ¬ (36 : Int) = 4 := by decide
  have k7 : ¬ (7 : Int) = 4 := by decide
  have k8 : ¬ (8 : Int) = 4 := by decide
  have l4 : (4 : Int32).toInt = 4 := by decide
  have l5 : (5 : Int32).toInt = 5 := by decide
  unfold sIf at H
  have lc : (c ++ [((0, 1, (pl ch q : Int), []) : Ins)]).length = c.length + 1 := by rw [List.length_append, List.length_singleton]
  refine pw_bd (pw_and (x_make h 16 p1) (x_make21 h 16 p1)) ?_
  rintro x13 X14 ⟨⟨⟨hr, hi⟩, g14, m14⟩, p14⟩
  refine pw_bd (x_nests g14 ho) ?_
  rintro _ X15 (⟨ho1, g15, t15⟩ | ⟨ho1, hd⟩)
  · have H := H.b.en ⟨hty, ho1⟩
    refine pw_bd (x_next g15) ?_
    rintro _ X16 ⟨g16, t16⟩
    refine pw_bd (x_enter g16 3 x13) ?_
    rintro _ X17 ⟨g17, n17⟩
    refine pw_ret ?_
    have tt := t15.tr t16
    have k17 : KP X X17 (j + 1) N sc.length := ((KP.rf.mk m14 (Nat.le_refl _)).tn tt).en n17 (Nat.le_refl _)
    have m17 : NMr ch X17 (N + 1) (c ++ [(0, 1, (pl ch q : Int), [])]) := (((hM.mk m14 (by decide)).tn tt).en n17).cd (fun p => NPl.snoc k0)
    have f35 : X17.1 35 (j + 1) = 3 := n17.2.2.1
    have f36 : X17.1 36 (j + 1) = x13 := n17.2.2.2.1
    refine hE sc (nx ch q) _ (j + 1) (N + 1) X17 Q g17 (by rw [n17.1 0 23 (by omega) (by omega), tt.c 23 (by decide), m14.1 0 23 (by omega) (by omega)]; exact hm) ⟨⟨by rw [f35]; decide, by rw [f35]; decide⟩, fun e => by rw [f35] at e; exact absurd e (by decide), fun e => by rw [f35] at e; exact absurd e (by decide)⟩ m17 (by omega) (by omega) (H.b.m (fun r H => ?_))
    rintro Y ⟨N2, t2, gY, mY, kY, hY, h1, h2, e1, ee1, eo1⟩
    have y20 : iv Y 20 N = 16 := by unfold iv; rw [kY.1 20 N (by unfold KPs; omega), n17.1 20 N (by omega) (by omega), tt.r 20 N (by omega), m14.2.2.1]; decide
    have y21 : iv Y 21 N = (pl ch q : Int) := by unfold iv; rw [kY.1 21 N (by unfold KPs; omega), n17.1 21 N (by omega) (by omega), tt.r 21 N (by omega), p14]; exact hp1
    have y35 : Y.1 35 (j + 1) = 3 := by rw [kY.1 35 (j + 1) (by unfold KPs; omega)]; exact f35
    have y36 : Y.1 36 (j + 1) = x13 := by rw [kY.1 36 (j + 1) (by unfold KPs; omega)]; exact f36
    have kk : KP X Y (j + 1) N sc.length := k17.tr (kY.mono (by omega) (by omega) (Nat.le_refl _))
    unfold prE f_endsOne
    refine pw_let (pw_eq (fun xt et => ?_))
    rw [(gY.tp et).2]
    refine pw_ck (fun _ => pw_let (pw_ck (fun _ => pw_let ?_)))
    rw [y35, y36]
    refine pw_neg (by decide) (pw_neg (by decide) (pw_neg (by decide) (pw_pos (by decide) ?_)))
    refine b_step (X := X) (N := N) (t := N) (vi := 4) hE (Or.inl rfl) l4 (by decide) (Or.inl l4) hi gY mY kk y36 (by omega) ⟨Nat.le_refl _, by omega⟩ ⟨ho.1, ho1⟩ (fun p => (NPl.snoc k6).trans (NPl.snoc k28)) (H.b.m (fun q2 H => H.b.m (fun s H => ?_)))
    intro V N3 t3 gV mV kV v35 v36 htN sV hV hNV ⟨e2, ee2, eo2⟩
    unfold prE f_endsOne
    refine pw_let (pw_eq (fun xt et => ?_))
    rw [(gV.tp et).2]
    refine pw_ck (fun _ => pw_let (pw_ck (fun _ => pw_let ?_)))
    rw [v35, v36]
    refine pw_neg (by decide) (pw_neg (by decide) (pw_neg (by decide) (pw_neg (by decide) (pw_pos (by decide) ?_))))
    refine b_step (X := X) (N := N) (t := N) (vi := 5) hE (Or.inr rfl) l5 (by decide) (Or.inr l5) hi gV mV kV v36 (by omega) ⟨Nat.le_refl _, by omega⟩ ⟨ho.1, ho1⟩ (fun p => NPl.setx.trans ((NPl.snoc k7).trans (NPl.snoc k36))) (H.b.m (fun q3 H => H.b.m (fun a H => ?_)))
    have H := H.s
    intro W N4 t4 gW mW kW w35 w36 htN2 sW hW hNW ⟨e3, ee3, eo3⟩
    unfold prE f_endsOne
    refine pw_let (pw_eq (fun xt et => ?_))
    rw [(gW.tp et).2]
    refine pw_ck (fun _ => pw_let (pw_ck (fun _ => pw_let ?_)))
    rw [w35, w36]
    refine pw_neg (by decide) (pw_neg (by decide) (pw_neg (by decide) (pw_neg (by decide) (pw_neg (by decide) (pw_pos (by decide) ?_)))))
    refine pw_let ?_
    rw [hi]
    refine pw_ck (fun _ => pw_eq (fun X44 e44 => ?_))
    have s44 : STq W X44 25 N N4 := by
      refine ⟨fun b k hb _ hn => by rw [e44, wI_ne _ _ _ _ _ _ (by omega)], fun k _ => by rw [e44]; rfl, KGq.of (fun b k q => by rw [e44, wI_ne _ _ _ _ _ _ (by omega)]), ?_⟩
      unfold iv
      rw [e44, wI_at]
    have gv : ∀ b, 20 ≤ b ∧ b ≤ 28 → ¬ b = 23 → iv V b N = iv Y b N := fun b hb hn => by unfold iv; rw [sV.1 b N hb (by omega) (by omega)]
    have gw : ∀ b, 20 ≤ b ∧ b ≤ 28 → ¬ b = 24 → iv W b N = iv V b N := fun b hb hn => by unfold iv; rw [sW.1 b N hb (by omega) (by omega)]
    have g4 : ∀ b, 20 ≤ b ∧ b ≤ 28 → ¬ b = 25 → iv X44 b N = iv W b N := fun b hb hn => by unfold iv; rw [s44.1 b N hb (by omega) (by omega)]
    have i20 : iv X44 20 N = 16 := by rw [g4 20 (by omega) (by omega), gw 20 (by omega) (by omega), gv 20 (by omega) (by omega)]; exact y20
    have i21 : iv X44 21 N = (pl ch q : Int) := by rw [g4 21 (by omega) (by omega), gw 21 (by omega) (by omega), gv 21 (by omega) (by omega)]; exact y21
    have i23 : iv X44 23 N = (t2 : Int) := by rw [g4 23 (by omega) (by omega), gw 23 (by omega) (by omega), sV.2.2.2]; exact hY
    have i24 : iv X44 24 N = (t3 : Int) := by rw [g4 24 (by omega) (by omega), sW.2.2.2]; exact hV
    have i25 : iv X44 25 N = (t4 : Int) := by rw [s44.2.2.2]; exact hW
    have o1 := ((eo1.st sV gY.kj (Nat.le_refl _) (Or.inl (Nat.lt_succ_self _))).st sW gV.kj (by omega) (Or.inl (Nat.lt_succ_self _))).st s44 gW.kj (by omega) (Or.inl (Nat.lt_succ_self _))
    have o2 := (eo2.st sW gV.kj (Nat.le_refl _) (Or.inl (by omega))).st s44 gW.kj (by omega) (Or.inl (by omega))
    have o3 := eo3.st s44 gW.kj (Nat.le_refl _) (Or.inl (by omega))
    have lr : r.2.length = c.length + 1 + e1.length := by rw [ee1, List.length_append, lc]
    have q1 : plc r.2 (c.length + 1) = plh e1 := by rw [ee1, ← lc, plc_app]
    have q2 : plc (r.2 ++ [((28, 0, plh e1, []) : Ins)]) (c.length + 1) = plh e1 := by rw [ee1, ← lc, List.append_assoc _ e1, plc_app, plh_app _ _ eo1.ne]
    rw [q1, q2] at ee2 eo2 o2
    have l2 : ((r.2 ++ [((28, 0, plh e1, []) : Ins)]) ++ [((6, 0, plh e1, []) : Ins)]).length = r.2.length + 2 := by simp only [List.length_append, List.length_singleton]
    have ls : s.2.length = r.2.length + 2 + e2.length := by rw [ee2, List.length_append, l2]
    have q3 : plc s.2 (r.2.length + 2) = plh e2 := by rw [ee2, ← l2, plc_app]
    have q4 : plc (s.2 ++ [((36, 0, plh e2, []) : Ins)]) (r.2.length + 2) = plh e2 := by rw [ee2, ← l2, List.append_assoc _ e2, plc_app, plh_app _ _ eo2.ne]
    rw [q3, q4] at ee3 eo3 o3
    have l3 : (setx ((s.2 ++ [((36, 0, plh e2, []) : Ins)]) ++ [((7, 0, plh e2, []) : Ins)]) (r.2.length + 1) ((s.2.length : Int) + 2)).length = s.2.length + 2 := by rw [setx_len]; simp only [List.length_append, List.length_singleton]
    have la : a.2.length = s.2.length + 2 + e3.length := by rw [ee3, List.length_append, l3]
    have q5 : plc a.2 (s.2.length + 2) = plh e3 := by rw [ee3, ← l3, plc_app]
    have x3 : setx ((s.2 ++ [((36, 0, plh e2, []) : Ins)]) ++ [((7, 0, plh e2, []) : Ins)]) (r.2.length + 1) ((s.2.length : Int) + 2) = (r.2 ++ [(28, 0, plh e1, [])]) ++ ((6, (s.2.length : Int) + 2, plh e1, []) :: (e2 ++ [(36, 0, plh e2, []), (7, 0, plh e2, [])])) := by
      have w1 : (s.2 ++ [((36, 0, plh e2, []) : Ins)]) ++ [((7, 0, plh e2, []) : Ins)] = (r.2 ++ [(28, 0, plh e1, [])]) ++ ((6, 0, plh e1, []) :: (e2 ++ [(36, 0, plh e2, []), (7, 0, plh e2, [])])) := by
        rw [ee2]
        simp only [List.append_assoc, List.cons_append, List.nil_append]
      have w2 : r.2.length + 1 = (r.2 ++ [((28, 0, plh e1, []) : Ins)]).length := by rw [List.length_append, List.length_singleton]
      rw [w1, w2, setx_app]
      rfl
    have hO : ∃ d, setx ((a.2 ++ [((36, 0, plc a.2 (s.2.length + 2), []) : Ins)]) ++ [((8, 0, plc (a.2 ++ [((36, 0, plc a.2 (s.2.length + 2), []) : Ins)]) c.length, []) : Ins)]) (s.2.length + 1) ((a.2.length : Int) + 1) = c ++ d ∧ OM ch X44 N N4 N c.length d := by
      rw [q5]
      rw [lc] at o1
      rw [l2, lr] at o2
      rw [l3, ls, lr] at o3
      refine ⟨(0, 1, (pl ch q : Int), []) :: (e1 ++ (28, 0, plh e1, []) :: (6, ((c.length + 1 + e1.length + 2 + e2.length + 2 : Nat) : Int), plh e1, []) :: (e2 ++ (36, 0, plh e2, []) :: (7, ((c.length + 1 + e1.length + 2 + e2.length + 2 + e3.length + 1 : Nat) : Int), plh e2, []) :: (e3 ++ [(36, 0, plh e3, []), (8, 0, (pl ch q : Int), [])]))), ?_, OM.in ⟨Nat.le_refl _, by omega, by rw [i21]; rfl, Or.inr (Or.inr (Or.inr (Or.inr (Or.inr (Or.inl ⟨i20, t2, N2, t3, N3, t4, e1, e2, e3, i23, i24, i25, o1, o2, o3, by omega, hNV, hNW, by rw [i21]⟩)))))⟩⟩
      have w3 : a.2 = (s.2 ++ [((36, 0, plh e2, []) : Ins)]).modify (r.2.length + 1) (fun b => (b.1, ((s.2.length : Int) + 2), b.2.2)) ++ ((7, 0, plh e2, []) :: e3) := by
        have w1 : s.2 ++ [((36, 0, plh e2, []) : Ins)] = (r.2 ++ [(28, 0, plh e1, [])]) ++ ((6, 0, plh e1, []) :: (e2 ++ [(36, 0, plh e2, [])])) := by
          rw [ee2]
          simp only [List.append_assoc, List.cons_append, List.nil_append]
        have w2 : r.2.length + 1 = (r.2 ++ [((28, 0, plh e1, []) : Ins)]).length := by rw [List.length_append, List.length_singleton]
        rw [ee3, x3, w1, w2, modify_app]
        show _ = ((r.2 ++ [(28, 0, plh e1, [])]) ++ ((6, (s.2.length : Int) + 2, plh e1, []) :: (e2 ++ [(36, 0, plh e2, [])]))) ++ _
        simp only [List.append_assoc, List.cons_append, List.nil_append]
      have pc : plc (a.2 ++ [((36, 0, plh e3, []) : Ins)]) c.length = (pl ch q : Int) := by
        rw [ee3, x3, ee1]
        simp only [List.append_assoc, List.cons_append, List.nil_append]
        exact plc_app c _
      rw [pc]
      have w4 : (a.2 ++ [((36, 0, plh e3, []) : Ins)]) ++ [((8, 0, (pl ch q : Int), []) : Ins)] = ((r.2 ++ [(28, 0, plh e1, [])]) ++ ((6, (s.2.length : Int) + 2, plh e1, []) :: (e2 ++ [(36, 0, plh e2, [])]))) ++ ((7, 0, plh e2, []) :: (e3 ++ [(36, 0, plh e3, []), (8, 0, (pl ch q : Int), [])])) := by
        rw [ee3, x3]
        simp only [List.append_assoc, List.cons_append, List.nil_append]
      have w5 : s.2.length + 1 = ((r.2 ++ [(28, 0, plh e1, [])]) ++ (((6, (s.2.length : Int) + 2, plh e1, []) : Ins) :: (e2 ++ [(36, 0, plh e2, [])]))).length := by
        rw [ls]
        simp only [List.length_append, List.length_cons, List.length_nil]
        omega
      rw [w4, w5, setx_app]
      have v1 : (s.2.length : Int) + 2 = ((c.length + 1 + e1.length + 2 + e2.length + 2 : Nat) : Int) := by omega
      have v2 : (a.2.length : Int) + 1 = ((c.length + 1 + e1.length + 2 + e2.length + 2 + e3.length + 1 : Nat) : Int) := by omega
      rw [v2, v1, ee1]
      show (((c ++ [(0, 1, (pl ch q : Int), [])]) ++ e1 ++ [(28, 0, plh e1, [])]) ++ _) ++ ((7, ((c.length + 1 + e1.length + 2 + e2.length + 2 + e3.length + 1 : Nat) : Int), plh e2, []) :: (e3 ++ [(36, 0, plh e3, []), (8, 0, (pl ch q : Int), [])])) = _
      simp only [List.append_assoc, List.cons_append, List.nil_append]
    refine pw_bd (b_leave (X := X) (N := N) (t := N) (N1 := N4) (by rw [e44]; exact gW.wI (by omega)) ?_ ?_ hr ⟨Nat.le_refl _, by omega⟩ ⟨ho.1, by omega⟩ hO H) (fun _ _ d => pw_ret d)
    · rw [e44]
      exact (mW.wI (by omega)).cd (fun p => NPl.setx.trans ((NPl.snoc k8).trans (NPl.snoc k36)))
    · rw [e44]
      exact kW.wI (by unfold KPs; omega)
  · have hQ := H.b.en0 (fun z => ho1 z.2)
    exact pw_bd (uw_next hd) (fun _ _ d => pw_bd (uw_enter d) (fun _ _ d => pw_ret (pr_dd d hQ)))
end RIF
