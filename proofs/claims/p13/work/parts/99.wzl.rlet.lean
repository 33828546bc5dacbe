/-! the reference reads let -/
section RLET
variable {ch : Tx} {n q : Nat} {X Y Z X0 : St} {o : Int} {sc : List Nm} {j N N1 s N0 : Nat} {Q : Int32 → St → Prop} {c c0 c1 : List Ins}
theorem NMr.up (h : NMr ch Y N c) (g : ¬ (Y.1 20 N).toInt = 3) : NMr ch Y (N + 1) c := by
  refine ⟨fun i hi hk => ?_, fun p hp => ?_⟩
  · by_cases e : i = N
    · rw [e] at hk
      exact absurd hk g
    · exact h.1 i (by omega) hk
  · obtain ⟨i, hi, hk, hl⟩ := h.2 p hp
    exact ⟨i, by omega, hk, hl⟩
theorem fq16 {e k : Nat} (h : (e = 0 ∧ (k = 1 ∨ (18 ≤ k ∧ k ≤ 20) ∨ (22 ≤ k ∧ k ≤ 25))) ∨ e = 2 ∨ (11 ≤ e ∧ e ≤ 32) ∨ (35 ≤ e ∧ e ≤ 39)) : cq e k ∉ Lw16 := by
  unfold cq Lw16
  rcases h with ⟨h0, h⟩ | h
  · rw [if_pos h0]
    intro m
    simp only [List.mem_cons, List.not_mem_nil, or_false] at m
    omega
  · rw [if_neg (by omega)]
    intro m
    simp only [List.mem_cons, List.not_mem_nil, or_false] at m
    omega
theorem KP.fk (h : KP X0 X j N s) (g : fq Lw16 X Y) (g4 : KGq X Y) : KP X0 Y j N s := ⟨fun e k q => (g.1 e k (fq16 (by unfold KPs at q; omega))).trans (h.1 e k q), fun k q => (g.2.1 29 k (fq16 (by omega))).trans (h.2.1 k q), fun k q => (g.2.1 30 k (fq16 (by omega))).trans (h.2.2.1 k q), h.2.2.2.tr g4⟩
theorem NMr.fk (h : NMr ch X N c) (g : fq Lw16 X Y) : NMr ch Y N c := h.cg (fun i _ => g.1 20 i (fq16 (by omega))) (fun i _ => g.2.1 29 i (fq16 (by omega))) (fun i _ => g.1 21 i (fq16 (by omega)))
theorem KP.lv (h : KP X0 X j N s) (g : ∀ e k, ¬ (e = 0 ∧ 20 ≤ k) → Y.1 e k = X.1 e k) (g2 : Y.2 = X.2) : KP X0 Y j N s := ⟨fun e k q => (g e k (by unfold KPs at q; omega)).trans (h.1 e k q), fun k q => (congrFun (congrFun (congrArg Prod.fst g2) 29) k).trans (h.2.1 k q), fun k q => (congrFun (congrFun (congrArg Prod.fst g2) 30) k).trans (h.2.2.1 k q), h.2.2.2.tr (KGq.of (fun e k q => g e k (by omega)))⟩
/-- the frame is done: the node in hand, and on -/
theorem b_leave {r : Int32} {t : Nat} {a : Out} (h : XS ch n Y a.1 (o + 1) sc (j + 1 + 1) N1) (hM : NMr ch Y N1 a.2) (hK : KP X Y (j + 1) N sc.length) (hr : r.toInt = (t : Int)) (ht : N ≤ t ∧ t < N1) (ho : 0 ≤ o ∧ o ≤ 40) (hO : ∃ d, a.2 = c0 ++ d ∧ OM ch Y N N1 t c0.length d) (C : CEq ch n X o sc j N c0 Q a) : pw (f_leaves r Y) (fun _ W => pr W Q) := by
  have l1 : (1 : Int32).toInt = 1 := by decide
  unfold f_leaves
  refine pw_let (pw_eq (fun x2 e2 => ?_))
  have v2 : x2.toInt = o := by rw [e2, ti_sub (by rw [h.2.1, l1]; omega) (by rw [h.2.1, l1]; omega), h.2.1, l1]; omega
  refine pw_eq (fun X3 e3 => ?_)
  have g3 : XS ch n X3 a.1 o sc (j + 1 + 1) N1 := by rw [e3]; exact h.w21 v2
  refine pw_let (pw_eq (fun x5 e5 => ?_))
  have v5 := (g3.tp e5).1
  refine pw_eq (fun X6 e6 => pw_eq (fun X7 e7 => pw_eq (fun X8 e8 => pw_ret ?_)))
  have g8 : XS ch n X8 a.1 o sc (j + 1) N1 := by rw [e8, e7, e6]; exact ((g3.w22 v5).wI (by omega)).wI (by omega)
  have r8 : ∀ e k, ¬ (e = 0 ∧ 20 ≤ k) → X8.1 e k = Y.1 e k := fun e k hk => by rw [e8, wI_ne _ _ _ _ _ _ (by omega), e7, wI_ne _ _ _ _ _ _ (by omega), e6, wI_ne _ _ _ _ _ _ (by omega), e3, wI_ne _ _ _ _ _ _ (by omega)]
  have s8 : X8.2 = Y.2 := by rw [e8, e7, e6, e3]; rfl
  have c24 : X8.1 0 24 = r := by rw [e8, wI_ne _ _ _ _ _ _ (by omega), e7, wI_at]
  refine pr_4 g8 (by rw [e8, wI_at]; decide) (C X8 ⟨N1, t, g8, ?_, hK.lv r8 s8, by rw [c24]; exact hr, ht.1, ht.2, hO.imp (fun d hd => ⟨hd.1, hd.2.rows (fun e k he _ => r8 e k (by omega)) (fun k => congrFun (congrFun (congrArg Prod.fst s8) 29) k) h.kj⟩)⟩)
  exact hM.cg (fun i _ => r8 20 i (by omega)) (fun i _ => congrFun (congrFun (congrArg Prod.fst s8) 29) i) (fun i _ => r8 21 i (by omega))
/-- the kind told of a let; what is asked of what it holds -/
def KDo (W : St) (N : Nat) : Option (List Int) → Prop
  | none => iv W 25 N = -1
  | some kd => ∃ k : Nat, iv W 25 N = (k : Int) ∧ KD W k kd
def tlk (s p : Int) : Option (List Int) → List Ins
  | none => [(5, s, p, [])]
  | some kd => [(34, 0, p, kd), (5, s, p, [])]
/-- a let whose name stands -/
def LEq (ch : Tx) (n : Nat) (X W : St) (q : Nat) (o : Int) (sc : List Nm) (j N : Nat) (c : List Ins) (l : Nm) (p : Int) (ok : Option (List Int)) : Prop := XS ch n W q (o + 1) sc (j + 1) (N + 1) ∧ (W.1 0 23).toInt = 0 ∧ NMr ch W (N + 1) c ∧ KP X W (j + 1) N sc.length ∧ W.2.1 29 N = lN (p6 l) ∧ (iv W 20 N = 17 ∧ iv W 21 N = p) ∧ KDo W N ok
theorem b_let91 {E : EF} (hE : SEq ch n (o + 1) E) {W : St} {l : Nm} {x2 : Int32} {F : List Ins → List Ins} (hF : ∀ c p, NPl (F c) p ↔ NPl c p) {p : Int} {ok : Option (List Int)} (hc1 : c1 = c ++ [(0, 1, p, [])]) (hFe : ∀ e : List Ins, ¬ e = [] → F ((c ++ [(0, 1, p, [])]) ++ e) = ((c ++ [(0, 1, p, [])]) ++ e) ++ tlk (sc.length : Int) (plh e) ok) (hl : LT l ∧ l.length ≤ 8) (hr : x2.toInt = (N : Int)) (ho : 0 ≤ o ∧ o < 40) (h : LEq ch n X W q o sc j N c l p ok) (H : HH (DQ Q) (CEq ch n X o sc j N c Q) ((sWant ch 61 q).bind fun q3 => (E (o + 1) sc q3 c1).bind fun r => (sWant ch 263 r.1).bind fun q4 => E (o + 1) (l :: sc) q4 (F r.2))) : pw (f_beginsLet_91 x2 W) (fun _ Z => pr Z Q) := by
  have hc : ∀ p, NPl c1 p ↔ NPl c p := by rw [hc1]; exact fun p => NPl.snoc (show ¬ (0 : Int) = 4 by decide)
  have lc1 : c1.length = c.length + 1 := by rw [hc1, List.length_append, List.length_singleton]
  have l1 : (1 : Int32).toInt = 1 := by decide
  have l2 : (2 : Int32).toInt = 2 := by decide
  have l61 : (61 : Int32).toInt = 61 := by decide
  have hi : ix x2 = N := ixn hr
  obtain ⟨g, hm, hM, hK, h29, ⟨w20, w21⟩, wk⟩ := h
  unfold f_beginsLet_91
  refine pw_bd (x_takes g (by decide)) ?_
  rintro _ X16 (⟨ht, g16, t16⟩ | ⟨ht, hd⟩)
  · rw [l61] at ht
    have H := H.b.wa ht
    refine pw_bd (x_enter g16 1 x2) ?_
    rintro _ X17 ⟨g17, n17⟩
    refine pw_ret ?_
    have k17 : KP X X17 (j + 1) N sc.length := (hK.tn t16).en n17 (Nat.le_refl _)
    have m17 : NMr ch X17 (N + 1) c1 := ((hM.tn t16).en n17).cd hc
    have f35 : X17.1 35 (j + 1) = 1 := n17.2.2.1
    have f36 : X17.1 36 (j + 1) = x2 := n17.2.2.2.1
    have f29 : X17.2.1 29 N = lN (p6 l) := by rw [n17.2.1, t16.2.1 29 N (by omega)]; exact h29
    refine hE sc (nx ch q) c1 (j + 1) (N + 1) X17 Q g17 (by rw [n17.1 0 23 (by omega) (by omega), t16.c 23 (by decide)]; exact hm) ⟨⟨by rw [f35]; decide, by rw [f35]; decide⟩, fun e => by rw [f35] at e; exact absurd e (by decide), fun e => by rw [f35] at e; exact absurd e (by decide)⟩ m17 (by omega) (by omega) (H.b.m (fun r H => ?_))
    rintro Y ⟨N2, t2, gY, mY, kY, hY, h1, h2, e, ee, eo⟩
    have y35 : Y.1 35 (j + 1) = 1 := by rw [kY.1 35 (j + 1) (by unfold KPs; omega)]; exact f35
    have y36 : Y.1 36 (j + 1) = x2 := by rw [kY.1 36 (j + 1) (by unfold KPs; omega)]; exact f36
    have y29 : Y.2.1 29 N = lN (p6 l) := by rw [kY.2.1 N (by omega)]; exact f29
    have kWY : KP W Y (j + 1) (N + 1) sc.length := ((KP.rf.tn t16).en n17 (Nat.le_refl _)).tr (kY.mono (by omega) (Nat.le_refl _) (Nat.le_refl _))
    have kk : KP X Y (j + 1) N sc.length := k17.tr (kY.mono (by omega) (by omega) (Nat.le_refl _))
    unfold prE f_endsOne
    refine pw_let (pw_eq (fun xt et => ?_))
    rw [(gY.tp et).2]
    refine pw_ck (fun _ => pw_let (pw_ck (fun _ => pw_let ?_)))
    rw [y35, y36]
    refine pw_neg (by decide) (pw_pos (by decide) ?_)
    refine pw_let ?_
    rw [hi]
    refine pw_ck (fun _ => pw_eq (fun X11 e11 => ?_))
    have g11 : XS ch n X11 r.1 (o + 1) sc (j + 1 + 1) N2 := by rw [e11]; exact gY.wI (by omega)
    refine pw_bd (x_word g11 (by decide)) ?_
    rintro _ X12 (⟨hw, g12, t12⟩ | ⟨hw, hd⟩)
    · rw [l2] at hw
      have H := H.b.wa hw
      refine pw_let (pw_ck (fun _ => pw_let ?_))
      have hs0 := g12.2.2.1.1
      rw [ixn g12.2.2.1.1]
      refine pw_ck (fun hx => pw_eq (fun X15 e15 => ?_))
      have hx := hx.2
      have g15 : XS ch n X15 (nx ch r.1) (o + 1) sc (j + 1 + 1) N2 := by rw [e15]; exact g12.wL (by omega)
      have s30 : X15.2.1 30 sc.length = lN (p6 l) := by
        rw [e15, wL_at, t12.2.1 29 N (by omega), e11]
        exact y29
      have c15 : X15.1 = X12.1 := by rw [e15]; rfl
      refine pw_let (pw_ck (fun _ => pw_eq (fun X18 e18 => ?_)))
      have g18 : XS ch n X18 (nx ch r.1) (o + 1) sc (j + 1 + 1) N2 := by rw [e18]; exact g15.wI (by omega)
      have s18 : X18.2.1 30 sc.length = lN (p6 l) := by rw [e18]; exact s30
      refine pw_let (pw_eq (fun x19 e19 => ?_))
      have hs := g18.2.2.1.1
      have v19 : x19.toInt = ((l :: sc).length : Int) := by
        rw [e19, ti_add (by rw [hs, l1]; omega) (by rw [hs, l1]; omega), hs, l1, List.length_cons]
        omega
      refine pw_eq (fun X20 e20 => ?_)
      have g20 : XS ch n X20 (nx ch r.1) (o + 1) (l :: sc) (j + 1 + 1) N2 := by rw [e20]; exact g18.w20 v19 ⟨⟨s18, hl⟩, g18.2.2.1.2⟩
      refine pw_ck (fun _ => pw_eq (fun X21 e21 => pw_eq (fun X22 e22 => pw_ret ?_)))
      have g22 : XS ch n X22 (nx ch r.1) (o + 1) (l :: sc) (j + 1 + 1) N2 := by rw [e22, e21]; exact (g20.wI (by omega)).wI (by omega)
      have q35 : X22.1 35 (j + 1) = 2 := by rw [e22, wI_ne _ _ _ _ _ _ (by omega), e21, wI_at]
      have q36 : X22.1 36 (j + 1) = x2 := by rw [e22, wI_ne _ _ _ _ _ _ (by omega), e21, wI_ne _ _ _ _ _ _ (by omega), e20, wI_ne _ _ _ _ _ _ (by omega), e18, wI_ne _ _ _ _ _ _ (by omega), c15, t12.r 36 _ (by omega), e11, wI_ne _ _ _ _ _ _ (by omega)]; exact y36
      have m22 : NMr ch X22 N2 (F r.2) := by
        rw [e22, e21, e20, e18, e15]
        refine (((((NMr.wL ?_ (by omega)).wI (by omega)).wI (by omega)).wI (by omega)).wI (by omega)).cd (hF _)
        refine NMr.tn ?_ t12
        rw [e11]
        exact mY.wI (by omega)
      have k22 : KP X X22 (j + 1) N sc.length := by
        rw [e22, e21, e20, e18, e15]
        refine ((((KP.wL ?_ (by omega)).wI (by unfold KPs; omega)).wI (by unfold KPs; omega)).wI (by unfold KPs; omega)).wI (by unfold KPs; omega)
        refine KP.tn ?_ t12
        rw [e11]
        exact kk.wI (by unfold KPs; omega)
      have kY22 : KP Y X22 (j + 1) N sc.length := by
        rw [e22, e21, e20, e18, e15]
        refine ((((KP.wL ?_ (by omega)).wI (by unfold KPs; omega)).wI (by unfold KPs; omega)).wI (by unfold KPs; omega)).wI (by unfold KPs; omega)
        refine KP.tn ?_ t12
        rw [e11]
        exact KP.rf.wI (by unfold KPs; omega)
      have rB : ∀ a k, 20 ≤ a ∧ a ≤ 28 → ¬ ((a = 23 ∨ a = 26) ∧ k = N) → X22.1 a k = Y.1 a k := fun a k ha hn => by rw [e22, wI_ne _ _ _ _ _ _ (by omega), e21, wI_ne _ _ _ _ _ _ (by omega), e20, wI_ne _ _ _ _ _ _ (by omega), e18, wI_ne _ _ _ _ _ _ (by omega), c15, t12.r a k (by omega), e11, wI_ne _ _ _ _ _ _ (by omega)]
      have lB : ∀ k, X22.2.1 29 k = Y.2.1 29 k := fun k => by
        rw [e22, e21, e20, e18]
        show X15.2.1 29 k = _
        rw [e15, wL_ne _ _ _ _ _ _ (by omega), t12.2.1 29 k (by omega), e11]
        rfl
      have b23 : iv X22 23 N = (t2 : Int) := by
        unfold iv
        rw [e22, wI_ne _ _ _ _ _ _ (by omega), e21, wI_ne _ _ _ _ _ _ (by omega), e20, wI_ne _ _ _ _ _ _ (by omega), e18, wI_ne _ _ _ _ _ _ (by omega), c15, t12.r 23 N (by omega), e11, wI_at]
        exact hY
      have b26 : iv X22 26 N = (sc.length : Int) := by
        unfold iv
        rw [e22, wI_ne _ _ _ _ _ _ (by omega), e21, wI_ne _ _ _ _ _ _ (by omega), e20, wI_ne _ _ _ _ _ _ (by omega), e18, wI_at]
        exact g15.2.2.1.1
      refine hE (l :: sc) (nx ch r.1) (F r.2) (j + 1) N2 X22 Q g22 (by rw [e22, wI_at]; rfl) ⟨⟨by rw [q35]; decide, by rw [q35]; decide⟩, fun e => by rw [q35] at e; exact absurd e (by decide), fun e => by rw [q35] at e; exact absurd e (by decide)⟩ m22 (by omega) (by omega) (H.m (fun a H => ?_))
      rintro V ⟨N3, t3, gV, mV, kV, hV, g1, g2, e2, ee2, eo2⟩
      have v35 : V.1 35 (j + 1) = 2 := by rw [kV.1 35 (j + 1) (by unfold KPs; omega)]; exact q35
      have v36 : V.1 36 (j + 1) = x2 := by rw [kV.1 36 (j + 1) (by unfold KPs; omega)]; exact q36
      have kv : KP X V (j + 1) N sc.length := k22.tr (kV.mono (by omega) (by omega) (by rw [List.length_cons]; omega))
      unfold prE f_endsOne
      refine pw_let (pw_eq (fun xt et => ?_))
      rw [(gV.tp et).2]
      refine pw_ck (fun _ => pw_let (pw_ck (fun _ => pw_let ?_)))
      rw [v35, v36]
      refine pw_neg (by decide) (pw_neg (by decide) (pw_pos (by decide) ?_))
      refine pw_let ?_
      rw [hi]
      refine pw_ck (fun _ => pw_eq (fun X25 e25 => ?_))
      have g25 : XS ch n X25 a.1 (o + 1) (l :: sc) (j + 1 + 1) N3 := by rw [e25]; exact gV.wI (by omega)
      refine pw_let (pw_eq (fun x27 e27 => ?_))
      have hs25 := g25.2.2.1.1
      rw [List.length_cons] at hs25
      have v27 : x27.toInt = (sc.length : Int) := by
        have := Int32.toInt_lt (X25.1 0 20)
        rw [e27, ti_sub (by rw [hs25, l1]; omega) (by rw [l1]; omega), hs25, l1]
        omega
      refine pw_eq (fun X28 e28 => ?_)
      have g28 : XS ch n X28 a.1 (o + 1) sc (j + 1 + 1) N3 := by rw [e28]; exact g25.w20 v27 g25.2.2.1.2.2
      have rC : ∀ b k, 20 ≤ b → ¬ (b = 24 ∧ k = N) → X28.1 b k = V.1 b k := fun b k hb hn => by rw [e28, wI_ne _ _ _ _ _ _ (by omega), e25, wI_ne _ _ _ _ _ _ (by omega)]
      have kC : KGq V X28 := KGq.of (fun b k q => by rw [e28, wI_ne _ _ _ _ _ _ (by omega), e25, wI_ne _ _ _ _ _ _ (by omega)])
      have lC : ∀ k, X28.2.1 29 k = V.2.1 29 k := fun k => by rw [e28, e25]; rfl
      have gi : ∀ b, 20 ≤ b ∧ b ≤ 28 → ¬ b = 24 → iv X28 b N = iv X22 b N := fun b hb hn => by unfold iv; rw [rC b N (by omega) (by omega), kV.1 b N (by unfold KPs; omega)]
      have gw : ∀ b, 20 ≤ b ∧ b ≤ 28 → ¬ b = 23 → ¬ b = 26 → iv X22 b N = iv W b N := fun b hb hn hn2 => by unfold iv; rw [rB b N hb (by omega), kWY.1 b N (by unfold KPs; omega)]
      have i24 : iv X28 24 N = (t3 : Int) := by unfold iv; rw [e28, wI_ne _ _ _ _ _ _ (by omega), e25, wI_at]; exact hV
      have kgWX : KGq W X28 := (kWY.2.2.2.tr kY22.2.2.2).tr (kV.2.2.2.tr kC)
      have oe : OM ch X28 (N + 1) N2 t2 (c.length + 1) e := by
        rw [← lc1]
        have q1 : OM ch X22 (N + 1) N2 t2 c1.length e := eo.cg ⟨fun b k hb k1 k2 _ => rB b k hb (by omega), fun k _ _ => lB k, KDk.oj gY.kj kY22.2.2.2.1⟩
        exact (q1.kp kV g22.kj (Nat.le_refl _)).cg ⟨fun b k hb k1 k2 _ => rC b k (by omega) (by omega), fun k _ _ => lC k, KDk.oj gV.kj kC.1⟩
      have oe2 : OM ch X28 N2 N3 t3 (F r.2).length e2 := eo2.cg ⟨fun b k hb k1 k2 _ => rC b k (by omega) (by omega), fun k _ _ => lC k, KDk.oj gV.kj kC.1⟩
      have eF : F r.2 = ((c ++ [(0, 1, p, [])]) ++ e) ++ tlk (sc.length : Int) (plh e) ok := by rw [ee, hc1]; exact hFe e eo.ne
      have i20 : iv X28 20 N = 17 := by rw [gi 20 (by omega) (by omega), gw 20 (by omega) (by omega) (by omega)]; exact w20
      have i21 : iv X28 21 N = p := by rw [gi 21 (by omega) (by omega), gw 21 (by omega) (by omega) (by omega)]; exact w21
      have i23 : iv X28 23 N = (t2 : Int) := by rw [gi 23 (by omega) (by omega)]; exact b23
      have i26 : iv X28 26 N = (sc.length : Int) := by rw [gi 26 (by omega) (by omega)]; exact b26
      have i25 : iv X28 25 N = iv W 25 N := by rw [gi 25 (by omega) (by omega), gw 25 (by omega) (by omega) (by omega)]
      have hO : ∃ d, a.2 = c ++ d ∧ OM ch X28 N N3 N c.length d := by
        cases ok with
        | none =>
          refine ⟨(0, 1, p, []) :: (e ++ (5, (sc.length : Int), plh e, []) :: e2), ?_, OM.in ⟨Nat.le_refl _, by omega, by rw [i21]; rfl, Or.inr (Or.inr (Or.inr (Or.inr (Or.inr (Or.inr ⟨i20, t2, N2, t3, e, e2, i23, i24, by omega, by omega, oe, Or.inl ⟨by rw [i25]; exact wk, ?_, by rw [i21, i26]⟩⟩)))))⟩⟩
          · rw [ee2, eF]
            simp only [tlk, List.append_assoc, List.cons_append, List.nil_append]
          · have lf : (F r.2).length = c.length + 1 + e.length + 1 := by
              rw [eF]
              simp only [tlk, List.length_append, List.length_cons, List.length_nil]
            rw [← lf]
            exact oe2
        | some kd =>
          obtain ⟨k, wk1, wk2⟩ := wk
          refine ⟨(0, 1, p, []) :: (e ++ (34, 0, plh e, kd) :: (5, (sc.length : Int), plh e, []) :: e2), ?_, OM.in ⟨Nat.le_refl _, by omega, by rw [i21]; rfl, Or.inr (Or.inr (Or.inr (Or.inr (Or.inr (Or.inr ⟨i20, t2, N2, t3, e, e2, i23, i24, by omega, by omega, oe, Or.inr ⟨k, kd, by rw [i25]; exact wk1, KDk.oj g.kj kgWX.1 _ _ wk2, ?_, by rw [i21, i26]⟩⟩)))))⟩⟩
          · rw [ee2, eF]
            simp only [tlk, List.append_assoc, List.cons_append, List.nil_append]
          · have lf : (F r.2).length = c.length + 1 + e.length + 2 := by
              rw [eF]
              simp only [tlk, List.length_append, List.length_cons, List.length_nil]
            rw [← lf]
            exact oe2
      refine pw_bd (b_leave (X := X) (N := N) (t := N) (a := a) g28 ?_ ?_ hr ⟨Nat.le_refl _, by omega⟩ ⟨ho.1, by omega⟩ hO H) (fun _ _ d => pw_ret d)
      · rw [e28, e25]
        exact (mV.wI (by omega)).wI (by omega)
      · rw [e28, e25]
        exact (kv.wI (by unfold KPs; omega)).wI (by unfold KPs; omega)
    · rw [l2] at hw
      have hQ := H.b.wa0 hw
      refine pw_let (pw_ck (fun _ => pw_let (pw_ck (fun _ => pw_eq (fun X15 e15 => ?_)))))
      have d15 : wrX X15 := by rw [e15]; exact hd
      refine pw_let (pw_ck (fun _ => pw_eq (fun X18 e18 => ?_)))
      have d18 : wrX X18 := by rw [e18]; exact wrX_w d15 (by omega)
      refine pw_let (pw_let (pw_eq (fun X20 e20 => ?_)))
      have d20 : wrX X20 := by rw [e20]; exact wrX_w d18 (by omega)
      refine pw_ck (fun _ => pw_eq (fun X21 e21 => pw_eq (fun X22 e22 => pw_ret ?_)))
      exact pr_dd (by rw [e22, e21]; exact wrX_w (wrX_w d20 (by omega)) (by omega)) hQ
  · rw [l61] at ht
    have hQ := H.b.wa0 ht
    exact pw_bd (uw_enter hd) (fun _ _ d => pw_ret (pr_dd d hQ))
end RLET
