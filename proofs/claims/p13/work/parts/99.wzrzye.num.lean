/-! numbers on both sides -/
section NUMS
variable {X Y Z X1 Y1 X0 Y0 V V1 : St} {r r1 r2 : Nat → Int32} {s w k a b p p1 p2 v pl o1 n1 x : Int32} {y y1 : Int64} {ks : List (List Int)} {e c m n i j sb tp t0 nn nn1 o q : Nat}
/-- it fails on both sides, behind some pops -/
theorem OPQ.fail {tp1 : Nat} (h : INS e X Y r ks sb c tp nn) (hX0 : ∀ e k, ¬ (e = 0 ∧ k = 31) → X0.1 e k = X.1 e k) (hT : TOPq Y Y0 n) (hp : 0 < p.toInt) : pw (f_ends p p1 X0) (fun _ X1 => pw (g_Running_failWith p p1 Y0) (fun _ Y1 => OPQ X Y r ks sb c tp1 nn1 X1 Y1 ∧ Y1.1 70 10 = Y.1 70 10)) := by
  obtain ⟨hB, hS, hO, _, _, _⟩ := h
  obtain ⟨t1, t2, t3⟩ := hT
  have hS0 : SCr X0 Y0 := hS.cg ⟨fun k q => hX0 0 k (by omega), fun k => hX0 79 k (by omega), fun k => hX0 80 k (by omega)⟩ ⟨fun k q => t2 70 k (by omega), fun k q => t2 71 k (by omega), fun k => t2 86 k (by omega), fun k => t2 87 k (by omega)⟩
  have hO0 : ONr X0 Y0 := hO.cg (hX0 0 43 (by omega)) (hX0 0 44 (by omega)) (fun k _ => t2 70 k (by omega))
  refine pw_mono (n_ends hO0) (fun _ X1 e1 => pw_mono (l_failW hO0) (fun _ Y1 e2 => ?_))
  have q := OFr.of (p2 := p1) hS0 hp
  rw [← e1, ← e2] at q
  have ry : ∀ j k, ¬ (j = 70 ∧ (k = 15 ∨ (4 ≤ k ∧ k ≤ 6))) → Y1.1 j k = Y.1 j k := fun j k z => by rw [e2, wI_ne _ _ _ _ _ _ (by omega), wI_ne _ _ _ _ _ _ (by omega), wI_ne _ _ _ _ _ _ (by omega)]; exact t2 j k (by omega)
  have rl : Y1.2 = Y.2 := by rw [e2, ← t3]; rfl
  exact ⟨OPQ.off hB (fun e k z1 z2 => by rw [e1, wI_ne _ _ _ _ _ _ (by omega), wI_ne _ _ _ _ _ _ (by omega)]; exact hX0 e k (by omega)) ⟨by rw [rl], fun j k z1 _ _ _ => ry j k (by omega), fun j k _ _ _ _ => by rw [rl]⟩ q.2 q.1, ry 70 10 (by omega)⟩
/-- an order of works() -/
theorem n_dw {R : St → Prop} (ho : o1.toInt = (o : Int)) (hK : 17 ≤ (X.1 40 o).toInt ∧ (X.1 40 o).toInt ≤ 27) (hw : ∀ x : Int32, x.toInt = (X.1 40 o).toInt → pw (f_works x n1 X) (fun _ X1 => R X1)) : pw (f_does o1 n1 X) (fun z X1 => z = o1 + 1 ∧ R X1) := by
  unfold f_does
  refine pw_ck (fun _ => pw_eq (fun x1 e1 => ?_))
  have v1 : x1.toInt = (X.1 40 o).toInt := by rw [e1, ixn ho]
  refine pw_neg (by omega) (pw_neg (by omega) (pw_neg (by omega) (pw_neg (by omega) (pw_neg (by omega) (pw_neg (by omega) (pw_neg (by omega) (pw_neg (by omega) (pw_neg (by omega) (pw_neg (by omega) (pw_neg (by omega) (pw_neg (by omega) (pw_neg (by omega) (pw_neg (by omega) (pw_neg (by omega) (pw_neg (by omega) (pw_neg (by omega) (pw_neg (by omega) (pw_neg (by omega) (pw_neg (by omega) (pw_neg (by omega) (pw_ck (fun _ => pw_eq (fun x121 e121 => ?_)))))))))))))))))))))))
  exact pw_bd (hw x121 (by rw [e121, ixn ho])) (fun _ X2 e2 => pw_let (pw_ret ⟨rfl, e2⟩))
/-- NEGATE -/
theorem op18 (ho : o1.toInt = (o : Int)) (h1 : (X.1 40 o).toInt = 22) (h : INS e X Y r ks sb c (t0 + 1) nn) (hm : sb ≤ t0) (hn : t0 + c + 1 < 20002) (hs : (X.1 60 t0).toInt = 0) : pw (f_does o1 n1 X) (fun z X1 => z = o1 + 1 ∧ pw (g_Running_workNumbers 18 pl Y) (fun _ Y1 => OPQ X Y r ks sb c (t0 + 1) nn X1 Y1 ∧ Y1.1 70 10 = Y.1 70 10)) := by
  have hK := h.2.2.2.2.1
  have l1 : (1 : Int32).toInt = 1 := by decide
  have hy := (hK.2.2.2 t0 hm (by omega)).int hs
  have hs0 : X.1 60 t0 = 0 := Int32.toInt_inj.mp (by rw [hs]; decide)
  refine n_dw ho (by omega) (fun x hx => ?_)
  rw [h1] at hx
  unfold f_works
  refine pw_neg (by omega) (pw_neg (by omega) (pw_neg (by omega) (pw_neg (by omega) (pw_pos hx (pw_let (pw_eq (fun x53 e53 => pw_let (pw_eq (fun x55 e55 => pw_ck (fun _ => pw_let (pw_let (pw_ck (fun _ => pw_eq (fun X58 e58 => pw_ret ?_))))))))))))))
  have v53 : x53.toInt = (t0 : Int) := by rw [e53]; exact n_dec (q := 1) (by have := hK.1; omega) (by rw [l1]; rfl)
  have i53 : ix x53 = t0 := ixn v53
  have i55 : ix x55 = t0 := by rw [e55, ← e53]; exact i53
  rw [i53, i55] at e58
  have hv : VALq X t0 0 (-(X.1 61 t0)) X58 := by
    refine ⟨by rw [e58, wI_ne _ _ _ _ _ _ (by omega)]; have := hK.1; omega, by rw [e58, wI_ne _ _ _ _ _ _ (by omega)]; exact hs0, by rw [e58, wI_at], fun e k q1 q2 => by rw [e58, wI_ne _ _ _ _ _ _ (by omega)]⟩
  unfold g_Running_workNumbers
  refine pw_bd (l_popC2 (TOPq.rf (n := t0 + c + 1 + 1) (by have := hK.2.1; omega))) ?_
  rintro x1 Y2 ⟨hT, e1⟩
  rw [hy, vl_con] at e1
  refine pw_pos (by decide) (pw_let (pw_bd (l_pushN2 hT hn) (fun _ Y3 e3 => pw_ret ?_)))
  rw [e1] at e3
  exact OPQ.pp (m := 1) h hm (fun _ _ _ => rfl) hv e3 (VR.num _)
/-- NOT -/
theorem op19 (ho : o1.toInt = (o : Int)) (h1 : (X.1 40 o).toInt = 23) (h : INS e X Y r ks sb c (t0 + 1) nn) (hm : sb ≤ t0) (hn : t0 + c + 1 < 20002) (hs : (X.1 60 t0).toInt = 1) : pw (f_does o1 n1 X) (fun z X1 => z = o1 + 1 ∧ pw (g_Running_workNumbers 19 pl Y) (fun _ Y1 => OPQ X Y r ks sb c (t0 + 1) nn X1 Y1 ∧ Y1.1 70 10 = Y.1 70 10)) := by
  have hK := h.2.2.2.2.1
  have l1 : (1 : Int32).toInt = 1 := by decide
  obtain ⟨hy, hw⟩ := (hK.2.2.2 t0 hm (by omega)).flag hs
  have hs0 : X.1 60 t0 = 1 := Int32.toInt_inj.mp (by rw [hs]; decide)
  refine n_dw ho (by omega) (fun x hx => ?_)
  rw [h1] at hx
  unfold f_works
  refine pw_neg (by omega) (pw_neg (by omega) (pw_neg (by omega) (pw_neg (by omega) (pw_neg (by omega) (pw_pos hx (pw_let (pw_eq (fun x53 e53 => pw_let (pw_eq (fun x55 e55 => pw_ck (fun _ => pw_let (pw_let (pw_ck (fun _ => pw_eq (fun X58 e58 => pw_ret ?_)))))))))))))))
  have v53 : x53.toInt = (t0 : Int) := by rw [e53]; exact n_dec (q := 1) (by have := hK.1; omega) (by rw [l1]; rfl)
  have i53 : ix x53 = t0 := ixn v53
  have i55 : ix x55 = t0 := by rw [e55, ← e53]; exact i53
  rw [i53, i55] at e58
  have hv : VALq X t0 1 (1 - X.1 61 t0) X58 := by
    refine ⟨by rw [e58, wI_ne _ _ _ _ _ _ (by omega)]; have := hK.1; omega, by rw [e58, wI_ne _ _ _ _ _ _ (by omega)]; exact hs0, by rw [e58, wI_at], fun e k q1 q2 => by rw [e58, wI_ne _ _ _ _ _ _ (by omega)]⟩
  have fin : ∀ (bv : Int32) (Y2 : St), TOPq Y Y2 (t0 + c + 1) → bv = 1 - X.1 61 t0 → bv.toInt = 0 ∨ bv.toInt = 1 → pw (g_Running_workNumbers_34 bv Y2) (fun _ Y1 => OPQ X Y r ks sb c (t0 + 1) nn X58 Y1 ∧ Y1.1 70 10 = Y.1 70 10) := by
    intro bv Y2 hT hb h01
    unfold g_Running_workNumbers_34
    refine pw_bd (l_pushT2 hT hn h01) (fun _ Y3 e3 => pw_ret ?_)
    rw [← hb] at hv
    exact OPQ.pp (m := 1) h hm (fun _ _ _ => rfl) hv e3 (VR.tru h01)
  unfold g_Running_workNumbers
  refine pw_bd (l_popC2 (TOPq.rf (n := t0 + c + 1 + 1) (by have := hK.2.1; omega))) ?_
  rintro x1 Y2 ⟨hT, e1⟩
  rw [hy, vl_con] at e1
  refine pw_neg (by decide) (pw_pos (by decide) (pw_ite (fun z => fin 1 Y2 hT ?_ (Or.inr l1)) (fun z => fin 0 Y2 hT ?_ (Or.inl (by decide)))))
  · rw [e1] at z
    rw [show X.1 61 t0 = 0 from Int32.toInt_inj.mp (by rw [z]; decide)]
    decide
  · rw [e1] at z
    rw [show X.1 61 t0 = 1 from Int32.toInt_inj.mp (by rw [l1]; omega)]
    decide
/-- two numbers are taken off the class's stack -/
theorem l_two (h : INS e X Y r ks sb c (t0 + 2) nn) (hm : sb ≤ t0) (hs : (X.1 60 t0).toInt = 0) (hs1 : (X.1 60 (t0 + 1)).toInt = 0) (hp : 20 ≤ p.toInt) {Q : Int32 → St → Prop} (hk : ∀ Y4, TOPq Y Y4 (t0 + c + 1) → pw (if p.toInt = 20 then g_Running_workNumbers_56 p (X.1 61 (t0 + 1)) (X.1 61 t0) Y4 else if p.toInt = 21 then g_Running_workNumbers_56 p (X.1 61 (t0 + 1)) (X.1 61 t0) Y4 else if (X.1 61 (t0 + 1)).toInt = 0 then (if p.toInt < 25 then g_Running_workNumbers_113 p (X.1 61 (t0 + 1)) (X.1 61 t0) Y4 else bnd (g_Running_failWith (2 : Int32) pl Y4) fun _ X9 => some (0, X9)) else g_Running_workNumbers_113 p (X.1 61 (t0 + 1)) (X.1 61 t0) Y4) Q) : pw (g_Running_workNumbers p pl Y) Q := by
  have hK := h.2.2.2.2.1
  have hy := (hK.2.2.2 t0 hm (by omega)).int hs
  have hy1 := (hK.2.2.2 (t0 + 1) (by omega) (by omega)).int hs1
  unfold g_Running_workNumbers
  refine pw_bd (l_popC2 (TOPq.rf (n := t0 + 1 + c + 1 + 1) (by have := hK.2.1; omega))) ?_
  rintro x1 Y2 ⟨hT, e1⟩
  rw [hy1, vl_con] at e1
  refine pw_neg (by omega) (pw_neg (by omega) (pw_bd (l_popC2 (n := t0 + c + 1) (by rw [show t0 + c + 1 + 1 = t0 + 1 + c + 1 by omega]; exact hT)) ?_))
  rintro x3 Y4 ⟨hT4, e3⟩
  rw [hy, vl_con] at e3
  rw [e1, e3]
  exact hk Y4 hT4
/-- LESS, SAME -/
theorem op20 (ho : o1.toInt = (o : Int)) (h1 : (X.1 40 o).toInt = 25) (h : INS e X Y r ks sb c (t0 + 2) nn) (hm : sb ≤ t0) (hn : t0 + c + 1 < 20002) (hs : (X.1 60 t0).toInt = 0) (hs1 : (X.1 60 (t0 + 1)).toInt = 0) (hp : (p.toInt = 20 ∧ (X.1 26 (ix n1)).toInt = 60) ∨ (p.toInt = 21 ∧ ¬ (X.1 26 (ix n1)).toInt = 60)) : pw (f_does o1 n1 X) (fun z X1 => z = o1 + 1 ∧ pw (g_Running_workNumbers p pl Y) (fun _ Y1 => OPQ X Y r ks sb c (t0 + 1) nn X1 Y1 ∧ Y1.1 70 10 = Y.1 70 10)) := by
  have hK := h.2.2.2.2.1
  have l1 : (1 : Int32).toInt = 1 := by decide
  have l2 : (2 : Int32).toInt = 2 := by decide
  refine n_dw ho (by omega) (fun x hx => ?_)
  rw [h1] at hx
  unfold f_works
  refine pw_neg (by omega) (pw_neg (by omega) (pw_neg (by omega) (pw_neg (by omega) (pw_neg (by omega) (pw_neg (by omega) (pw_neg (by omega) (pw_pos hx (pw_let (pw_let (pw_eq (fun X72 e72 => pw_ck (fun _ => pw_eq (fun x73 e73 => ?_)))))))))))))
  have rx : ∀ e k, ¬ (e = 0 ∧ k = 31) → X72.1 e k = X.1 e k := fun e k q => by rw [e72, wI_ne _ _ _ _ _ _ q]
  have f31 : (X72.1 0 31).toInt = (t0 : Int) := by rw [e72, wI_at]; exact n_dec (q := 2) (by have := hK.1; omega) (by rw [l2]; rfl)
  rw [rx 26 _ (by omega)] at e73
  have i0 : ix (X72.1 0 31) = t0 := ixn f31
  have i1 : ix (X72.1 0 31 + 1) = t0 + 1 := ixn (by rw [ti_add (by rw [f31, l1]; omega) (by rw [f31, l1]; omega), f31, l1]; omega)
  have fin : ∀ (b0 : Int32) (bv : Int32), b0.toInt = 0 ∨ b0.toInt = 1 → bv = b0 → (∀ Y4, pw (g_Running_workNumbers_56 p (X.1 61 (t0 + 1)) (X.1 61 t0) Y4) (fun _ V => True) → pw (g_Running_workNumbers_56 p (X.1 61 (t0 + 1)) (X.1 61 t0) Y4) (fun z V => g_Running_workNumbers_88 bv Y4 = some (z, V))) → pw (f_works_420 b0 X72) (fun _ X1 => pw (g_Running_workNumbers p pl Y) (fun _ Y1 => OPQ X Y r ks sb c (t0 + 1) nn X1 Y1 ∧ Y1.1 70 10 = Y.1 70 10)) := by
    intro b0 bv hb hbv hcls
    have q432 : pw (f_works_432 b0 (1 : Int32) X72) (fun _ X1 => pw (g_Running_workNumbers p pl Y) (fun _ Y1 => OPQ X Y r ks sb c (t0 + 1) nn X1 Y1 ∧ Y1.1 70 10 = Y.1 70 10)) := by
      unfold f_works_432
      refine pw_bd (n_value2 f31 (by omega)) (fun _ X79 hv => pw_ret ?_)
      refine l_two h hm hs hs1 (by omega) (fun Y4 hT => ?_)
      have cl : pw (g_Running_workNumbers_56 p (X.1 61 (t0 + 1)) (X.1 61 t0) Y4) (fun _ Y1 => OPQ X Y r ks sb c (t0 + 1) nn X79 Y1 ∧ Y1.1 70 10 = Y.1 70 10) := by
        refine pw_mono (hcls Y4 (fun _ _ _ => trivial)) (fun z V hz => ?_)
        have q88 : pw (g_Running_workNumbers_88 bv Y4) (fun _ Y1 => OPQ X Y r ks sb c (t0 + 1) nn X79 Y1 ∧ Y1.1 70 10 = Y.1 70 10) := by
          unfold g_Running_workNumbers_88
          rw [hbv]
          exact pw_bd (l_pushT2 hT hn hb) (fun _ Y3 e3 => pw_ret (OPQ.pp (m := 2) h hm rx hv e3 (VR.tru hb)))
        exact q88 z V hz
      exact pw_ite (fun _ => cl) (fun g => pw_pos (by omega) cl)
    unfold f_works_420
    refine pw_ite (fun z => ?_) (fun z => ?_)
    · rw [show (0 : Int32) = b0 from Int32.toInt_inj.mp (by rw [z]; decide)]
      exact q432
    · rw [show f_works_432 (1 : Int32) (1 : Int32) X72 = f_works_432 b0 (1 : Int32) X72 from by rw [show b0 = 1 from Int32.toInt_inj.mp (by rw [l1]; omega)]]
      exact q432
  refine pw_ite (fun z60 => pw_let (pw_ck (fun _ => pw_let (pw_let (pw_let (pw_ck (fun _ => pw_let ?_))))))) (fun z60 => pw_let (pw_ck (fun _ => pw_let (pw_let (pw_let (pw_ck (fun _ => pw_let ?_)))))))
  · rw [i0, i1, rx 61 _ (by omega), rx 61 _ (by omega)]
    have hp20 : p.toInt = 20 := by rw [e73] at z60; rcases hp with q | q; exact q.1; exact absurd z60 q.2
    refine pw_ite (fun g => fin 0 0 (Or.inl (by decide)) rfl (fun Y4 _ => ?_)) (fun g => fin 1 1 (Or.inr l1) rfl (fun Y4 _ => ?_))
    · unfold g_Running_workNumbers_56
      exact pw_pos hp20 (pw_pos g (fun _ _ q => q))
    · unfold g_Running_workNumbers_56
      exact pw_pos hp20 (pw_neg g (fun _ _ q => q))
  · rw [i0, i1, rx 61 _ (by omega), rx 61 _ (by omega)]
    have hp21 : p.toInt = 21 := by rw [e73] at z60; rcases hp with q | q; exact absurd q.2 z60; exact q.1
    refine pw_ite (fun g => fin 1 1 (Or.inr l1) rfl (fun Y4 _ => ?_)) (fun g => fin 0 0 (Or.inl (by decide)) rfl (fun Y4 _ => ?_))
    · unfold g_Running_workNumbers_56
      exact pw_neg (by omega) (pw_pos g (fun _ _ q => q))
    · unfold g_Running_workNumbers_56
      exact pw_neg (by omega) (pw_neg g (fun _ _ q => q))
/-- sums -/
theorem op22 (ho : o1.toInt = (o : Int)) (h1 : (X.1 40 o).toInt = 24) (h : INS e X Y r ks sb c (t0 + 2) nn) (hm : sb ≤ t0) (hn : t0 + c + 1 < 20002) (hs : (X.1 60 t0).toInt = 0) (hs1 : (X.1 60 (t0 + 1)).toInt = 0) (hpl : X.1 22 (ix n1) = pl) (hp : 22 ≤ p.toInt ∧ p.toInt ≤ 26) (hop : opc (X.1 26 (ix n1)).toInt = p.toInt) : pw (f_does o1 n1 X) (fun z X1 => z = o1 + 1 ∧ pw (g_Running_workNumbers p pl Y) (fun _ Y1 => OPQ X Y r ks sb c (t0 + 1) nn X1 Y1 ∧ Y1.1 70 10 = Y.1 70 10)) := by
  have hK := h.2.2.2.2.1
  have l1 : (1 : Int32).toInt = 1 := by decide
  have l2 : (2 : Int32).toInt = 2 := by decide
  have op : ((X.1 26 (ix n1)).toInt = 42 ∧ p.toInt = 24) ∨ ((X.1 26 (ix n1)).toInt = 43 ∧ p.toInt = 22) ∨ ((X.1 26 (ix n1)).toInt = 45 ∧ p.toInt = 23) ∨ ((X.1 26 (ix n1)).toInt = 47 ∧ p.toInt = 25) ∨ (¬ (X.1 26 (ix n1)).toInt = 42 ∧ ¬ (X.1 26 (ix n1)).toInt = 43 ∧ ¬ (X.1 26 (ix n1)).toInt = 45 ∧ ¬ (X.1 26 (ix n1)).toInt = 47 ∧ p.toInt = 26) := by
    unfold opc at hop
    split at hop
    · omega
    · split at hop
      · omega
      · split at hop
        · omega
        · split at hop
          · omega
          · split at hop
            · omega
            · split at hop
              · omega
              · omega
  refine n_dw ho (by omega) (fun x hx => ?_)
  rw [h1] at hx
  unfold f_works
  refine pw_neg (by omega) (pw_neg (by omega) (pw_neg (by omega) (pw_neg (by omega) (pw_neg (by omega) (pw_neg (by omega) (pw_pos hx (pw_bd (R := fun _ X1 => pw (g_Running_workNumbers p pl Y) (fun _ Y1 => OPQ X Y r ks sb c (t0 + 1) nn X1 Y1 ∧ Y1.1 70 10 = Y.1 70 10)) ?_ (fun _ X9 q => pw_ret q))))))))
  unfold f_sums
  refine pw_let (pw_let (pw_eq (fun X72 e72 => ?_)))
  have rx : ∀ e k, ¬ (e = 0 ∧ k = 31) → X72.1 e k = X.1 e k := fun e k q => by rw [e72, wI_ne _ _ _ _ _ _ q]
  have f31 : (X72.1 0 31).toInt = (t0 : Int) := by rw [e72, wI_at]; exact n_dec (q := 2) (by have := hK.1; omega) (by rw [l2]; rfl)
  have i0 : ix (X72.1 0 31) = t0 := ixn f31
  have i1 : ix (X72.1 0 31 + 1) = t0 + 1 := ixn (by rw [ti_add (by rw [f31, l1]; omega) (by rw [f31, l1]; omega), f31, l1]; omega)
  refine pw_let (pw_ck (fun _ => pw_let (pw_let (pw_let (pw_ck (fun _ => pw_let (pw_ck (fun _ => pw_to (rx 26 _ (by omega)) ?_))))))))
  rw [i0, i1, rx 61 _ (by omega), rx 61 _ (by omega)]
  have val : ∀ z : Int32, (∀ (Y4 : St), (X.1 61 (t0 + 1)).toInt = 0 → p.toInt < 25) → (∀ Y4 : St, pw (g_Running_resultOf p (X.1 61 t0) (X.1 61 (t0 + 1)) Y4) (fun v V => V = Y4 ∧ v = z)) → pw (bnd (f_value (0 : Int32) z X72) fun _ X13 => some ((0 : Int32), X13)) (fun _ X1 => pw (g_Running_workNumbers p pl Y) (fun _ Y1 => OPQ X Y r ks sb c (t0 + 1) nn X1 Y1 ∧ Y1.1 70 10 = Y.1 70 10)) := by
    intro z h0 hr
    refine pw_bd (n_value2 f31 (by omega)) (fun _ X79 hv => pw_ret ?_)
    refine l_two h hm hs hs1 (by omega) (fun Y4 hT => ?_)
    have cl : pw (g_Running_workNumbers_113 p (X.1 61 (t0 + 1)) (X.1 61 t0) Y4) (fun _ Y1 => OPQ X Y r ks sb c (t0 + 1) nn X79 Y1 ∧ Y1.1 70 10 = Y.1 70 10) := by
      unfold g_Running_workNumbers_113
      refine pw_bd (hr Y4) ?_
      rintro v V ⟨e1, e2⟩
      rw [e1, e2]
      exact pw_bd (l_pushN2 hT hn) (fun _ Y3 e3 => pw_ret (OPQ.pp (m := 2) h hm rx hv e3 (VR.num _)))
    exact pw_neg (by omega) (pw_neg (by omega) (pw_ite (fun g => pw_pos (h0 Y4 g) cl) (fun _ => cl)))
  have s70 : ((X.1 61 (t0 + 1)).toInt = 0 → p.toInt < 25) → pw (f_sums_70 n1 (X.1 61 t0) (X.1 61 (t0 + 1)) X72) (fun _ X1 => pw (g_Running_workNumbers p pl Y) (fun _ Y1 => OPQ X Y r ks sb c (t0 + 1) nn X1 Y1 ∧ Y1.1 70 10 = Y.1 70 10)) := by
    intro h0
    unfold f_sums_70
    refine pw_ck (fun _ => pw_to (rx 26 _ (by omega)) (pw_ite (fun g => pw_let (val _ (fun _ => h0) (fun Y4 => ?_))) (fun g1 => pw_ite (fun g => pw_let (val _ (fun _ => h0) (fun Y4 => ?_))) (fun g2 => pw_ite (fun g => pw_let (val _ (fun _ => h0) (fun Y4 => ?_))) (fun g3 => pw_ite (fun g => pw_ck (fun nz => pw_let (val _ (fun _ => h0) (fun Y4 => ?_)))) (fun g4 => pw_ck (fun nz => pw_let (val _ (fun _ => h0) (fun Y4 => ?_)))))))))
    · unfold g_Running_resultOf
      exact pw_neg (by omega) (pw_neg (by omega) (pw_pos (by omega) (pw_let (pw_ret ⟨rfl, rfl⟩))))
    · unfold g_Running_resultOf
      exact pw_pos (by omega) (pw_let (pw_ret ⟨rfl, rfl⟩))
    · unfold g_Running_resultOf
      exact pw_neg (by omega) (pw_pos (by omega) (pw_let (pw_ret ⟨rfl, rfl⟩)))
    · unfold g_Running_resultOf
      exact pw_neg (by omega) (pw_neg (by omega) (pw_neg (by omega) (pw_pos (by omega) (pw_neg nz (pw_ck (fun _ => pw_let (pw_ret ⟨rfl, rfl⟩)))))))
    · unfold g_Running_resultOf
      exact pw_neg (by omega) (pw_neg (by omega) (pw_neg (by omega) (pw_neg (by omega) (pw_neg nz (pw_ck (fun _ => pw_let (pw_ret ⟨rfl, rfl⟩)))))))
  have s54 : 25 ≤ p.toInt → pw (f_sums_54 n1 (X.1 61 t0) (X.1 61 (t0 + 1)) X72) (fun _ X1 => pw (g_Running_workNumbers p pl Y) (fun _ Y1 => OPQ X Y r ks sb c (t0 + 1) nn X1 Y1 ∧ Y1.1 70 10 = Y.1 70 10)) := by
    intro h25
    unfold f_sums_54
    refine pw_ite (fun g => pw_ck (fun _ => pw_to ((rx 22 _ (by omega)).trans hpl) ?_)) (fun g => s70 (fun q => absurd q g))
    have key : ∀ Y4 : St, TOPq Y Y4 (t0 + c + 1) → pw (f_ends 2 pl X72) (fun _ X1 => pw (g_Running_failWith 2 pl Y4) (fun _ Y1 => OPQ X Y r ks sb c (t0 + 1) nn X1 Y1 ∧ Y1.1 70 10 = Y.1 70 10)) := fun Y4 hT => OPQ.fail h rx hT (by decide)
    refine pw_bd (pw_all (Q := fun (Y4 : St) _ X1 => TOPq Y Y4 (t0 + c + 1) → pw (g_Running_failWith 2 pl Y4) (fun _ Y1 => OPQ X Y r ks sb c (t0 + 1) nn X1 Y1 ∧ Y1.1 70 10 = Y.1 70 10)) (fun Y4 => pw_im (fun hT => key Y4 hT))) (fun _ X1 hall => pw_ret ?_)
    refine l_two h hm hs hs1 (by omega) (fun Y4 hT => ?_)
    exact pw_neg (by omega) (pw_neg (by omega) (pw_pos g (pw_neg (by omega) (pw_bd (hall Y4 hT) (fun _ Y9 q => pw_ret q)))))
  refine pw_ite (fun g => s54 (by omega)) (fun g => pw_ck (fun _ => pw_to (rx 26 _ (by omega)) (pw_ite (fun g2 => s54 (by omega)) (fun g2 => ?_))))
  by_cases z : (X.1 61 (t0 + 1)).toInt = 0 ∧ p.toInt = 26
  · -- neither / nor %: cannot be, for it would not end well
    unfold f_sums_70
    exact pw_ck (fun _ => pw_to (rx 26 _ (by omega)) (pw_neg (by omega) (pw_neg (by omega) (pw_neg (by omega) (pw_neg (by omega) (pw_ck (fun nz => absurd z.1 nz)))))))
  · exact s70 (fun q => by omega)
end NUMS
