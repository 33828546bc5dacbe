/-! pops and pushes; plain instructions on both sides -/
/-- values have been taken off the class's stack: n are left -/
def TOPq (Y Y0 : St) (n : Nat) : Prop := (Y0.1 70 15).toInt = (n : Int) ∧ (∀ j k, ¬ (j = 70 ∧ k = 15) → Y0.1 j k = Y.1 j k) ∧ Y0.2 = Y.2
/-- y has been put on n values -/
def PSHq (Y : St) (n : Nat) (y : Int64) (Y1 : St) : Prop := (Y1.1 70 15).toInt = (n : Int) + 1 ∧ (∀ j k, ¬ (j = 70 ∧ k = 15) → Y1.1 j k = Y.1 j k) ∧ Y1.2.2 = Y.2.2 ∧ (∀ j k, ¬ (j = 84 ∧ k = n) → Y1.2.1 j k = Y.2.1 j k) ∧ Y1.2.1 84 n = y
/-- the reference's cell n is (s, w), and on top -/
def VALq (X : St) (n : Nat) (s w : Int32) (X1 : St) : Prop := (X1.1 0 31).toInt = (n : Int) + 1 ∧ X1.1 60 n = s ∧ X1.1 61 n = w ∧ ∀ e k, ¬ (e = 0 ∧ k = 31) → ¬ ((e = 60 ∨ e = 61) ∧ k = n) → X1.1 e k = X.1 e k
section PPS
variable {X Y Z X1 Y1 X0 Y0 V V1 : St} {r r1 r2 : Nat → Int32} {s w k a b p p1 p2 v pl o1 n1 x : Int32} {y y1 : Int64} {ks : List (List Int)} {e c m n i j sb tp t0 nn nn1 o q : Nat}
theorem TOPq.rf (h : (Y.1 70 15).toInt = (n : Int)) : TOPq Y Y n := ⟨h, fun _ _ _ => rfl, rfl⟩
theorem l_pop2 (h : TOPq Y Y0 (n + 1)) : pw (g_Running_pop Y0) (fun z Y1 => TOPq Y Y1 n ∧ z = Y.2.1 84 n) := by
  obtain ⟨h1, h2, h3⟩ := h
  refine pw_mono (l_rpop (n := n) (by rw [h1]; omega)) (fun z Y1 g => ⟨⟨?_, fun j k q => ?_, ?_⟩, ?_⟩)
  · rw [g.1, wI_at]
    exact top_dec (by rw [h1]; omega)
  · rw [g.1, wI_ne _ _ _ _ _ _ q]
    exact h2 j k q
  · rw [g.1, ← h3]
    rfl
  · rw [g.2, h3]
theorem l_popC2 (h : TOPq Y Y0 (n + 1)) : pw (g_Running_popContent Y0) (fun z Y1 => TOPq Y Y1 n ∧ z = (Y.2.1 84 n).toInt32) := by
  unfold g_Running_popContent
  refine pw_bd (l_pop2 h) ?_
  rintro y1 X2 ⟨e2, e1⟩
  unfold g_Heap_contentOf
  exact pw_bd (pw_let (pw_ret ⟨rfl, rfl⟩) : pw _ (fun z V => V = X2 ∧ z = y1.toInt32)) (fun x3 X4 q => pw_ret ⟨by rw [q.1]; exact e2, by rw [q.2, e1]⟩)
theorem l_push2 (h : TOPq Y Y0 n) (hn : n < 20002) : pw (g_Running_push y Y0) (fun _ Y1 => PSHq Y n y Y1) := by
  have l1 : (1 : Int32).toInt = 1 := by decide
  obtain ⟨h1, h2, h3⟩ := h
  refine pw_mono (l_rpush (y := y) h1 hn) (fun _ Y1 g => ⟨?_, fun j k q => ?_, ?_, fun j k q => ?_, ?_⟩)
  · rw [g, wI_at, ti_add (by rw [h1, l1]; omega) (by rw [h1, l1]; omega), h1, l1]
  · rw [g, wI_ne _ _ _ _ _ _ q]
    exact h2 j k q
  · rw [g, ← h3]
    rfl
  · rw [g]
    show (wL Y0 84 n y).2.1 j k = _
    rw [wL_ne _ _ _ _ _ _ q, h3]
  · rw [g]
    show (wL Y0 84 n y).2.1 84 n = _
    rw [wL_at]
theorem l_pushN2 (h : TOPq Y Y0 n) (hn : n < 20002) : pw (g_Running_pushNumber x Y0) (fun _ Y1 => PSHq Y n (VLs 0 x) Y1) := by
  unfold g_Running_pushNumber
  refine pw_bd l_valueOf ?_
  rintro y1 X2 ⟨e2, e1⟩
  rw [e2, e1]
  exact pw_bd (l_push2 h hn) (fun _ X3 e3 => pw_ret e3)
theorem l_pushT2 (h : TOPq Y Y0 n) (hn : n < 20002) (hx : x.toInt = 0 ∨ x.toInt = 1) : pw (g_Running_pushTruth x Y0) (fun _ Y1 => PSHq Y n (VLs 1 x) Y1) := by
  have q : ∀ b : Int32, pw (g_Running_pushTruth_11 b (1 : Int32) Y0) (fun _ Y1 => PSHq Y n (VLs 1 b) Y1) := by
    intro b
    unfold g_Running_pushTruth_11
    refine pw_bd l_valueOf ?_
    rintro y1 X2 ⟨e2, e1⟩
    rw [e2, e1]
    exact pw_bd (l_push2 h hn) (fun _ X3 e3 => pw_ret e3)
  unfold g_Running_pushTruth
  refine pw_ite (fun z => ?_) (fun z => ?_)
  · rw [show x = 0 from Int32.toInt_inj.mp (by rw [z]; decide)]
    exact q 0
  · rw [show x = 1 from Int32.toInt_inj.mp (by rw [show (1 : Int32).toInt = 1 from by decide]; omega)]
    exact q 1
theorem n_value2 (h : (X0.1 0 31).toInt = (n : Int)) (hn : n < 100000) : pw (f_value s w X0) (fun _ X1 => VALq X0 n s w X1) := by
  have l1 : (1 : Int32).toInt = 1 := by decide
  refine pw_mono (n_value h) (fun _ X1 g => ⟨?_, ?_, ?_, fun e k q1 q2 => ?_⟩)
  · rw [g, wI_at, ti_add (by rw [h, l1]; omega) (by rw [h, l1]; omega), h, l1]
  · rw [g, wI_ne _ _ _ _ _ _ (by omega), wI_ne _ _ _ _ _ _ (by omega), wI_at]
  · rw [g, wI_ne _ _ _ _ _ _ (by omega), wI_at]
  · rw [g, wI_ne _ _ _ _ _ _ (by omega), wI_ne _ _ _ _ _ _ (by omega), wI_ne _ _ _ _ _ _ (by omega)]
theorem n_dec (h : (X.1 0 31).toInt = (n : Int) + q) (hq : (q : Int) = p.toInt) : (X.1 0 31 - p).toInt = (n : Int) := by
  have := (X.1 0 31).toInt_lt
  rw [ti_sub (by omega) (by omega)]
  omega
/-- values taken off, one put on: both sides -/
theorem OPQ.pp (h : INS e X Y r ks sb c (t0 + m) nn) (hm : sb ≤ t0) (hX0 : ∀ e k, ¬ (e = 0 ∧ k = 31) → X0.1 e k = X.1 e k) (hx : VALq X0 t0 s w X1) (hy : PSHq Y (t0 + c + 1) y Y1) (hv : VR X r s w y) : OPQ X Y r ks sb c (t0 + 1) nn X1 Y1 ∧ Y1.1 70 10 = Y.1 70 10 := by
  obtain ⟨a1, a2, a3, a4⟩ := hx
  obtain ⟨b1, b2, b3, b4, b5⟩ := hy
  have rx : ∀ e k, ¬ (e = 0 ∧ k = 31) → ¬ ((e = 60 ∨ e = 61) ∧ k = t0) → X1.1 e k = X.1 e k := fun e k q1 q2 => (a4 e k q1 q2).trans (hX0 e k q1)
  have hX : HXc X X1 := ⟨fun k q => rx 0 k (by omega) (by omega), fun e k q => rx e k (by omega) (by omega)⟩
  refine ⟨OPQ.pure0 h (fun e k q1 q2 => rx e k q1 (by omega)) (fun j k q => b2 j k (by omega)) b3 (fun j k q1 q2 => b4 j k (by omega)) (h.2.2.2.2.1.rep (HG.of hX) hm (by rw [a1]; omega) (by rw [b1]; omega) (fun i hi => ⟨rx 60 i (by omega) (by omega), rx 61 i (by omega) (by omega)⟩) (fun i hi => b4 84 i (by omega)) ?_) (h.2.2.2.2.2.cg (HG.of hX) (Nat.le_refl _) (fun s _ => ⟨rx 62 _ (by omega) (by omega), rx 63 _ (by omega) (by omega)⟩) (fun s _ => b4 83 _ (by omega))), b2 70 10 (by omega)⟩
  rw [a2, a3, b5]
  exact hv.up (HG.of hX)
theorem LFq.opq (h : INS e X Y r ks sb c tp nn) (g : LFq X Y r sb c tp X1 Y1) : OPQ X Y r ks sb c (tp + 1) nn X1 Y1 ∧ Y1.1 70 10 = Y.1 70 10 := by
  obtain ⟨g1, g2, g3, g4, g5⟩ := g
  have hs := h.2.2.2.2.1.2.2.1
  have hX : HXc X X1 := ⟨fun k q => g2 0 k (by omega) (by omega), fun e k q => g2 e k (by omega) (by omega)⟩
  exact ⟨OPQ.pure0 h (fun e k q1 q2 => g2 e k q1 (by omega)) (fun j k q => g3 j k (by omega)) g5 (fun j k q1 q2 => g4 j k (by omega)) g1 (h.2.2.2.2.2.cg (HG.of hX) (Nat.le_refl _) (fun s _ => ⟨g2 62 _ (by omega) (by omega), g2 63 _ (by omega) (by omega)⟩) (fun s _ => g4 83 _ (by omega))), g3 70 10 (by omega)⟩
/-- TRUTH -/
theorem op2 (ho : o1.toInt = (o : Int)) (h1 : (X.1 40 o).toInt = 2) (h : INS e X Y r ks sb c tp nn) (hn : tp + c + 1 < 20002) (hx : X.1 26 (ix n1) = x) (hx01 : x.toInt = 0 ∨ x.toInt = 1) : pw (f_does o1 n1 X) (fun z X1 => z = o1 + 1 ∧ pw (g_Running_workPlain 2 x pl Y) (fun _ Y1 => OPQ X Y r ks sb c (tp + 1) nn X1 Y1 ∧ Y1.1 70 10 = Y.1 70 10)) := by
  have hK := h.2.2.2.2.1
  unfold f_does
  refine pw_ck (fun _ => pw_eq (fun x1 e1 => ?_))
  have v1 : x1.toInt = 2 := by rw [e1, ixn ho]; exact h1
  refine pw_neg (by omega) (pw_neg (by omega) (pw_pos v1 (pw_ck (fun _ => pw_to hx (pw_bd (n_value2 (n := tp) hK.1 (by omega)) ?_)))))
  intro _ X14 e14
  refine pw_let (pw_ret ⟨rfl, ?_⟩)
  have fin : ∀ b : Int32, b = x → pw (g_Running_workPlain_83 b Y) (fun _ Y1 => OPQ X Y r ks sb c (tp + 1) nn X14 Y1 ∧ Y1.1 70 10 = Y.1 70 10) := by
    intro b hb
    unfold g_Running_workPlain_83
    rw [hb]
    exact pw_bd (l_pushT2 (TOPq.rf (n := tp + c + 1) hK.2.1) hn hx01) (fun _ Y6 e6 => pw_ret (OPQ.pp (m := 0) (t0 := tp) h hK.2.2.1 (fun _ _ _ => rfl) e14 e6 (VR.tru hx01)))
  unfold g_Running_workPlain
  refine pw_neg (by decide) (pw_neg (by decide) (pw_pos (by decide) (pw_ite (fun z => fin 0 ?_) (fun z => fin 1 ?_))))
  · exact (Int32.toInt_inj.mp (by rw [z]; decide)).symm
  · exact (Int32.toInt_inj.mp (by rw [show (1 : Int32).toInt = 1 from by decide]; omega)).symm
/-- LOCAL -/
theorem op3 (ho : o1.toInt = (o : Int)) (h1 : (X.1 40 o).toInt = 3) (h : INS e X Y r ks sb c tp nn) (hn : tp + c + 1 < 20002) (hx : X.1 26 (ix n1) = x) (hv : x.toInt = (n : Int)) (hnn : n < nn) (h44 : n < 44) (h32 : (X.1 0 32).toInt = 45 * (c : Int)) (h11 : (Y.1 70 11).toInt = (c : Int) + 1) (hc : c ≤ 99) : pw (f_does o1 n1 X) (fun z X1 => z = o1 + 1 ∧ pw (g_Running_workPlain 3 x pl Y) (fun _ Y1 => OPQ X Y r ks sb c (tp + 1) nn X1 Y1 ∧ Y1.1 70 10 = Y.1 70 10)) := by
  have hK := h.2.2.2.2.1
  unfold f_does
  refine pw_ck (fun _ => pw_eq (fun x1 e1 => ?_))
  have v1 : x1.toInt = 3 := by rw [e1, ixn ho]; exact h1
  have i23 : ix (X.1 0 32 + x) = 45 * c + n := ixn (by rw [ti_add (by rw [h32, hv]; omega) (by rw [h32, hv]; omega), h32, hv]; omega)
  refine pw_neg (by omega) (pw_neg (by omega) (pw_neg (by omega) (pw_pos v1 (pw_let (pw_ck (fun _ => pw_to hx (pw_let (pw_ck (fun _ => pw_let (pw_let (pw_ck (fun _ => pw_to hx (pw_let (pw_ck (fun _ => pw_let ?_)))))))))))))))
  rw [i23]
  refine pw_bd (n_value2 (n := tp) hK.1 (by omega)) ?_
  intro _ X14 e14
  refine pw_let (pw_ret ⟨rfl, ?_⟩)
  unfold g_Running_workPlain
  refine pw_neg (by decide) (pw_neg (by decide) (pw_neg (by decide) (pw_pos (by decide) (pw_bd (l_slot h11 hc hv h44) ?_))))
  rintro x8 Y9 ⟨f9, v8⟩
  rw [f9]
  refine pw_ck (fun _ => pw_let ?_)
  rw [ixn v8]
  exact pw_bd (l_push2 (TOPq.rf (n := tp + c + 1) hK.2.1) hn) (fun _ Y6 e6 => pw_ret (OPQ.pp (m := 0) (t0 := tp) h hK.2.2.1 (fun _ _ _ => rfl) e14 e6 (h.2.2.2.2.2 n hnn)))
/-- BIND -/
theorem op5 (ho : o1.toInt = (o : Int)) (h1 : (X.1 40 o).toInt = 13) (h : INS e X Y r ks sb c (t0 + 1) nn) (hm : sb ≤ t0) (hx : X.1 26 (ix n1) = x) (hv : x.toInt = (n : Int)) (h44 : n < 44) (hnn : ∀ s, s < nn1 → s = n ∨ s < nn) (h32 : (X.1 0 32).toInt = 45 * (c : Int)) (h11 : (Y.1 70 11).toInt = (c : Int) + 1) (hc : c ≤ 99) : pw (f_does o1 n1 X) (fun z X1 => z = o1 + 1 ∧ pw (g_Running_workPlain 5 x pl Y) (fun _ Y1 => OPQ X Y r ks sb c t0 nn1 X1 Y1 ∧ Y1.1 70 10 = Y.1 70 10)) := by
  have hK := h.2.2.2.2.1
  have l1 : (1 : Int32).toInt = 1 := by decide
  unfold f_does
  refine pw_ck (fun _ => pw_eq (fun x1 e1 => ?_))
  have v1 : x1.toInt = 13 := by rw [e1, ixn ho]; exact h1
  have d31 : (X.1 0 31 - 1).toInt = (t0 : Int) := n_dec (q := 1) (by have := hK.1; omega) (by rw [l1]; rfl)
  have i23 : ix (X.1 0 32 + x) = 45 * c + n := ixn (by rw [ti_add (by rw [h32, hv]; omega) (by rw [h32, hv]; omega), h32, hv]; omega)
  refine pw_neg (by omega) (pw_neg (by omega) (pw_neg (by omega) (pw_neg (by omega) (pw_neg (by omega) (pw_neg (by omega) (pw_neg (by omega) (pw_neg (by omega) (pw_neg (by omega) (pw_neg (by omega) (pw_neg (by omega) (pw_neg (by omega) (pw_neg (by omega) (pw_pos v1 (pw_let (pw_let (pw_eq (fun X80 e80 => pw_eq (fun x81 e81 => pw_ck (fun _ => pw_eq (fun x82 e82 => pw_eq (fun x83 e83 => pw_eq (fun x84 e84 => pw_ck (fun _ => pw_eq (fun x85 e85 => pw_ck (fun _ => pw_eq (fun X86 e86 => pw_eq (fun x87 e87 => pw_ck (fun _ => pw_eq (fun x88 e88 => pw_eq (fun x89 e89 => pw_eq (fun x90 e90 => pw_ck (fun _ => pw_eq (fun x91 e91 => pw_ck (fun _ => pw_eq (fun X92 e92 => pw_let (pw_ret ⟨rfl, ?_⟩))))))))))))))))))))))))))))))))))))
  have r80 : ∀ e k, ¬ (e = 0 ∧ k = 31) → X80.1 e k = X.1 e k := fun e k q => by rw [e80, wI_ne _ _ _ _ _ _ q]
  have i84 : ix x84 = t0 := by rw [e84, e80, wI_at]; exact ixn d31
  have i83 : ix x83 = 45 * c + n := by rw [e83, e81, e82, r80 0 32 (by omega), r80 26 _ (by omega), hx]; exact i23
  rw [i83] at e86
  rw [i84, r80 60 _ (by omega)] at e85
  have r86 : ∀ e k, ¬ (e = 62 ∧ k = 45 * c + n) → X86.1 e k = X80.1 e k := fun e k q => by rw [e86, wI_ne _ _ _ _ _ _ q]
  have i90 : ix x90 = t0 := by rw [e90, r86 0 31 (by omega), e80, wI_at]; exact ixn d31
  have i89 : ix x89 = 45 * c + n := by rw [e89, e87, e88, r86 0 32 (by omega), r86 26 _ (by omega), r80 0 32 (by omega), r80 26 _ (by omega), hx]; exact i23
  rw [i89] at e92
  rw [i90, r86 61 _ (by omega), r80 61 _ (by omega)] at e91
  have rx : ∀ e k, ¬ (e = 0 ∧ k = 31) → ¬ ((e = 62 ∨ e = 63) ∧ k = 45 * c + n) → X92.1 e k = X.1 e k := fun e k q1 q2 => by rw [e92, wI_ne _ _ _ _ _ _ (by omega), r86 e k (by omega), r80 e k q1]
  have f31 : (X92.1 0 31).toInt = (t0 : Int) := by rw [e92, wI_ne _ _ _ _ _ _ (by omega), r86 0 31 (by omega), e80, wI_at]; exact d31
  have f62 : X92.1 62 (45 * c + n) = X.1 60 t0 := by rw [e92, wI_ne _ _ _ _ _ _ (by omega), e86, wI_at, e85]
  have f63 : X92.1 63 (45 * c + n) = X.1 61 t0 := by rw [e92, wI_at, e91]
  have hX : HXc X X92 := ⟨fun k q => rx 0 k (by omega) (by omega), fun e k q => rx e k (by omega) (by omega)⟩
  unfold g_Running_workPlain
  refine pw_neg (by decide) (pw_neg (by decide) (pw_neg (by decide) (pw_neg (by decide) (pw_neg (by decide) (pw_pos (by decide) (pw_bd (l_slot h11 hc hv h44) ?_))))))
  rintro x8 Y9 ⟨f9, v8⟩
  rw [f9]
  refine pw_bd (l_pop2 (TOPq.rf (n := t0 + c + 1 + 1) (by have := hK.2.1; omega))) ?_
  rintro y19 Y20 ⟨⟨g1, g2, g3⟩, e19⟩
  refine pw_ck (fun _ => pw_eq (fun Y21 e21 => pw_ret ?_))
  rw [ixn v8, e19] at e21
  have yl : ∀ j k, ¬ (j = 83 ∧ k = 44 * c + n) → Y21.2.1 j k = Y.2.1 j k := fun j k q => by rw [e21, wL_ne _ _ _ _ _ _ q, g3]
  refine ⟨OPQ.pure0 h (fun e k q1 q2 => rx e k q1 (by omega)) (fun j k q => ?_) (by rw [e21, ← g3]; rfl) (fun j k q1 q2 => yl j k (by omega)) (hK.pop (m := 1) (HG.of hX) hm f31 ?_ (fun i hi => ⟨rx 60 i (by omega) (by omega), rx 61 i (by omega) (by omega)⟩) (fun i hi => yl 84 i (by omega))) (fun s hs => ?_), ?_⟩
  · rw [e21]
    exact g2 j k (by omega)
  · rw [e21]
    exact g1
  · by_cases q : s = n
    · rw [q, f62, f63, e21, wL_at]
      exact (hK.2.2.2 t0 hm (by omega)).up (HG.of hX)
    · have hs2 : s < nn := by rcases hnn s hs with z | z; exact absurd z q; exact z
      rw [rx 62 _ (by omega) (by omega), rx 63 _ (by omega) (by omega), yl 83 _ (by omega)]
      exact (h.2.2.2.2.2 s hs2).up (HG.of hX)
  · rw [e21]
    exact g2 70 10 (by omega)
/-- BRANCH -/
theorem op6 (ho : o1.toInt = (o : Int)) (h1 : (X.1 40 o).toInt = 15) (h : INS e X Y r ks sb c (t0 + 1) nn) (hm : sb ≤ t0) (hfl : (X.1 60 t0).toInt = 1) : pw (f_does o1 n1 X) (fun z X1 => pw (g_Running_workPlain 6 x pl Y) (fun _ Y1 => OPQ X Y r ks sb c t0 nn X1 Y1 ∧ ((z = o1 + 1 ∧ Y1.1 70 10 = Y.1 70 10) ∨ (z = X.1 46 (ix n1) ∧ Y1.1 70 10 = x)))) := by
  have hK := h.2.2.2.2.1
  have l1 : (1 : Int32).toInt = 1 := by decide
  unfold f_does
  refine pw_ck (fun _ => pw_eq (fun x1 e1 => ?_))
  have v1 : x1.toInt = 15 := by rw [e1, ixn ho]; exact h1
  have d31 : (X.1 0 31 - 1).toInt = (t0 : Int) := n_dec (q := 1) (by have := hK.1; omega) (by rw [l1]; rfl)
  obtain ⟨hyt, hw01⟩ := (hK.2.2.2 t0 hm (by omega)).flag hfl
  have cls : ∀ (X1 : St), (∀ e k, ¬ (e = 0 ∧ k = 31) → X1.1 e k = X.1 e k) → (X1.1 0 31).toInt = (t0 : Int) → pw (g_Running_workPlain 6 x pl Y) (fun _ Y1 => OPQ X Y r ks sb c t0 nn X1 Y1 ∧ (((X.1 61 t0).toInt = 1 ∧ Y1.1 70 10 = Y.1 70 10) ∨ ((X.1 61 t0).toInt = 0 ∧ Y1.1 70 10 = x))) := by
    intro X1 rx f31
    have hX : HXc X X1 := ⟨fun k q => rx 0 k (by omega), fun e k q => rx e k (by omega)⟩
    unfold g_Running_workPlain
    refine pw_neg (by decide) (pw_neg (by decide) (pw_neg (by decide) (pw_neg (by decide) (pw_neg (by decide) (pw_neg (by decide) (pw_pos (by decide) (pw_bd (l_popC2 (TOPq.rf (n := t0 + c + 1 + 1) (by have := hK.2.1; omega))) ?_)))))))
    rintro x23 Y24 ⟨⟨g1, g2, g3⟩, e23⟩
    rw [hyt, vl_con] at e23
    have fin : ∀ Y1 : St, (∀ j k, ¬ (j = 70 ∧ k = 10) → Y1.1 j k = Y24.1 j k) → Y1.2 = Y24.2 → OPQ X Y r ks sb c t0 nn X1 Y1 := fun Y1 q1 q2 => OPQ.pure0 h (fun e k z1 z2 => rx e k z1) (fun j k z => (q1 j k (by omega)).trans (g2 j k (by omega))) (by rw [q2, g3]) (fun j k _ _ => by rw [q2, g3]) (hK.pop (m := 1) (HG.of hX) hm f31 (by rw [q1 70 15 (by omega)]; exact g1) (fun i hi => ⟨rx 60 i (by omega), rx 61 i (by omega)⟩) (fun i hi => by rw [q2, g3])) (h.2.2.2.2.2.cg (HG.of hX) (Nat.le_refl _) (fun s _ => ⟨rx 62 _ (by omega), rx 63 _ (by omega)⟩) (fun s _ => by rw [q2, g3]))
    refine pw_ite (fun z => pw_eq (fun Y25 e25 => pw_ret ⟨fin _ (fun j k q => ?_) ?_, Or.inr ⟨by rw [← e23]; exact z, ?_⟩⟩)) (fun z => pw_ret ⟨fin _ (fun _ _ _ => rfl) rfl, Or.inl ⟨?_, g2 70 10 (by omega)⟩⟩)
    · rw [e25, wI_ne _ _ _ _ _ _ q]
    · rw [e25]; rfl
    · rw [e25, wI_at]
    · rw [e23] at z
      rcases hw01 with q | q
      · exact absurd q z
      · exact q
  refine pw_neg (by omega) (pw_neg (by omega) (pw_neg (by omega) (pw_neg (by omega) (pw_neg (by omega) (pw_neg (by omega) (pw_neg (by omega) (pw_neg (by omega) (pw_neg (by omega) (pw_neg (by omega) (pw_neg (by omega) (pw_neg (by omega) (pw_neg (by omega) (pw_neg (by omega) (pw_neg (by omega) (pw_pos v1 (pw_let (pw_let (pw_eq (fun X80 e80 => pw_eq (fun x84 e84 => pw_ck (fun _ => pw_eq (fun x85 e85 => ?_))))))))))))))))))))))
  have r80 : ∀ e k, ¬ (e = 0 ∧ k = 31) → X80.1 e k = X.1 e k := fun e k q => by rw [e80, wI_ne _ _ _ _ _ _ q]
  have f31 : (X80.1 0 31).toInt = (t0 : Int) := by rw [e80, wI_at]; exact d31
  have i84 : ix x84 = t0 := by rw [e84]; exact ixn f31
  rw [i84, r80 61 _ (by omega)] at e85
  have q := cls X80 r80 f31
  refine pw_ite (fun z => pw_let (pw_ret (pw_mono q (fun _ Y1 g => ⟨g.1, Or.inl ⟨rfl, ?_⟩⟩)))) (fun z => pw_ck (fun _ => pw_to (r80 46 _ (by omega)) (pw_ret (pw_mono q (fun _ Y1 g => ⟨g.1, Or.inr ⟨rfl, ?_⟩⟩)))))
  · rw [e85] at z
    rcases g.2 with g | g
    · exact g.2
    · omega
  · rw [e85] at z
    rcases g.2 with g | g
    · exact absurd g.1 z
    · exact g.2
/-- JUMP, DROP, JOIN -/
theorem op7 (ho : o1.toInt = (o : Int)) (h1 : (X.1 40 o).toInt = 16) : pw (f_does o1 n1 X) (fun z X1 => z = X.1 47 (ix n1) ∧ X1 = X) := by
  unfold f_does
  refine pw_ck (fun _ => pw_eq (fun x1 e1 => ?_))
  have v1 : x1.toInt = 16 := by rw [e1, ixn ho]; exact h1
  exact pw_neg (by omega) (pw_neg (by omega) (pw_neg (by omega) (pw_neg (by omega) (pw_neg (by omega) (pw_neg (by omega) (pw_neg (by omega) (pw_neg (by omega) (pw_neg (by omega) (pw_neg (by omega) (pw_neg (by omega) (pw_neg (by omega) (pw_neg (by omega) (pw_neg (by omega) (pw_neg (by omega) (pw_neg (by omega) (pw_pos v1 (pw_ck (fun _ => pw_let (pw_ret ⟨rfl, rfl⟩)))))))))))))))))))
theorem l_jump : pw (g_Running_workPlain 7 x pl Y) (fun _ Y1 => Y1 = wI Y 70 10 x) := by
  unfold g_Running_workPlain
  exact pw_neg (by decide) (pw_neg (by decide) (pw_neg (by decide) (pw_neg (by decide) (pw_neg (by decide) (pw_neg (by decide) (pw_neg (by decide) (pw_pos (by decide) (pw_eq (fun _ e => pw_ret e)))))))))
theorem l_join : pw (g_Running_workPlain 8 x pl Y) (fun _ Y1 => Y1 = Y) := by
  unfold g_Running_workPlain
  exact pw_neg (by decide) (pw_neg (by decide) (pw_neg (by decide) (pw_neg (by decide) (pw_neg (by decide) (pw_neg (by decide) (pw_neg (by decide) (pw_neg (by decide) (pw_neg (by decide) (pw_ret rfl)))))))))
theorem op8 (ho : o1.toInt = (o : Int)) (h1 : (X.1 40 o).toInt = 17) : pw (f_does o1 n1 X) (fun z X1 => z = o1 + 1 ∧ X1 = X) := by
  unfold f_does
  refine pw_ck (fun _ => pw_eq (fun x1 e1 => ?_))
  have v1 : x1.toInt = 17 := by rw [e1, ixn ho]; exact h1
  refine pw_neg (by omega) (pw_neg (by omega) (pw_neg (by omega) (pw_neg (by omega) (pw_neg (by omega) (pw_neg (by omega) (pw_neg (by omega) (pw_neg (by omega) (pw_neg (by omega) (pw_neg (by omega) (pw_neg (by omega) (pw_neg (by omega) (pw_neg (by omega) (pw_neg (by omega) (pw_neg (by omega) (pw_neg (by omega) (pw_neg (by omega) (pw_neg (by omega) (pw_neg (by omega) (pw_neg (by omega) (pw_neg (by omega) (pw_ck (fun _ => pw_eq (fun x121 e121 => ?_)))))))))))))))))))))))
  have v2 : x121.toInt = 17 := by rw [e121, ixn ho]; exact h1
  have hw : pw (f_works x121 n1 X) (fun _ X1 => X1 = X) := by
    unfold f_works
    exact pw_neg (by omega) (pw_neg (by omega) (pw_neg (by omega) (pw_neg (by omega) (pw_neg (by omega) (pw_neg (by omega) (pw_neg (by omega) (pw_neg (by omega) (pw_neg (by omega) (pw_neg (by omega) (pw_ret rfl))))))))))
  exact pw_bd hw (fun _ X2 e2 => pw_let (pw_ret ⟨rfl, e2⟩))
theorem op9 (ho : o1.toInt = (o : Int)) (h1 : (X.1 40 o).toInt = 29) (h : INS e X Y r ks sb c (t0 + 1) nn) (hm : sb ≤ t0) : pw (f_does o1 n1 X) (fun z X1 => z = o1 + 1 ∧ pw (g_Running_workPlain 9 x pl Y) (fun _ Y1 => OPQ X Y r ks sb c t0 nn X1 Y1 ∧ Y1.1 70 10 = Y.1 70 10)) := by
  have hK := h.2.2.2.2.1
  have l1 : (1 : Int32).toInt = 1 := by decide
  unfold f_does
  refine pw_ck (fun _ => pw_eq (fun x1 e1 => ?_))
  have v1 : x1.toInt = 29 := by rw [e1, ixn ho]; exact h1
  have d31 : (X.1 0 31 - 1).toInt = (t0 : Int) := n_dec (q := 1) (by have := hK.1; omega) (by rw [l1]; rfl)
  refine pw_neg (by omega) (pw_neg (by omega) (pw_neg (by omega) (pw_neg (by omega) (pw_neg (by omega) (pw_neg (by omega) (pw_neg (by omega) (pw_neg (by omega) (pw_neg (by omega) (pw_neg (by omega) (pw_neg (by omega) (pw_neg (by omega) (pw_neg (by omega) (pw_neg (by omega) (pw_neg (by omega) (pw_neg (by omega) (pw_neg (by omega) (pw_neg (by omega) (pw_pos v1 (pw_let (pw_let (pw_eq (fun X80 e80 => pw_let (pw_ret ⟨rfl, ?_⟩)))))))))))))))))))))))
  have rx : ∀ e k, ¬ (e = 0 ∧ k = 31) → X80.1 e k = X.1 e k := fun e k q => by rw [e80, wI_ne _ _ _ _ _ _ q]
  have f31 : (X80.1 0 31).toInt = (t0 : Int) := by rw [e80, wI_at]; exact d31
  have hX : HXc X X80 := ⟨fun k q => rx 0 k (by omega), fun e k q => rx e k (by omega)⟩
  unfold g_Running_workPlain
  refine pw_neg (by decide) (pw_neg (by decide) (pw_neg (by decide) (pw_neg (by decide) (pw_neg (by decide) (pw_neg (by decide) (pw_neg (by decide) (pw_neg (by decide) (pw_pos (by decide) (pw_bd (l_pop2 (TOPq.rf (n := t0 + c + 1 + 1) (by have := hK.2.1; omega))) ?_)))))))))
  rintro y29 Y30 ⟨⟨g1, g2, g3⟩, _⟩
  exact pw_ret ⟨OPQ.pure0 h (fun e k z1 z2 => rx e k z1) (fun j k z => g2 j k (by omega)) (by rw [g3]) (fun j k _ _ => by rw [g3]) (hK.pop (m := 1) (HG.of hX) hm f31 g1 (fun i hi => ⟨rx 60 i (by omega), rx 61 i (by omega)⟩) (fun i hi => by rw [g3])) (h.2.2.2.2.2.cg (HG.of hX) (Nat.le_refl _) (fun s _ => ⟨rx 62 _ (by omega), rx 63 _ (by omega)⟩) (fun s _ => by rw [g3])), g2 70 10 (by omega)⟩
end PPS
