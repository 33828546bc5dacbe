/-! told() in states that are alike in what a run leaves -/
/-- the reference's cells that a run leaves -/
def RLq (X Y : St) : Prop := (∀ k, 31 ≤ k → k ≤ 46 → Y.1 0 k = X.1 0 k) ∧ ∀ e k, 60 ≤ e → e ≤ 80 → Y.1 e k = X.1 e k
/-- the class's -/
def CLl (X Y : St) : Prop := Y.1 0 5 = X.1 0 5 ∧ (∀ j k, 70 ≤ j → j ≤ 87 → Y.1 j k = X.1 j k) ∧ ∀ j k, j = 74 ∨ j = 75 ∨ j = 84 → Y.2.1 j k = X.2.1 j k
def SM {ρ : Type} (A : Option (ρ × St)) (X : St) (A0 : Option (ρ × St)) (X0 : St) : Prop := pw A (fun r V => V = X ∧ A0 = some (r, X0))
section SMES
variable {X Y Z X0 Y0 X1 Y1 : St} {ρ σ : Type} {A A0 B B0 : Option (ρ × St)} {p1 a1 a2 a3 b0 s w : Int32} {y : Int64}
theorem RLq.rf : RLq X X := ⟨fun _ _ _ => rfl, fun _ _ _ _ => rfl⟩
theorem CLl.rf : CLl X X := ⟨rfl, fun _ _ _ _ => rfl, fun _ _ _ => rfl⟩
theorem RLq.tr (h : RLq X Y) (g : RLq Y Z) : RLq X Z := ⟨fun k a b => (g.1 k a b).trans (h.1 k a b), fun e k a b => (g.2 e k a b).trans (h.2 e k a b)⟩
theorem CLl.tr (h : CLl X Y) (g : CLl Y Z) : CLl X Z := ⟨g.1.trans h.1, fun e k a b => (g.2.1 e k a b).trans (h.2.1 e k a b), fun e k a => (g.2.2 e k a).trans (h.2.2 e k a)⟩
theorem sm_ret {r : ρ} : SM (some (r, X)) X (some (r, X0)) X0 := pw_ret ⟨rfl, rfl⟩
theorem sm_ck {c : Prop} [Decidable c] (h : SM A X A0 X0) : SM (chk c A) X (chk c A0) X0 := pw_ck (fun hc => pw_mono h (fun r V q => ⟨q.1, by
  show (if c then A0 else none) = _
  rw [if_pos hc]
  exact q.2⟩))
theorem sm_ite {c : Prop} [Decidable c] (h1 : SM A X A0 X0) (h2 : SM B X B0 X0) : SM (if c then A else B) X (if c then A0 else B0) X0 := by
  by_cases g : c
  · rw [if_pos g, if_pos g]; exact h1
  · rw [if_neg g, if_neg g]; exact h2
theorem sm_let {α : Type} {v v0 : α} {K K0 : α → Option (ρ × St)} (e : v = v0) (h : ∀ x, SM (K x) X (K0 x) X0) : SM (letV v K) X (letV v0 K0) X0 := by
  rw [e]
  exact h v0
theorem sm_bd {C C0 : Option (σ × St)} {K K0 : σ → St → Option (ρ × St)} (h : SM C X C0 X0) (k : ∀ r, SM (K r X) X (K0 r X0) X0) : SM (bnd C K) X (bnd C0 K0) X0 := by
  refine pw_bd h ?_
  rintro r V ⟨e, e0⟩
  rw [e]
  refine pw_mono (k r) (fun r' V' q => ⟨q.1, ?_⟩)
  rw [e0]
  exact q.2
theorem RLq.o (h : RLq X0 X) (k : Nat) (h1 : 31 ≤ k) (h2 : k ≤ 46) : X.1 0 k = X0.1 0 k := h.1 k h1 h2
theorem RLq.i (h : RLq X0 X) (e k : Nat) (h1 : 60 ≤ e) (h2 : e ≤ 80) : X.1 e k = X0.1 e k := h.2 e k h1 h2
theorem sm_within2 (h : RLq X0 X) : ∀ (N : Nat) (s w : Int32), SM (f_within_2 N s w X) X (f_within_2 N s w X0) X0 := by
  intro N
  induction N with
  | zero => exact fun _ _ => pw_none
  | succ N ih =>
    intro s w
    have e : f_within_2 (N + 1) = f_within_2_s (f_within_2 N) := by
      unfold f_within_2
      exact lp_succ _ _ _
    rw [e]
    have k44 : ∀ b : Int32, SM (f_within_44 (f_within_2 N) s b X) X (f_within_44 (f_within_2 N) s b X0) X0 := fun b => by
      unfold f_within_44
      exact sm_ck (sm_let (h.i 67 _ (by decide) (by decide)) (fun x => ih s x))
    have k27 : ∀ b : Int32, SM (f_within_27 (f_within_2 N) s b X) X (f_within_27 (f_within_2 N) s b X0) X0 := fun b => by
      unfold f_within_27
      exact sm_ite (k44 b) (sm_let rfl (fun x => k44 x))
    have k16 : ∀ b : Int32, SM (f_within_16 (f_within_2 N) s b X) X (f_within_16 (f_within_2 N) s b X0) X0 := fun b => by
      unfold f_within_16
      exact sm_ite (sm_ite sm_ret (k27 b)) sm_ret
    unfold f_within_2_s
    exact sm_ite (sm_ck (sm_let (h.i 64 _ (by decide) (by decide)) (fun x => sm_ite (k16 w) (k27 w)))) (k16 w)
theorem sm_within (h : RLq X0 X) : SM (f_within s w X) X (f_within s w X0) X0 := by
  unfold f_within
  exact sm_within2 h BIG s w
theorem sm_deep (h : RLq X0 X) : SM (f_deep s w X) X (f_deep s w X0) X0 := by
  unfold f_deep
  exact sm_ite (sm_ck (sm_let (h.i 64 _ (by decide) (by decide)) (fun x => sm_ite sm_ret (sm_ck (sm_let (h.i 73 _ (by decide) (by decide)) (fun x => sm_ret)))))) (sm_ite (sm_ite sm_ret (sm_let rfl (fun x => sm_ck (sm_let (h.i 73 _ (by decide) (by decide)) (fun x => sm_ret))))) sm_ret)
theorem sm_told51 (h : RLq X0 X) : SM (f_told_51 a1 a2 a3 b0 X) X (f_told_51 a1 a2 a3 b0 X0) X0 := by
  unfold f_told_51
  refine sm_ite (sm_let (h.o 43 (by decide) (by decide)) (fun _ => sm_ret)) (sm_ite (sm_let (h.o 44 (by decide) (by decide)) (fun _ => sm_ret)) (sm_ite (sm_let (h.o 45 (by decide) (by decide)) (fun _ => sm_ret)) (sm_ite (sm_let (h.o 40 (by decide) (by decide)) (fun _ => sm_ret)) (sm_ite sm_ret (sm_ite ?_ (sm_ite (sm_ite sm_ret (sm_bd (sm_deep h) (fun _ => sm_ret))) (sm_ite (sm_let (h.o 46 (by decide) (by decide)) (fun _ => sm_ret)) (sm_ite (sm_let (h.o 36 (by decide) (by decide)) (fun _ => sm_ret)) (sm_ite (sm_let (h.o 35 (by decide) (by decide)) (fun _ => sm_ret)) sm_ret)))))))))
  exact sm_ite (sm_bd (sm_within h) (fun x => sm_ck (sm_let (h.i 66 _ (by decide) (by decide)) (fun _ => sm_ret)))) (sm_ite (sm_bd (sm_within h) (fun _ => sm_ret)) sm_ret)
theorem sm_told36 (h : RLq X0 X) : SM (f_told_36 a1 a2 b0 X) X (f_told_36 a1 a2 b0 X0) X0 := by
  unfold f_told_36
  exact sm_ite (sm_told51 h) (sm_ck (sm_let (h.i 61 _ (by decide) (by decide)) (fun _ => sm_told51 h)))
theorem sm_told21 (h : RLq X0 X) : SM (f_told_21 a1 b0 X) X (f_told_21 a1 b0 X0) X0 := by
  unfold f_told_21
  exact sm_ite (sm_told36 h) (sm_ck (sm_let (h.i 60 _ (by decide) (by decide)) (fun _ => sm_told36 h)))
theorem sm_told (h : RLq X0 X) : SM (f_told p1 X) X (f_told p1 X0) X0 := by
  unfold f_told
  exact sm_let (h.o 41 (by decide) (by decide)) (fun _ => sm_ite sm_ret (sm_let (h.o 43 (by decide) (by decide)) (fun _ => sm_ite (sm_told21 h) (sm_told21 h))))
-- the class
theorem CLl.i (h : CLl X0 X) (j k : Nat) (h1 : 70 ≤ j) (h2 : j ≤ 87) : X.1 j k = X0.1 j k := h.2.1 j k h1 h2
theorem sm_wrapOf (h : CLl X0 X) : SM (g_Heap_wrappingOf y X) X (g_Heap_wrappingOf y X0) X0 := by
  unfold g_Heap_wrappingOf
  exact sm_let rfl (fun _ => sm_let rfl (fun _ => sm_let rfl (fun _ => sm_ite (sm_ite sm_ret (sm_let (h.i 71 2 (by decide) (by decide)) (fun _ => sm_ite sm_ret sm_ret))) sm_ret)))
theorem sm_core12 (h : CLl X0 X) : ∀ (N : Nat) (l : Int64) (a b : Int32), SM (g_Heap_core_12 N l a b X) X (g_Heap_core_12 N l a b X0) X0 := by
  intro N
  induction N with
  | zero => exact fun _ _ _ => pw_none
  | succ N ih =>
    intro l a b
    have e : g_Heap_core_12 (N + 1) = g_Heap_core_12_s (g_Heap_core_12 N) := by
      unfold g_Heap_core_12
      exact lp_succ _ _ _
    rw [e]
    unfold g_Heap_core_12_s
    exact sm_ite sm_ret (sm_ite sm_ret (sm_ck (sm_let (h.2.2 75 _ (by decide)) (fun y3 => sm_bd (sm_wrapOf h) (fun x4 => sm_let rfl (fun x6 => ih _ _ _))))))
theorem sm_core (h : CLl X0 X) : SM (g_Heap_core y X) X (g_Heap_core y X0) X0 := by
  unfold g_Heap_core
  exact sm_bd (sm_wrapOf h) (fun _ => sm_core12 h _ _ _ _)
theorem sm_sortOf : SM (g_Heap_sortOf y X) X (g_Heap_sortOf y X0) X0 := by
  unfold g_Heap_sortOf
  exact sm_let rfl (fun _ => sm_let rfl (fun _ => sm_ret))
theorem sm_contentOf : SM (g_Heap_contentOf y X) X (g_Heap_contentOf y X0) X0 := by
  unfold g_Heap_contentOf
  exact sm_let rfl (fun _ => sm_ret)
theorem sm_lengthOf (h : CLl X0 X) : SM (g_Heap_lengthOf y X) X (g_Heap_lengthOf y X0) X0 := by
  unfold g_Heap_lengthOf
  exact sm_bd sm_contentOf (fun _ => sm_bd sm_sortOf (fun _ => sm_ite (sm_ite sm_ret (sm_let (h.i 71 0 (by decide) (by decide)) (fun _ => sm_ite sm_ret (sm_ck (sm_let (h.i 73 _ (by decide) (by decide)) (fun _ => sm_ret)))))) sm_ret))
theorem sm_contentTold (h : CLl X0 X) : SM (g_Running_contentTold y X) X (g_Running_contentTold y X0) X0 := by
  unfold g_Running_contentTold
  exact sm_bd sm_sortOf (fun _ => sm_ite (sm_bd (sm_lengthOf h) (fun _ => sm_ret)) (sm_bd sm_contentOf (fun _ => sm_ret)))
theorem sm_wrapsAround (h : CLl X0 X) : SM (g_Heap_wrappingsAround y X) X (g_Heap_wrappingsAround y X0) X0 := by
  unfold g_Heap_wrappingsAround
  exact sm_bd (sm_wrapOf h) (fun _ => sm_ite sm_ret (sm_ck (sm_let (h.i 81 _ (by decide) (by decide)) (fun _ => sm_ret))))
theorem sm_tell22 (h : CLl X0 X) : SM (g_Running_tellOf_22 p1 y X) X (g_Running_tellOf_22 p1 y X0) X0 := by
  unfold g_Running_tellOf_22
  have c70 : ∀ k, X.1 70 k = X0.1 70 k := fun k => h.i 70 k (by decide) (by decide)
  exact sm_ite (sm_let (c70 5) (fun _ => sm_ret)) (sm_ite (sm_let (c70 6) (fun _ => sm_ret)) (sm_ite (sm_let (c70 7) (fun _ => sm_ret)) (sm_ite (sm_let (c70 9) (fun _ => sm_ret)) (sm_ite (sm_let (c70 5) (fun _ => sm_ite (sm_bd (sm_core h) (fun _ => sm_bd sm_sortOf (fun _ => sm_ret))) sm_ret)) (sm_ite (sm_let (c70 5) (fun _ => sm_ite (sm_bd (sm_core h) (fun _ => sm_bd (sm_contentTold h) (fun _ => sm_ret))) sm_ret)) (sm_ite (sm_let (c70 5) (fun _ => sm_ite (sm_bd (sm_wrapsAround h) (fun _ => sm_ret)) sm_ret)) (sm_ite (sm_let (c70 18) (fun _ => sm_ret)) (sm_ite (sm_let (h.i 71 2 (by decide) (by decide)) (fun _ => sm_ret)) (sm_ite (sm_let (h.i 71 0 (by decide) (by decide)) (fun _ => sm_ret)) sm_ret)))))))))
theorem sm_tellOf (h : CLl X0 X) : SM (g_Running_tellOf p1 X) X (g_Running_tellOf p1 X0) X0 := by
  unfold g_Running_tellOf
  have c70 : ∀ k, X.1 70 k = X0.1 70 k := fun k => h.i 70 k (by decide) (by decide)
  exact sm_let (c70 15) (fun _ => sm_ite (sm_tell22 h) (sm_let (c70 15) (fun _ => sm_let rfl (fun _ => sm_ck (sm_let (h.2.2 84 _ (by decide)) (fun _ => sm_tell22 h))))))
/-- what the last run left, if there was one -/
def LST (XC XR : St) : Prop := ∃ X0 Y0 : St, RLq X0 XR ∧ CLl Y0 XC ∧ (((X0.1 0 41).toInt = 0 ∧ (Y0.1 0 5).toInt = 0) ∨ (¬ (X0.1 0 41).toInt = 0 ∧ ¬ (Y0.1 0 5).toInt = 0 ∧ ∃ (ks : List (List Int)) (u : Bool) (z : Int32), ENDq u X0 ∧ FNr ks z X0 z Y0 ∧ 0 ≤ (X0.1 0 46).toInt ∧ (X0.1 0 46).toInt ≤ 200))
variable {XC XR : St}
theorem LST.kp (h : LST XC XR) (c : CLl XC Y) (r : RLq XR X) : LST Y X := by
  obtain ⟨X0, Y0, a, b, d⟩ := h
  exact ⟨X0, Y0, a.tr r, b.tr c, d⟩
theorem LST.zero (a : (XR.1 0 41).toInt = 0) (b : (XC.1 0 5).toInt = 0) : LST XC XR := ⟨XR, XC, RLq.rf, CLl.rf, Or.inl ⟨a, b⟩⟩
theorem LST.cases (h : LST XC XR) : ((XR.1 0 41).toInt = 0 ∧ (XC.1 0 5).toInt = 0) ∨ (¬ (XR.1 0 41).toInt = 0 ∧ ¬ (XC.1 0 5).toInt = 0 ∧ (0 ≤ (XR.1 0 46).toInt ∧ (XR.1 0 46).toInt ≤ 200) ∧ SCr XR XC) := by
  obtain ⟨X0, Y0, r, c, d⟩ := h
  rw [r.o 41 (by decide) (by decide), c.1, r.o 46 (by decide) (by decide)]
  rcases d with d | ⟨d1, d2, ks, u, z, _, hF, d4⟩
  · exact Or.inl d
  · refine Or.inr ⟨d1, d2, d4, ?_⟩
    obtain ⟨⟨s1, s2, s3, s4⟩, ⟨s5, s6⟩, s7, s8⟩ := hF.2.1
    have k70 : ∀ k, XC.1 70 k = Y0.1 70 k := fun k => c.i 70 k (by decide) (by decide)
    have k71 : ∀ k, XC.1 71 k = Y0.1 71 k := fun k => c.i 71 k (by decide) (by decide)
    have k86 : ∀ k, XC.1 86 k = Y0.1 86 k := fun k => c.i 86 k (by decide) (by decide)
    have k87 : ∀ k, XC.1 87 k = Y0.1 87 k := fun k => c.i 87 k (by decide) (by decide)
    have x0 : ∀ k, 31 ≤ k → k ≤ 46 → XR.1 0 k = X0.1 0 k := r.1
    refine ⟨⟨by rw [k70, x0 45 (by decide) (by decide)]; exact s1, by rw [k70, x0 40 (by decide) (by decide)]; exact s2, by rw [k70, x0 39 (by decide) (by decide)]; exact s3, by rw [k70, x0 46 (by decide) (by decide)]; exact s4⟩, ⟨by rw [k71, x0 35 (by decide) (by decide)]; exact s5, by rw [k71, x0 36 (by decide) (by decide)]; exact s6⟩, fun i hi => ?_, fun g t h1 h2 => ?_⟩
    · rw [x0 46 (by decide) (by decide)] at hi
      rw [k86, r.i 79 i (by decide) (by decide)]
      exact s7 i hi
    · rw [k87, r.i 80 _ (by decide) (by decide)]
      exact s8 g t h1 h2
/-- told -/
theorem LST.told (h : LST XC XR) : pw (f_told p1 XR) (fun a _ => pw (g_Court_told p1 XC) (fun b _ => b = a)) := by
  have hc := h.cases
  obtain ⟨X0, Y0, r, c, d⟩ := h
  rcases hc with ⟨e1, e2⟩ | ⟨e1, e2, _⟩
  · unfold f_told g_Court_told
    exact pw_let (pw_pos e1 (pw_ret (pw_let (pw_pos e2 (pw_ret rfl)))))
  · have d' : ∃ (ks : List (List Int)) (u : Bool) (z : Int32), ENDq u X0 ∧ FNr ks z X0 z Y0 := by
      rcases d with ⟨d1, _⟩ | ⟨_, _, ks, u, z, a, b, _⟩
      · rw [r.o 41 (by decide) (by decide)] at e1
        exact absurd d1 e1
      · exact ⟨ks, u, z, a, b⟩
    obtain ⟨ks, u, z, hE, hF⟩ := d'
    refine pw_mono (sm_told (p1 := p1) r) (fun a V q => ?_)
    unfold g_Court_told
    refine pw_let (pw_neg e2 (pw_bd (R := fun b _ => b = a) (pw_mono (sm_tellOf (p1 := p1) c) (fun b V1 q1 => ?_)) (fun _ _ q => pw_ret q)))
    exact n_told hE hF a X0 q.2 b Y0 q1.2
/-- out -/
theorem LST.out (h : LST XC XR) : pw (f_out p1 XR) (fun a _ => pw (g_Court_out p1 XC) (fun b _ => b = a)) := by
  rcases h.cases with ⟨e1, e2⟩ | ⟨e1, e2, ⟨b1, b2⟩, hS⟩
  · unfold f_out g_Court_out
    exact pw_let (pw_pos e1 (pw_ret (pw_let (pw_pos e2 (pw_ret rfl)))))
  · obtain ⟨⟨_, _, _, s4⟩, _, s7, _⟩ := hS
    have l1 : (1 : Int32).toInt = 1 := by decide
    have l0 : (0 : Int32).toInt = 0 := by decide
    unfold f_out
    refine pw_let (pw_neg e1 (pw_let (pw_eq (fun x3 e3 => pw_bd (pw_ok (s_f_in _ _ _ _)) ?_))))
    rintro x4 X5 ⟨hF, hin⟩
    obtain rfl : XR = X5 := (Fr.nil hF).symm
    have v3 : x3.toInt = (XR.1 0 46).toInt - 1 := by rw [e3, ti_sub (by rw [l1]; omega) (by rw [l1]; omega), l1]
    have hin : (x4.toInt = 1 ∧ 0 ≤ p1.toInt ∧ p1.toInt ≤ x3.toInt) ∨ (x4.toInt = 0 ∧ (p1.toInt < 0 ∨ x3.toInt < p1.toInt)) := hin
    unfold g_Court_out
    refine pw_ite (fun z => pw_ret (pw_let (pw_neg e2 (pw_ite (fun _ => pw_ret rfl) (fun c => pw_let (pw_neg (by rw [s4]; omega) (pw_ret rfl))))))) (fun z => pw_ck (fun _ => pw_let (pw_ret (pw_let (pw_neg e2 (pw_neg (by omega) (pw_let (pw_pos (by rw [s4]; omega) (pw_ck (fun _ => pw_let (pw_ret ?_)))))))))))
    have ep := ixc (z := p1) (by omega)
    exact s7 (ix p1) (by omega)
end SMES
