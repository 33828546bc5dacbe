/-! the code of a tree and its orders: each kind of tree -/
section TRE2
variable {ch : Tx} {X : St} {R : Nat → Nat → Nat → Nat → List Ins → Prop} {nr : Int → Int} {c d : List Ins} {t i N lo hi : Nat}
theorem opc_lv (v : Int) : (20 ≤ opc v ∧ opc v ≤ 26) ∧ (opc v ≤ 21 ↔ lvl v = 1) := by
  unfold opc lvl
  by_cases h1 : v = 42
  · subst h1; decide
  by_cases h2 : v = 43
  · subst h2; decide
  by_cases h3 : v = 45
  · subst h3; decide
  by_cases h4 : v = 47
  · subst h4; decide
  by_cases h5 : v = 60
  · subst h5; decide
  by_cases h6 : v = 61
  · subst h6; decide
  rw [if_neg h1, if_neg h2, if_neg h3, if_neg h4, if_neg h5, if_neg h6, if_neg (by omega), if_neg (by omega)]
  split
  · decide
  · decide
/-- the names of nodes and the parts they name -/
def NRq (ch : Tx) (X : St) (nr : Int → Int) (c : List Ins) (N : Nat) : Prop := ∀ n, n < N → iv X 20 n = 3 → X.2.1 29 n = lN (p6 (nm ch (iv X 21 n).toNat)) → (∃ a ∈ c, a.1 = 4 ∧ a.2.2.1 = iv X 21 n) → iv X 26 n = nr (iv X 21 n)
theorem tre_l (b3 : plh d = iv X 21 t) (ht : t < N) (hN : NRq ch X nr c N) (h : OMl ch X t d) : TRE X nr c t i d := by
  rcases h with ⟨k0, rfl⟩ | ⟨⟨k0, kt⟩, rfl⟩ | ⟨k0, rfl⟩ | ⟨k0, rfl, h29⟩
  · refine ⟨⟨b3, List.cons_ne_nil _ _⟩, fun k s e lo hi sc S hC hA hk => ?_⟩
    obtain ⟨o1, rfl, w, o3, o4, _⟩ := hC.leaf (Or.inl k0)
    have ew : w = 0 := by omega
    subst ew
    exact SGm.first hk o1 rfl (SGm.i1 ⟨o4, rfl, rfl⟩ SGm.nil)
  · refine ⟨⟨b3, List.cons_ne_nil _ _⟩, fun k s e lo hi sc S hC hA hk => ?_⟩
    obtain ⟨o1, rfl, w, o3, o4, _⟩ := hC.leaf (Or.inr (Or.inl k0))
    have ew : w = 1 := by omega
    subst ew
    exact SGm.first hk o1 rfl (SGm.i2 ⟨o4, rfl, rfl, kt⟩ SGm.nil)
  · refine ⟨⟨b3, List.cons_ne_nil _ _⟩, fun k s e lo hi sc S hC hA hk => ?_⟩
    obtain ⟨o1, rfl, w, o3, o4, _⟩ := hC.leaf (Or.inr (Or.inr (Or.inl k0)))
    have ew : w = 2 := by omega
    subst ew
    exact SGm.first hk o1 rfl (SGm.i3 ⟨o4, rfl, rfl⟩ SGm.nil)
  · refine ⟨⟨b3, List.cons_ne_nil _ _⟩, fun k s e lo hi sc S hC hA hk => ?_⟩
    obtain ⟨o1, rfl, w, o3, o4, _⟩ := hC.leaf (Or.inr (Or.inr (Or.inr k0)))
    have ew : w = 3 := by omega
    subst ew
    have hA : ATc c i false s ((0, 1 + (k : Int), iv X 21 t, []) :: [(4, -1, iv X 21 t, [])]) := hA
    exact SGm.first hk o1 rfl (SGm.i4 ⟨o4, hN t ht k0 h29 ⟨_, List.mem_of_getElem? hA.cons.get, rfl, rfl⟩, rfl⟩ SGm.nil)
theorem tre_u (b3 : plh d = iv X 21 t) (hh : hi ≤ N) (ih : ∀ lo hi u i e, R lo hi u i e → hi ≤ N → TRE X nr c u i e) (h : OMu X R hi t i d) : TRE X nr c t i d := by
  obtain ⟨u, e, h23, hR, h⟩ := h
  have T := ih _ _ _ _ _ hR hh
  have c23 : ix (X.1 23 t) = u := ixn h23
  rcases h with ⟨k0, rfl⟩ | ⟨k0, rfl⟩ | ⟨k0, rfl⟩ | ⟨k0, rfl⟩ | ⟨k0, rfl⟩
  · refine ⟨⟨b3, List.cons_ne_nil _ _⟩, fun k s e1 lo hi sc S hC hA hk => ?_⟩
    obtain ⟨o1, l, r, o2⟩ := hC.k8 k0
    rw [c23] at o2
    have hA : ATc c i false s ((0, 1 + (k : Int), iv X 21 t, []) :: e) := hA
    exact SGm.first hk o1 rfl (T.go o2 hA.first)
  · refine ⟨⟨b3, List.cons_ne_nil _ _⟩, fun k s e1 lo hi sc S hC hA hk => ?_⟩
    obtain ⟨o1, p, ⟨l, r, o2⟩, o3, o4, rfl⟩ := hC.k6 k0
    rw [c23] at o2 o3
    have hA : ATc c i false s ((0, 1 + (k : Int), iv X 21 t, []) :: (e ++ [(29, 0, plh e, []), (12, 0, iv X 21 t, [])])) := hA
    exact SGm.first hk o1 rfl ((T.go o2 hA.first.app.1).app (SGm.i29 (n := u) (Or.inr ⟨o3, T.1.1.symm⟩) (SGm.i12 (n := t) ⟨o4, rfl⟩ SGm.nil)))
  · refine ⟨⟨b3, List.cons_ne_nil _ _⟩, fun k s e1 lo hi sc S hC hA hk => ?_⟩
    obtain ⟨o1, p, ⟨l, r, o2⟩, o3, o4, rfl⟩ := hC.k7 k0
    rw [c23] at o2 o3
    have hA : ATc c i false s ((0, 1 + (k : Int), iv X 21 t, []) :: (e ++ [(27, 0, plh e, []), (13, 0, iv X 21 t, [])])) := hA
    exact SGm.first hk o1 rfl ((T.go o2 hA.first.app.1).app (SGm.i27 (n := u) ⟨o3, T.1.1.symm⟩ (SGm.i13 (n := t) ⟨o4, rfl⟩ SGm.nil)))
  · refine ⟨⟨b3, List.cons_ne_nil _ _⟩, fun k s e1 lo hi sc S hC hA hk => ?_⟩
    obtain ⟨o1, p, ⟨l, r, o2⟩, o3, o4, rfl⟩ := hC.k12 k0
    rw [c23] at o2 o3
    have hA : ATc c i false s ((0, 1 + (k : Int), iv X 21 t, []) :: (e ++ [(27, 0, plh e, []), (18, 0, iv X 21 t, [])])) := hA
    exact SGm.first hk o1 rfl ((T.go o2 hA.first.app.1).app (SGm.i27 (n := u) ⟨o3, T.1.1.symm⟩ (SGm.i18 (n := t) ⟨o4, rfl⟩ SGm.nil)))
  · refine ⟨⟨b3, List.cons_ne_nil _ _⟩, fun k s e1 lo hi sc S hC hA hk => ?_⟩
    obtain ⟨o1, p, ⟨l, r, o2⟩, o3, o4, rfl⟩ := hC.k13 k0
    rw [c23] at o2 o3
    have hA : ATc c i false s ((0, 1 + (k : Int), iv X 21 t, []) :: (e ++ [(28, 0, plh e, []), (19, 0, iv X 21 t, [])])) := hA
    exact SGm.first hk o1 rfl ((T.go o2 hA.first.app.1).app (SGm.i28 (n := u) ⟨o3, T.1.1.symm⟩ (SGm.i19 (n := t) ⟨o4, rfl⟩ SGm.nil)))
theorem ned {e : List Ins} (l : List Ins) (h : ¬ e = []) : ¬ stp e ++ l = [] := by
  intro z
  have := congrArg List.length z
  rw [List.length_append, stp_len, List.length_nil] at this
  exact h (List.eq_nil_of_length_eq_zero (by omega))
/-- the steps ahead of an operand on the left -/
theorem k_left {k s : Nat} {e l : List Ins} (ne : ¬ e = []) (hd : plh (stp e ++ l) = iv X 21 t) (o1 : OA X (s + k) 0 t) (hk : ∀ m, m < k → ∃ n, OA X (s + m) 0 n ∧ iv X 21 n = plh (stp e ++ l)) : ∀ m, m < k + 1 → ∃ n, OA X (s + m) 0 n ∧ iv X 21 n = plh e := by
  rw [plh_stp e l ne] at hd hk
  intro m hm
  by_cases z : m = k
  · rw [z]; exact ⟨t, o1, hd.symm⟩
  · exact hk m (by omega)
theorem tre_2 (b3 : plh d = iv X 21 t) (hh : hi ≤ N) (ht : t < hi) (ih : ∀ lo hi u i e, R lo hi u i e → hi ≤ N → TRE X nr c u i e) (h : OM2 X R lo hi t i d) : TRE X nr c t i d := by
  rcases h with ⟨k0, u, w, u2, e, e2, h23, h24, r1, r2, _, _, rfl⟩ | ⟨k0, lv, u, u2, e, e2, h23, h24, r1, r2, rfl⟩
  · have c23 : ix (X.1 23 t) = u := ixn h23
    have c24 : ix (X.1 24 t) = u2 := ixn h24
    have T := ih _ _ _ _ _ r1 (by omega)
    have T2 := ih _ _ _ _ _ r2 hh
    refine ⟨⟨b3, List.cons_ne_nil _ _⟩, fun k s e1 lo hi sc S hC hA hk => ?_⟩
    obtain ⟨o1, p, q, ⟨_, _, o2⟩, o3, ⟨_, _, o4⟩, o5, rfl⟩ := hC.k5 k0
    rw [c23] at o2 o3
    rw [c24] at o4
    have hA : ATc c i false s ((0, 1 + (k : Int), iv X 21 t, []) :: (e ++ (27, 0, plh e, []) :: (e2 ++ [(11, 0, iv X 21 t, [])]))) := hA
    have G := T.go (S := S) o2 hA.first.app.1
    have A2 : ATc c (i + 1 + e.length + 1) false (p + 1) (e2 ++ [(11, 0, iv X 21 t, [])]) := (hA.first.sg G).cons
    exact SGm.first hk o1 rfl (G.app (SGm.i27 ⟨o3, T.1.1.symm⟩ ((T2.go o4 A2.app.1).app (SGm.i11 (n := t) ⟨o5, rfl⟩ SGm.nil))))
  · have c23 : ix (X.1 23 t) = u := ixn h23
    have c24 : ix (X.1 24 t) = u2 := ixn h24
    have T := ih _ _ _ _ _ r1 (by omega)
    have T2 := ih _ _ _ _ _ r2 hh
    refine ⟨⟨b3, ned _ T.1.2⟩, fun k s e1 lo hi sc S hC hA hk => ?_⟩
    obtain ⟨o1, p, q, ⟨_, _, o2⟩, o3, ⟨_, _, o4⟩, o5, o6, rfl⟩ := hC.k14 (by
      by_cases z : lvl (iv X 26 t) = 1
      · rw [if_pos z] at k0; exact Or.inr k0
      · rw [if_neg z] at k0; exact Or.inl k0)
    rw [c23] at o2 o3
    rw [c24] at o4 o5
    have hk1 := k_left T.1.2 b3 o1 hk
    rw [addx_stp _ k T.1.2] at hA ⊢
    have G := T.2 (k + 1) s p _ _ _ S o2 hA.app.1 hk1
    have A2 := (hA.sg G).cons
    have L : (addx e 0 ((k + 1 : Nat) : Int)).length = e.length := addx_len _ _ _
    refine G.app ?_
    rw [L] at A2 ⊢
    have A2 : ATc c (i + e.length + 1) false (p + 1) (e2 ++ [(27, 0, plh e2, []), (opc (iv X 26 t), 0, iv X 22 t, [])]) := A2
    have lo := opc_lv (iv X 26 t)
    refine SGm.i27 ⟨o3, T.1.1.symm⟩ ((T2.go o4 A2.app.1).app (SGm.i27 ⟨o5, T2.1.1.symm⟩ (SGm.i20 (n := t) lo.1 ⟨?_, rfl, rfl⟩ SGm.nil)))
    rcases o6 with ⟨z, o6⟩ | ⟨z, o6⟩
    · rw [z] at k0
      have : ¬ lvl (iv X 26 t) = 1 := fun y => by rw [if_pos y] at k0; exact absurd k0 (by decide)
      rw [if_neg (fun y => this (lo.2.mp y))]
      exact o6
    · rw [z] at k0
      have : lvl (iv X 26 t) = 1 := Classical.byContradiction (fun y => by rw [if_neg y] at k0; exact absurd k0 (by decide))
      rw [if_pos (lo.2.mpr this)]
      exact o6
theorem tre_10 (b3 : plh d = iv X 21 t) (hh : hi ≤ N) (ht : t < hi) (ih : ∀ lo hi u i e, R lo hi u i e → hi ≤ N → TRE X nr c u i e) (k0 : iv X 20 t = 10) (h : ∃ (u h u2 : Nat) (e e2 : List Ins), iv X 23 t = (u : Int) ∧ iv X 24 t = (u2 : Int) ∧ R lo t u i e ∧ R (t + 1) h u2 (i + e.length + 1) e2 ∧ t + 1 ≤ h ∧ h ≤ hi ∧
    ((iv X 25 t = -1 ∧ d = stp e ++ (29, 0, iv X 22 t, []) :: (e2 ++ [(27, 0, plh e2, []), (14, 0, iv X 22 t, [])])) ∨
     ∃ (u3 : Nat) (e3 : List Ins), iv X 25 t = (u3 : Int) ∧ R h hi u3 (i + e.length + 1 + e2.length + 1) e3 ∧ d = stp e ++ (29, 0, iv X 22 t, []) :: (e2 ++ (27, 0, plh e2, []) :: (e3 ++ [(33, 0, plh e3, []), (15, 0, iv X 22 t, [])])))) : TRE X nr c t i d := by
  obtain ⟨u, w, u2, e, e2, h23, h24, r1, r2, _, hw, h⟩ := h
  have c23 : ix (X.1 23 t) = u := ixn h23
  have c24 : ix (X.1 24 t) = u2 := ixn h24
  have T := ih _ _ _ _ _ r1 (by omega)
  have T2 := ih _ _ _ _ _ r2 (by omega)
  rcases h with ⟨h25, rfl⟩ | ⟨u3, e3, h25, r3, rfl⟩
  · refine ⟨⟨b3, ned _ T.1.2⟩, fun k s e1 lo hi sc S hC hA hk => ?_⟩
    obtain ⟨o1, p, q, ⟨_, _, o2⟩, o3, ⟨_, _, o4⟩, o5, o6, rfl⟩ := hC.k10r k0 h25
    rw [c23] at o2
    rw [c24] at o4 o5
    have hk1 := k_left T.1.2 b3 o1 hk
    rw [addx_stp _ k T.1.2] at hA ⊢
    have G := T.2 (k + 1) s p _ _ _ S o2 hA.app.1 hk1
    have A2 := (hA.sg G).cons
    have L : (addx e 0 ((k + 1 : Nat) : Int)).length = e.length := addx_len _ _ _
    refine G.app ?_
    rw [L] at A2 ⊢
    have A2 : ATc c (i + e.length + 1) false (p + 1) (e2 ++ [(27, 0, plh e2, []), (14, 0, iv X 22 t, [])]) := A2
    exact SGm.i29 (n := t) (Or.inl ⟨o3, rfl⟩) ((T2.go o4 A2.app.1).app (SGm.i27 ⟨o5, T2.1.1.symm⟩ (SGm.i14 (n := t) ⟨o6, rfl, _, rfl, rfl⟩ SGm.nil)))
  · have c25 : ix (X.1 25 t) = u3 := ixn h25
    have T3 := ih _ _ _ _ _ r3 hh
    refine ⟨⟨b3, ned _ T.1.2⟩, fun k s e1 lo hi sc S hC hA hk => ?_⟩
    obtain ⟨o1, p, q, v, ⟨_, _, o2⟩, o3, ⟨_, _, o4⟩, o5, ⟨_, _, o6⟩, o7, o8, rfl⟩ := hC.k10w k0 (by omega)
    rw [c23] at o2
    rw [c24] at o4 o5
    rw [c25] at o6
    have hk1 := k_left T.1.2 b3 o1 hk
    rw [addx_stp _ k T.1.2] at hA ⊢
    have G := T.2 (k + 1) s p _ _ _ S o2 hA.app.1 hk1
    have A2 := (hA.sg G).cons
    have L : (addx e 0 ((k + 1 : Nat) : Int)).length = e.length := addx_len _ _ _
    refine G.app ?_
    rw [L] at A2 ⊢
    have A2 : ATc c (i + e.length + 1) false (p + 1) (e2 ++ (27, 0, plh e2, []) :: (e3 ++ [(33, 0, plh e3, []), (15, 0, iv X 22 t, [])])) := A2
    have G2 := T2.go (S := (none, none, 1) :: S) o4 A2.app.1
    have A3 : ATc c (i + e.length + 1 + e2.length + 1) false (q + 1) (e3 ++ [(33, 0, plh e3, []), (15, 0, iv X 22 t, [])]) := (A2.sg G2).cons
    exact SGm.i29 (n := t) (Or.inl ⟨o3, rfl⟩) (G2.app (SGm.i27 ⟨o5, T2.1.1.symm⟩ ((T3.go o6 A3.app.1).app (SGm.i33 (n := t) ⟨o7, by rw [c25]; exact T3.1.1.symm, _, rfl, rfl⟩ (SGm.i15 (n := t) ⟨o8, rfl, _, rfl, rfl⟩ SGm.nil)))))
theorem tre_16 (b3 : plh d = iv X 21 t) (hh : hi ≤ N) (ih : ∀ lo hi u i e, R lo hi u i e → hi ≤ N → TRE X nr c u i e) (k0 : iv X 20 t = 16) (h : ∃ (u h u2 h2 u3 : Nat) (e e2 e3 : List Ins), iv X 23 t = (u : Int) ∧ iv X 24 t = (u2 : Int) ∧ iv X 25 t = (u3 : Int) ∧ R (t + 1) h u (i + 1) e ∧ R h h2 u2 (i + 1 + e.length + 2) e2 ∧ R h2 hi u3 (i + 1 + e.length + 2 + e2.length + 2) e3 ∧ t + 1 ≤ h ∧ h ≤ h2 ∧ h2 ≤ hi ∧
    d = (0, 1, iv X 21 t, []) :: (e ++ (28, 0, plh e, []) :: (6, ((i + 1 + e.length + 2 + e2.length + 2 : Nat) : Int), plh e, []) :: (e2 ++ (36, 0, plh e2, []) :: (7, ((i + 1 + e.length + 2 + e2.length + 2 + e3.length + 1 : Nat) : Int), plh e2, []) :: (e3 ++ [(36, 0, plh e3, []), (8, 0, iv X 21 t, [])])))) : TRE X nr c t i d := by
  obtain ⟨u, w, u2, w2, u3, e, e2, e3, h23, h24, h25, r1, r2, r3, w1, w3, w4, rfl⟩ := h
  have c23 : ix (X.1 23 t) = u := ixn h23
  have c24 : ix (X.1 24 t) = u2 := ixn h24
  have c25 : ix (X.1 25 t) = u3 := ixn h25
  have T := ih _ _ _ _ _ r1 (by omega)
  have T2 := ih _ _ _ _ _ r2 (by omega)
  have T3 := ih _ _ _ _ _ r3 hh
  refine ⟨⟨b3, List.cons_ne_nil _ _⟩, fun k s e1 lo hi sc S hC hA hk => ?_⟩
  obtain ⟨o1, p, q, v, ⟨_, _, o2⟩, o3, o4, ⟨_, _, o5⟩, o6, o7, o8, o9, ⟨_, _, o10⟩, o11, o12, o13, o14, rfl⟩ := hC.k16 k0
  rw [c23] at o2 o3
  rw [c24] at o5 o6 o7
  rw [c25] at o10 o11 o12
  have hA : ATc c i false s ((0, 1 + (k : Int), iv X 21 t, []) :: (e ++ (28, 0, plh e, []) :: (6, ((i + 1 + e.length + 2 + e2.length + 2 : Nat) : Int), plh e, []) :: (e2 ++ (36, 0, plh e2, []) :: (7, ((i + 1 + e.length + 2 + e2.length + 2 + e3.length + 1 : Nat) : Int), plh e2, []) :: (e3 ++ [(36, 0, plh e3, []), (8, 0, iv X 21 t, [])])))) := hA
  have G := T.go (S := S) o2 hA.first.app.1
  have A1 := hA.first.sg G
  have A2 : ATc c (i + 1 + e.length + 2) false (p + 2) (e2 ++ (36, 0, plh e2, []) :: (7, ((i + 1 + e.length + 2 + e2.length + 2 + e3.length + 1 : Nat) : Int), plh e2, []) :: (e3 ++ [(36, 0, plh e3, []), (8, 0, iv X 21 t, [])])) := A1.cons.cons
  have G2 := T2.go (S := S) o5 A2.app.1
  have A3 := A2.sg G2
  have A4 : ATc c (i + 1 + e.length + 2 + e2.length + 2) false (q + 2) (e3 ++ [(36, 0, plh e3, []), (8, 0, iv X 21 t, [])]) := A3.cons.cons
  have G3 := T3.go (S := (some (i + 1 + e.length + 2 + e2.length), none, 0) :: S) o10 A4.app.1
  have A5 := A4.sg G3
  have A6 : ATc c (i + 1 + e.length + 2 + e2.length + 2 + e3.length + 1) false (v + 1) [(8, 0, iv X 21 t, [])] := A5.cons
  obtain ⟨a3, d3, hd3⟩ : ∃ a3 d3, e3 = a3 :: d3 := by
    cases e3 with
    | nil => exact absurd rfl T3.1.2
    | cons a3 d3 => exact ⟨a3, d3, rfl⟩
  have Q6 : c[i + 1 + e.length + 2 + e2.length + 2]? = some a3 := by
    have q := A4
    rw [hd3] at q
    exact ATc.get q
  have J2 : GAT X c u2 (i + 1 + e.length + 2 + e2.length) := ⟨by rw [A3.opl]; exact o7, by rw [A3.pl]; exact T2.1.1⟩
  have J3 : GAT X c u3 (i + 1 + e.length + 2 + e2.length + 2 + e3.length) := ⟨by rw [A5.opl]; exact o12, by rw [A5.pl]; exact T3.1.1⟩
  refine SGm.first hk o1 rfl (G.app (SGm.i28 (n := u) ⟨o3, T.1.1.symm⟩ (SGm.i6 (n := t) ⟨o4, ?_, _, _, rfl, Q6⟩ (G2.app (SGm.i36 (n := u2) ⟨o6, T2.1.1.symm, J2⟩ (SGm.i7 (n := t) ⟨o8, ?_, _, _, rfl, A6.get, rfl⟩ (G3.app (SGm.i36 (n := u3) ⟨o11, T3.1.1.symm, J3⟩ (SGm.i8 (n := t) ⟨o13, rfl, S, _, _, rfl, ?_, ?_⟩ SGm.nil)))))))))
  · rw [show (((i + 1 + e.length + 2 + e2.length + 2 : Nat) : Int)).toNat = i + 1 + e.length + 2 + e2.length + 2 by omega, A4.opl]
    omega
  · rw [show (((i + 1 + e.length + 2 + e2.length + 2 + e3.length + 1 : Nat) : Int)).toNat = i + 1 + e.length + 2 + e2.length + 2 + e3.length + 1 by omega, A6.opl]
    omega
  · rw [c24]; exact J2
  · rw [c25]; exact J3
theorem tre_17 (b3 : plh d = iv X 21 t) (hh : hi ≤ N) (ih : ∀ lo hi u i e, R lo hi u i e → hi ≤ N → TRE X nr c u i e) (k0 : iv X 20 t = 17) (h : ∃ (u h u2 : Nat) (e e2 : List Ins), iv X 23 t = (u : Int) ∧ iv X 24 t = (u2 : Int) ∧ t + 1 ≤ h ∧ h ≤ hi ∧ R (t + 1) h u (i + 1) e ∧
    ((iv X 25 t = -1 ∧ R h hi u2 (i + 1 + e.length + 1) e2 ∧ d = (0, 1, iv X 21 t, []) :: (e ++ (5, iv X 26 t, plh e, []) :: e2)) ∨
     ∃ (k : Nat) (kd : List Int), iv X 25 t = (k : Int) ∧ KD X k kd ∧ R h hi u2 (i + 1 + e.length + 2) e2 ∧ d = (0, 1, iv X 21 t, []) :: (e ++ (34, 0, plh e, kd) :: (5, iv X 26 t, plh e, []) :: e2))) : TRE X nr c t i d := by
  obtain ⟨u, w, u2, e, e2, h23, h24, w1, w2, r1, h⟩ := h
  have c23 : ix (X.1 23 t) = u := ixn h23
  have c24 : ix (X.1 24 t) = u2 := ixn h24
  have T := ih _ _ _ _ _ r1 (by omega)
  rcases h with ⟨h25, r2, rfl⟩ | ⟨kn, kd, h25, hK, r2, rfl⟩
  · have T2 := ih _ _ _ _ _ r2 hh
    refine ⟨⟨b3, List.cons_ne_nil _ _⟩, fun k s e1 lo hi sc S hC hA hk => ?_⟩
    obtain ⟨o1, p, ⟨_, _, o2⟩, o3, o4, ⟨_, _, o5⟩, _⟩ := hC.k17 k0
    rw [c23] at o2
    rw [c24] at o5
    have hA : ATc c i false s ((0, 1 + (k : Int), iv X 21 t, []) :: (e ++ (5, iv X 26 t, plh e, []) :: e2)) := hA
    have G := T.go (S := S) o2 hA.first.app.1
    have A2 : ATc c (i + 1 + e.length + 1) false (p + 2) e2 := (hA.first.sg G).cons
    exact SGm.first hk o1 rfl (G.app (SGm.i5b (n := t) ⟨o3, h25, o4, rfl⟩ (T2.go o5 A2)))
  · have T2 := ih _ _ _ _ _ r2 hh
    refine ⟨⟨b3, List.cons_ne_nil _ _⟩, fun k s e1 lo hi sc S hC hA hk => ?_⟩
    obtain ⟨o1, p, ⟨_, _, o2⟩, o3, o4, ⟨_, _, o5⟩, _⟩ := hC.k17 k0
    rw [c23] at o2
    rw [c24] at o5
    have hA : ATc c i false s ((0, 1 + (k : Int), iv X 21 t, []) :: (e ++ (34, 0, plh e, kd) :: (5, iv X 26 t, plh e, []) :: e2)) := hA
    have G := T.go (S := S) o2 hA.first.app.1
    have A2 : ATc c (i + 1 + e.length + 2) false (p + 2) e2 := (hA.first.sg G).cons.cons
    exact SGm.first hk o1 rfl (G.app (SGm.i34 (n := t) ⟨o3, by rw [c23]; exact T.1.1.symm, kn, h25, hK⟩ (SGm.i5a (n := t) ⟨o4, rfl⟩ (T2.go o5 A2))))
theorem tre_e (b3 : plh d = iv X 21 t) (hh : hi ≤ N) (ih : ∀ lo hi u i e, R lo hi u i e → hi ≤ N → TRE X nr c u i e) (h : OMe X R hi t i d) : TRE X nr c t i d := by
  rcases h with ⟨k0, es, hc, h27, hle, rfl⟩ | ⟨k0, es, hc, h27, hle, rfl⟩
  · have c27 : ix (X.1 27 t) = es.length := ixn h27
    have h27' : (X.1 27 t).toInt = (es.length : Int) := h27
    refine ⟨⟨b3, List.cons_ne_nil _ _⟩, fun k s e1 lo hi sc S hC hA hk => ?_⟩
    obtain ⟨o1, q, l, r, ⟨it, cu, ps, hD⟩, o3, rfl⟩ := hC.k4 k0
    have hA : ATc c i false s ((0, 1 + (k : Int), iv X 21 t, []) :: (cds es ++ [(10, (es.length : Int), iv X 21 t, [])])) := hA
    obtain ⟨z1, z2, z3, z4, z5, z6, z7, z8⟩ := hD
    have hD : LSD (CX X) X t l r sc 0 (s + k + 1) q it cu ps := ⟨z1, z2, z3, z4, z5, z6, z7, z8⟩
    have A1 := hA.first.app.1
    rw [← z3] at A1
    obtain ⟨us, u1, u2, u3⟩ := ls_row (N := N) hD ih es 0 _ _ _ S hc (fun a ha => Nat.le_trans (hle a ha) hh) (by omega) (fun z => z6 (by omega)) (fun z => by
      obtain ⟨y1, y2⟩ := z7 (by omega)
      have := ixc y1
      unfold iv
      omega) A1
    rw [z3, z4] at u3
    rw [show (addx ((0, 1, iv X 21 t, []) :: (cds es ++ [(10, (es.length : Int), iv X 21 t, [])])) 0 (k : Int)) = (0, 1 + (k : Int), iv X 21 t, []) :: (cds es ++ [(10, (es.length : Int), iv X 21 t, [])]) from rfl]
    refine SGm.first hk o1 rfl (u3.app (SGm.i10 (n := t) ⟨o3, rfl, h27, S, us, by rw [u1], rfl, u2⟩ ?_ (by rw [List.length_append, List.length_map, List.length_reverse, u1]; omega)))
    rw [show es.length = (us.reverse.map (fun w => ((some w.2, none, 0) : SE))).length by rw [List.length_map, List.length_reverse, u1], List.drop_left]
    exact SGm.nil
  · have c27 : ix (X.1 27 t) = es.length := ixn h27
    have h27' : (X.1 27 t).toInt = (es.length : Int) := h27
    refine ⟨⟨b3, List.cons_ne_nil _ _⟩, fun k s e1 lo hi sc S hC hA hk => ?_⟩
    obtain ⟨o1, o2, l, r, ⟨it, cu, ps, hD⟩⟩ := hC.k9 k0
    have hA : ATc c i false s ((0, 1 + (k : Int), iv X 21 t, []) :: cds es) := hA
    obtain ⟨z1, z2, z3, z4, z5, z6, z7, z8⟩ := hD
    have hD : LSD (CX X) X t l r sc 1 (s + k + 1) e1 it cu ps := ⟨z1, z2, z3, z4, z5, z6, z7, z8⟩
    have A1 := hA.first
    rw [← z3] at A1
    have := ls_blk (N := N) hD ih es 0 _ _ _ S (by rw [c27]; exact hc) (fun a ha => Nat.le_trans (hle a ha) hh) (by omega) (by omega) (by
      obtain ⟨y1, y2⟩ := z7 (by unfold iv at o2; omega)
      have := ixc y1
      unfold iv
      omega) A1
    rw [z3, z4] at this
    exact SGm.first hk o1 rfl this
end TRE2
