/-! how many turns may follow: weights of places in step -/
def WS (X : St) (W : Nat → Nat) (s e o : Nat) : Prop := ∃ op n : Nat, OA X o op n ∧ ((op = 0 ∧ W (o + 1) ≤ W o + 20) ∨ (op = 15 ∧ W (o + 1) + 1 ≤ W o ∧ ∃ p : Nat, (X.1 46 n).toInt = (p : Int) ∧ (s ≤ p ∧ p ≤ e) ∧ W p + 1 ≤ W o) ∨ (op = 16 ∧ ∃ p : Nat, (X.1 47 n).toInt = (p : Int) ∧ (s ≤ p ∧ p ≤ e) ∧ W p + 2 ≤ W o) ∨ ((¬ op = 0 ∧ ¬ op = 15 ∧ ¬ op = 16) ∧ W (o + 1) + 1 ≤ W o))
def WG (X : St) (s e a b : Nat) : Prop := s < e ∧ ∃ W : Nat → Nat, W s = a ∧ W e = b ∧ ∀ o, s ≤ o → o < e → WS X W s e o
section WGS
variable {X : St} {W W1 : Nat → Nat} {s e o s1 e1 m a b c op n p q u : Nat}
theorem WS.cg (h : WS X W s e o) (ho : s ≤ o ∧ o < e) (hq : ∀ q, s ≤ q → q ≤ e → W1 q = W q) (hs : s1 ≤ s) (he : e ≤ e1) : WS X W1 s1 e1 o := by
  obtain ⟨op, n, h0, h⟩ := h
  have q1 := hq o (by omega) (by omega)
  have q2 := hq (o + 1) (by omega) (by omega)
  refine ⟨op, n, h0, ?_⟩
  rcases h with ⟨h1, h2⟩ | ⟨h1, h2, p, h3, h4, h5⟩ | ⟨h1, p, h3, h4, h5⟩ | ⟨h1, h2⟩
  · exact Or.inl ⟨h1, by omega⟩
  · exact Or.inr (Or.inl ⟨h1, by omega, p, h3, ⟨by omega, by omega⟩, by rw [hq p h4.1 h4.2]; omega⟩)
  · exact Or.inr (Or.inr (Or.inl ⟨h1, p, h3, ⟨by omega, by omega⟩, by rw [hq p h4.1 h4.2]; omega⟩))
  · exact Or.inr (Or.inr (Or.inr ⟨h1, by omega⟩))
theorem WG.tr (h : WG X s m a b) (g : WG X m e b c) : WG X s e a c := by
  obtain ⟨h0, A, h1, h2, h3⟩ := h
  obtain ⟨g0, B, g1, g2, g3⟩ := g
  obtain ⟨P, pA, pB⟩ : ∃ P : Nat → Nat, (∀ i, i ≤ m → P i = A i) ∧ ∀ i, m ≤ i → P i = B i := by
    refine ⟨fun i => if i < m then A i else B i, fun i hi => ?_, fun i hi => if_neg (by omega)⟩
    by_cases q : i < m
    · exact if_pos q
    · have q2 : i = m := by omega
      subst q2
      exact (if_neg q).trans (g1.trans h2.symm)
  refine ⟨by omega, P, (pA s (by omega)).trans h1, (pB e (by omega)).trans g2, fun o o1 o2 => ?_⟩
  by_cases q : o < m
  · exact (h3 o o1 q).cg ⟨o1, q⟩ (fun i _ i2 => pA i i2) (Nat.le_refl _) (by omega)
  · exact (g3 o (by omega) o2).cg ⟨by omega, o2⟩ (fun i i1 _ => pB i i1) (by omega) (Nat.le_refl _)
theorem WG.le (h : WG X s e a b) (hc : c ≤ b) : WG X s e a c := by
  obtain ⟨h0, A, h1, h2, h3⟩ := h
  obtain ⟨P, pA, pB⟩ : ∃ P : Nat → Nat, (∀ i, ¬ i = e → P i = A i) ∧ P e = c := ⟨fun i => if i = e then c else A i, fun i hi => if_neg hi, if_pos rfl⟩
  have pl : ∀ i, P i ≤ A i := fun i => by
    by_cases q : i = e
    · rw [q, pB, h2]; exact hc
    · exact Nat.le_of_eq (pA i q)
  refine ⟨h0, P, (pA s (by omega)).trans h1, pB, fun o o1 o2 => ?_⟩
  obtain ⟨op, n, k0, k⟩ := h3 o o1 o2
  have q1 := pA o (by omega)
  have q2 := pl (o + 1)
  refine ⟨op, n, k0, ?_⟩
  rcases k with ⟨k1, k2⟩ | ⟨k1, k2, p, k3, k4, k5⟩ | ⟨k1, p, k3, k4, k5⟩ | ⟨k1, k2⟩
  · exact Or.inl ⟨k1, by omega⟩
  · have := pl p
    exact Or.inr (Or.inl ⟨k1, by omega, p, k3, k4, by omega⟩)
  · have := pl p
    exact Or.inr (Or.inr (Or.inl ⟨k1, p, k3, k4, by omega⟩))
  · exact Or.inr (Or.inr (Or.inr ⟨k1, by omega⟩))
theorem WG.one (h : OA X p op n) (h0 : ¬ op = 0 ∧ ¬ op = 15 ∧ ¬ op = 16) (ha : b + 1 ≤ a) : WG X p (p + 1) a b := by
  refine ⟨Nat.lt_succ_self _, fun i => if i = p then a else b, if_pos rfl, if_neg (by omega), fun o o1 o2 => ?_⟩
  have e : o = p := by omega
  subst e
  refine ⟨op, n, h, Or.inr (Or.inr (Or.inr ⟨h0, ?_⟩))⟩
  show (if o + 1 = o then a else b) + 1 ≤ (if o = o then a else b)
  rw [if_neg (by omega), if_pos rfl]
  exact ha
theorem WG.step (h : OA X s 0 n) : WG X s (s + 1) a (a + 20) := by
  refine ⟨Nat.lt_succ_self _, fun i => if i = s then a else a + 20, if_pos rfl, if_neg (by omega), fun o o1 o2 => ?_⟩
  have e : o = s := by omega
  subst e
  refine ⟨0, n, h, Or.inl ⟨rfl, ?_⟩⟩
  show (if o + 1 = o then a else a + 20) ≤ (if o = o then a else a + 20) + 20
  rw [if_neg (by omega), if_pos rfl]
  exact Nat.le_refl _
theorem WG.ite (h1 : OA X p 15 n) (h46 : (X.1 46 n).toInt = ((q + 1 : Nat) : Int)) (g1 : WG X (p + 1) q a b) (h2 : OA X q 16 n) (h47 : (X.1 47 n).toInt = ((u + 1 : Nat) : Int)) (g2 : WG X (q + 1) u a (c + 1)) (h3 : OA X u 17 n) (hb : c + 2 ≤ b) : WG X p (u + 1) (a + 1) c := by
  obtain ⟨b0, B, b1, b2, b3⟩ := g1
  obtain ⟨c0, C, c1, c2, c3⟩ := g2
  obtain ⟨P, pA, pB, pC, pE⟩ : ∃ P : Nat → Nat, (∀ i, i ≤ p → P i = a + 1) ∧ (∀ i, p < i → i ≤ q → P i = B i) ∧ (∀ i, q < i → i ≤ u → P i = C i) ∧ (∀ i, u < i → P i = c) := ⟨fun i => if i ≤ p then a + 1 else if i ≤ q then B i else if i ≤ u then C i else c, fun i h => if_pos h, fun i h h' => (if_neg (by omega)).trans (if_pos h'), fun i h h' => (if_neg (by omega)).trans ((if_neg (by omega)).trans (if_pos h')), fun i h => (if_neg (by omega)).trans ((if_neg (by omega)).trans (if_neg (by omega)))⟩
  have eA := pA p (Nat.le_refl _)
  have eB : P (p + 1) = a := (pB (p + 1) (by omega) (by omega)).trans b1
  have eQ : P q = b := (pB q (by omega) (Nat.le_refl _)).trans b2
  have eC : P (q + 1) = a := (pC (q + 1) (by omega) (by omega)).trans c1
  have eU : P u = c + 1 := (pC u (by omega) (Nat.le_refl _)).trans c2
  have eE : P (u + 1) = c := pE (u + 1) (by omega)
  refine ⟨by omega, P, eA, eE, fun o o1 o2 => ?_⟩
  by_cases e1 : o = p
  · subst e1
    exact ⟨15, n, h1, Or.inr (Or.inl ⟨rfl, by omega, q + 1, h46, ⟨by omega, by omega⟩, by omega⟩)⟩
  · by_cases e2 : o < q
    · exact (b3 o (by omega) e2).cg ⟨by omega, e2⟩ (fun i i1 i2 => pB i (by omega) i2) (by omega) (by omega)
    · by_cases e3 : o = q
      · subst e3
        exact ⟨16, n, h2, Or.inr (Or.inr (Or.inl ⟨rfl, u + 1, h47, ⟨by omega, by omega⟩, by omega⟩))⟩
      · by_cases e4 : o < u
        · exact (c3 o (by omega) e4).cg ⟨by omega, e4⟩ (fun i i1 i2 => pC i (by omega) i2) (by omega) (by omega)
        · have e5 : o = u := by omega
          subst e5
          exact ⟨17, n, h3, Or.inr (Or.inr (Or.inr ⟨by decide, by omega⟩))⟩
def WPd (X : St) (_ _ _ : Nat) (_ : Int) (s e : Nat) : Prop := ∀ a, WG X s e a (a + 4)
variable {lo hi l r r1 : Nat} {sc sc1 : Int} {f : Nat}
theorem wch (h : CHC (fun n lo hi sc s e => CX X n lo hi sc s e ∧ WPd X n lo hi sc s e) X f n l r sc1 p r1) : ∀ a, WG X p r1 a (a + 4) := h.2.2
theorem wls {it cu ps : Nat → Nat} {md : Nat} (h : LSD (fun n lo hi sc s e => CX X n lo hi sc s e ∧ WPd X n lo hi sc s e) X n (n + 1) hi sc md p r it cu ps) : ∀ i, i ≤ ix (X.1 27 n) → (md = 1 → i < ix (X.1 27 n)) → (i = 0 ∧ ps i = p) ∨ (0 < i ∧ ∀ a, WG X p (ps i) a a) := by
  obtain ⟨a, b, c, d, f, g, k, l⟩ := h
  intro i
  induction i with
  | zero => intro _ _; exact Or.inl ⟨rfl, c⟩
  | succ i ih =>
    intro hi1 hm
    obtain ⟨⟨p1, ⟨x1, x2⟩, x3⟩, -⟩ := l i (by omega)
    have key : ∃ op x, (¬ op = 0 ∧ ¬ op = 15 ∧ ¬ op = 16) ∧ OA X p1 op x ∧ ps (i + 1) = p1 + 1 := by
      rcases x3 with ⟨_, y2, _, y4⟩ | ⟨y1, ⟨_, y2, y3⟩ | ⟨y2, -⟩⟩ | ⟨_, y2, _, _, y4⟩
      · exact ⟨14, _, by decide, y2, y4⟩
      · exact ⟨29, _, by decide, y2, y3⟩
      · have := hm y1
        omega
      · exact ⟨10, _, by decide, y2, y4⟩
    obtain ⟨op, x, o1, o2, o3⟩ := key
    have sg : ∀ a, WG X (ps i) (ps (i + 1)) a a := fun a => by
      rw [o3]
      exact (x2 a).tr (WG.one o2 o1 (by omega))
    refine Or.inr ⟨by omega, fun a => ?_⟩
    rcases ih (by omega) (fun z => by have := hm z; omega) with ⟨q1, q2⟩ | ⟨q1, q2⟩
    · rw [← q2]
      exact sg a
    · exact (q2 a).tr (sg a)
theorem CX.wg (h : CX X n lo hi sc s e) : WPd X n lo hi sc s e := by
  refine CX.ind (P := WPd X) ?_ h
  clear h
  rintro n lo hi sc s e ⟨hlo, hhi, hse, h0, h⟩ A
  have st : ∀ b, A + 4 ≤ b → WG X (s + 1) e (A + 20) b → WG X s e A (A + 4) := fun b hb h2 => ((WG.step h0).tr h2).le hb
  rcases h with ⟨a, b, c, d⟩ | ⟨a, b, c⟩ | ⟨a, u, v, p, b, c, d, f, g⟩ | ⟨p, q, a, b, c, d, f, g⟩ | ⟨a, b, m, p, q, c, d, f, g, i⟩ | ⟨a, b, p, q, c, d, f, g, i, j⟩ | ⟨a, m, p, q, u, b, c, d, f, g, i, j, k⟩ | ⟨a, b, m1, m2, p, q, u, c, d, f, g, i, j, k, l, o, w, x, y, z, tt⟩ | ⟨a, b, c, d, f, m, p, g, i, j, k⟩ | ⟨a, b, c, q, ⟨it, cu, ps, d⟩, f, g⟩ | ⟨a, b, c, ⟨it, cu, ps, d⟩⟩ | ⟨a, b, p, q, c, d, ⟨it, cu, ps, f⟩, g, i⟩
  · refine st (A + 19) (by omega) ?_
    rw [c]
    rcases d with ⟨-, d⟩ | ⟨-, d⟩ | ⟨-, d, d2, d3⟩ | ⟨k, d⟩
    · exact WG.one d (by decide) (by omega)
    · exact WG.one d (by decide) (by omega)
    · exact WG.one d (by decide) (by omega)
    · exact WG.one d (by decide) (by omega)
  · exact st _ (by omega) (wch c _)
  · refine st (A + 22) (by omega) ?_
    rw [g]
    rcases b with ⟨-, rfl, rfl⟩ | ⟨-, rfl, rfl⟩ | ⟨-, rfl, rfl⟩ | ⟨-, rfl, rfl⟩
    · exact ((wch c _).tr (WG.one (b := A + 23) d (by decide) (by omega))).tr (WG.one f (by decide) (by omega))
    · exact ((wch c _).tr (WG.one (b := A + 23) d (by decide) (by omega))).tr (WG.one f (by decide) (by omega))
    · exact ((wch c _).tr (WG.one (b := A + 23) d (by decide) (by omega))).tr (WG.one f (by decide) (by omega))
    · exact ((wch c _).tr (WG.one (b := A + 23) d (by decide) (by omega))).tr (WG.one f (by decide) (by omega))
  · refine st (A + 25) (by omega) ?_
    rw [g]
    have s3 := (((wch a (A + 20)).tr (WG.one (b := A + 23) b (by decide) (by omega))).tr (wch c _)).tr (WG.one (b := A + 26) d (by decide) (by omega))
    rcases f with ⟨k14, f⟩ | ⟨-, f⟩
    · exact s3.tr (WG.one f (by decide) (by omega))
    · exact s3.tr (WG.one f (by decide) (by omega))
  · refine st (A + 26) (by omega) ?_
    rw [i]
    exact (((wch c (A + 20)).tr (WG.one (b := A + 23) d (by decide) (by omega))).tr (wch f _)).tr (WG.one g (by decide) (by omega))
  · refine st (A + 25) (by omega) ?_
    rw [j]
    exact ((((wch c (A + 20)).tr (WG.one (b := A + 23) d (by decide) (by omega))).tr (wch f _)).tr (WG.one (b := A + 26) g (by decide) (by omega))).tr (WG.one i (by decide) (by omega))
  · refine st (A + 28) (by omega) ?_
    rw [k]
    exact ((((((wch b (A + 20)).tr (WG.one (b := A + 23) c (by decide) (by omega))).tr (wch d _)).tr (WG.one (b := A + 26) f (by decide) (by omega))).tr (wch g _)).tr (WG.one (b := A + 29) i (by decide) (by omega))).tr (WG.one j (by decide) (by omega))
  · refine st (A + 23) (by omega) ?_
    rw [tt]
    have s1 := (wch c (A + 20)).tr (WG.one (b := A + 23) d (by decide) (by omega))
    have s2 := (wch g (A + 22)).tr (WG.one (b := A + 25) i (by decide) (by omega))
    have s3 := (wch o (A + 22)).tr (WG.one (b := A + 23 + 1) w (by decide) (by omega))
    exact s1.tr (WG.ite (q := q + 1) (u := u + 1) (a := A + 22) f (by rw [l]; omega) s2 k (by rw [z]; omega) s3 y (by omega))
  · refine st (A + 26) (by omega) ?_
    exact (((wch g (A + 20)).tr (WG.one (b := A + 23) i (by decide) (by omega))).tr (WG.one (b := A + 22) j (by decide) (by omega))).tr (wch k _)
  · have d27 := d.2.2.2.2.1
    have e27 := ixc d27
    have dq := d.2.2.2.1
    have hs := wls d _ (Nat.le_refl _) (fun z => absurd z (by decide))
    rw [dq] at hs
    refine st (A + 19) (by omega) ?_
    rw [g]
    rcases hs with ⟨h1, h2⟩ | ⟨h1, h2⟩
    · rw [← h2]
      exact WG.one f (by decide) (by omega)
    · exact (h2 _).tr (WG.one f (by decide) (by omega))
  · have d27 := d.2.2.2.2.1
    have e27 := ixc d27
    have dq := d.2.2.2.1
    obtain ⟨m, hm⟩ : ∃ m, ix (X.1 27 n) = m + 1 := ⟨ix (X.1 27 n) - 1, by omega⟩
    have hs := wls d m (by omega) (fun _ => by omega)
    obtain ⟨⟨p1, ⟨x1, x2⟩, x3⟩, -⟩ := d.2.2.2.2.2.2.2 m (by omega)
    rw [hm] at dq
    have ep : p1 = e := by
      rcases x3 with ⟨y1, -⟩ | ⟨_, ⟨y2, -⟩ | ⟨_, y2⟩⟩ | ⟨y1, -⟩
      · omega
      · omega
      · omega
      · omega
    subst ep
    refine st (A + 24) (by omega) ?_
    rcases hs with ⟨h1, h2⟩ | ⟨h1, h2⟩
    · rw [← h2]
      exact x2 _
    · exact (h2 _).tr (x2 _)
  · have f27 := f.2.2.2.2.1
    have fq := f.2.2.2.1
    have s1 := (wch c (A + 20)).tr (WG.one (b := A + 23) d (by decide) (by omega))
    have hs := wls f _ (Nat.le_refl _) (fun z => absurd z (by decide))
    rw [fq] at hs
    refine st (A + 22) (by omega) ?_
    rw [i]
    rcases hs with ⟨h1, h2⟩ | ⟨h1, h2⟩
    · rw [h2]
      exact s1.tr (WG.one (h2 ▸ g) (by decide) (by omega))
    · exact (s1.tr (h2 _)).tr (WG.one g (by decide) (by omega))
end WGS
