/-! the tables of a run, from the parts' orders -/
section AOCG
variable {X X1 : St} {nr : Int → Int} {c : List Ins} {j : Nat} {b : Bool} {s : Nat} {S : List SE} {a : Ins}
theorem ECH.cg (h24 : ∀ k, iv X1 45 k = iv X 45 k) (h21 : ∀ k, iv X1 21 k = iv X 21 k) (h28 : ∀ k, iv X1 28 k = iv X 28 k) : ∀ (us : List (Nat × Nat)) (v : Int), ECH X1 c v us = ECH X c v us
  | [], _ => rfl
  | w :: us, v => by
    show (v = (w.1 : Int) ∧ (iv X1 45 w.1 = _ ∧ plc c w.2 = iv X1 21 w.1) ∧ ECH X1 c (iv X1 28 w.1) us) = (v = (w.1 : Int) ∧ (iv X 45 w.1 = _ ∧ plc c w.2 = iv X 21 w.1) ∧ ECH X c (iv X 28 w.1) us)
    rw [h24, h21, h28, ECH.cg h24 h21 h28 us]
/-- rows 18 .. 28, 40 .. 42, 44 .. 51 stay -/
theorem AO.cg (h : AO X nr c j b s S a) (hx : ∀ e k, 18 ≤ e → e < 52 → ¬ (e = 43 ∨ (29 ≤ e ∧ e ≤ 39)) → X1.1 e k = X.1 e k) (hK : ∀ k kd, KD X k kd → KD X1 k kd) : AO X1 nr c j b s S a := by
  have i : ∀ e k, 18 ≤ e → e < 52 → ¬ (e = 43 ∨ (29 ≤ e ∧ e ≤ 39)) → iv X1 e k = iv X e k := fun e k h1 h2 h3 => by unfold iv; rw [hx e k h1 h2 h3]
  have eO : ∀ s q n, OA X1 s q n = OA X s q n := fun s q n => by unfold OA; rw [hx 40 s (by decide) (by decide) (by decide), hx 41 s (by decide) (by decide) (by decide)]
  have i20 : ∀ k, iv X1 20 k = iv X 20 k := fun k => i 20 k (by decide) (by decide) (by decide)
  have i21 : ∀ k, iv X1 21 k = iv X 21 k := fun k => i 21 k (by decide) (by decide) (by decide)
  have i22 : ∀ k, iv X1 22 k = iv X 22 k := fun k => i 22 k (by decide) (by decide) (by decide)
  have i25 : ∀ k, iv X1 25 k = iv X 25 k := fun k => i 25 k (by decide) (by decide) (by decide)
  have i26 : ∀ k, iv X1 26 k = iv X 26 k := fun k => i 26 k (by decide) (by decide) (by decide)
  have i27 : ∀ k, iv X1 27 k = iv X 27 k := fun k => i 27 k (by decide) (by decide) (by decide)
  have i28 : ∀ k, iv X1 28 k = iv X 28 k := fun k => i 28 k (by decide) (by decide) (by decide)
  have i42 : ∀ k, iv X1 42 k = iv X 42 k := fun k => i 42 k (by decide) (by decide) (by decide)
  have i45 : ∀ k, iv X1 45 k = iv X 45 k := fun k => i 45 k (by decide) (by decide) (by decide)
  have i46 : ∀ k, iv X1 46 k = iv X 46 k := fun k => i 46 k (by decide) (by decide) (by decide)
  have i47 : ∀ k, iv X1 47 k = iv X 47 k := fun k => i 47 k (by decide) (by decide) (by decide)
  have i51 : ∀ k, iv X1 51 k = iv X 51 k := fun k => i 51 k (by decide) (by decide) (by decide)
  have i24 : ∀ k, iv X1 24 k = iv X 24 k := fun k => i 24 k (by decide) (by decide) (by decide)
  have x18 : ∀ k, X1.1 18 k = X.1 18 k := fun k => hx 18 k (by decide) (by decide) (by decide)
  have x23 : ∀ k, X1.1 23 k = X.1 23 k := fun k => hx 23 k (by decide) (by decide) (by decide)
  have x24 : ∀ k, X1.1 24 k = X.1 24 k := fun k => hx 24 k (by decide) (by decide) (by decide)
  have x25 : ∀ k, X1.1 25 k = X.1 25 k := fun k => hx 25 k (by decide) (by decide) (by decide)
  have eG : ∀ u q, GAT X1 c u q = GAT X c u q := fun u q => by unfold GAT; rw [i45, i21]
  have eE : ∀ v us, ECH X1 c v us = ECH X c v us := fun v us => ECH.cg i45 i21 i28 us v
  obtain ⟨o, x, p, kd⟩ := a
  obtain ⟨n, h⟩ := h
  rcases h with ⟨g, h⟩ | ⟨g, h⟩ | ⟨g, h⟩ | ⟨g, h⟩ | ⟨g, h⟩ | ⟨g, h⟩ | ⟨g, h⟩ | ⟨g, h⟩ | ⟨g, h⟩ | ⟨g, h⟩ | ⟨g, h⟩ | ⟨g, h⟩ | ⟨g, h⟩ | ⟨g, h⟩ | ⟨g, h⟩ | ⟨g, h⟩ | ⟨g, h⟩ | ⟨g, h⟩ | ⟨g, h⟩ | ⟨g, h⟩ | ⟨g, h⟩ | ⟨g, h⟩ | ⟨g, h⟩ | ⟨g, h⟩ | ⟨g, h⟩ | ⟨g, h⟩ | ⟨g, h⟩ | ⟨g, h⟩ | ⟨g, h⟩ | ⟨g, h⟩ | ⟨g, h⟩
  · have g : o = 0 := g
    subst g
    exact AO.i0 (by simp only [eO, eG, eE, i20, i21, i22, i25, i26, i27, i28, i42, i45, i46, i47, i51, i24, x18, x23, x24, x25]; exact h)
  · have g : o = 1 := g
    subst g
    exact AO.i1 (n := n) (by simp only [eO, eG, eE, i20, i21, i22, i25, i26, i27, i28, i42, i45, i46, i47, i51, i24, x18, x23, x24, x25]; exact h)
  · have g : o = 2 := g
    subst g
    exact AO.i2 (n := n) (by simp only [eO, eG, eE, i20, i21, i22, i25, i26, i27, i28, i42, i45, i46, i47, i51, i24, x18, x23, x24, x25]; exact h)
  · have g : o = 3 := g
    subst g
    exact AO.i3 (n := n) (by simp only [eO, eG, eE, i20, i21, i22, i25, i26, i27, i28, i42, i45, i46, i47, i51, i24, x18, x23, x24, x25]; exact h)
  · have g : o = 4 := g
    subst g
    exact AO.i4 (n := n) (by simp only [eO, eG, eE, i20, i21, i22, i25, i26, i27, i28, i42, i45, i46, i47, i51, i24, x18, x23, x24, x25]; exact h)
  · have g : o = 5 := g
    subst g
    exact AO.i5 (n := n) (by simp only [eO, eG, eE, i20, i21, i22, i25, i26, i27, i28, i42, i45, i46, i47, i51, i24, x18, x23, x24, x25]; exact h)
  · have g : o = 6 := g
    subst g
    exact AO.i6 (n := n) (by simp only [eO, eG, eE, i20, i21, i22, i25, i26, i27, i28, i42, i45, i46, i47, i51, i24, x18, x23, x24, x25]; exact h)
  · have g : o = 7 := g
    subst g
    exact AO.i7 (n := n) (by simp only [eO, eG, eE, i20, i21, i22, i25, i26, i27, i28, i42, i45, i46, i47, i51, i24, x18, x23, x24, x25]; exact h)
  · have g : o = 8 := g
    subst g
    exact AO.i8 (n := n) (by simp only [eO, eG, eE, i20, i21, i22, i25, i26, i27, i28, i42, i45, i46, i47, i51, i24, x18, x23, x24, x25]; exact h)
  · have g : o = 9 := g
    subst g
    exact AO.i9 (n := n) (by simp only [eO, eG, eE, i20, i21, i22, i25, i26, i27, i28, i42, i45, i46, i47, i51, i24, x18, x23, x24, x25]; exact h)
  · have g : o = 10 := g
    subst g
    exact AO.i10 (n := n) (by simp only [eO, eG, eE, i20, i21, i22, i25, i26, i27, i28, i42, i45, i46, i47, i51, i24, x18, x23, x24, x25]; exact h)
  · have g : o = 11 := g
    subst g
    exact AO.i11 (n := n) (by simp only [eO, eG, eE, i20, i21, i22, i25, i26, i27, i28, i42, i45, i46, i47, i51, i24, x18, x23, x24, x25]; exact h)
  · have g : o = 12 := g
    subst g
    exact AO.i12 (n := n) (by simp only [eO, eG, eE, i20, i21, i22, i25, i26, i27, i28, i42, i45, i46, i47, i51, i24, x18, x23, x24, x25]; exact h)
  · have g : o = 13 := g
    subst g
    exact AO.i13 (n := n) (by simp only [eO, eG, eE, i20, i21, i22, i25, i26, i27, i28, i42, i45, i46, i47, i51, i24, x18, x23, x24, x25]; exact h)
  · have g : o = 14 := g
    subst g
    exact AO.i14 (n := n) (by simp only [eO, eG, eE, i20, i21, i22, i25, i26, i27, i28, i42, i45, i46, i47, i51, i24, x18, x23, x24, x25]; exact h)
  · have g : o = 15 := g
    subst g
    exact AO.i15 (n := n) (by simp only [eO, eG, eE, i20, i21, i22, i25, i26, i27, i28, i42, i45, i46, i47, i51, i24, x18, x23, x24, x25]; exact h)
  · have g : o = 16 := g
    subst g
    exact AO.i16 (n := n) (by simp only [eO, eG, eE, i20, i21, i22, i25, i26, i27, i28, i42, i45, i46, i47, i51, i24, x18, x23, x24, x25]; exact h)
  · have g : o = 17 := g
    subst g
    exact AO.i17 (n := n) (by simp only [eO, eG, eE, i20, i21, i22, i25, i26, i27, i28, i42, i45, i46, i47, i51, i24, x18, x23, x24, x25]; exact h)
  · have g : o = 18 := g
    subst g
    exact AO.i18 (n := n) (by simp only [eO, eG, eE, i20, i21, i22, i25, i26, i27, i28, i42, i45, i46, i47, i51, i24, x18, x23, x24, x25]; exact h)
  · have g : o = 19 := g
    subst g
    exact AO.i19 (n := n) (by simp only [eO, eG, eE, i20, i21, i22, i25, i26, i27, i28, i42, i45, i46, i47, i51, i24, x18, x23, x24, x25]; exact h)
  · exact AO.i20 (n := n) g (by simp only [eO, eG, eE, i20, i21, i22, i25, i26, i27, i28, i42, i45, i46, i47, i51, i24, x18, x23, x24, x25]; exact h)
  · have g : o = 27 := g
    subst g
    exact AO.i27 (n := n) (by simp only [eO, eG, eE, i20, i21, i22, i25, i26, i27, i28, i42, i45, i46, i47, i51, i24, x18, x23, x24, x25]; exact h)
  · have g : o = 28 := g
    subst g
    exact AO.i28 (n := n) (by simp only [eO, eG, eE, i20, i21, i22, i25, i26, i27, i28, i42, i45, i46, i47, i51, i24, x18, x23, x24, x25]; exact h)
  · have g : o = 29 := g
    subst g
    exact AO.i29 (n := n) (by simp only [eO, eG, eE, i20, i21, i22, i25, i26, i27, i28, i42, i45, i46, i47, i51, i24, x18, x23, x24, x25]; exact h)
  · have g : o = 30 := g
    subst g
    exact AO.i30 (n := n) (by simp only [eO, eG, eE, i20, i21, i22, i25, i26, i27, i28, i42, i45, i46, i47, i51, i24, x18, x23, x24, x25]; exact h)
  · have g : o = 31 := g
    subst g
    exact AO.i31 (n := n) (by simp only [eO, eG, eE, i20, i21, i22, i25, i26, i27, i28, i42, i45, i46, i47, i51, i24, x18, x23, x24, x25]; exact h)
  · have g : o = 32 := g
    subst g
    exact AO.i32 (n := n) (by simp only [eO, eG, eE, i20, i21, i22, i25, i26, i27, i28, i42, i45, i46, i47, i51, i24, x18, x23, x24, x25]; exact h)
  · have g : o = 33 := g
    subst g
    exact AO.i33 (n := n) (by simp only [eO, eG, eE, i20, i21, i22, i25, i26, i27, i28, i42, i45, i46, i47, i51, i24, x18, x23, x24, x25]; exact h)
  · have g : o = 34 := g
    subst g
    obtain ⟨h1, h2, k, h3, h4⟩ := h
    exact AO.i34 (n := n) ⟨by rw [eO]; exact h1, by rw [i21, x23]; exact h2, k, by rw [i25]; exact h3, hK _ _ h4⟩
  · have g : o = 35 := g
    subst g
    exact AO.i35 (n := n) (by simp only [eO, eG, eE, i20, i21, i22, i25, i26, i27, i28, i42, i45, i46, i47, i51, i24, x18, x23, x24, x25]; exact h)
  · have g : o = 36 := g
    subst g
    exact AO.i36 (n := n) (by simp only [eO, eG, eE, i20, i21, i22, i25, i26, i27, i28, i42, i45, i46, i47, i51, i24, x18, x23, x24, x25]; exact h)
end AOCG
section STATO
variable {u : Bool}
variable {X X0 Y0 : St} {nr : Int → Int} {c : List Ins} {po W : Nat → Nat} {k i e j : Nat} {ch : Tx} {ps : List Pt} {told : Nat → Bool} {kt ks : List (List Int)}
theorem prt_at (h : PRT X nr c po k i e) : opl c i = po k ∧ opl c e = po (k + 1) ∧ i ≤ e ∧ e ≤ c.length ∧ ∀ j, i ≤ j → j < e → ∃ (a : Ins) (b : Bool) (S : List SE), c[j]? = some a ∧ AO X nr c j b (opl c j) S a ∧ opl c (j + 1) = opl c j + wgt b a := by
  obtain ⟨dd, a1, a2, ⟨a3, a4, a5, a6⟩, _⟩ := h
  have hl : e ≤ c.length := by
    obtain ⟨l1, l2, q1, q2, _⟩ := a1
    rw [q1, List.length_append, List.length_append, q2]
    omega
  refine ⟨a1.opl, ?_, by omega, hl, fun j h1 h2 => ?_⟩
  · have q := (ATc.app (d := dd) (e := []) (by rw [List.append_nil]; exact a1)).2.opl
    rw [a2, a5] at q
    exact q
  · obtain ⟨m, rfl⟩ : ∃ m, j = i + m := ⟨j - i, by omega⟩
    have hm : m < dd.length := by omega
    have ed : dd = dd.take m ++ dd[m] :: dd.drop (m + 1) := by rw [List.getElem_cons_drop, List.take_append_drop]
    rw [ed] at a1 a3
    have l1 : (dd.take m).length = m := by rw [List.length_take]; omega
    have A1 := a1.app.2
    have A3 := ((AOL_app _ _ _ _ _).mp a3).2
    rw [l1] at A1 A3
    have eo := A1.opl
    refine ⟨dd[m], w34 false (dd.take m), shl i [] (dd.take m), A1.get, ?_, ?_⟩
    · rw [eo]
      exact A3.1.1
    · rw [eo]
      exact A1.cons.opl
/-- the tables -/
theorem stat_of (hJ : KJq X0) (h55 : u = false → (Y0.1 55 5).toInt ≤ 12000) (hcl : c.length ≤ 1000000) (hp : (X0.1 0 18).toInt = (ps.length : Int)) (hC : ∀ p, p < ps.length → ∃ (lo hi e : Nat), CX X0 (ix (X0.1 18 p)) lo hi (X0.1 15 p).toInt (po p) e ∧ OA X0 e 30 p ∧ OA X0 (e + 1) 31 p ∧ po (p + 1) = e + 2) (hP : ∀ k p, ps[k]? = some p → PRT X nr c po k p.2.2.2.2.2 (pend ps c k)) (hx : ∀ e k, 18 ≤ e → e < 52 → ¬ (e = 43 ∨ (29 ≤ e ∧ e ≤ 39)) → X0.1 e k = X.1 e k) (hK : ∀ k kd, KD X k kd → KD X0 k kd) (hY : ∀ (i : Nat) (a : Ins), c[i]? = some a → (Y0.1 (e + 18) i).toInt = a.1 ∧ (Y0.1 (e + 21) i).toInt = a.2.2.1 ∧ (a.1 = 4 → (Y0.1 (e + 19) i).toInt = nr a.2.2.1) ∧ (¬ a.1 = 4 → ¬ a.1 = 34 → Y0.1 (e + 19) i = Int32.ofInt a.2.1)) (hY2 : ∀ k p, ps[k]? = some p → (Y0.1 (e + 17) k).toInt = (p.2.2.2.2.2 : Int)) (h6 : (Y0.1 e 6).toInt = (c.length : Int)) (hG : u = false → ∀ k, k < ps.length → ∀ j, pst ps k ≤ j → j < pend ps c k → ∀ a : Ins, c[j]? = some a → (27 ≤ a.1 → GNo e ks X0 Y0 (opl c j) j) ∧ (a.1 = 5 → OA X0 (opl c j) 12 (ix (X0.1 41 (opl c j))) → iv X0 25 (ix (X0.1 41 (opl c j))) = -1 → (X0.1 43 (opl c j)).toInt < 0)) : ∃ W, STAT u e ks X0 Y0 po W nr c (pst ps) (pend ps c) := by
  obtain ⟨W, hW⟩ := wts_all ps.length hC
  refine ⟨W, ⟨hJ, h55, hcl⟩, fun p hp1 => ?_⟩
  have hpl : p < ps.length := by omega
  have hk : ps[p]? = some ps[p] := List.getElem?_eq_getElem hpl
  obtain ⟨e1, e2⟩ := pst_x (c := c) hk
  have hR := hP p _ hk
  rw [← e1] at hR
  obtain ⟨q1, q2, q3, q4, q5⟩ := prt_at hR
  obtain ⟨_, _, e', hc, _, _, he⟩ := hC p hpl
  have hc := hc.bd
  obtain ⟨w1, w2, w3⟩ := hW p hpl
  refine ⟨⟨by rw [hY2 p _ hk, e1], q1, ?_, q2, by rw [h6]; omega⟩, ⟨w1, w2, w3⟩, fun j h1 h2 => ?_⟩
  · rcases Nat.lt_or_ge (pst ps p) (pend ps c p) with z | z
    · exact z
    · have z1 : pend ps c p = pst ps p := by omega
      rw [z1, q1] at q2
      omega
  · obtain ⟨a, b, S, a1, a2, a3⟩ := q5 j h1 h2
    have a2 := a2.cg hx hK
    refine ⟨a, b, S, a1, a2, a3, hY j a a1, fun hu => (hG hu p hpl j h1 h2 a a1).1, fun hu z1 z2 => ?_⟩
    obtain ⟨g1, g2⟩ := hG hu p hpl j h1 h2 a a1
    rcases a2.e5 z1 with ⟨n, ⟨z, _⟩ | ⟨_, y1, y2, _⟩⟩
    · rw [z] at z2
      exact Bool.noConfusion z2
    · have en : ix (X0.1 41 (opl c j)) = n := ixn y1.2
      exact g2 z1 (by rw [en]; exact y1) (by rw [en]; exact y2)
end STATO
