/-! guards have the same numbers on both sides -/
section GNOS
variable {e j N i : Nat} {ch : Tx} {ps : List Pt} {c : List Ins} {X Y : St} {G : List JG} {ks : List (List Int)} {P P' : JG → Prop} {v v' : Int} {nr : Int → Int} {po : Nat → Nat} {b : Bool} {s : Nat} {S : List SE} {a : Ins}
theorem LI.uniq (h : LI P G v) (h' : LI P' G v') (hp : ∀ y ∈ G, P y ↔ P' y) : v = v' := by
  rcases h with ⟨h1, h2⟩ | ⟨i, y, h1, h2, h3, h4⟩
  · rcases h' with ⟨k1, k2⟩ | ⟨k, z, k1, k2, k3, k4⟩
    · rw [h1, k1]
    · have hz := List.mem_of_getElem? k2
      exact absurd ((hp z hz).mpr k3) (h2 z hz)
  · have hy := List.mem_of_getElem? h2
    rcases h' with ⟨k1, k2⟩ | ⟨k, z, k1, k2, k3, k4⟩
    · exact absurd ((hp y hy).mp h3) (k2 y hy)
    · have hz := List.mem_of_getElem? k2
      rcases Nat.lt_trichotomy i k with q | q | q
      · exact absurd ((hp z hz).mpr k3) (h4 k z q k2)
      · rw [h1, k1, q]
      · exact absurd ((hp y hy).mp h3) (k4 i y q h2)
theorem gno_of (hR : LR N c G X) (hC : LC e c c.length G Y) (hG : ∀ (i : Nat) (G1 : JG), G[i]? = some G1 → RGd X i G1) (h55 : (Y.1 55 5).toInt = (G.length : Int)) (hd : ∀ (i : Nat) (G1 : JG), G[i]? = some G1 → CGd Y ks i G1) (hgp : GPs ps G) (hp : ps.length ≤ 40) (hinj : ∀ m n, m < c.length → n < c.length → opl c m = opl c n → m = n) (hj : j < c.length) (hN : opl c j < N) (ha : isask c j) : GNo e ks X Y (opl c j) j := by
  have l1 := hR (opl c j) hN
  have l2 := hC.2 j hj ha
  have ev := l1.uniq l2 (fun y hy => ⟨fun z => hinj _ _ (hC.1 y hy).1 hj z, fun z => by rw [show y.1 = j from z]⟩)
  rcases l1 with ⟨h1, h2⟩ | ⟨i, y, h1, h2, h3, h4⟩
  · exact Or.inl ⟨by omega, by omega⟩
  · obtain ⟨r1, r2, r3, r4, r5⟩ := hG i y h2
    obtain ⟨c1, c2, c3, c4, c5⟩ := hd i y h2
    obtain ⟨g1, g2, g3⟩ := hgp y (List.mem_of_getElem? h2)
    have hi := (List.getElem?_eq_some_iff.mp h2).1
    exact Or.inr ⟨i, _, _, h1, by rw [← ev]; exact h1, by omega, ⟨⟨r2, c2⟩, ⟨r3, c3⟩⟩, ⟨Int32.toInt_inj.mp (by rw [c4, r4]), Int32.toInt_inj.mp (by rw [c5, r5]), Int32.toInt_inj.mp (by rw [c1, r1])⟩, ⟨by omega, by omega⟩, by omega, by omega⟩
theorem gno_bind (hR : LR N c G X) (hC : LC e c c.length G Y) (hinj : ∀ m n, m < c.length → n < c.length → opl c m = opl c n → m = n) (hj : j < c.length) (hN : opl c j < N) (ha : ¬ isask c j) : (X.1 43 (opl c j)).toInt < 0 := by
  rcases hR (opl c j) hN with ⟨h1, h2⟩ | ⟨i, y, h1, h2, h3, h4⟩
  · omega
  · have hy := hC.1 y (List.mem_of_getElem? h2)
    have ej := hinj _ _ hy.1 hj h3
    rw [ej] at hy
    exact absurd hy.2 ha
theorem wgt_pos (h : AO X nr c j b s S a) : 1 ≤ wgt b a := by
  unfold wgt
  by_cases q : a.1 = 0
  · rw [if_pos q]
    obtain ⟨n, h⟩ := h.e0 q
    omega
  · rw [if_neg q]
    split <;> decide
/-- every place of the code lies in a part -/
theorem part_of (h00 : psx ps c 0 = 0) {m : Nat} : ∀ k, k ≤ ps.length → m < psx ps c k → ∃ k1, k1 < ps.length ∧ pst ps k1 ≤ m ∧ m < pend ps c k1 := by
  intro k
  induction k with
  | zero => intro _ h; omega
  | succ k ih =>
    intro hk h
    by_cases z : m < psx ps c k
    · exact ih (by omega) z
    · obtain ⟨q1, q2⟩ := pst_x (c := c) (List.getElem?_eq_getElem (show k < ps.length by omega))
      exact ⟨k, by omega, by omega, h⟩
theorem opl_inj (h00 : psx ps c 0 = 0) (hP : ∀ k p, ps[k]? = some p → PRT X nr c po k p.2.2.2.2.2 (pend ps c k)) : ∀ m n, m < c.length → n < c.length → opl c m = opl c n → m = n := by
  have st : ∀ m, m < c.length → opl c m < opl c (m + 1) := by
    intro m hm
    obtain ⟨k, k1, k2, k3⟩ := part_of (m := m) h00 ps.length (Nat.le_refl _) (by rw [psx_end]; exact hm)
    have hk := List.getElem?_eq_getElem k1
    have hR := hP k _ hk
    rw [← (pst_x (c := c) hk).1] at hR
    obtain ⟨a, b, S, a1, a2, a3⟩ := (prt_at hR).2.2.2.2 m k2 k3
    have := wgt_pos a2
    omega
  intro m n hm hn e1
  rcases Nat.lt_trichotomy m n with q | q | q
  · have := st m hm
    have := opl_mono (cd := c) (show m + 1 ≤ n from q)
    omega
  · exact q
  · have := st n hn
    have := opl_mono (cd := c) (show n + 1 ≤ m from q)
    omega
end GNOS
