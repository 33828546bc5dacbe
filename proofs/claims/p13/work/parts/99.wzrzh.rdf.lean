/-! what has been read stays where its rows stay -/
def RDk (X Y : St) : Prop := (∀ e k, (e = 0 ∧ (k = 1 ∨ (13 ≤ k ∧ k ≤ 16) ∨ k = 18 ∨ k = 25)) ∨ e = 2 ∨ (11 ≤ e ∧ e ≤ 18) ∨ (20 ≤ e ∧ e ≤ 28) → Y.1 e k = X.1 e k) ∧ (∀ k, Y.2.1 11 k = X.2.1 11 k ∧ Y.2.1 29 k = X.2.1 29 k) ∧ (∀ k : Nat, (k : Int) < (X.1 0 13).toInt → Y.1 4 k = X.1 4 k ∧ Y.1 5 k = X.1 5 k ∧ Y.1 6 k = X.1 6 k) ∧ ∀ k : Nat, (k : Int) < (X.1 0 15).toInt → Y.1 9 k = X.1 9 k
section RDFS
variable {ch : Tx} {n N : Nat} {X Y Z : St} {ps : List Pt} {c : List Ins} {told : Nat → Bool}
theorem RDk.rf : RDk X X := ⟨fun _ _ _ => rfl, fun _ => ⟨rfl, rfl⟩, fun _ _ => ⟨rfl, rfl, rfl⟩, fun _ _ => rfl⟩
theorem RDk.kx (g : RDk X Y) : KXq X Y := ⟨by rw [g.1 0 13 (by omega)]; exact Int.le_refl _, by rw [g.1 0 15 (by omega)]; exact Int.le_refl _, g.2.2.1, g.2.2.2⟩
theorem RDk.kj (h : KJq X) (g : RDk X Y) : KJq Y := by
  obtain ⟨⟨⟨a1, a2, a3⟩, a4⟩, b, d⟩ := h
  refine ⟨⟨by rw [g.1 0 13 (by omega), g.1 0 15 (by omega)]; exact ⟨a1, a2, a3⟩, fun k hk => ?_⟩, by rw [g.1 0 13 (by omega)]; exact b, fun i hi => ?_⟩
  · rw [g.1 0 13 (by omega)] at hk
    obtain ⟨_, r5, r6⟩ := g.2.2.1 k hk
    rw [r5, r6, g.1 0 15 (by omega)]
    exact a4 k hk
  · obtain ⟨r4, r5, _⟩ := g.2.2.1 i (by omega)
    rw [r4, r5]
    exact d i hi
theorem RDk.ku (h : KJq X) (g : RDk X Y) (u : KU X) : KU Y := by
  intro k k1 hk hk1 h4 h5 h9
  rw [g.1 0 13 (by omega)] at hk hk1
  obtain ⟨r4, r5, r6⟩ := g.2.2.1 k hk
  obtain ⟨s4, s5, s6⟩ := g.2.2.1 k1 hk1
  rw [r4, s4] at h4
  rw [r5, s5] at h5
  refine u k k1 hk hk1 h4 h5 (fun i hi => ?_)
  have l1 := h.1.2 k hk
  have l2 := h.1.2 k1 hk1
  have e1 := ixc l1.1
  have e2 := ixc l2.1
  have := h9 i (by rw [r5]; exact hi)
  rw [r6, s6, g.2.2.2 _ (by omega), g.2.2.2 _ (by omega)] at this
  exact this
theorem RDs.fr (h : RDs ch n ps c N X) (g : RDk X Y) : RDs ch n ps c N Y := by
  obtain ⟨h1, h2, h3, h4, h5, h6, ⟨k, h7, h8⟩, ⟨h9, h10⟩, h11⟩ := h
  refine ⟨⟨h1.1, by rw [g.1 0 1 (by omega)]; exact h1.2.1, fun i hi => by rw [g.1 2 i (by omega)]; exact h1.2.2 i hi⟩, h2.sp ⟨fun k => (g.2.1 k).1, fun k => g.1 12 k (by omega), fun k => g.1 15 k (by omega), g.1 0 18 (by omega)⟩, h3.sp h6 ⟨fun k _ => ⟨g.1 17 k (by omega), g.1 18 k (by omega), g.1 12 k (by omega), g.1 13 k (by omega), g.1 14 k (by omega)⟩, fun k _ => g.1 16 k (by omega), fun e k he _ => g.1 e k (by omega), fun k _ => (g.2.1 k).2, g.kx, g.ku h6⟩, fun m hm => ?_, g.ku h6 h5, g.kj h6, ⟨k, h7, by rw [g.1 0 25 (by omega)]; exact h8⟩, ⟨by rw [g.1 0 14 (by omega), g.1 0 13 (by omega)]; exact h9, by rw [g.1 0 16 (by omega), g.1 0 15 (by omega)]; exact h10⟩, h11⟩
  have := h4 m hm
  unfold RSm at this ⊢
  rw [g.1 20 m (by omega), g.1 26 m (by omega), (g.2.1 m).2]
  exact this
/-- what judging needs of a text that has been read and compiled -/
theorem RDs.jpre {po : Nat → Nat} (h : RDs ch n ps c N X) (hn : sNames ch ps c) (hW : PWd ps) (h34 : ∀ a ∈ c, a.1 = 34 → WKd 40 a.2.2.2) (ht : ∀ k, k < ps.length → ((X.1 19 k).toInt = 0 ↔ ¬ told k = true)) (hl : ps.length ≤ 40) (hC : CDq X po ps.length) (h26 : (X.1 0 26).toInt = (po ps.length : Int)) : JPRE ch X ps told c po ∧ ∀ k p, ps[k]? = some p → (PRT X (nrp ch ps) c po k p.2.2.2.2.2 (pend ps c k) ∧ (X.1 15 k).toInt = (p.2.2.2.1.length : Int)) ∧ ∀ a ∈ pcd ps c k, PIq k a ∧ (a.1 = 34 → a.2.1 = 0) ∧ (a.1 = 5 → 0 ≤ a.2.1 ∧ a.2.1 ≤ 43) := by
  obtain ⟨h1, h2, h3, h4, h5, h6, _⟩ := h
  have hNR : NRq ch X (nrp ch ps) c N := NRq.of h4 hn h2
  have hp : ∀ k p, ps[k]? = some p → (PRT X (nrp ch ps) c po k p.2.2.2.2.2 (pend ps c k) ∧ (X.1 15 k).toInt = (p.2.2.2.1.length : Int)) ∧ ∀ a ∈ pcd ps c k, PIq k a ∧ (a.1 = 34 → a.2.1 = 0) ∧ (a.1 = 5 → 0 ≤ a.2.1 ∧ a.2.1 ≤ 43) := by
    intro k p hk
    have hr := prt_all hC h3 hNR k p hk
    refine ⟨⟨hr, (h2.2 k p hk).2.2⟩, ?_⟩
    obtain ⟨d, l1, l2, q1, q2, q3, q4⟩ := prt_inf (nr := nrp ch ps) hC h3 hk
    have e0 : ps.getD k (0, 0, [], [], [], 0) = p := pt_getD hk
    have dl : (d ++ [((35, (k : Int), plh d, []) : Ins), (17, 0, plh d, [])]).length = d.length + 2 := by rw [List.length_append]; rfl
    have e : pcd ps c k = d ++ [(35, (k : Int), plh d, []), (17, 0, plh d, [])] := by
      unfold pcd
      rw [e0, ← q3, ← q2]
      rw [← dl, q1, List.take_append, List.take_of_length_le (by omega), show l1.length + (d ++ [((35, (k : Int), plh d, []) : Ins), (17, 0, plh d, [])]).length - l1.length = (d ++ [((35, (k : Int), plh d, []) : Ins), (17, 0, plh d, [])]).length by omega, List.take_left, List.drop_left]
    have inc : ∀ a ∈ pcd ps c k, a ∈ c := fun a ha => List.mem_of_mem_take (List.mem_of_mem_drop ha)
    intro a ha
    have w34 := h34 a (inc a ha)
    rw [e] at ha
    rcases List.mem_append.mp ha with y | y
    · obtain ⟨z1, z2, z3, z4⟩ := q4 a y
      exact ⟨⟨z1, fun z => absurd z z2, w34⟩, z3, z4⟩
    · rcases List.mem_cons.mp y with y | y
      · rw [y]
        exact ⟨⟨fun z => absurd z (by show ¬ ((35 : Int) = 30 ∨ (35 : Int) = 31); decide), fun _ => rfl, fun z => absurd z (by show ¬ (35 : Int) = 34; decide)⟩, fun z => absurd z (by show ¬ (35 : Int) = 34; decide), fun z => absurd z (by show ¬ (35 : Int) = 5; decide)⟩
      · rw [List.mem_singleton.mp y]
        exact ⟨⟨fun z => absurd z (by show ¬ ((17 : Int) = 30 ∨ (17 : Int) = 31); decide), fun z => absurd z (by show ¬ (17 : Int) = 35; decide), fun z => absurd z (by show ¬ (17 : Int) = 34; decide)⟩, fun z => absurd z (by show ¬ (17 : Int) = 34; decide), fun z => absurd z (by show ¬ (17 : Int) = 5; decide)⟩
  refine ⟨⟨fun k p hk => ?_, hW, h6, hl, h2.1, h26, fun k hk => (hC.2 k hk).1, fun k p hk => ⟨(hp k p hk).1.1, fun a ha => ((hp k p hk).2 a ha).1⟩⟩, hp⟩
  obtain ⟨b1, b2, _⟩ := h3.2 k p hk
  exact ⟨(h2.2 k p hk).2.2, b1, b2, ht k (List.getElem?_eq_some_iff.mp hk).1⟩
/-- the judge's answer -/
theorem x_judges37 {po : Nat → Nat} (hp : JPRE ch X ps told c po) (hR : RDs ch n ps c N X) (h9 : (X.1 0 9).toInt = 0) (h28 : (X.1 0 28).toInt = 0) : pw (f_judges_37 BIG (0 : Int32) X) (fun _ Y => ∃ r, JALL ch ps told c ps.length 0 ([], []) r ∧ RJf X Y r) := by
  obtain ⟨_, _, _, _, h5, h6, _⟩ := hR
  refine x_parts hp BIG 0 ([], []) 0 X (fun r => JALL ch ps told c ps.length 0 ([], []) r) (by decide) (Nat.zero_le _) ⟨RJB.rf h6 h5, h9, h28, fun i G1 hG => absurd hG.symm (Option.some_ne_none _)⟩ (fun r hr => ?_)
  rw [Nat.sub_zero] at hr
  exact hr
end RDFS
