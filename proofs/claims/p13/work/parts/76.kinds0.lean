/-! kinds(0) -/
/-- so many kinds, of sorts 1, 2, .. -/
def KN (X : St) (m : Nat) : Prop := KT X ∧ (X.1 0 13).toInt = m ∧ (X.1 0 15).toInt = 0 ∧ ∀ j, j < m → (X.1 4 j).toInt = (j : Int) + 1
theorem KN.step {X Xt : St} {m : Nat} {s : Int32} (h : KN X m) (hm : m ≤ 2) (hs : s.toInt = (m : Int) + 1) (hA : AG 0 0 X Xt) : ok2 (f_kindOf s 0 0 X) (f_kindOf s 0 0 Xt) (fun _ X1 X1t => Fr YR [13, 15, 800, 1000, 1200, 1400, 1600, 1800] X X1 ∧ Fr YR [13, 15, 800, 1000, 1200, 1400, 1600, 1800] Xt X1t ∧ AG 0 0 X1 X1t ∧ KN X1 (m + 1)) := by
  obtain ⟨hT, h13, h15, h4⟩ := h
  have hz : (0 : Int32).toInt = 0 := rfl
  have hS : KS s.toInt (0 : Int32).toInt := Or.inl ⟨by omega, by omega, rfl⟩
  have hg : GV X Xt s 0 0 := ⟨hS, fun j hj => by rw [hz] at hj; omega⟩
  refine (t_f_kindOfG s 0 0 X Xt 0 0 hA ⟨by omega, by rw [hz]; omega, by decide, by decide⟩ hT hg).mono ?_
  rintro r X1 X1t ⟨hF, hG, hA1, hp, hk, hx, hO, hOt⟩
  refine ⟨hF, hG, hA1, hk, ?_⟩
  have e13 := ixc hT.1
  rcases hO with ⟨a, b, c, -, -⟩ | ⟨-, -, hF2, n13, n15, ho, n4, n5, n6, n9, n9n⟩
  · have hr := ixc a
    have := h4 (ix r) (by omega)
    rw [c.1] at this
    omega
  · refine ⟨by omega, by rw [hz] at n15; omega, fun j hj => ?_⟩
    by_cases q : j = ix (X.1 0 13)
    · rw [q, n4]
      omega
    · rw [(ho j q).1]
      exact h4 j (by omega)
theorem t_f_kinds0 (X Xt : St) (hA : AG 0 0 (wI (wI X 0 13 0) 0 15 0) (wI (wI Xt 0 13 0) 0 15 0)) : ok2 (f_kinds 0 X) (f_kinds 0 Xt) (fun _ X1 X1t => Fr YR [13, 15, 800, 1000, 1200, 1400, 1600, 1800] X X1 ∧ Fr YR [13, 15, 800, 1000, 1200, 1400, 1600, 1800] Xt X1t ∧ AG 0 0 X1 X1t ∧ KT X1 ∧ K3 X1 ∧ (X1.1 0 13).toInt = 3 ∧ (X1.1 0 15).toInt = 0) := by
  unfold f_kinds
  refine ok2.letV (ok2.letV ?_)
  have hF0 : ∀ Z : St, Fr YR [13, 15, 800, 1000, 1200, 1400, 1600, 1800] Z (wI (wI Z 0 13 0) 0 15 0) := fun Z => (Fr.rf.wI 0 13 _ (show (13 : Nat) ∈ [13, 15, 800, 1000, 1200, 1400, 1600, 1800] from by decide)).wI 0 15 _ (show (15 : Nat) ∈ [13, 15, 800, 1000, 1200, 1400, 1600, 1800] from by decide)
  have h0 : KN (wI (wI X 0 13 0) 0 15 0) 0 := ⟨KT.zero rfl rfl, rfl, rfl, fun j hj => absurd hj (Nat.not_lt_zero j)⟩
  refine ok2.bd (h0.step (by decide) (by decide) hA) ?_
  rintro r1 X1 X1t ⟨f1, g1, a1, k1⟩
  refine ok2.bd (k1.step (by decide) (by decide) a1) ?_
  rintro r2 X2 X2t ⟨f2, g2, a2, k2⟩
  refine ok2.bd (k2.step (by decide) (by decide) a2) ?_
  rintro r3 X3 X3t ⟨f3, g3, a3, k3⟩
  obtain ⟨kt, h13, h15, h4⟩ := k3
  have q0 := h4 0 (by decide)
  have q1 := h4 1 (by decide)
  have q2 := h4 2 (by decide)
  refine ok2.ret ⟨(((hF0 X).tr f1 (by decide)).tr f2 (by decide)).tr f3 (by decide), (((hF0 Xt).tr g1 (by decide)).tr g2 (by decide)).tr g3 (by decide), a3, kt, ⟨by omega, Int32.toInt_inj.mp (by rw [q0]; rfl), Int32.toInt_inj.mp (by rw [q1]; rfl), Int32.toInt_inj.mp (by rw [q2]; rfl)⟩, by omega, h15⟩
