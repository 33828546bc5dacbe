/-! add() -/
def ADDP (X X1 : St) (p : Int32) : Prop := (X1.1 27 (ix (X.1 36 (ix p)))).toInt = (X.1 27 (ix (X.1 36 (ix p)))).toInt + 1 ∧ ((X.1 37 (ix p)).toInt = -1 → X1.1 24 (ix (X.1 36 (ix p))) = X.1 0 24) ∧ (¬ (X.1 37 (ix p)).toInt = -1 → X1.1 24 (ix (X.1 36 (ix p))) = X.1 24 (ix (X.1 36 (ix p)))) ∧ (¬ (X.1 37 (ix p)).toInt = -1 → X1.1 28 (ix (X.1 37 (ix p))) = X.1 0 24) ∧ X1.1 37 (ix p) = X.1 0 24 ∧ (∀ i, i ≠ ix p → X1.1 37 i = X.1 37 i) ∧ (∀ i, i ≠ ix (X.1 36 (ix p)) → X1.1 24 i = X.1 24 i ∧ X1.1 27 i = X.1 27 i) ∧ (∀ i, ¬ (i = ix (X.1 37 (ix p)) ∧ ¬ (X.1 37 (ix p)).toInt = -1) → X1.1 28 i = X.1 28 i)
theorem t_f_add_45 (p n : Int32) (Y Yt : St) (lv : Nat) (P : Int) (hag : AG lv P Y Yt) (hlv : 4 ≤ lv) (hn : 0 ≤ p.toInt ∧ p.toInt ≤ 399 ∧ 0 ≤ n.toInt ∧ n.toInt < (Y.1 0 19).toInt ∧ (Y.1 0 19).toInt ≤ 3100 ∧ 0 ≤ (Y.1 27 (ix n)).toInt ∧ (Y.1 27 (ix n)).toInt ≤ 3099) : ok2 (f_add_45 p n Y) (f_add_45 p n Yt) (fun _ X1 X1t => Fr YR [5400, 7400] Y X1 ∧ Fr YR [5400, 7400] Yt X1t ∧ AG lv P X1 X1t ∧ (X1.1 27 (ix n)).toInt = (Y.1 27 (ix n)).toInt + 1 ∧ X1.1 37 (ix p) = Y.1 0 24 ∧ (∀ i, i ≠ ix p → X1.1 37 i = Y.1 37 i) ∧ (∀ i, i ≠ ix n → X1.1 27 i = Y.1 27 i)) := by
  unfold f_add_45
  refine ok2.letE (v1 := Y.1 0 24) rfl (hag.s4 24 (by decide) hlv) ?_
  refine ok2.ck (show 0 ≤ p.toInt ∧ p.toInt < ((400 : Nat) : Int) by omega) (ok2.letV ?_)
  refine ok2.ck (show 0 ≤ n.toInt ∧ n.toInt < ((3100 : Nat) : Int) by omega) ?_
  refine ok2.letE (v1 := Y.1 27 (ix n)) rfl (hag.ri 27 19 (by decide) (Nat.zero_le _) n ⟨hn.2.2.1, hn.2.2.2.1⟩) ?_
  refine ok2.add (by rw [show (1 : Int32).toInt = 1 from rfl]; omega) (fun x9 hx9 => ?_)
  have hx9 : x9.toInt = (Y.1 27 (ix n)).toInt + 1 := hx9
  refine ok2.ck (show 0 ≤ n.toInt ∧ n.toInt < ((3100 : Nat) : Int) by omega) (ok2.letV ?_)
  refine ok2.ret ⟨(Fr.rf.wI 37 _ _ (show (7400 : Nat) ∈ [5400, 7400] from by decide)).wI 27 _ _ (show (5400 : Nat) ∈ [5400, 7400] from by decide), (Fr.rf.wI 37 _ _ (show (7400 : Nat) ∈ [5400, 7400] from by decide)).wI 27 _ _ (show (5400 : Nat) ∈ [5400, 7400] from by decide), (hag.wI 37 _ _ (Or.inl (by decide))).wI 27 _ _ (Or.inl (by decide)), ?_, (wI_ne _ 27 _ _ 37 _ (by rintro ⟨q, -⟩; omega)).trans (wI_at Y 37 (ix p) _), fun i hi => (wI_ne _ 27 _ _ 37 _ (by rintro ⟨q, -⟩; omega)).trans (wI_ne Y 37 _ _ 37 i (fun q => hi q.2)), fun i hi => ?_⟩
  · rw [wI_at]
    exact hx9
  · exact (wI_ne _ 27 _ _ 27 _ (fun q => hi q.2)).trans (wI_ne Y 37 _ _ 27 i (by rintro ⟨q, -⟩; omega))
theorem t_f_add (p : Int32) (X Xt : St) (lv : Nat) (P : Int) (hag : AG lv P X Xt) (hlv : 4 ≤ lv) (hn : 0 ≤ p.toInt ∧ p.toInt < (X.1 0 22).toInt ∧ (X.1 0 22).toInt ≤ 399 ∧ 0 ≤ (X.1 36 (ix p)).toInt ∧ (X.1 36 (ix p)).toInt < (X.1 0 19).toInt ∧ (X.1 0 19).toInt ≤ 3100 ∧ ((X.1 37 (ix p)).toInt = -1 ∨ (0 ≤ (X.1 37 (ix p)).toInt ∧ (X.1 37 (ix p)).toInt < (X.1 0 19).toInt)) ∧ 0 ≤ (X.1 27 (ix (X.1 36 (ix p)))).toInt ∧ (X.1 27 (ix (X.1 36 (ix p)))).toInt ≤ 3099) : ok2 (f_add p X) (f_add p Xt) (fun _ X1 X1t => Fr YR [4800, 5400, 5600, 7400] X X1 ∧ Fr YR [4800, 5400, 5600, 7400] Xt X1t ∧ AG lv P X1 X1t ∧ True ∧ ADDP X X1 p) := by
  have h3 := Nat.le_trans (show 3 ≤ 4 by decide) hlv
  unfold f_add
  refine ok2.ck (show 0 ≤ p.toInt ∧ p.toInt < ((400 : Nat) : Int) by omega) ?_
  refine ok2.letE (v1 := X.1 36 (ix p)) rfl (hag.ri 36 22 (by decide) h3 p ⟨hn.1, hn.2.1⟩) ?_
  refine ok2.ck (show 0 ≤ p.toInt ∧ p.toInt < ((400 : Nat) : Int) by omega) ?_
  refine ok2.letE (v1 := X.1 37 (ix p)) rfl (hag.ri 37 22 (by decide) h3 p ⟨hn.1, hn.2.1⟩) ?_
  refine ok2.ite (fun c => ?_) (fun c => ?_)
  · have c : (X.1 37 (ix p)).toInt = -1 := c
    refine ok2.letE (v1 := X.1 0 24) rfl (hag.s4 24 (by decide) hlv) ?_
    refine ok2.ck (show 0 ≤ (X.1 36 (ix p)).toInt ∧ (X.1 36 (ix p)).toInt < ((3100 : Nat) : Int) by omega) (ok2.letV ?_)
    refine (t_f_add_45 p (X.1 36 (ix p)) _ _ lv P (hag.wI 24 _ _ (Or.inl (by decide))) hlv ⟨hn.1, by omega, hn.2.2.2.1, hn.2.2.2.2.1, hn.2.2.2.2.2.1, hn.2.2.2.2.2.2.2.1, hn.2.2.2.2.2.2.2.2⟩).mono ?_
    rintro r X1 X1t ⟨hF, hG, hA, k1, k2, k3, k4⟩
    refine ⟨(Fr.rf.wI 24 _ _ (show (4800 : Nat) ∈ [4800, 5400, 5600, 7400] from by decide)).tr hF (by decide), (Fr.rf.wI 24 _ _ (show (4800 : Nat) ∈ [4800, 5400, 5600, 7400] from by decide)).tr hG (by decide), hA, trivial, k1, fun _ => ?_, fun q => absurd c q, fun q => absurd c q, k2, k3, fun i hi => ⟨?_, k4 i hi⟩, fun i hi => ?_⟩
    · rw [hF.1 24 _ (show (4800 : Nat) ∉ [5400, 7400] from by decide), wI_at]
    · rw [hF.1 24 _ (show (4800 : Nat) ∉ [5400, 7400] from by decide), wI_ne _ _ _ _ _ _ (fun q => hi q.2)]
    · exact hF.1 28 _ (show (5600 : Nat) ∉ [5400, 7400] from by decide)
  · have c : ¬ (X.1 37 (ix p)).toInt = -1 := c
    refine ok2.ck (show 0 ≤ p.toInt ∧ p.toInt < ((400 : Nat) : Int) by omega) ?_
    refine ok2.letE (v1 := X.1 37 (ix p)) rfl (hag.ri 37 22 (by decide) h3 p ⟨hn.1, hn.2.1⟩) ?_
    refine ok2.letE (v1 := X.1 0 24) rfl (hag.s4 24 (by decide) hlv) ?_
    refine ok2.ck (show 0 ≤ (X.1 37 (ix p)).toInt ∧ (X.1 37 (ix p)).toInt < ((3100 : Nat) : Int) by omega) (ok2.letV ?_)
    refine (t_f_add_45 p (X.1 36 (ix p)) _ _ lv P (hag.wI 28 _ _ (Or.inl (by decide))) hlv ⟨hn.1, by omega, hn.2.2.2.1, hn.2.2.2.2.1, hn.2.2.2.2.2.1, hn.2.2.2.2.2.2.2.1, hn.2.2.2.2.2.2.2.2⟩).mono ?_
    rintro r X1 X1t ⟨hF, hG, hA, k1, k2, k3, k4⟩
    refine ⟨(Fr.rf.wI 28 _ _ (show (5600 : Nat) ∈ [4800, 5400, 5600, 7400] from by decide)).tr hF (by decide), (Fr.rf.wI 28 _ _ (show (5600 : Nat) ∈ [4800, 5400, 5600, 7400] from by decide)).tr hG (by decide), hA, trivial, k1, fun q => absurd q c, fun _ => ?_, fun _ => ?_, k2, k3, fun i hi => ⟨?_, k4 i hi⟩, fun i hi => ?_⟩
    · exact hF.1 24 _ (show (4800 : Nat) ∉ [5400, 7400] from by decide)
    · rw [hF.1 28 _ (show (5600 : Nat) ∉ [5400, 7400] from by decide), wI_at]
    · exact hF.1 24 _ (show (4800 : Nat) ∉ [5400, 7400] from by decide)
    · rw [hF.1 28 _ (show (5600 : Nat) ∉ [5400, 7400] from by decide), wI_ne _ _ _ _ _ _ (fun q => hi ⟨q.2, c⟩)]
theorem LPR.many {X : St} {n l r : Nat} {s : Int} {last : Int32} (h : LPR X n l r s last) : 0 ≤ (X.1 27 n).toInt ∧ (X.1 27 n).toInt + l ≤ r := by
  obtain ⟨it, cu, hL, h1, h2⟩ := h
  have hc := ixc hL.2.2.1
  have key : ∀ i, i ≤ ix (X.1 27 n) → l + i ≤ cu i := by
    intro i
    induction i with
    | zero => intro _; rw [hL.1]; exact Nat.le_refl _
    | succ i ih =>
      intro hi
      have h3 := ih (by omega)
      have h4 := hL.le (fun n l r s q => q.bd) i (by omega)
      omega
  have h5 := key _ (Nat.le_refl _)
  rw [hL.2.1] at h5
  exact ⟨hL.2.2.1, by omega⟩
/-- what add() asks of the top frame -/
theorem MH.list {X : St} {L : Nat} {S N : Int} {G : Nat → Int → Prop} {o : Int32} (h : MH X L S N G) (ho : o.toInt = (X.1 0 22).toInt - 1) (ht : (X.1 35 (ix o)).toInt = 7 ∨ (X.1 35 (ix o)).toInt = 8 ∨ (X.1 35 (ix o)).toInt = 12) : ((X.1 37 (ix o)).toInt = -1 ∨ (0 ≤ (X.1 37 (ix o)).toInt ∧ (X.1 37 (ix o)).toInt < (X.1 0 19).toInt)) ∧ 0 ≤ (X.1 27 (ix (X.1 36 (ix o)))).toInt ∧ (X.1 27 (ix (X.1 36 (ix o)))).toInt < (X.1 0 19).toInt := by
  obtain ⟨j, cu, sc, nc, lv, tp, ⟨h1, h2, h3, h4, h5, h6, h7⟩, -⟩ := h
  have eo := ixc (z := o) (by omega)
  have e := ixc h7
  obtain ⟨i, rfl⟩ : ∃ i, j = i + 1 := ⟨j - 1, by omega⟩
  have ei : ix o = i := by omega
  obtain ⟨lo, s0, n0, l0, t0, hB, hR, hT⟩ := h1
  rw [ei] at ht ⊢
  have hq : ∃ l, LPR X (ix (X.1 36 i)) (l + 1) cu s0 (X.1 37 i) := by
    rcases ht with ht | ht | ht
    · obtain ⟨q1, q2, q3, q4, q5, q6, q7, q8, q9, q10, q11, q12⟩ := hR.at7 ht
      exact ⟨_, q12⟩
    · obtain ⟨q1, q2, q3, q4, q5, q6, q7, q8, q9, q10, q11, q12, q13⟩ := hR.at8 ht
      exact ⟨_, q13⟩
    · obtain ⟨q1, q2, q3, q4, q5, q6, q7, q8, q9, q10, q11, q12, q13⟩ := hR.at12 ht
      exact ⟨_, q13⟩
  obtain ⟨l, hq⟩ := hq
  have hm := hq.many
  refine ⟨?_, by omega⟩
  by_cases q : (X.1 37 i).toInt = -1
  · exact Or.inl q
  · have q2 := hq.lastb q
    have := ixc q2.1
    right
    omega
