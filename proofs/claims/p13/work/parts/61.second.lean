def T15 (X : St) : Prop := ∀ o : Int32, o.toInt = (X.1 0 22).toInt - 1 → ¬ (X.1 35 (ix o)).toInt = 15
theorem MH.top {X : St} {L : Nat} {S N : Int} {G : Nat → Int → Prop} {o : Int32} (h : MH X L S N G) (ho : o.toInt = (X.1 0 22).toInt - 1) : 0 ≤ (X.1 35 (ix o)).toInt ∧ (X.1 35 (ix o)).toInt ≤ 16 ∧ 1 ≤ (X.1 0 22).toInt ∧ ((X.1 35 (ix o)).toInt = 0 → (X.1 0 22).toInt = 1) ∧ (¬ (X.1 35 (ix o)).toInt = 0 → 0 ≤ (X.1 36 (ix o)).toInt ∧ (X.1 36 (ix o)).toInt < (X.1 0 19).toInt ∧ 2 ≤ (X.1 0 22).toInt) := by
  obtain ⟨j, cu, sc, nc, lv, tp, hM, -⟩ := h
  have ht := hM.top ho
  have hn := hM.num
  have hj := hM.2.1
  omega
theorem MF.lev {X : St} {L j cu : Nat} {S N sc nc lv tp mm : Int} {o : Int32} (h : MF X L S N j cu sc nc lv tp mm) (ho : o.toInt = (X.1 0 22).toInt - 1) : (¬ (X.1 35 (ix o)).toInt = 16 → lv = 0) ∧ ((X.1 35 (ix o)).toInt = 16 → lv = (levF (X.1 26 (ix (X.1 36 (ix o)))).toInt64).toInt) := by
  have ht := h.top ho
  obtain ⟨h1, h2, h3, h4, h5, h6, h7⟩ := h
  obtain ⟨i, rfl⟩ : ∃ i, j = i + 1 := ⟨j - 1, by omega⟩
  have ei : ix o = i := by omega
  rw [ei]
  obtain ⟨lo, s0, n0, l0, t0, hB, hR, hT⟩ := h1
  refine ⟨fun hq => ?_, fun hq => ?_⟩
  · rcases hR with hR | ⟨a, b, c, d, e, hR⟩
    · exact hR.2.2.2.2.2
    · rcases hR with ⟨p1, p2, p3⟩ | ⟨p1, p2, p3⟩ | ⟨p1, p2, p3, p4, p5⟩
      · exact p2
      · exact p2
      · exact absurd p4 hq
  · obtain ⟨q1, q2, q3, q4, q5, q6, q7, q8, q9, q10, q11, q12, q13, q14, q15⟩ := hR.at16 hq
    exact q15
theorem ex_bin15 {X Y : St} {L : Nat} {S N : Int} {o : Int32} (h : MH X L S N GA) (ho : o.toInt = (X.1 0 22).toInt - 1) (ht : (X.1 35 (ix o)).toInt = 16) (hf : ∀ i, i < ix o → Y.1 35 i = X.1 35 i) (h22 : (Y.1 0 22).toInt = (X.1 0 22).toInt - 1) : T15 Y := by
  obtain ⟨j, cu, sc, nc, lv, tp, ⟨h1, h2, h3, h4, h5, h6, h7⟩, -⟩ := h
  have eo := ixc (z := o) (by omega)
  obtain ⟨i, rfl⟩ : ∃ i, j = i + 1 := ⟨j - 1, by omega⟩
  have ei : ix o = i := by omega
  obtain ⟨lo, s0, n0, l0, t0, hB, hR, hT⟩ := h1
  rw [ei] at hf ht
  obtain ⟨q1, q2, q3, q4, q5, q6, q7, q8, q9, q10, q11, q12, q13, q14, q15⟩ := hR.at16 ht
  obtain ⟨k, rfl⟩ : ∃ k, i = k + 1 := ⟨i - 1, by omega⟩
  obtain ⟨lo2, s2, n2, l2, t2, hB2, hR2, hT2⟩ := hB
  intro o1 ho1
  have e1 := ixc (z := o1) (by omega)
  have e2 : ix o1 = k := by omega
  rw [e2, hf k (Nat.lt_succ_self k), ← hT2]
  exact q9
set_option maxHeartbeats 4000000 in
set_option maxRecDepth 100000 in
theorem t_f_second (p1 : Int32) (X Xt : St) {L : Nat} {S : Int} {N : Int} (lv : Nat) (P : Int) (hag : AG lv P X Xt) (hlv : 4 ≤ lv) (hy0 : 0 ≤ (X.1 0 19).toInt ∧ (X.1 0 19).toInt ≤ 3099 ∧ 0 ≤ (X.1 0 22).toInt ∧ (X.1 0 22).toInt ≤ 399 ∧ 1 ≤ p1.toInt ∧ p1.toInt ≤ 3) (h_MHA : (MH X L S N GA)) : ok2 (f_second p1 X) (f_second p1 Xt) (fun r X1 X1t => Fr YR [22, 24, 4800] X X1 ∧ Fr YR [22, 24, 4800] Xt X1t ∧ AG lv P X1 X1t ∧ (1 ≤ (X1.1 0 22).toInt ∧ (X1.1 0 22).toInt ≤ (X.1 0 22).toInt ∧ 0 ≤ (X1.1 0 24).toInt ∧ (X1.1 0 24).toInt < (X.1 0 19).toInt) ∧ (MH X1 L S N GA) ∧ ((∀ j cu sc nc lv tp, MF X1 L S N j cu sc nc lv tp 0 → lv < p1.toInt) ∧ (T15 X → T15 X1)) ∧ (FS X X1 0 L)) := by
  have hhd : 0 ≤ (X.1 0 24).toInt ∧ (X.1 0 24).toInt < (X.1 0 19).toInt := h_MHA.hand
  obtain ⟨o, ho⟩ : ∃ o : Int32, o.toInt = (X.1 0 22).toInt - 1 := ⟨X.1 0 22 - 1, ti_sub (by rw [show (1 : Int32).toInt = 1 from rfl]; omega) (by rw [show (1 : Int32).toInt = 1 from rfl]; omega)⟩
  have htp := h_MHA.top ho
  unfold f_second
  have lp_f_second_0 : ∀ (n : Nat), ∀ (a1 : Int32) (Z1 Z1t : St), Fr YR [22, 24, 4800] X Z1 → Fr YR [22, 24, 4800] Xt Z1t → AG lv P Z1 Z1t → (1 ≤ (Z1.1 0 22).toInt ∧ (Z1.1 0 22).toInt ≤ (X.1 0 22).toInt ∧ 0 ≤ (Z1.1 0 24).toInt ∧ (Z1.1 0 24).toInt < (X.1 0 19).toInt ∧ (Z1.1 0 19).toInt = (X.1 0 19).toInt ∧ 1 ≤ a1.toInt ∧ a1.toInt ≤ 3 ∧ a1.toInt = p1.toInt) → (MH Z1 L S N GA) → (T15 X → T15 Z1) → (FS X Z1 0 L) → ((Z1.1 0 22).toInt).toNat < n → ok2 (f_second_0 n a1 Z1) (f_second_0 n a1 Z1t) (fun r X1 X1t => Fr YR [22, 24, 4800] X X1 ∧ Fr YR [22, 24, 4800] Xt X1t ∧ AG lv P X1 X1t ∧ (1 ≤ (X1.1 0 22).toInt ∧ (X1.1 0 22).toInt ≤ (X.1 0 22).toInt ∧ 0 ≤ (X1.1 0 24).toInt ∧ (X1.1 0 24).toInt < (X.1 0 19).toInt) ∧ (MH X1 L S N GA) ∧ ((∀ j cu sc nc lv tp, MF X1 L S N j cu sc nc lv tp 0 → lv < p1.toInt) ∧ (T15 X → T15 X1)) ∧ (FS X X1 0 L)) := by
    intro n
    unfold f_second_0
    refine lp_indN (P := fun (n : Nat) (r_f_second_0 : Int32 → St → Option (Int32 × St)) => ∀ (a1 : Int32) (Z1 Z1t : St), Fr YR [22, 24, 4800] X Z1 → Fr YR [22, 24, 4800] Xt Z1t → AG lv P Z1 Z1t → (1 ≤ (Z1.1 0 22).toInt ∧ (Z1.1 0 22).toInt ≤ (X.1 0 22).toInt ∧ 0 ≤ (Z1.1 0 24).toInt ∧ (Z1.1 0 24).toInt < (X.1 0 19).toInt ∧ (Z1.1 0 19).toInt = (X.1 0 19).toInt ∧ 1 ≤ a1.toInt ∧ a1.toInt ≤ 3 ∧ a1.toInt = p1.toInt) → (MH Z1 L S N GA) → (T15 X → T15 Z1) → (FS X Z1 0 L) → ((Z1.1 0 22).toInt).toNat < n → ok2 (r_f_second_0 a1 Z1) (r_f_second_0 a1 Z1t) (fun r X1 X1t => Fr YR [22, 24, 4800] X X1 ∧ Fr YR [22, 24, 4800] Xt X1t ∧ AG lv P X1 X1t ∧ (1 ≤ (X1.1 0 22).toInt ∧ (X1.1 0 22).toInt ≤ (X.1 0 22).toInt ∧ 0 ≤ (X1.1 0 24).toInt ∧ (X1.1 0 24).toInt < (X.1 0 19).toInt) ∧ (MH X1 L S N GA) ∧ ((∀ j cu sc nc lv tp, MF X1 L S N j cu sc nc lv tp 0 → lv < p1.toInt) ∧ (T15 X → T15 X1)) ∧ (FS X X1 0 L))) ?_ ?_ n
    · intro a1 Z1 Z1t hF hG hA hI hZ1_MHA hZ1_T15i hZ1_FSL hm; exact absurd hm (Nat.not_lt_zero _)
    · intro n r_f_second_0 ih_f_second_0 a1 Z1 Z1t hFZ1 hGZ1 hAZ1 hIZ1 hZ1_MHA hZ1_T15i hZ1_FSL hmZ1
      have eZ1_19 : (Z1.1 0 19).toInt = (X.1 0 19).toInt := congrArg Int32.toInt (hFZ1.1 0 19 (show (19 : Nat) ∉ [22, 24, 4800] from by decide))
      unfold f_second_0_s
      refine ok2.letE (v1 := (Z1.1 0 22)) rfl (hAZ1.s3 22 (by decide) (Nat.le_trans (show 3 ≤ 4 from by decide) hlv)) ?_
      refine ok2.sub (show _ ≤ (Z1.1 0 22).toInt - (1 : Int) ∧ (Z1.1 0 22).toInt - (1 : Int) ≤ _ from by omega) (fun x2 hx2 => ?_)
      have hx2 : x2.toInt = (Z1.1 0 22).toInt - (1 : Int) := hx2
      refine ok2.ck (show 0 ≤ x2.toInt ∧ x2.toInt < ((400 : Nat) : Int) from by omega) ?_
      refine ok2.letE (v1 := (Z1.1 35 (ix x2))) rfl (hAZ1.ri 35 22 (by decide) (Nat.le_trans (show 3 ≤ 4 from by decide) hlv) x2 (show 0 ≤ x2.toInt ∧ x2.toInt < (Z1.1 0 22).toInt from by omega)) ?_
      refine ok2.ite (fun c2 => ?_) (fun c2 => ?_)
      · skip
        have ht2 : 0 ≤ (Z1.1 36 (ix x2)).toInt ∧ (Z1.1 36 (ix x2)).toInt < (Z1.1 0 19).toInt ∧ 2 ≤ (Z1.1 0 22).toInt := (hZ1_MHA.top (o := x2) (by omega)).2.2.2.2 (by omega)
        refine ok2.letE (v1 := (Z1.1 0 22)) rfl (hAZ1.s3 22 (by decide) (Nat.le_trans (show 3 ≤ 4 from by decide) hlv)) ?_
        refine ok2.sub (show _ ≤ (Z1.1 0 22).toInt - (1 : Int) ∧ (Z1.1 0 22).toInt - (1 : Int) ≤ _ from by omega) (fun x5 hx5 => ?_)
        have hx5 : x5.toInt = (Z1.1 0 22).toInt - (1 : Int) := hx5
        obtain rfl : x2 = x5 := Int32.toInt_inj.mp (by omega)
        refine ok2.ck (show 0 ≤ x2.toInt ∧ x2.toInt < ((400 : Nat) : Int) from by omega) ?_
        refine ok2.letE (v1 := (Z1.1 36 (ix x2))) rfl (hAZ1.ri 36 22 (by decide) (Nat.le_trans (show 3 ≤ 4 from by decide) hlv) x2 (show 0 ≤ x2.toInt ∧ x2.toInt < (Z1.1 0 22).toInt from by omega)) ?_
        refine ok2.ck (show 0 ≤ (Z1.1 36 (ix x2)).toInt ∧ (Z1.1 36 (ix x2)).toInt < ((3100 : Nat) : Int) from by omega) ?_
        refine ok2.letE (v1 := (Z1.1 26 (ix (Z1.1 36 (ix x2))))) rfl (hAZ1.ri 26 19 (by decide) (Nat.zero_le _) (Z1.1 36 (ix x2)) (show 0 ≤ (Z1.1 36 (ix x2)).toInt ∧ (Z1.1 36 (ix x2)).toInt < (Z1.1 0 19).toInt from by have ec_ : (Z1.1 0 19).toInt = (X.1 0 19).toInt := congrArg Int32.toInt (hFZ1.1 0 19 (show (19 : Nat) ∉ [22, 24, 4800] from by decide)); omega)) ?_
        refine ok2.eqv (fun y8 hy8 => ?_)
        refine ok2.bd (t_f_levelOf _ _ _) ?_
        rintro x9 X_4 X_4t ⟨eX_4, eX_4t, hh3⟩
        subst eX_4
        subst eX_4t
        have hh3 : (x9.toInt = (levF y8).toInt ∧ 0 ≤ x9.toInt ∧ x9.toInt ≤ 3) := hh3
        refine ok2.ite (fun c5 => ?_) (fun c5 => ?_)
        · skip
          exact ok2.ret ⟨(Fr.rf.tr hFZ1 (by decide)), (Fr.rf.tr hGZ1 (by decide)), hAZ1, (show 1 ≤ (Z1.1 0 22).toInt ∧ (Z1.1 0 22).toInt ≤ (X.1 0 22).toInt ∧ 0 ≤ (Z1.1 0 24).toInt ∧ (Z1.1 0 24).toInt < (X.1 0 19).toInt from by exact ⟨(by omega), (by omega), (by omega), (by omega)⟩), hZ1_MHA, ⟨(fun j cu sc nc lv tp hM => by have hl := (hM.lev (o := x2) (by omega)).2 (by omega); have h9 := hh3.1; rw [hy8] at h9; omega), hZ1_T15i⟩, hZ1_FSL⟩
        · skip
          refine ok2.letE (v1 := (Z1.1 0 22)) rfl (hAZ1.s3 22 (by decide) (Nat.le_trans (show 3 ≤ 4 from by decide) hlv)) ?_
          refine ok2.sub (show _ ≤ (Z1.1 0 22).toInt - (1 : Int) ∧ (Z1.1 0 22).toInt - (1 : Int) ≤ _ from by omega) (fun x12 hx12 => ?_)
          have hx12 : x12.toInt = (Z1.1 0 22).toInt - (1 : Int) := hx12
          obtain rfl : x2 = x12 := Int32.toInt_inj.mp (by omega)
          refine ok2.letV ?_
          have hc6 : AG lv P (wI Z1 0 22 x2) (wI Z1t 0 22 x2) := hAZ1.dec 22 _ (by decide) (show x2.toInt ≤ (Z1.1 0 22).toInt from by omega)
          refine ok2.letE (v1 := x2) rfl rfl ?_
          refine ok2.ck (show 0 ≤ x2.toInt ∧ x2.toInt < ((400 : Nat) : Int) from by omega) ?_
          refine ok2.letE (v1 := (Z1.1 36 (ix x2))) rfl (hAZ1.ri 36 22 (by decide) (Nat.le_trans (show 3 ≤ 4 from by decide) hlv) x2 (show 0 ≤ x2.toInt ∧ x2.toInt < (Z1.1 0 22).toInt from by omega)) ?_
          refine ok2.letE (v1 := (Z1.1 0 24)) rfl (hAZ1.s4 24 (by decide) (Nat.le_trans (show 4 ≤ 4 from by decide) hlv)) ?_
          refine ok2.ck (show 0 ≤ (Z1.1 36 (ix x2)).toInt ∧ (Z1.1 36 (ix x2)).toInt < ((3100 : Nat) : Int) from by omega) ?_
          refine ok2.letV ?_
          refine ok2.letV ?_
          have k7 : MH (wI (wI (wI Z1 0 22 x2) 24 (ix (Z1.1 36 (ix x2))) (Z1.1 0 24)) 0 24 (Z1.1 36 (ix x2))) L S N GA := ex_binpop (n := (Z1.1 36 (ix x2))) (o := x2) hZ1_MHA (by omega) rfl (fun i _ => ⟨rfl, rfl, rfl⟩) (fun i _ hne => ⟨rfl, rfl, (wI_ne Z1 24 _ _ 24 i (fun q => hne q.2)), rfl, rfl, rfl, rfl⟩) rfl (by omega) (show x2.toInt = _ from by omega) rfl rfl rfl rfl rfl rfl (wI_at Z1 24 _ _)
          have k8 : FS X (wI (wI (wI Z1 0 22 x2) 24 (ix (Z1.1 36 (ix x2))) (Z1.1 0 24)) 0 24 (Z1.1 36 (ix x2))) 0 L := (((hZ1_FSL.tr (FS.fr0 ((Fr.rf : Fr YR [22] Z1 Z1).wI 0 22 _ (show (22 : Nat) ∈ [22] from by decide)) (by decide))).tr (FS.w (Or.inr ⟨by decide, (hZ1_MHA.topL (o := x2) (by omega) (by omega))⟩))).tr (FS.fr0 ((Fr.rf : Fr YR [24] (wI (wI Z1 0 22 x2) 24 (ix (Z1.1 36 (ix x2))) (Z1.1 0 24)) (wI (wI Z1 0 22 x2) 24 (ix (Z1.1 36 (ix x2))) (Z1.1 0 24))).wI 0 24 _ (show (24 : Nat) ∈ [24] from by decide)) (by decide)))
          exact ih_f_second_0 a1 (wI (wI (wI Z1 0 22 x2) 24 (ix (Z1.1 36 (ix x2))) (Z1.1 0 24)) 0 24 (Z1.1 36 (ix x2))) (wI (wI (wI Z1t 0 22 x2) 24 (ix (Z1.1 36 (ix x2))) (Z1.1 0 24)) 0 24 (Z1.1 36 (ix x2))) ((((Fr.rf.tr hFZ1 (by decide)).wI 0 22 _ (show (22 : Nat) ∈ [22, 24, 4800] from by decide)).wI 24 (ix (Z1.1 36 (ix x2))) _ (show (4800 : Nat) ∈ [22, 24, 4800] from by decide)).wI 0 24 _ (show (24 : Nat) ∈ [22, 24, 4800] from by decide)) ((((Fr.rf.tr hGZ1 (by decide)).wI 0 22 _ (show (22 : Nat) ∈ [22, 24, 4800] from by decide)).wI 24 (ix (Z1.1 36 (ix x2))) _ (show (4800 : Nat) ∈ [22, 24, 4800] from by decide)).wI 0 24 _ (show (24 : Nat) ∈ [22, 24, 4800] from by decide)) ((hc6.wI 24 (ix (Z1.1 36 (ix x2))) _ (Or.inl (by decide))).wI 0 24 _ (by decide)) (show 1 ≤ x2.toInt ∧ x2.toInt ≤ (X.1 0 22).toInt ∧ 0 ≤ (Z1.1 36 (ix x2)).toInt ∧ (Z1.1 36 (ix x2)).toInt < (X.1 0 19).toInt ∧ (Z1.1 0 19).toInt = (X.1 0 19).toInt ∧ 1 ≤ a1.toInt ∧ a1.toInt ≤ 3 ∧ a1.toInt = p1.toInt from by have e0_ : (Z1.1 0 19).toInt = (X.1 0 19).toInt := congrArg Int32.toInt (hFZ1.1 0 19 (show (19 : Nat) ∉ [22, 24, 4800] from by decide)); exact ⟨(by omega), (by omega), (by omega), (by omega), (by omega), (by omega), (by omega), (by omega)⟩) k7 (fun _ => ex_bin15 (o := x2) hZ1_MHA (by omega) (by omega) (fun i _ => rfl) (show x2.toInt = _ from by omega)) k8 (show (x2.toInt).toNat < n from by omega)
      · skip
        exact ok2.ret ⟨(Fr.rf.tr hFZ1 (by decide)), (Fr.rf.tr hGZ1 (by decide)), hAZ1, (show 1 ≤ (Z1.1 0 22).toInt ∧ (Z1.1 0 22).toInt ≤ (X.1 0 22).toInt ∧ 0 ≤ (Z1.1 0 24).toInt ∧ (Z1.1 0 24).toInt < (X.1 0 19).toInt from by exact ⟨(by omega), (by omega), (by omega), (by omega)⟩), hZ1_MHA, ⟨(fun j cu sc nc lv tp hM => by have hl := (hM.lev (o := x2) (by omega)).1 (by omega); omega), hZ1_T15i⟩, hZ1_FSL⟩
  exact lp_f_second_0 BIG p1 X Xt Fr.rf Fr.rf hag (show 1 ≤ (X.1 0 22).toInt ∧ (X.1 0 22).toInt ≤ (X.1 0 22).toInt ∧ 0 ≤ (X.1 0 24).toInt ∧ (X.1 0 24).toInt < (X.1 0 19).toInt ∧ (X.1 0 19).toInt = (X.1 0 19).toInt ∧ 1 ≤ p1.toInt ∧ p1.toInt ≤ 3 ∧ p1.toInt = p1.toInt from by exact ⟨(by omega), (by omega), (by omega), (by omega), (by omega), (by omega), (by omega), (by omega)⟩) h_MHA (fun q => q) FS.rf (ltBIG (show ((X.1 0 22).toInt).toNat < 100000 from by omega))
