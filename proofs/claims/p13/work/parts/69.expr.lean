noncomputable def f_expr0 (X : St) : Option (Int32 × St) := f_expression_21 BIG X
theorem MM.e {X : St} {L : Nat} {S N : Int} (h : MM X L S N) (hw : (X.1 0 9).toInt = 0) (hf : ¬ (X.1 0 22).toInt ≤ 0) (hm : (X.1 0 23).toInt = 0) : ME X L S N := by
  rcases h hw with q | q | q | q | q | q
  · exact absurd q.1 (by omega)
  · exact q.2
  · exact absurd q.1 (by omega)
  · exact absurd q.1 (by omega)
  · exact absurd q.1 (by omega)
  · exact absurd q.1 (by omega)
theorem MM.p {X : St} {L : Nat} {S N : Int} (h : MM X L S N) (hw : (X.1 0 9).toInt = 0) (hf : ¬ (X.1 0 22).toInt ≤ 0) (hm : (X.1 0 23).toInt = 1) : MP X L S N := by
  rcases h hw with q | q | q | q | q | q
  · exact absurd q.1 (by omega)
  · exact absurd q.1 (by omega)
  · exact q.2
  · exact absurd q.1 (by omega)
  · exact absurd q.1 (by omega)
  · exact absurd q.1 (by omega)
theorem MM.b {X : St} {L : Nat} {S N : Int} (h : MM X L S N) (hw : (X.1 0 9).toInt = 0) (hf : ¬ (X.1 0 22).toInt ≤ 0) (hm : (X.1 0 23).toInt = 2) : MH X L S N (GB X) := by
  rcases h hw with q | q | q | q | q | q
  · exact absurd q.1 (by omega)
  · exact absurd q.1 (by omega)
  · exact absurd q.1 (by omega)
  · exact q.2
  · exact absurd q.1 (by omega)
  · exact absurd q.1 (by omega)
theorem MM.a {X : St} {L : Nat} {S N : Int} (h : MM X L S N) (hw : (X.1 0 9).toInt = 0) (hf : ¬ (X.1 0 22).toInt ≤ 0) (hm : (X.1 0 23).toInt = 3) : MH X L S N GA := by
  rcases h hw with q | q | q | q | q | q
  · exact absurd q.1 (by omega)
  · exact absurd q.1 (by omega)
  · exact absurd q.1 (by omega)
  · exact absurd q.1 (by omega)
  · exact q.2
  · exact absurd q.1 (by omega)
theorem MM.d {X : St} {L : Nat} {S N : Int} (h : MM X L S N) (hw : (X.1 0 9).toInt = 0) (hf : ¬ (X.1 0 22).toInt ≤ 0) (hm : 4 ≤ (X.1 0 23).toInt) : MH X L S N GD := by
  rcases h hw with q | q | q | q | q | q
  · exact absurd q.1 (by omega)
  · exact absurd q.1 (by omega)
  · exact absurd q.1 (by omega)
  · exact absurd q.1 (by omega)
  · exact absurd q.1 (by omega)
  · exact q.2
theorem MM.num {X : St} {L : Nat} {S N : Int} (h : MM X L S N) (hw : (X.1 0 9).toInt = 0) (hf : ¬ (X.1 0 22).toInt ≤ 0) (hS : 0 ≤ S ∧ S ≤ 4 ∧ N = 0) (hn : (X.1 0 21).toInt ≤ 40) : 0 ≤ (X.1 0 20).toInt ∧ (X.1 0 20).toInt ≤ 44 ∧ 1 ≤ (X.1 0 22).toInt ∧ (X.1 0 22).toInt ≤ 164 ∧ 0 ≤ (X.1 0 21).toInt := by
  have key : ∀ {j cu : Nat} {sc nc lv tp mm : Int}, MF X L S N j cu sc nc lv tp mm → 0 ≤ (X.1 0 20).toInt ∧ (X.1 0 20).toInt ≤ 44 ∧ 1 ≤ (X.1 0 22).toInt ∧ (X.1 0 22).toInt ≤ 164 ∧ 0 ≤ (X.1 0 21).toInt := by
    intro j cu sc nc lv tp mm hM
    have := hM.num
    omega
  rcases h hw with q | q | q | q | q | q
  · exact absurd q.1 (by omega)
  · obtain ⟨-, j, sc, nc, lv, tp, hM, -⟩ := q
    exact key hM
  · obtain ⟨-, j, sc, nc, lv, tp, hM⟩ := q
    exact key hM
  · obtain ⟨-, j, cu, sc, nc, lv, tp, hM, -⟩ := q
    exact key hM
  · obtain ⟨-, j, cu, sc, nc, lv, tp, hM, -⟩ := q
    exact key hM
  · obtain ⟨-, j, cu, sc, nc, lv, tp, hM, -⟩ := q
    exact key hM
theorem MM.fin {X : St} {L : Nat} {S N : Int} (h : MM X L S N) (hw : (X.1 0 9).toInt = 0) (hf : (X.1 0 22).toInt ≤ 0) : WH X (X.1 0 24) L (ix (X.1 0 19)) S ∧ (X.1 0 20).toInt = S ∧ (X.1 0 21).toInt = N := by
  have key : ∀ {j cu : Nat} {sc nc lv tp mm : Int}, MF X L S N j cu sc nc lv tp mm → False := by
    intro j cu sc nc lv tp mm hM
    have := hM.num
    omega
  rcases h hw with q | q | q | q | q | q
  · exact q.2
  · obtain ⟨-, j, sc, nc, lv, tp, hM, -⟩ := q
    exact (key hM).elim
  · obtain ⟨-, j, sc, nc, lv, tp, hM⟩ := q
    exact (key hM).elim
  · obtain ⟨-, j, cu, sc, nc, lv, tp, hM, -⟩ := q
    exact (key hM).elim
  · obtain ⟨-, j, cu, sc, nc, lv, tp, hM, -⟩ := q
    exact (key hM).elim
  · obtain ⟨-, j, cu, sc, nc, lv, tp, hM, -⟩ := q
    exact (key hM).elim
theorem MM.of {X : St} {L : Nat} {S N : Int} (h : ((X.1 0 23).toInt = 0 ∧ ME X L S N) ∨ ((X.1 0 23).toInt = 1 ∧ MP X L S N) ∨ ((X.1 0 23).toInt = 2 ∧ MH X L S N (GB X)) ∨ ((X.1 0 23).toInt = 3 ∧ MH X L S N GA)) : ((X.1 0 22).toInt = 0 ∧ WH X (X.1 0 24) L (ix (X.1 0 19)) S ∧ (X.1 0 20).toInt = S ∧ (X.1 0 21).toInt = N) ∨ ((X.1 0 23).toInt = 0 ∧ ME X L S N) ∨ ((X.1 0 23).toInt = 1 ∧ MP X L S N) ∨ ((X.1 0 23).toInt = 2 ∧ MH X L S N (GB X)) ∨ ((X.1 0 23).toInt = 3 ∧ MH X L S N GA) ∨ (4 ≤ (X.1 0 23).toInt ∧ MH X L S N GD) := by
  rcases h with q | q | q | q
  · exact Or.inr (Or.inl q)
  · exact Or.inr (Or.inr (Or.inl q))
  · exact Or.inr (Or.inr (Or.inr (Or.inl q)))
  · exact Or.inr (Or.inr (Or.inr (Or.inr (Or.inl q))))
abbrev QD_f_expr0 (L : Nat) (S : Int) (N : Int) (X : St) (Xt : St) (lv : Nat) (P : Int) : Int32 → St → St → Prop := fun r X1 X1t => Fr YR [5, 6, 7, 8, 9, 10, 13, 15, 17, 19, 20, 21, 22, 23, 24, 47, 800, 1000, 1200, 1400, 1600, 1800, 2000, 4000, 4200, 4400, 4600, 4800, 5000, 5200, 5400, 5600, 5800, 6000, 6600, 6800, 7000, 7200, 7400, 7600, 7800] X X1 ∧ Fr YR [5, 6, 7, 8, 9, 10, 13, 15, 17, 19, 20, 21, 22, 23, 24, 47, 800, 1000, 1200, 1400, 1600, 1800, 2000, 4000, 4200, 4400, 4600, 4800, 5000, 5200, 5400, 5600, 5800, 6000, 6600, 6800, 7000, 7200, 7400, 7600, 7800] Xt X1t ∧ AG lv P X1 X1t ∧ (0 ≤ (X1.1 0 6).toInt ∧ (X1.1 0 6).toInt ≤ (X1.1 0 5).toInt ∧ (X1.1 0 5).toInt ≤ (X1.1 0 1).toInt ∧ (X1.1 0 1).toInt ≤ 3000 ∧ 0 ≤ (X1.1 0 7).toInt ∧ (X1.1 0 7).toInt ≤ 5 ∧ ((X1.1 0 7).toInt = 0 ∨ (X1.1 0 6).toInt < (X1.1 0 5).toInt) ∧ (X.1 0 6).toInt ≤ (X1.1 0 6).toInt ∧ 0 ≤ (X1.1 0 19).toInt ∧ (X1.1 0 19).toInt ≤ (X1.1 0 6).toInt + 1 ∧ 3 ≤ (X1.1 0 13).toInt ∧ (X1.1 0 13).toInt ≤ (X1.1 0 6).toInt + 3 ∧ 0 ≤ (X1.1 0 15).toInt ∧ (X1.1 0 15).toInt ≤ (X1.1 0 6).toInt ∧ -50 ≤ (X1.1 0 21).toInt ∧ (X1.1 0 21).toInt ≤ 90 ∧ ((X1.1 0 9).toInt = 0 → (X1.1 0 19).toInt ≤ (X1.1 0 6).toInt) ∧ ((X1.1 0 9).toInt = 0 → (X1.1 0 19).toInt + (X1.1 0 13).toInt ≤ (X.1 0 19).toInt + (X.1 0 13).toInt + (X1.1 0 6).toInt - (X.1 0 6).toInt)) ∧ (KT X1) ∧ (KX X X1) ∧ ((X1.1 0 9).toInt = 0 → WH X1 r L (ix (X1.1 0 19)) S ∧ (X1.1 0 20).toInt = S ∧ (X1.1 0 21).toInt = N) ∧ (FLw X1) ∧ (FS X X1 0 L)
abbrev LD_f_expression_21 (L : Nat) (S : Int) (N : Int) (X : St) (Xt : St) (lv : Nat) (P : Int) (n : Nat) (r_f_expression_21 : St → Option (Int32 × St)) : Prop := ∀ (Z1 Z1t : St), Fr YR [5, 6, 7, 8, 9, 10, 13, 15, 17, 19, 20, 21, 22, 23, 24, 47, 800, 1000, 1200, 1400, 1600, 1800, 2000, 4000, 4200, 4400, 4600, 4800, 5000, 5200, 5400, 5600, 5800, 6000, 6600, 6800, 7000, 7200, 7400, 7600, 7800] X Z1 → Fr YR [5, 6, 7, 8, 9, 10, 13, 15, 17, 19, 20, 21, 22, 23, 24, 47, 800, 1000, 1200, 1400, 1600, 1800, 2000, 4000, 4200, 4400, 4600, 4800, 5000, 5200, 5400, 5600, 5800, 6000, 6600, 6800, 7000, 7200, 7400, 7600, 7800] Xt Z1t → AG lv P Z1 Z1t → (0 ≤ (Z1.1 0 6).toInt ∧ (Z1.1 0 6).toInt ≤ (Z1.1 0 5).toInt ∧ (Z1.1 0 5).toInt ≤ (Z1.1 0 1).toInt ∧ (Z1.1 0 1).toInt ≤ 3000 ∧ 0 ≤ (Z1.1 0 7).toInt ∧ (Z1.1 0 7).toInt ≤ 5 ∧ ((Z1.1 0 7).toInt = 0 ∨ (Z1.1 0 6).toInt < (Z1.1 0 5).toInt) ∧ (X.1 0 6).toInt ≤ (Z1.1 0 6).toInt ∧ 0 ≤ (Z1.1 0 19).toInt ∧ (Z1.1 0 19).toInt ≤ (Z1.1 0 6).toInt + 1 ∧ 3 ≤ (Z1.1 0 13).toInt ∧ (Z1.1 0 13).toInt ≤ (Z1.1 0 6).toInt + 3 ∧ 0 ≤ (Z1.1 0 15).toInt ∧ (Z1.1 0 15).toInt ≤ (Z1.1 0 6).toInt ∧ 0 ≤ (Z1.1 0 23).toInt ∧ (Z1.1 0 23).toInt ≤ 4 ∧ -50 ≤ (Z1.1 0 21).toInt ∧ (Z1.1 0 21).toInt ≤ 90 ∧ ((Z1.1 0 9).toInt = 0 → (Z1.1 0 19).toInt ≤ (Z1.1 0 6).toInt ∧ (Z1.1 0 21).toInt ≤ 40 ∧ (Z1.1 0 19).toInt + (Z1.1 0 13).toInt ≤ (X.1 0 19).toInt + (X.1 0 13).toInt + (Z1.1 0 6).toInt - (X.1 0 6).toInt)) → (KT Z1) → (KX X Z1) → (MM Z1 L S N) → (FLw Z1) → (FS X Z1 0 L) → (0 < n ∧ ((Z1.1 0 9).toInt = 0 → (10 * (3001 - (Z1.1 0 6).toInt) + 5 * (Z1.1 0 22).toInt + 4 - (Z1.1 0 23).toInt).toNat < n)) → ok2 (r_f_expression_21 Z1) (r_f_expression_21 Z1t) (QD_f_expr0 L S N X Xt lv P)
set_option maxHeartbeats 4000000 in
set_option maxRecDepth 100000 in
theorem t_f_expr0_a1 (L : Nat) (S : Int) (N : Int) (X : St) (Xt : St) (lv : Nat) (P : Int) (hag : AG lv P X Xt) (hlv : 4 ≤ lv) (hy0 : 0 ≤ (X.1 0 6).toInt ∧ (X.1 0 6).toInt ≤ (X.1 0 5).toInt ∧ (X.1 0 5).toInt ≤ (X.1 0 1).toInt ∧ (X.1 0 1).toInt ≤ 3000 ∧ 0 ≤ (X.1 0 7).toInt ∧ (X.1 0 7).toInt ≤ 5 ∧ ((X.1 0 7).toInt = 0 ∨ (X.1 0 6).toInt < (X.1 0 5).toInt)) (hy1 : 0 ≤ (X.1 0 6).toInt ∧ (X.1 0 6).toInt ≤ (X.1 0 5).toInt ∧ (X.1 0 5).toInt ≤ (X.1 0 1).toInt ∧ (X.1 0 1).toInt ≤ 3000 ∧ 0 ≤ (X.1 0 7).toInt ∧ (X.1 0 7).toInt ≤ 5 ∧ ((X.1 0 7).toInt = 0 ∨ (X.1 0 6).toInt < (X.1 0 5).toInt) ∧ (X.1 0 6).toInt ≤ (X.1 0 6).toInt ∧ 0 ≤ (X.1 0 19).toInt ∧ (X.1 0 19).toInt ≤ (X.1 0 6).toInt + 1 ∧ 3 ≤ (X.1 0 13).toInt ∧ (X.1 0 13).toInt ≤ (X.1 0 6).toInt + 3 ∧ 0 ≤ (X.1 0 15).toInt ∧ (X.1 0 15).toInt ≤ (X.1 0 6).toInt ∧ 0 ≤ (X.1 0 23).toInt ∧ (X.1 0 23).toInt ≤ 4 ∧ -50 ≤ (X.1 0 21).toInt ∧ (X.1 0 21).toInt ≤ 90 ∧ ((X.1 0 9).toInt = 0 → (X.1 0 19).toInt ≤ (X.1 0 6).toInt ∧ (X.1 0 21).toInt ≤ 40 ∧ (X.1 0 19).toInt + (X.1 0 13).toInt ≤ (X.1 0 19).toInt + (X.1 0 13).toInt + (X.1 0 6).toInt - (X.1 0 6).toInt) ∧ 0 ≤ (X.1 0 22).toInt ∧ (X.1 0 22).toInt ≤ 200) (h_KT : (KT X)) (h_K3 : (K3 X)) (h_SN : (0 ≤ S ∧ S ≤ 4 ∧ N = 0)) (h_MMX : (MM X L S N)) (h_FL : (FLw X)) (n : Nat) (r_f_expression_21 : St → Option (Int32 × St)) (ih_f_expression_21 : LD_f_expression_21 L S N X Xt lv P n r_f_expression_21) (Z1 Z1t : St) (hFZ1 : Fr YR [5, 6, 7, 8, 9, 10, 13, 15, 17, 19, 20, 21, 22, 23, 24, 47, 800, 1000, 1200, 1400, 1600, 1800, 2000, 4000, 4200, 4400, 4600, 4800, 5000, 5200, 5400, 5600, 5800, 6000, 6600, 6800, 7000, 7200, 7400, 7600, 7800] X Z1) (hGZ1 : Fr YR [5, 6, 7, 8, 9, 10, 13, 15, 17, 19, 20, 21, 22, 23, 24, 47, 800, 1000, 1200, 1400, 1600, 1800, 2000, 4000, 4200, 4400, 4600, 4800, 5000, 5200, 5400, 5600, 5800, 6000, 6600, 6800, 7000, 7200, 7400, 7600, 7800] Xt Z1t) (hAZ1 : AG lv P Z1 Z1t) (hIZ1 : 0 ≤ (Z1.1 0 6).toInt ∧ (Z1.1 0 6).toInt ≤ (Z1.1 0 5).toInt ∧ (Z1.1 0 5).toInt ≤ (Z1.1 0 1).toInt ∧ (Z1.1 0 1).toInt ≤ 3000 ∧ 0 ≤ (Z1.1 0 7).toInt ∧ (Z1.1 0 7).toInt ≤ 5 ∧ ((Z1.1 0 7).toInt = 0 ∨ (Z1.1 0 6).toInt < (Z1.1 0 5).toInt) ∧ (X.1 0 6).toInt ≤ (Z1.1 0 6).toInt ∧ 0 ≤ (Z1.1 0 19).toInt ∧ (Z1.1 0 19).toInt ≤ (Z1.1 0 6).toInt + 1 ∧ 3 ≤ (Z1.1 0 13).toInt ∧ (Z1.1 0 13).toInt ≤ (Z1.1 0 6).toInt + 3 ∧ 0 ≤ (Z1.1 0 15).toInt ∧ (Z1.1 0 15).toInt ≤ (Z1.1 0 6).toInt ∧ 0 ≤ (Z1.1 0 23).toInt ∧ (Z1.1 0 23).toInt ≤ 4 ∧ -50 ≤ (Z1.1 0 21).toInt ∧ (Z1.1 0 21).toInt ≤ 90 ∧ ((Z1.1 0 9).toInt = 0 → (Z1.1 0 19).toInt ≤ (Z1.1 0 6).toInt ∧ (Z1.1 0 21).toInt ≤ 40 ∧ (Z1.1 0 19).toInt + (Z1.1 0 13).toInt ≤ (X.1 0 19).toInt + (X.1 0 13).toInt + (Z1.1 0 6).toInt - (X.1 0 6).toInt)) (hZ1_KT : (KT Z1)) (hZ1_KX : (KX X Z1)) (hZ1_MMX : (MM Z1 L S N)) (hZ1_FL : (FLw Z1)) (hZ1_FSL : (FS X Z1 0 L)) (hmZ1 : (0 < n + 1 ∧ ((Z1.1 0 9).toInt = 0 → (10 * (3001 - (Z1.1 0 6).toInt) + 5 * (Z1.1 0 22).toInt + 4 - (Z1.1 0 23).toInt).toNat < n + 1))) (eZ1_1 : (Z1.1 0 1).toInt = (X.1 0 1).toInt) (x5 : Int32) (hh2 : (x5.toInt = 1 ∧ (Z1.1 0 9).toInt = 0) ∨ (x5.toInt = 0 ∧ ¬ (Z1.1 0 9).toInt = 0)) (c4 : x5.toInt = 0) : ok2 (letV (Z1.1 0 24) (fun x7 => some (x7, Z1))) (letV (Z1t.1 0 24) (fun x7 => some (x7, Z1t))) (QD_f_expr0 L S N X Xt lv P) := by
  refine ok2.letE (v1 := (Z1.1 0 24)) rfl (hAZ1.s4 24 (by decide) (Nat.le_trans (show 4 ≤ 4 from by decide) hlv)) ?_
  exact ok2.ret ⟨(Fr.rf.tr hFZ1 (by decide)), (Fr.rf.tr hGZ1 (by decide)), hAZ1, (show 0 ≤ (Z1.1 0 6).toInt ∧ (Z1.1 0 6).toInt ≤ (Z1.1 0 5).toInt ∧ (Z1.1 0 5).toInt ≤ (Z1.1 0 1).toInt ∧ (Z1.1 0 1).toInt ≤ 3000 ∧ 0 ≤ (Z1.1 0 7).toInt ∧ (Z1.1 0 7).toInt ≤ 5 ∧ ((Z1.1 0 7).toInt = 0 ∨ (Z1.1 0 6).toInt < (Z1.1 0 5).toInt) ∧ (X.1 0 6).toInt ≤ (Z1.1 0 6).toInt ∧ 0 ≤ (Z1.1 0 19).toInt ∧ (Z1.1 0 19).toInt ≤ (Z1.1 0 6).toInt + 1 ∧ 3 ≤ (Z1.1 0 13).toInt ∧ (Z1.1 0 13).toInt ≤ (Z1.1 0 6).toInt + 3 ∧ 0 ≤ (Z1.1 0 15).toInt ∧ (Z1.1 0 15).toInt ≤ (Z1.1 0 6).toInt ∧ -50 ≤ (Z1.1 0 21).toInt ∧ (Z1.1 0 21).toInt ≤ 90 ∧ ((Z1.1 0 9).toInt = 0 → (Z1.1 0 19).toInt ≤ (Z1.1 0 6).toInt) ∧ ((Z1.1 0 9).toInt = 0 → (Z1.1 0 19).toInt + (Z1.1 0 13).toInt ≤ (X.1 0 19).toInt + (X.1 0 13).toInt + (Z1.1 0 6).toInt - (X.1 0 6).toInt) from by have e0_ : (Z1.1 0 1).toInt = (X.1 0 1).toInt := congrArg Int32.toInt (hFZ1.1 0 1 (show (1 : Nat) ∉ [5, 6, 7, 8, 9, 10, 13, 15, 17, 19, 20, 21, 22, 23, 24, 47, 800, 1000, 1200, 1400, 1600, 1800, 2000, 4000, 4200, 4400, 4600, 4800, 5000, 5200, 5400, 5600, 5800, 6000, 6600, 6800, 7000, 7200, 7400, 7600, 7800] from by decide)); exact ⟨(by omega), (by omega), (by omega), (by omega), (by omega), (by omega), (by omega), (by omega), (by omega), (by omega), (by omega), (by omega), (by omega), (by omega), (by omega), (by omega), (fun hq59 => (by omega)), (fun hq135 => (by omega))⟩), hZ1_KT, hZ1_KX, (fun hw => by first | (exfalso; omega) | exact hZ1_MMX.fin hw (by omega)), hZ1_FL, hZ1_FSL⟩
