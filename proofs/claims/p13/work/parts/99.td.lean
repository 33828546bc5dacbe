set_option maxHeartbeats 4000000 in
theorem jp_16 {r37 : Int32 → St → Option (Int32 × St)} {a1 a2 : Int32} {X0 : St} {n lo hi : Nat} {sc : Int} {s e : Nat} (hlo : lo ≤ n) (hhi : n < hi) (hse : s < e) (hs0 : OA X0 s 0 n) {m1 m2 p pq pr : Nat} (hl : n = lo) (hA : CHC (fun n lo hi sc s e => CX X0 n lo hi sc s e ∧ JP r37 a1 a2 X0 n lo hi sc s e) X0 23 n (n + 1) m1 sc (s + 1) p) (hs1 : OA X0 p 6 (ix (X0.1 23 n))) (hs2 : OA X0 (p + 1) 15 n) (hB : CHC (fun n lo hi sc s e => CX X0 n lo hi sc s e ∧ JP r37 a1 a2 X0 n lo hi sc s e) X0 24 n m1 m2 sc (p + 2) pq) (hs3 : OA X0 pq 14 (ix (X0.1 24 n))) (hm1 : (X0.1 45 (ix (X0.1 24 n))).toInt = pq) (hs4 : OA X0 (pq + 1) 16 n) (hm2 : (X0.1 46 n).toInt = pq + 2) (hC : CHC (fun n lo hi sc s e => CX X0 n lo hi sc s e ∧ JP r37 a1 a2 X0 n lo hi sc s e) X0 25 n m2 hi sc (pq + 2) pr) (hs5 : OA X0 pr 14 (ix (X0.1 25 n))) (hm3 : (X0.1 45 (ix (X0.1 25 n))).toInt = pr) (hs6 : OA X0 (pr + 1) 17 n) (hm4 : (X0.1 47 n).toInt = pr + 2) (hee : e = pr + 2) : JP r37 a1 a2 X0 n lo hi sc s e := by
  intro Z0 o0 d B t hX0 hw0 ho0 hea he24 hi31 hnn hd0 hnum n43_0 loc0 hval
  obtain ⟨u1, u2, u3, u4, u5, u6, u7⟩ := hnum
  have jr0 : JR Z0 Z0 (fun j => s ≤ j ∧ j < s) := JR.fr hX0.2.1 (Fr.rf (L := [])) (by decide) _
  have go0 : JGo r37 a1 a2 0 o0 o0 Z0 Z0 := JGo.rf
  have bel0 : ∀ j, j < d → Z0.1 58 j = Z0.1 58 j := fun _ _ => rfl
  have l59_0 : ∀ j : Nat, (j : Int) < sc → Z0.1 59 j = Z0.1 59 j := fun _ _ => rfl
  have hsc1 := loc0.2.1
  have hsc2 := loc0.2.2
  have bA := hA.2.1.bd
  have bB := hB.2.1.bd
  have bC := hC.2.1.bd
  have eA := ixc hA.1
  have eB := ixc hB.1
  have eC := ixc hC.1
  have eo0 : ix o0 = s := by
    have := ixc (z := o0) (by omega)
    omega
  have hop0 : (Z0.1 40 (ix o0)).toInt = 0 := by rw [eo0, hX0.1.1 40 s (show (8000 : Nat) ∉ [9, 10, 13, 15, 28, 30, 800, 1000, 1200, 1400, 1600, 1800, 2000, 6200, 6400, 8600, 10400, 10600, 10800, 11000, 11200, 11400, 11600, 11800] from by decide)]; exact hs0.1
  have qn0 : (Z0.1 41 s).toInt = ((n : Nat) : Int) := by rw [hX0.1.1 41 s (show (8200 : Nat) ∉ [9, 10, 13, 15, 28, 30, 800, 1000, 1200, 1400, 1600, 1800, 2000, 6200, 6400, 8600, 10400, 10600, 10800, 11000, 11200, 11400, 11600, 11800] from by decide)]; exact hs0.2
  have en0 : ix (Z0.1 41 s) = n := by
    have := ixc (z := Z0.1 41 s) (by omega)
    omega
  have inn0 : inR (Z0.1 41 s) 3100 := ⟨by omega, show (Z0.1 41 s).toInt < ((3100 : Nat) : Int) by omega⟩
  have ino0 : inR o0 24000 := ⟨by omega, show o0.toInt < ((24000 : Nat) : Int) by omega⟩
  obtain ⟨o1, Z1, ho1, gs1, eZ1⟩ := jstep (r37 := r37) (a1 := a1) (a2 := a2) (s := s) (o := o0) ho0 (by omega) (by omega) hw0 (one_0 hX0.2.1 (by omega) (by omega) ⟨by omega, by omega⟩ hX0.2.2.2.2.2.2 hw0 ino0 hop0)
  have hX1 : JX X0 Z1 := by rw [← eZ1]; exact hX0
  have hw1 : (Z1.1 0 9).toInt = 0 := by rw [← eZ1]; exact hw0
  have loc1 : LOC Z1 sc B t := by rw [← eZ1]; exact loc0
  have bel1 : ∀ j, j < d → Z1.1 58 j = Z0.1 58 j := fun j _ => by rw [← eZ1]
  have l59_1 : ∀ j : Nat, (j : Int) < sc → Z1.1 59 j = Z0.1 59 j := fun j _ => by rw [← eZ1]
  have hd1 : (Z1.1 0 30).toInt = (d : Int) := by rw [← eZ1]; exact hd0
  have go1 := go0.tr gs1
  have jr1 : JR Z0 Z1 (fun j => s ≤ j ∧ j < (s + 1)) := by rw [← eZ1]; exact jr0.mono (fun j (q : s ≤ j ∧ j < s) => (⟨by omega, by omega⟩ : s ≤ j ∧ j < s + 1))
  have n43_1 : ∀ j, (s + 1) ≤ j → j < e → (Z1.1 43 j).toInt = -1 := fun j q1 q2 => by rw [← eZ1]; exact n43_0 j (by omega) q2
  have nq1 : (Z1.1 0 13).toInt = (Z0.1 0 13).toInt ∧ (Z1.1 0 15).toInt = (Z0.1 0 15).toInt ∧ (Z1.1 0 28).toInt = (Z0.1 0 28).toInt := by rw [← eZ1]; exact ⟨rfl, rfl, rfl⟩
  have oz1 : OA Z1 s 0 n := ⟨by rw [hX1.1.1 40 s (show (8000 : Nat) ∉ [9, 10, 13, 15, 28, 30, 800, 1000, 1200, 1400, 1600, 1800, 2000, 6200, 6400, 8600, 10400, 10600, 10800, 11000, 11200, 11400, 11600, 11800] from by decide)]; exact hs0.1, by rw [hX1.1.1 41 s (show (8200 : Nat) ∉ [9, 10, 13, 15, 28, 30, 800, 1000, 1200, 1400, 1600, 1800, 2000, 6200, 6400, 8600, 10400, 10600, 10800, 11000, 11200, 11400, 11600, 11800] from by decide)]; exact hs0.2⟩
  have sg1 : SEG Z1 s (s + 1) t (exn t (f3 0 0 0) 0) := SEG.step (hval.kx jr1.2.2.1) oz1 (by omega) exn_zero
  obtain ⟨cc2, o2, Z2, gs2, b2, js2, ns2, ps2⟩ := hA.2.2 Z1 o1 (d + 0) B (exn t (f3 0 0 0) 0) hX1 hw1 ho1 (by omega) (by omega) (by omega) (by omega) (by omega) (by omega) (fun j q1 q2 => n43_1 j q1 (by omega)) ⟨loc1.1, hsc1, hsc2⟩ ((hval.kx jr1.2.2.1).exn (VK3 (by decide) (fun h => absurd h (by decide)) (fun h => absurd h (by decide)) (fun h => absurd h (by decide))))
  have mg2 := js2.2.2.2.1.1
  have mk2 := js2.2.2.1.1
  have hX2 := hX1.jr js2
  have go2 := go1.tr gs2
  have jr2 : JR Z0 Z2 (fun j => s ≤ j ∧ j < p) := (jr1.mono (fun j (q : s ≤ j ∧ j < (s + 1)) => (⟨by omega, by omega⟩ : s ≤ j ∧ j < p))).tr (js2.mono (fun j (q : (s + 1) ≤ j ∧ j < p) => (⟨by omega, by omega⟩ : s ≤ j ∧ j < p)))
  by_cases hw2 : (Z2.1 0 9).toInt = 0
  rotate_left
  · exact ⟨_, o2, Z2, go2, by omega, jr2.mono (fun j (q : s ≤ j ∧ j < p) => (⟨by omega, by omega⟩ : s ≤ j ∧ j < e)), ⟨by omega, by omega, by omega⟩, fun q => absurd q hw2⟩
  obtain ⟨ho2, hd2, h58_2, h59_2, w2_0, y2_0, sc2⟩ := ps2 hw2
  have kp2 : ∀ j, j < d + 0 → Z2.1 58 j = Z1.1 58 j := fun j hj => h58_2 j (by omega)
  have bel2 : ∀ j, j < d → Z2.1 58 j = Z0.1 58 j := fun j hj => (kp2 j (by omega)).trans (bel1 j hj)
  have k59_2 : ∀ j : Nat, (j : Int) < sc → Z2.1 59 j = Z1.1 59 j := fun j hj => h59_2 j hj
  have l59_2 : ∀ j : Nat, (j : Int) < sc → Z2.1 59 j = Z0.1 59 j := fun j hj => (k59_2 j hj).trans (l59_1 j hj)
  have loc2 : LOC Z2 sc B t := loc1.jr hX1.2.1 js2 k59_2
  have n43_2 : ∀ j, p ≤ j → j < e → (Z2.1 43 j).toInt = -1 := fun j q1 q2 => by rw [js2.2.2.2.2 j (fun (q : (s + 1) ≤ j ∧ j < p) => by omega)]; exact n43_1 j (by omega) q2
  obtain ⟨kA, qkA⟩ : ∃ x, x = Z2.1 58 (d + 0) := ⟨_, rfl⟩
  rw [← qkA] at w2_0 y2_0 sc2
  have c2_0 : Z2.1 58 (d + 0) = kA := qkA.symm
  have v2_0 : VK Z2 kA := w2_0
  have z2_0 := y2_0
  have sp2 : SEG Z2 (s + 1) p (exn t (f3 0 0 0) 0) (exn t (f3 kA 0 0) 1) := sc2.to (exn_psh0 (fun j hj => by rcases j with _ | _ | _ | j <;> first | rfl | omega) rfl)
  have sg2 := (sg1.jr hX1.2.1 js2 (fun j q1 q2 (q : (s + 1) ≤ j ∧ j < p) => by omega)).tr sp2
  have eo2 : ix o2 = p := by
    have := ixc (z := o2) (by omega)
    omega
  have hop2 : (Z2.1 40 (ix o2)).toInt = 6 := by rw [eo2, hX2.1.1 40 p (show (8000 : Nat) ∉ [9, 10, 13, 15, 28, 30, 800, 1000, 1200, 1400, 1600, 1800, 2000, 6200, 6400, 8600, 10400, 10600, 10800, 11000, 11200, 11400, 11600, 11800] from by decide)]; exact hs1.1
  have qn2 : (Z2.1 41 p).toInt = (((ix (X0.1 23 n)) : Nat) : Int) := by rw [hX2.1.1 41 p (show (8200 : Nat) ∉ [9, 10, 13, 15, 28, 30, 800, 1000, 1200, 1400, 1600, 1800, 2000, 6200, 6400, 8600, 10400, 10600, 10800, 11000, 11200, 11400, 11600, 11800] from by decide)]; exact hs1.2
  have en2 : ix (Z2.1 41 p) = (ix (X0.1 23 n)) := by
    have := ixc (z := Z2.1 41 p) (by omega)
    omega
  have inn2 : inR (Z2.1 41 p) 3100 := ⟨by omega, show (Z2.1 41 p).toInt < ((3100 : Nat) : Int) by omega⟩
  have ino2 : inR o2 24000 := ⟨by omega, show o2.toInt < ((24000 : Nat) : Int) by omega⟩
  obtain ⟨o3, Z3, ho3, gs3, js3, ns3, ps3⟩ := jstep (r37 := r37) (a1 := a1) (a2 := a2) (s := p) (o := o2) (by omega) (by omega) (by omega) hw2 (one_6 hX2.2.1 (by omega) (by omega) ⟨by omega, by omega⟩ hX2.2.2.2.2.2.2 hw2 ino2 hop2 (d := d + 0) (by omega) (by omega) (by rw [c2_0]; exact v2_0) (by rw [eo2]; exact n43_2 _ (Nat.le_refl _) (by omega)) inn2 hX2.2.2.1)
  have mg3 := js3.2.2.2.1.1
  have mk3 := js3.2.2.1.1
  have hX3 := hX2.jr js3
  have go3 := go2.tr gs3
  have jr3 : JR Z0 Z3 (fun j => s ≤ j ∧ j < (p + 1)) := (jr2.mono (fun j (q : s ≤ j ∧ j < p) => (⟨by omega, by omega⟩ : s ≤ j ∧ j < (p + 1)))).tr (js3.mono (fun j (q : j = ix o2) => (⟨by omega, by omega⟩ : s ≤ j ∧ j < (p + 1))))
  by_cases hw3 : (Z3.1 0 9).toInt = 0
  rotate_left
  · exact ⟨_, o3, Z3, go3, by omega, jr3.mono (fun j (q : s ≤ j ∧ j < (p + 1)) => (⟨by omega, by omega⟩ : s ≤ j ∧ j < e)), ⟨by omega, by omega, by omega⟩, fun q => absurd q hw3⟩
  obtain ⟨hd3, ce3, h58_3, h59_3, gr3⟩ := ps3 hw3
  have kp3 : ∀ j, j < d + 0 → Z3.1 58 j = Z2.1 58 j := fun j hj => h58_3 j (by omega)
  have bel3 : ∀ j, j < d → Z3.1 58 j = Z0.1 58 j := fun j hj => (kp3 j (by omega)).trans (bel2 j hj)
  have k59_3 : ∀ j : Nat, (j : Int) < sc → Z3.1 59 j = Z2.1 59 j := fun j hj => h59_3 j
  have l59_3 : ∀ j : Nat, (j : Int) < sc → Z3.1 59 j = Z0.1 59 j := fun j hj => (k59_3 j hj).trans (l59_2 j hj)
  have loc3 : LOC Z3 sc B t := loc2.jr hX2.2.1 js3 k59_3
  have n43_3 : ∀ j, (p + 1) ≤ j → j < e → (Z3.1 43 j).toInt = -1 := fun j q1 q2 => by rw [js3.2.2.2.2 j (fun (q : j = ix o2) => by omega)]; exact n43_2 j (by omega) q2
  have c3_0 : Z3.1 58 (d + 0) = 1 := ce3
  have v3_0 : VK Z3 1 := ⟨by decide, by have := hX3.2.2.1.1; have z : (1 : Int32).toInt = 1 := rfl; omega⟩
  have z3_0 : ksz Z3 (ix 1) = 1 := hX3.2.2.1.sz hX3.2.1 (k := 1) (by decide)
  have oz3 : OA Z3 p 6 (ix (X0.1 23 n)) := ⟨by rw [hX3.1.1 40 p (show (8000 : Nat) ∉ [9, 10, 13, 15, 28, 30, 800, 1000, 1200, 1400, 1600, 1800, 2000, 6200, 6400, 8600, 10400, 10600, 10800, 11000, 11200, 11400, 11600, 11800] from by decide)]; exact hs1.1, by rw [hX3.1.1 41 p (show (8200 : Nat) ∉ [9, 10, 13, 15, 28, 30, 800, 1000, 1200, 1400, 1600, 1800, 2000, 6200, 6400, 8600, 10400, 10600, 10800, 11000, 11200, 11400, 11600, 11800] from by decide)]; exact hs1.2⟩
  have sp3 : SEG Z3 p (p + 1) (exn t (f3 kA 0 0) 1) (exn t (f3 1 0 0) 1) := SEG.gd1 (m := 0) ((hval.kx jr3.2.2.1).exn (VK3 (by decide) (fun _ => (v2_0.kx js3.2.2.1)) (fun h => absurd h (by decide)) (fun h => absurd h (by decide)))) oz3 (by omega) (by decide) (by have q := gr3; rw [eo2, c2_0] at q; exact q) v3_0 (fun j hj => by rcases j with _ | _ | _ | j <;> first | rfl | omega) rfl
  have sg3 := (sg2.jr hX2.2.1 js3 (fun j q1 q2 (q : j = ix o2) => by omega)).tr sp3
  have eo3 : ix o3 = (p + 1) := by
    have := ixc (z := o3) (by omega)
    omega
  have hop3 : (Z3.1 40 (ix o3)).toInt = 15 := by rw [eo3, hX3.1.1 40 (p + 1) (show (8000 : Nat) ∉ [9, 10, 13, 15, 28, 30, 800, 1000, 1200, 1400, 1600, 1800, 2000, 6200, 6400, 8600, 10400, 10600, 10800, 11000, 11200, 11400, 11600, 11800] from by decide)]; exact hs2.1
  have qn3 : (Z3.1 41 (p + 1)).toInt = ((n : Nat) : Int) := by rw [hX3.1.1 41 (p + 1) (show (8200 : Nat) ∉ [9, 10, 13, 15, 28, 30, 800, 1000, 1200, 1400, 1600, 1800, 2000, 6200, 6400, 8600, 10400, 10600, 10800, 11000, 11200, 11400, 11600, 11800] from by decide)]; exact hs2.2
  have en3 : ix (Z3.1 41 (p + 1)) = n := by
    have := ixc (z := Z3.1 41 (p + 1)) (by omega)
    omega
  have inn3 : inR (Z3.1 41 (p + 1)) 3100 := ⟨by omega, show (Z3.1 41 (p + 1)).toInt < ((3100 : Nat) : Int) by omega⟩
  have ino3 : inR o3 24000 := ⟨by omega, show o3.toInt < ((24000 : Nat) : Int) by omega⟩
  obtain ⟨o4, Z4, ho4, gs4, js4, ns4, ps4⟩ := jstep (r37 := r37) (a1 := a1) (a2 := a2) (s := (p + 1)) (o := o3) (by omega) (by omega) (by omega) hw3 (one_15 hX3.2.1 (by omega) (by omega) ⟨by omega, by omega⟩ hX3.2.2.2.2.2.2 hw3 ino3 hop3 (d := d) (by omega) (by omega))
  have mg4 := js4.2.2.2.1.1
  have mk4 := js4.2.2.1.1
  have hX4 := hX3.jr js4
  have go4 := go3.tr gs4
  have jr4 : JR Z0 Z4 (fun j => s ≤ j ∧ j < ((p + 1) + 1)) := (jr3.mono (fun j (q : s ≤ j ∧ j < (p + 1)) => (⟨by omega, by omega⟩ : s ≤ j ∧ j < ((p + 1) + 1)))).tr (js4.mono (fun j (q : False) => q.elim))
  by_cases hw4 : (Z4.1 0 9).toInt = 0
  rotate_left
  · exact ⟨_, o4, Z4, go4, by omega, jr4.mono (fun j (q : s ≤ j ∧ j < ((p + 1) + 1)) => (⟨by omega, by omega⟩ : s ≤ j ∧ j < e)), ⟨by omega, by omega, by omega⟩, fun q => absurd q hw4⟩
  obtain ⟨hd4, h58_4, h59_4⟩ := ps4 hw4
  have kp4 : ∀ j, j < d + 0 → Z4.1 58 j = Z3.1 58 j := fun j hj => h58_4 j (by omega)
  have bel4 : ∀ j, j < d → Z4.1 58 j = Z0.1 58 j := fun j hj => (kp4 j (by omega)).trans (bel3 j hj)
  have k59_4 : ∀ j : Nat, (j : Int) < sc → Z4.1 59 j = Z3.1 59 j := fun j hj => h59_4 j
  have l59_4 : ∀ j : Nat, (j : Int) < sc → Z4.1 59 j = Z0.1 59 j := fun j hj => (k59_4 j hj).trans (l59_3 j hj)
  have loc4 : LOC Z4 sc B t := loc3.jr hX3.2.1 js4 k59_4
  have n43_4 : ∀ j, ((p + 1) + 1) ≤ j → j < e → (Z4.1 43 j).toInt = -1 := fun j q1 q2 => by rw [js4.2.2.2.2 j (fun (q : False) => q)]; exact n43_3 j (by omega) q2
  have sgA := sg3
  obtain ⟨cc5, o5, Z5, gs5, b5, js5, ns5, ps5⟩ := hB.2.2 Z4 o4 d B t hX4 hw4 (by omega) (by omega) (by omega) (by omega) (by omega) (by omega) (by omega) (fun j pq pr => n43_4 j (by omega) (by omega)) loc4 (hval.kx jr4.2.2.1)
  have mg5 := js5.2.2.2.1.1
  have mk5 := js5.2.2.1.1
  have hX5 := hX4.jr js5
  have go5 := go4.tr gs5
  have jr5 : JR Z0 Z5 (fun j => s ≤ j ∧ j < pq) := (jr4.mono (fun j (q : s ≤ j ∧ j < (p + 2)) => (⟨by omega, by omega⟩ : s ≤ j ∧ j < pq))).tr (js5.mono (fun j (q : (p + 2) ≤ j ∧ j < pq) => (⟨by omega, by omega⟩ : s ≤ j ∧ j < pq)))
  by_cases hw5 : (Z5.1 0 9).toInt = 0
  rotate_left
  · exact ⟨_, o5, Z5, go5, by omega, jr5.mono (fun j (q : s ≤ j ∧ j < pq) => (⟨by omega, by omega⟩ : s ≤ j ∧ j < e)), ⟨by omega, by omega, by omega⟩, fun q => absurd q hw5⟩
  obtain ⟨ho5, hd5, h58_5, h59_5, w5, y5, sc5⟩ := ps5 hw5
  have kp5 : ∀ j, j < d + 0 → Z5.1 58 j = Z4.1 58 j := fun j hj => h58_5 j (by omega)
  have bel5 : ∀ j, j < d → Z5.1 58 j = Z0.1 58 j := fun j hj => (kp5 j (by omega)).trans (bel4 j hj)
  have k59_5 : ∀ j : Nat, (j : Int) < sc → Z5.1 59 j = Z4.1 59 j := fun j hj => h59_5 j hj
  have l59_5 : ∀ j : Nat, (j : Int) < sc → Z5.1 59 j = Z0.1 59 j := fun j hj => (k59_5 j hj).trans (l59_4 j hj)
  have loc5 : LOC Z5 sc B t := loc4.jr hX4.2.1 js5 k59_5
  have n43_5 : ∀ j, pq ≤ j → j < e → (Z5.1 43 j).toInt = -1 := fun j q1 q2 => by rw [js5.2.2.2.2 j (fun (q : (p + 2) ≤ j ∧ j < pq) => by omega)]; exact n43_4 j (by omega) q2
  obtain ⟨kB, qkB⟩ : ∃ x, x = Z5.1 58 d := ⟨_, rfl⟩
  rw [← qkB] at w5 y5 sc5
  have c5_0 : Z5.1 58 (d + 0) = kB := qkB.symm
  have v5_0 : VK Z5 kB := w5
  have eo5 : ix o5 = pq := by
    have := ixc (z := o5) (by omega)
    omega
  have hop5 : (Z5.1 40 (ix o5)).toInt = 14 := by rw [eo5, hX5.1.1 40 pq (show (8000 : Nat) ∉ [9, 10, 13, 15, 28, 30, 800, 1000, 1200, 1400, 1600, 1800, 2000, 6200, 6400, 8600, 10400, 10600, 10800, 11000, 11200, 11400, 11600, 11800] from by decide)]; exact hs3.1
  have qn5 : (Z5.1 41 pq).toInt = (((ix (X0.1 24 n)) : Nat) : Int) := by rw [hX5.1.1 41 pq (show (8200 : Nat) ∉ [9, 10, 13, 15, 28, 30, 800, 1000, 1200, 1400, 1600, 1800, 2000, 6200, 6400, 8600, 10400, 10600, 10800, 11000, 11200, 11400, 11600, 11800] from by decide)]; exact hs3.2
  have en5 : ix (Z5.1 41 pq) = (ix (X0.1 24 n)) := by
    have := ixc (z := Z5.1 41 pq) (by omega)
    omega
  have inn5 : inR (Z5.1 41 pq) 3100 := ⟨by omega, show (Z5.1 41 pq).toInt < ((3100 : Nat) : Int) by omega⟩
  have ino5 : inR o5 24000 := ⟨by omega, show o5.toInt < ((24000 : Nat) : Int) by omega⟩
  obtain ⟨o6, Z6, ho6, gs6, eZ6⟩ := jstep (r37 := r37) (a1 := a1) (a2 := a2) (s := pq) (o := o5) (by omega) (by omega) (by omega) hw5 (one_14 hX5.2.1 (by omega) (by omega) ⟨by omega, by omega⟩ hX5.2.2.2.2.2.2 hw5 ino5 hop5)
  have js6 : JR Z5 Z6 (fun _ => False) := by rw [← eZ6]; exact JR.fr hX5.2.1 (Fr.rf (L := [])) (by decide) _
  have ns6 : (Z6.1 0 13).toInt = (Z5.1 0 13).toInt ∧ (Z6.1 0 15).toInt = (Z5.1 0 15).toInt ∧ (Z6.1 0 28).toInt = (Z5.1 0 28).toInt ∧ (Z6.1 0 30).toInt = (Z5.1 0 30).toInt ∧ (Z6.1 0 9).toInt = (Z5.1 0 9).toInt := by rw [← eZ6]; exact ⟨rfl, rfl, rfl, rfl, rfl⟩
  have mg6 := js6.2.2.2.1.1
  have mk6 := js6.2.2.1.1
  have hX6 := hX5.jr js6
  have go6 := go5.tr gs6
  have jr6 : JR Z0 Z6 (fun j => s ≤ j ∧ j < (pq + 1)) := (jr5.mono (fun j (q : s ≤ j ∧ j < pq) => (⟨by omega, by omega⟩ : s ≤ j ∧ j < (pq + 1)))).tr (js6.mono (fun j (q : False) => q.elim))
  by_cases hw6 : (Z6.1 0 9).toInt = 0
  rotate_left
  · exact ⟨_, o6, Z6, go6, by omega, jr6.mono (fun j (q : s ≤ j ∧ j < (pq + 1)) => (⟨by omega, by omega⟩ : s ≤ j ∧ j < e)), ⟨by omega, by omega, by omega⟩, fun q => absurd q hw6⟩
  have kp6 : ∀ j, j < d + 1 → Z6.1 58 j = Z5.1 58 j := fun j hj => by rw [← eZ6]
  have bel6 : ∀ j, j < d → Z6.1 58 j = Z0.1 58 j := fun j hj => (kp6 j (by omega)).trans (bel5 j hj)
  have k59_6 : ∀ j : Nat, (j : Int) < sc → Z6.1 59 j = Z5.1 59 j := fun j hj => by rw [← eZ6]
  have l59_6 : ∀ j : Nat, (j : Int) < sc → Z6.1 59 j = Z0.1 59 j := fun j hj => (k59_6 j hj).trans (l59_5 j hj)
  have loc6 : LOC Z6 sc B t := loc5.jr hX5.2.1 js6 k59_6
  have n43_6 : ∀ j, (pq + 1) ≤ j → j < e → (Z6.1 43 j).toInt = -1 := fun j q1 q2 => by rw [js6.2.2.2.2 j (fun (q : False) => q)]; exact n43_5 j (by omega) q2
  have c6_0 : Z6.1 58 (d + 0) = kB := (kp6 (d + 0) (by omega)).trans c5_0
  have v6_0 : VK Z6 kB := v5_0.kx js6.2.2.1
  have z6_0 : ksz Z6 (ix kB) = ksz Z5 (ix kB) := ksz_kx hX5.2.1 hX6.2.1 js6.2.2.1 _ (by have := ixc v5_0.1; have := v5_0.2; omega)
  have eo6 : ix o6 = (pq + 1) := by
    have := ixc (z := o6) (by omega)
    omega
  have hop6 : (Z6.1 40 (ix o6)).toInt = 16 := by rw [eo6, hX6.1.1 40 (pq + 1) (show (8000 : Nat) ∉ [9, 10, 13, 15, 28, 30, 800, 1000, 1200, 1400, 1600, 1800, 2000, 6200, 6400, 8600, 10400, 10600, 10800, 11000, 11200, 11400, 11600, 11800] from by decide)]; exact hs4.1
  have qn6 : (Z6.1 41 (pq + 1)).toInt = ((n : Nat) : Int) := by rw [hX6.1.1 41 (pq + 1) (show (8200 : Nat) ∉ [9, 10, 13, 15, 28, 30, 800, 1000, 1200, 1400, 1600, 1800, 2000, 6200, 6400, 8600, 10400, 10600, 10800, 11000, 11200, 11400, 11600, 11800] from by decide)]; exact hs4.2
  have en6 : ix (Z6.1 41 (pq + 1)) = n := by
    have := ixc (z := Z6.1 41 (pq + 1)) (by omega)
    omega
  have inn6 : inR (Z6.1 41 (pq + 1)) 3100 := ⟨by omega, show (Z6.1 41 (pq + 1)).toInt < ((3100 : Nat) : Int) by omega⟩
  have ino6 : inR o6 24000 := ⟨by omega, show o6.toInt < ((24000 : Nat) : Int) by omega⟩
  obtain ⟨o7, Z7, ho7, gs7, eZ7⟩ := jstep (r37 := r37) (a1 := a1) (a2 := a2) (s := (pq + 1)) (o := o6) (by omega) (by omega) (by omega) hw6 (one_16 hX6.2.1 (by omega) (by omega) ⟨by omega, by omega⟩ hX6.2.2.2.2.2.2 hw6 ino6 hop6)
  have js7 : JR Z6 Z7 (fun _ => False) := by rw [← eZ7]; exact JR.fr hX6.2.1 (Fr.rf (L := [])) (by decide) _
  have ns7 : (Z7.1 0 13).toInt = (Z6.1 0 13).toInt ∧ (Z7.1 0 15).toInt = (Z6.1 0 15).toInt ∧ (Z7.1 0 28).toInt = (Z6.1 0 28).toInt ∧ (Z7.1 0 30).toInt = (Z6.1 0 30).toInt ∧ (Z7.1 0 9).toInt = (Z6.1 0 9).toInt := by rw [← eZ7]; exact ⟨rfl, rfl, rfl, rfl, rfl⟩
  have mg7 := js7.2.2.2.1.1
  have mk7 := js7.2.2.1.1
  have hX7 := hX6.jr js7
  have go7 := go6.tr gs7
  have jr7 : JR Z0 Z7 (fun j => s ≤ j ∧ j < ((pq + 1) + 1)) := (jr6.mono (fun j (q : s ≤ j ∧ j < (pq + 1)) => (⟨by omega, by omega⟩ : s ≤ j ∧ j < ((pq + 1) + 1)))).tr (js7.mono (fun j (q : False) => q.elim))
  by_cases hw7 : (Z7.1 0 9).toInt = 0
  rotate_left
  · exact ⟨_, o7, Z7, go7, by omega, jr7.mono (fun j (q : s ≤ j ∧ j < ((pq + 1) + 1)) => (⟨by omega, by omega⟩ : s ≤ j ∧ j < e)), ⟨by omega, by omega, by omega⟩, fun q => absurd q hw7⟩
  have kp7 : ∀ j, j < d + 1 → Z7.1 58 j = Z6.1 58 j := fun j hj => by rw [← eZ7]
  have bel7 : ∀ j, j < d → Z7.1 58 j = Z0.1 58 j := fun j hj => (kp7 j (by omega)).trans (bel6 j hj)
  have k59_7 : ∀ j : Nat, (j : Int) < sc → Z7.1 59 j = Z6.1 59 j := fun j hj => by rw [← eZ7]
  have l59_7 : ∀ j : Nat, (j : Int) < sc → Z7.1 59 j = Z0.1 59 j := fun j hj => (k59_7 j hj).trans (l59_6 j hj)
  have loc7 : LOC Z7 sc B t := loc6.jr hX6.2.1 js7 k59_7
  have n43_7 : ∀ j, ((pq + 1) + 1) ≤ j → j < e → (Z7.1 43 j).toInt = -1 := fun j q1 q2 => by rw [js7.2.2.2.2 j (fun (q : False) => q)]; exact n43_6 j (by omega) q2
  have c7_0 : Z7.1 58 (d + 0) = kB := (kp7 (d + 0) (by omega)).trans c6_0
  have v7_0 : VK Z7 kB := v6_0.kx js7.2.2.1
  have z7_0 : ksz Z7 (ix kB) = ksz Z6 (ix kB) := ksz_kx hX6.2.1 hX7.2.1 js7.2.2.1 _ (by have := ixc v6_0.1; have := v6_0.2; omega)
  obtain ⟨cc8, o8, Z8, gs8, b8, js8, ns8, ps8⟩ := hC.2.2 Z7 o7 (d + 1) B t hX7 hw7 (by omega) (by omega) (by omega) (by omega) (by omega) (by omega) (by omega) (fun j pq pr => n43_7 j (by omega) (by omega)) loc7 (hval.kx jr7.2.2.1)
  have mg8 := js8.2.2.2.1.1
  have mk8 := js8.2.2.1.1
  have hX8 := hX7.jr js8
  have go8 := go7.tr gs8
  have jr8 : JR Z0 Z8 (fun j => s ≤ j ∧ j < pr) := (jr7.mono (fun j (q : s ≤ j ∧ j < (pq + 2)) => (⟨by omega, by omega⟩ : s ≤ j ∧ j < pr))).tr (js8.mono (fun j (q : (pq + 2) ≤ j ∧ j < pr) => (⟨by omega, by omega⟩ : s ≤ j ∧ j < pr)))
  by_cases hw8 : (Z8.1 0 9).toInt = 0
  rotate_left
  · exact ⟨_, o8, Z8, go8, by omega, jr8.mono (fun j (q : s ≤ j ∧ j < pr) => (⟨by omega, by omega⟩ : s ≤ j ∧ j < e)), ⟨by omega, by omega, by omega⟩, fun q => absurd q hw8⟩
  obtain ⟨ho8, hd8, h58_8, h59_8, w8, y8, sc8⟩ := ps8 hw8
  have kp8 : ∀ j, j < d + 1 → Z8.1 58 j = Z7.1 58 j := fun j hj => h58_8 j (by omega)
  have bel8 : ∀ j, j < d → Z8.1 58 j = Z0.1 58 j := fun j hj => (kp8 j (by omega)).trans (bel7 j hj)
  have k59_8 : ∀ j : Nat, (j : Int) < sc → Z8.1 59 j = Z7.1 59 j := fun j hj => h59_8 j hj
  have l59_8 : ∀ j : Nat, (j : Int) < sc → Z8.1 59 j = Z0.1 59 j := fun j hj => (k59_8 j hj).trans (l59_7 j hj)
  have loc8 : LOC Z8 sc B t := loc7.jr hX7.2.1 js8 k59_8
  have n43_8 : ∀ j, pr ≤ j → j < e → (Z8.1 43 j).toInt = -1 := fun j q1 q2 => by rw [js8.2.2.2.2 j (fun (q : (pq + 2) ≤ j ∧ j < pr) => by omega)]; exact n43_7 j (by omega) q2
  have c8_0 : Z8.1 58 (d + 0) = kB := (kp8 (d + 0) (by omega)).trans c7_0
  have v8_0 : VK Z8 kB := v7_0.kx js8.2.2.1
  have z8_0 : ksz Z8 (ix kB) = ksz Z7 (ix kB) := ksz_kx hX7.2.1 hX8.2.1 js8.2.2.1 _ (by have := ixc v7_0.1; have := v7_0.2; omega)
  obtain ⟨kC, qkC⟩ : ∃ x, x = Z8.1 58 (d + 1) := ⟨_, rfl⟩
  rw [← qkC] at w8 y8 sc8
  have c8_1 : Z8.1 58 (d + 1) = kC := qkC.symm
  have v8_1 : VK Z8 kC := w8
  have eo8 : ix o8 = pr := by
    have := ixc (z := o8) (by omega)
    omega
  have hop8 : (Z8.1 40 (ix o8)).toInt = 14 := by rw [eo8, hX8.1.1 40 pr (show (8000 : Nat) ∉ [9, 10, 13, 15, 28, 30, 800, 1000, 1200, 1400, 1600, 1800, 2000, 6200, 6400, 8600, 10400, 10600, 10800, 11000, 11200, 11400, 11600, 11800] from by decide)]; exact hs5.1
  have qn8 : (Z8.1 41 pr).toInt = (((ix (X0.1 25 n)) : Nat) : Int) := by rw [hX8.1.1 41 pr (show (8200 : Nat) ∉ [9, 10, 13, 15, 28, 30, 800, 1000, 1200, 1400, 1600, 1800, 2000, 6200, 6400, 8600, 10400, 10600, 10800, 11000, 11200, 11400, 11600, 11800] from by decide)]; exact hs5.2
  have en8 : ix (Z8.1 41 pr) = (ix (X0.1 25 n)) := by
    have := ixc (z := Z8.1 41 pr) (by omega)
    omega
  have inn8 : inR (Z8.1 41 pr) 3100 := ⟨by omega, show (Z8.1 41 pr).toInt < ((3100 : Nat) : Int) by omega⟩
  have ino8 : inR o8 24000 := ⟨by omega, show o8.toInt < ((24000 : Nat) : Int) by omega⟩
  obtain ⟨o9, Z9, ho9, gs9, eZ9⟩ := jstep (r37 := r37) (a1 := a1) (a2 := a2) (s := pr) (o := o8) (by omega) (by omega) (by omega) hw8 (one_14 hX8.2.1 (by omega) (by omega) ⟨by omega, by omega⟩ hX8.2.2.2.2.2.2 hw8 ino8 hop8)
  have js9 : JR Z8 Z9 (fun _ => False) := by rw [← eZ9]; exact JR.fr hX8.2.1 (Fr.rf (L := [])) (by decide) _
  have ns9 : (Z9.1 0 13).toInt = (Z8.1 0 13).toInt ∧ (Z9.1 0 15).toInt = (Z8.1 0 15).toInt ∧ (Z9.1 0 28).toInt = (Z8.1 0 28).toInt ∧ (Z9.1 0 30).toInt = (Z8.1 0 30).toInt ∧ (Z9.1 0 9).toInt = (Z8.1 0 9).toInt := by rw [← eZ9]; exact ⟨rfl, rfl, rfl, rfl, rfl⟩
  have mg9 := js9.2.2.2.1.1
  have mk9 := js9.2.2.1.1
  have hX9 := hX8.jr js9
  have go9 := go8.tr gs9
  have jr9 : JR Z0 Z9 (fun j => s ≤ j ∧ j < (pr + 1)) := (jr8.mono (fun j (q : s ≤ j ∧ j < pr) => (⟨by omega, by omega⟩ : s ≤ j ∧ j < (pr + 1)))).tr (js9.mono (fun j (q : False) => q.elim))
  by_cases hw9 : (Z9.1 0 9).toInt = 0
  rotate_left
  · exact ⟨_, o9, Z9, go9, by omega, jr9.mono (fun j (q : s ≤ j ∧ j < (pr + 1)) => (⟨by omega, by omega⟩ : s ≤ j ∧ j < e)), ⟨by omega, by omega, by omega⟩, fun q => absurd q hw9⟩
  have kp9 : ∀ j, j < d + 2 → Z9.1 58 j = Z8.1 58 j := fun j hj => by rw [← eZ9]
  have bel9 : ∀ j, j < d → Z9.1 58 j = Z0.1 58 j := fun j hj => (kp9 j (by omega)).trans (bel8 j hj)
  have k59_9 : ∀ j : Nat, (j : Int) < sc → Z9.1 59 j = Z8.1 59 j := fun j hj => by rw [← eZ9]
  have l59_9 : ∀ j : Nat, (j : Int) < sc → Z9.1 59 j = Z0.1 59 j := fun j hj => (k59_9 j hj).trans (l59_8 j hj)
  have loc9 : LOC Z9 sc B t := loc8.jr hX8.2.1 js9 k59_9
  have n43_9 : ∀ j, (pr + 1) ≤ j → j < e → (Z9.1 43 j).toInt = -1 := fun j q1 q2 => by rw [js9.2.2.2.2 j (fun (q : False) => q)]; exact n43_8 j (by omega) q2
  have c9_0 : Z9.1 58 (d + 0) = kB := (kp9 (d + 0) (by omega)).trans c8_0
  have v9_0 : VK Z9 kB := v8_0.kx js9.2.2.1
  have z9_0 : ksz Z9 (ix kB) = ksz Z8 (ix kB) := ksz_kx hX8.2.1 hX9.2.1 js9.2.2.1 _ (by have := ixc v8_0.1; have := v8_0.2; omega)
  have c9_1 : Z9.1 58 (d + 1) = kC := (kp9 (d + 1) (by omega)).trans c8_1
  have v9_1 : VK Z9 kC := v8_1.kx js9.2.2.1
  have z9_1 : ksz Z9 (ix kC) = ksz Z8 (ix kC) := ksz_kx hX8.2.1 hX9.2.1 js9.2.2.1 _ (by have := ixc v8_1.1; have := v8_1.2; omega)
  have eo9 : ix o9 = (pr + 1) := by
    have := ixc (z := o9) (by omega)
    omega
  have hop9 : (Z9.1 40 (ix o9)).toInt = 17 := by rw [eo9, hX9.1.1 40 (pr + 1) (show (8000 : Nat) ∉ [9, 10, 13, 15, 28, 30, 800, 1000, 1200, 1400, 1600, 1800, 2000, 6200, 6400, 8600, 10400, 10600, 10800, 11000, 11200, 11400, 11600, 11800] from by decide)]; exact hs6.1
  have qn9 : (Z9.1 41 (pr + 1)).toInt = ((n : Nat) : Int) := by rw [hX9.1.1 41 (pr + 1) (show (8200 : Nat) ∉ [9, 10, 13, 15, 28, 30, 800, 1000, 1200, 1400, 1600, 1800, 2000, 6200, 6400, 8600, 10400, 10600, 10800, 11000, 11200, 11400, 11600, 11800] from by decide)]; exact hs6.2
  have en9 : ix (Z9.1 41 (pr + 1)) = n := by
    have := ixc (z := Z9.1 41 (pr + 1)) (by omega)
    omega
  have inn9 : inR (Z9.1 41 (pr + 1)) 3100 := ⟨by omega, show (Z9.1 41 (pr + 1)).toInt < ((3100 : Nat) : Int) by omega⟩
  have ino9 : inR o9 24000 := ⟨by omega, show o9.toInt < ((24000 : Nat) : Int) by omega⟩
  have g24 : Z9.1 24 n = X0.1 24 n := hX9.1.1 24 n (show (4800 : Nat) ∉ [9, 10, 13, 15, 28, 30, 800, 1000, 1200, 1400, 1600, 1800, 2000, 6200, 6400, 8600, 10400, 10600, 10800, 11000, 11200, 11400, 11600, 11800] from by decide)
  have g25 : Z9.1 25 n = X0.1 25 n := hX9.1.1 25 n (show (5000 : Nat) ∉ [9, 10, 13, 15, 28, 30, 800, 1000, 1200, 1400, 1600, 1800, 2000, 6200, 6400, 8600, 10400, 10600, 10800, 11000, 11200, 11400, 11600, 11800] from by decide)
  have g45B : ix (Z9.1 45 (ix (X0.1 24 n))) = pq := by
    rw [hX9.1.1 45 (ix (X0.1 24 n)) (show (9000 : Nat) ∉ [9, 10, 13, 15, 28, 30, 800, 1000, 1200, 1400, 1600, 1800, 2000, 6200, 6400, 8600, 10400, 10600, 10800, 11000, 11200, 11400, 11600, 11800] from by decide)]
    have := ixc (z := X0.1 45 (ix (X0.1 24 n))) (by omega)
    omega
  have g45C : ix (Z9.1 45 (ix (X0.1 25 n))) = pr := by
    rw [hX9.1.1 45 (ix (X0.1 25 n)) (show (9000 : Nat) ∉ [9, 10, 13, 15, 28, 30, 800, 1000, 1200, 1400, 1600, 1800, 2000, 6200, 6400, 8600, 10400, 10600, 10800, 11000, 11200, 11400, 11600, 11800] from by decide)]
    have := ixc (z := X0.1 45 (ix (X0.1 25 n))) (by omega)
    omega
  have i45B : inR (Z9.1 45 (ix (X0.1 24 n))) 24000 := by
    have := hm1
    exact ⟨by rw [hX9.1.1 45 (ix (X0.1 24 n)) (show (9000 : Nat) ∉ [9, 10, 13, 15, 28, 30, 800, 1000, 1200, 1400, 1600, 1800, 2000, 6200, 6400, 8600, 10400, 10600, 10800, 11000, 11200, 11400, 11600, 11800] from by decide)]; omega, show (Z9.1 45 (ix (X0.1 24 n))).toInt < ((24000 : Nat) : Int) by rw [hX9.1.1 45 (ix (X0.1 24 n)) (show (9000 : Nat) ∉ [9, 10, 13, 15, 28, 30, 800, 1000, 1200, 1400, 1600, 1800, 2000, 6200, 6400, 8600, 10400, 10600, 10800, 11000, 11200, 11400, 11600, 11800] from by decide)]; omega⟩
  have i45C : inR (Z9.1 45 (ix (X0.1 25 n))) 24000 := by
    exact ⟨by rw [hX9.1.1 45 (ix (X0.1 25 n)) (show (9000 : Nat) ∉ [9, 10, 13, 15, 28, 30, 800, 1000, 1200, 1400, 1600, 1800, 2000, 6200, 6400, 8600, 10400, 10600, 10800, 11000, 11200, 11400, 11600, 11800] from by decide)]; omega, show (Z9.1 45 (ix (X0.1 25 n))).toInt < ((24000 : Nat) : Int) by rw [hX9.1.1 45 (ix (X0.1 25 n)) (show (9000 : Nat) ∉ [9, 10, 13, 15, 28, 30, 800, 1000, 1200, 1400, 1600, 1800, 2000, 6200, 6400, 8600, 10400, 10600, 10800, 11000, 11200, 11400, 11600, 11800] from by decide)]; omega⟩
  have gdB : (Z9.1 43 pq).toInt = -1 := by
    rw [js9.2.2.2.2 pq (fun (q : False) => q), js8.2.2.2.2 pq (fun (q : pq + 2 ≤ pq ∧ pq < pr) => by omega), js7.2.2.2.2 pq (fun (q : False) => q), js6.2.2.2.2 pq (fun (q : False) => q)]
    exact n43_5 pq (by omega) (by omega)
  have gdC : (Z9.1 43 pr).toInt = -1 := by
    rw [js9.2.2.2.2 pr (fun (q : False) => q)]
    exact n43_8 pr (by omega) (by omega)
  obtain ⟨o10, Z10, ho10, gs10, js10, ns10, ps10⟩ := jstep (r37 := r37) (a1 := a1) (a2 := a2) (s := (pr + 1)) (o := o9) (by omega) (by omega) (by omega) hw9 (one_17 hX9.2.1 (by omega) (by omega) ⟨by omega, by omega⟩ hX9.2.2.2.2.2.2 hw9 ino9 hop9 (d := d) (by omega) (by omega) (by rw [show Z9.1 58 d = kB from c9_0]; exact v9_0) (by rw [c9_1]; exact v9_1) hX9.2.2.1 (by omega) inn9 (by rw [en9, g24]; exact ⟨hB.1, show (X0.1 24 n).toInt < ((3100 : Nat) : Int) by omega⟩) (by rw [en9, g25]; exact ⟨hC.1, show (X0.1 25 n).toInt < ((3100 : Nat) : Int) by omega⟩) (by rw [en9, g24]; exact i45B) (by rw [en9, g25]; exact i45C) (by rw [en9, g24, g25, g45B, g45C]; omega) (by rw [en9, g24, g45B]; exact gdB) (by rw [en9, g25, g45C]; exact gdC))
  rw [en9, g24, g25, g45B, g45C] at js10 ps10
  have mg10 := js10.2.2.2.1.1
  have mk10 := js10.2.2.1.1
  have hX10 := hX9.jr js10
  have go10 := go9.tr gs10
  have jr10 : JR Z0 Z10 (fun j => s ≤ j ∧ j < (pr + 2)) := (jr9.mono (fun j (q : s ≤ j ∧ j < (pr + 1)) => (⟨by omega, by omega⟩ : s ≤ j ∧ j < (pr + 2)))).tr (js10.mono (fun j (q : j = pq ∨ j = pr) => (⟨by omega, by omega⟩ : s ≤ j ∧ j < (pr + 2))))
  by_cases hw10 : (Z10.1 0 9).toInt = 0
  rotate_left
  · exact ⟨_, o10, Z10, go10, by omega, jr10.mono (fun j (q : s ≤ j ∧ j < (pr + 2)) => (⟨by omega, by omega⟩ : s ≤ j ∧ j < e)), ⟨by omega, by omega, by omega⟩, fun q => absurd q hw10⟩
  obtain ⟨hd10, ⟨kJ, cJ, gB, gC, vJ, zJ⟩, h58_10, h59_10⟩ := ps10 hw10
  have kp10 : ∀ j, j < d + 0 → Z10.1 58 j = Z9.1 58 j := fun j hj => h58_10 j (by omega)
  have bel10 : ∀ j, j < d → Z10.1 58 j = Z0.1 58 j := fun j hj => (kp10 j (by omega)).trans (bel9 j hj)
  have k59_10 : ∀ j : Nat, (j : Int) < sc → Z10.1 59 j = Z9.1 59 j := fun j hj => h59_10 j
  have l59_10 : ∀ j : Nat, (j : Int) < sc → Z10.1 59 j = Z0.1 59 j := fun j hj => (k59_10 j hj).trans (l59_9 j hj)
  have loc10 : LOC Z10 sc B t := loc9.jr hX9.2.1 js10 k59_10
  have n43_10 : ∀ j, (pr + 2) ≤ j → j < e → (Z10.1 43 j).toInt = -1 := fun j q1 q2 => by rw [js10.2.2.2.2 j (fun (q : j = pq ∨ j = pr) => by omega)]; exact n43_9 j (by omega) q2
  rw [show Z9.1 58 d = kB from c9_0] at gB zJ
  rw [c9_1] at gC
  have xA := (((((((sgA.jr hX3.2.1 js4 (fun j q3 q4 (q : False) => q)).jr hX4.2.1 js5 (fun j q3 q4 (q : p + 2 ≤ j ∧ j < pq) => by omega)).jr hX5.2.1 js6 (fun j q3 q4 (q : False) => q)).jr hX6.2.1 js7 (fun j q3 q4 (q : False) => q)).jr hX7.2.1 js8 (fun j q3 q4 (q : pq + 2 ≤ j ∧ j < pr) => by omega)).jr hX8.2.1 js9 (fun j q3 q4 (q : False) => q)).jr hX9.2.1 js10 (fun j q3 q4 (q : j = pq ∨ j = pr) => by omega))
  have xB := (((((sc5.jr hX5.2.1 js6 (fun j q3 q4 (q : False) => q)).jr hX6.2.1 js7 (fun j q3 q4 (q : False) => q)).jr hX7.2.1 js8 (fun j q3 q4 (q : pq + 2 ≤ j ∧ j < pr) => by omega)).jr hX8.2.1 js9 (fun j q3 q4 (q : False) => q)).jr hX9.2.1 js10 (fun j q3 q4 (q : j = pq ∨ j = pr) => by omega))
  have xC := ((sc8.jr hX8.2.1 js9 (fun j q3 q4 (q : False) => q)).jr hX9.2.1 js10 (fun j q3 q4 (q : j = pq ∨ j = pr) => by omega))
  have vB : VK Z10 kB := (v9_0.kx js10.2.2.1)
  have vC : VK Z10 kC := (v9_1.kx js10.2.2.1)
  have xB2 : SEG Z10 (p + 2) (pq + 1) t (exn t (f3 kJ 0 0) 1) := (xB.to (psh_exn (f := f3 kB 0 0) rfl)).tr (SEG.gd1 (m := 0) ((hval.kx jr10.2.2.1).exn (VK3 (by decide) (fun _ => vB) (fun h => absurd h (by decide)) (fun h => absurd h (by decide)))) (⟨by rw [hX10.1.1 40 pq (show (8000 : Nat) ∉ [9, 10, 13, 15, 28, 30, 800, 1000, 1200, 1400, 1600, 1800, 2000, 6200, 6400, 8600, 10400, 10600, 10800, 11000, 11200, 11400, 11600, 11800] from by decide)]; exact hs3.1, by rw [hX10.1.1 41 pq (show (8200 : Nat) ∉ [9, 10, 13, 15, 28, 30, 800, 1000, 1200, 1400, 1600, 1800, 2000, 6200, 6400, 8600, 10400, 10600, 10800, 11000, 11200, 11400, 11600, 11800] from by decide)]; exact hs3.2⟩ : OA Z10 pq 14 (ix (X0.1 24 n))) (by omega) (by decide) gB vJ (fun j hj => by rcases j with _ | _ | _ | j <;> first | rfl | omega) rfl)
  have xC2 : SEG Z10 (pq + 2) (pr + 1) t (exn t (f3 kJ 0 0) 1) := (xC.to (psh_exn (f := f3 kC 0 0) rfl)).tr (SEG.gd1 (m := 0) ((hval.kx jr10.2.2.1).exn (VK3 (by decide) (fun _ => vC) (fun h => absurd h (by decide)) (fun h => absurd h (by decide)))) (⟨by rw [hX10.1.1 40 pr (show (8000 : Nat) ∉ [9, 10, 13, 15, 28, 30, 800, 1000, 1200, 1400, 1600, 1800, 2000, 6200, 6400, 8600, 10400, 10600, 10800, 11000, 11200, 11400, 11600, 11800] from by decide)]; exact hs5.1, by rw [hX10.1.1 41 pr (show (8200 : Nat) ∉ [9, 10, 13, 15, 28, 30, 800, 1000, 1200, 1400, 1600, 1800, 2000, 6200, 6400, 8600, 10400, 10600, 10800, 11000, 11200, 11400, 11600, 11800] from by decide)]; exact hs5.2⟩ : OA Z10 pr 14 (ix (X0.1 25 n))) (by omega) (by decide) gC vJ (fun j hj => by rcases j with _ | _ | _ | j <;> first | rfl | omega) rfl)
  have v1 : VK Z10 1 := ⟨by decide, by have := hX10.2.2.1.1; have z : (1 : Int32).toInt = 1 := rfl; omega⟩
  have xx := SEG.ite (q := pq + 1) (u := pr + 1) xA ((hval.kx jr10.2.2.1).exn (VK3 (by decide) (fun _ => v1) (fun h => absurd h (by decide)) (fun h => absurd h (by decide)))) (⟨by rw [hX10.1.1 40 (p + 1) (show (8000 : Nat) ∉ [9, 10, 13, 15, 28, 30, 800, 1000, 1200, 1400, 1600, 1800, 2000, 6200, 6400, 8600, 10400, 10600, 10800, 11000, 11200, 11400, 11600, 11800] from by decide)]; exact hs2.1, by rw [hX10.1.1 41 (p + 1) (show (8200 : Nat) ∉ [9, 10, 13, 15, 28, 30, 800, 1000, 1200, 1400, 1600, 1800, 2000, 6200, 6400, 8600, 10400, 10600, 10800, 11000, 11200, 11400, 11600, 11800] from by decide)]; exact hs2.2⟩ : OA Z10 (p + 1) 15 n) (by omega) (by show 1 ≤ t.1 + 1; omega) (by rw [exn_tp (by decide)]; rfl) ((exn_pps (i := 1) (by decide)).tr exn_back) (by rw [hX10.1.1 46 n (show (9200 : Nat) ∉ [9, 10, 13, 15, 28, 30, 800, 1000, 1200, 1400, 1600, 1800, 2000, 6200, 6400, 8600, 10400, 10600, 10800, 11000, 11200, 11400, 11600, 11800] from by decide)]; omega) xB2 ((hval.kx jr10.2.2.1).exn (VK3 (by decide) (fun _ => vJ) (fun h => absurd h (by decide)) (fun h => absurd h (by decide)))) (⟨by rw [hX10.1.1 40 (pq + 1) (show (8000 : Nat) ∉ [9, 10, 13, 15, 28, 30, 800, 1000, 1200, 1400, 1600, 1800, 2000, 6200, 6400, 8600, 10400, 10600, 10800, 11000, 11200, 11400, 11600, 11800] from by decide)]; exact hs4.1, by rw [hX10.1.1 41 (pq + 1) (show (8200 : Nat) ∉ [9, 10, 13, 15, 28, 30, 800, 1000, 1200, 1400, 1600, 1800, 2000, 6200, 6400, 8600, 10400, 10600, 10800, 11000, 11200, 11400, 11600, 11800] from by decide)]; exact hs4.2⟩ : OA Z10 (pq + 1) 16 n) (by rw [hX10.1.1 47 n (show (9400 : Nat) ∉ [9, 10, 13, 15, 28, 30, 800, 1000, 1200, 1400, 1600, 1800, 2000, 6200, 6400, 8600, 10400, 10600, 10800, 11000, 11200, 11400, 11600, 11800] from by decide)]; omega) xC2 (⟨by rw [hX10.1.1 40 (pr + 1) (show (8000 : Nat) ∉ [9, 10, 13, 15, 28, 30, 800, 1000, 1200, 1400, 1600, 1800, 2000, 6200, 6400, 8600, 10400, 10600, 10800, 11000, 11200, 11400, 11600, 11800] from by decide)]; exact hs6.1, by rw [hX10.1.1 41 (pr + 1) (show (8200 : Nat) ∉ [9, 10, 13, 15, 28, 30, 800, 1000, 1200, 1400, 1600, 1800, 2000, 6200, 6400, 8600, 10400, 10600, 10800, 11000, 11200, 11400, 11600, 11800] from by decide)]; exact hs6.2⟩ : OA Z10 (pr + 1) 17 n)
  have zz : ksz Z10 (ix kJ) ≤ ksz Z9 (ix kB) ∨ ksz Z10 (ix kJ) = 1 := by
    rcases zJ with q | q
    · left
      rw [q, ksz_kx hX9.2.1 hX10.2.1 js10.2.2.1 _ (by have := ixc v9_0.1; have := v9_0.2; omega)]
      exact Nat.le_refl _
    · right
      rw [q]
      exact hX10.2.2.1.sz hX10.2.1 (k := 2) (by decide)
  refine ⟨_, o10, Z10, go10, by omega, jr10.mono (fun j (q : s ≤ j ∧ j < (pr + 2)) => (⟨by omega, by omega⟩ : s ≤ j ∧ j < e)), ⟨by omega, by omega, by omega⟩, fun _ => ⟨by omega, by omega, bel10, l59_10, by rw [show Z10.1 58 d = kJ from cJ]; exact vJ, by rw [show Z10.1 58 d = kJ from cJ]; omega, ?_⟩⟩
  rw [show Z10.1 58 d = kJ from cJ, hee]
  exact xx.to (exn_end rfl)
