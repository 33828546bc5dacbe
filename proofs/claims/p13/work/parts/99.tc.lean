set_option maxHeartbeats 4000000 in
theorem jp_10w {r37 : Int32 → St → Option (Int32 × St)} {a1 a2 : Int32} {X0 : St} {n lo hi : Nat} {sc : Int} {s e : Nat} (hlo : lo ≤ n) (hhi : n < hi) (hse : s < e) (hs0 : OA X0 s 0 n) {mm p pb pc : Nat} (hA : CHC (fun n lo hi sc s e => CX X0 n lo hi sc s e ∧ JP r37 a1 a2 X0 n lo hi sc s e) X0 23 n lo n sc (s + 1) p) (hs1 : OA X0 p 8 n) (hB : CHC (fun n lo hi sc s e => CX X0 n lo hi sc s e ∧ JP r37 a1 a2 X0 n lo hi sc s e) X0 24 n (n + 1) mm sc (p + 1) pb) (hs2 : OA X0 pb 5 (ix (X0.1 24 n))) (hC : CHC (fun n lo hi sc s e => CX X0 n lo hi sc s e ∧ JP r37 a1 a2 X0 n lo hi sc s e) X0 25 n mm hi sc (pb + 1) pc) (hs3 : OA X0 pc 11 n) (hs4 : OA X0 (pc + 1) 27 n) (hee : e = pc + 2) : JP r37 a1 a2 X0 n lo hi sc s e := by
  intro Z0 o0 d B t hX0 hw0 ho0 hea he24 hi31 hnn hd0 hnum n43_0 loc0 hval
  obtain ⟨u1, u2, u3, u4, u5, u6, u7⟩ := hnum
  have jr0 : JR Z0 Z0 (fun j => s ≤ j ∧ j < s) := JR.fr hX0.2.1 (Fr.rf (L := [])) (by decide) _
  have go0 : JGo r37 a1 a2 0 o0 o0 Z0 Z0 := JGo.rf
  have bel0 : ∀ j, j < d → Z0.1 58 j = Z0.1 58 j := fun _ _ => rfl
  have l59_0 : ∀ j : Nat, (j : Int) < sc → Z0.1 59 j = Z0.1 59 j := fun _ _ => rfl
  have hsc1 := loc0.2.1
  have hsc2 := loc0.2.2
  have bA := hA.2.1.bd
  have bB := hB.2.1.bd
  have bC := hC.2.1.bd
  have eo0 : ix o0 = s := by
    have := ixc (z := o0) (by omega)
    omega
  have hop0 : (Z0.1 40 (ix o0)).toInt = 0 := by rw [eo0, hX0.1.1 40 s (show (8000 : Nat) ∉ [9, 10, 13, 15, 28, 30, 800, 1000, 1200, 1400, 1600, 1800, 2000, 6200, 6400, 8600, 10400, 10600, 10800, 11000, 11200, 11400, 11600, 11800] from by decide)]; exact hs0.1
  have qn0 : (Z0.1 41 s).toInt = ((n : Nat) : Int) := by rw [hX0.1.1 41 s (show (8200 : Nat) ∉ [9, 10, 13, 15, 28, 30, 800, 1000, 1200, 1400, 1600, 1800, 2000, 6200, 6400, 8600, 10400, 10600, 10800, 11000, 11200, 11400, 11600, 11800] from by decide)]; exact hs0.2
  have en0 : ix (Z0.1 41 s) = n := by
    have := ixc (z := Z0.1 41 s) (by omega)
    omega
  have inn0 : inR (Z0.1 41 s) 3100 := ⟨by omega, show (Z0.1 41 s).toInt < ((3100 : Nat) : Int) by omega⟩
  have ino0 : inR o0 24000 := ⟨by omega, show o0.toInt < ((24000 : Nat) : Int) by omega⟩
  obtain ⟨o1, Z1, ho1, gs1, eZ1⟩ := jstep (r37 := r37) (a1 := a1) (a2 := a2) (s := s) (o := o0) ho0 (by omega) (by omega) hw0 (one_0 hX0.2.1 (by omega) (by omega) ⟨by omega, by omega⟩ hX0.2.2.2.2.2.2 hw0 ino0 hop0)
  have hX1 : JX X0 Z1 := by rw [← eZ1]; exact hX0
  have hw1 : (Z1.1 0 9).toInt = 0 := by rw [← eZ1]; exact hw0
  have loc1 : LOC Z1 sc B t := by rw [← eZ1]; exact loc0
  have bel1 : ∀ j, j < d → Z1.1 58 j = Z0.1 58 j := fun j _ => by rw [← eZ1]
  have l59_1 : ∀ j : Nat, (j : Int) < sc → Z1.1 59 j = Z0.1 59 j := fun j _ => by rw [← eZ1]
  have hd1 : (Z1.1 0 30).toInt = (d : Int) := by rw [← eZ1]; exact hd0
  have go1 := go0.tr gs1
  have jr1 : JR Z0 Z1 (fun j => s ≤ j ∧ j < (s + 1)) := by rw [← eZ1]; exact jr0.mono (fun j (q : s ≤ j ∧ j < s) => (⟨by omega, by omega⟩ : s ≤ j ∧ j < s + 1))
  have n43_1 : ∀ j, (s + 1) ≤ j → j < e → (Z1.1 43 j).toInt = -1 := fun j q1 q2 => by rw [← eZ1]; exact n43_0 j (by omega) q2
  have nq1 : (Z1.1 0 13).toInt = (Z0.1 0 13).toInt ∧ (Z1.1 0 15).toInt = (Z0.1 0 15).toInt ∧ (Z1.1 0 28).toInt = (Z0.1 0 28).toInt := by rw [← eZ1]; exact ⟨rfl, rfl, rfl⟩
  have oz1 : OA Z1 s 0 n := ⟨by rw [hX1.1.1 40 s (show (8000 : Nat) ∉ [9, 10, 13, 15, 28, 30, 800, 1000, 1200, 1400, 1600, 1800, 2000, 6200, 6400, 8600, 10400, 10600, 10800, 11000, 11200, 11400, 11600, 11800] from by decide)]; exact hs0.1, by rw [hX1.1.1 41 s (show (8200 : Nat) ∉ [9, 10, 13, 15, 28, 30, 800, 1000, 1200, 1400, 1600, 1800, 2000, 6200, 6400, 8600, 10400, 10600, 10800, 11000, 11200, 11400, 11600, 11800] from by decide)]; exact hs0.2⟩
  have sg1 : SEG Z1 s (s + 1) t (exn t (f3 0 0 0) 0) := SEG.step (hval.kx jr1.2.2.1) oz1 (by omega) exn_zero
  obtain ⟨cc2, o2, Z2, gs2, b2, js2, ns2, ps2⟩ := hA.2.2 Z1 o1 (d + 0) B (exn t (f3 0 0 0) 0) hX1 hw1 ho1 (by omega) (by omega) (by omega) (by omega) (by omega) (by omega) (fun j q1 q2 => n43_1 j q1 (by omega)) ⟨loc1.1, hsc1, hsc2⟩ ((hval.kx jr1.2.2.1).exn (VK3 (by decide) (fun h => absurd h (by decide)) (fun h => absurd h (by decide)) (fun h => absurd h (by decide))))
  have mg2 := js2.2.2.2.1.1
  have mk2 := js2.2.2.1.1
  have hX2 := hX1.jr js2
  have go2 := go1.tr gs2
  have jr2 : JR Z0 Z2 (fun j => s ≤ j ∧ j < p) := (jr1.mono (fun j (q : s ≤ j ∧ j < (s + 1)) => (⟨by omega, by omega⟩ : s ≤ j ∧ j < p))).tr (js2.mono (fun j (q : (s + 1) ≤ j ∧ j < p) => (⟨by omega, by omega⟩ : s ≤ j ∧ j < p)))
  by_cases hw2 : (Z2.1 0 9).toInt = 0
  rotate_left
  · exact ⟨_, o2, Z2, go2, by omega, jr2.mono (fun j (q : s ≤ j ∧ j < p) => (⟨by omega, by omega⟩ : s ≤ j ∧ j < e)), ⟨by omega, by omega, by omega⟩, fun q => absurd q hw2⟩
  obtain ⟨ho2, hd2, h58_2, h59_2, w2_0, y2_0, sc2⟩ := ps2 hw2
  have kp2 : ∀ j, j < d + 0 → Z2.1 58 j = Z1.1 58 j := fun j hj => h58_2 j (by omega)
  have bel2 : ∀ j, j < d → Z2.1 58 j = Z0.1 58 j := fun j hj => (kp2 j (by omega)).trans (bel1 j hj)
  have k59_2 : ∀ j : Nat, (j : Int) < sc → Z2.1 59 j = Z1.1 59 j := fun j hj => h59_2 j hj
  have l59_2 : ∀ j : Nat, (j : Int) < sc → Z2.1 59 j = Z0.1 59 j := fun j hj => (k59_2 j hj).trans (l59_1 j hj)
  have loc2 : LOC Z2 sc B t := loc1.jr hX1.2.1 js2 k59_2
  have n43_2 : ∀ j, p ≤ j → j < e → (Z2.1 43 j).toInt = -1 := fun j q1 q2 => by rw [js2.2.2.2.2 j (fun (q : (s + 1) ≤ j ∧ j < p) => by omega)]; exact n43_1 j (by omega) q2
  obtain ⟨kA, qkA⟩ : ∃ x, x = Z2.1 58 (d + 0) := ⟨_, rfl⟩
  rw [← qkA] at w2_0 y2_0 sc2
  have c2_0 : Z2.1 58 (d + 0) = kA := qkA.symm
  have v2_0 : VK Z2 kA := w2_0
  have z2_0 := y2_0
  have sp2 : SEG Z2 (s + 1) p (exn t (f3 0 0 0) 0) (exn t (f3 kA 0 0) 1) := sc2.to (exn_psh0 (fun j hj => by rcases j with _ | _ | _ | j <;> first | rfl | omega) rfl)
  have sg2 := (sg1.jr hX1.2.1 js2 (fun j q1 q2 (q : (s + 1) ≤ j ∧ j < p) => by omega)).tr sp2
  have eo2 : ix o2 = p := by
    have := ixc (z := o2) (by omega)
    omega
  have hop2 : (Z2.1 40 (ix o2)).toInt = 8 := by rw [eo2, hX2.1.1 40 p (show (8000 : Nat) ∉ [9, 10, 13, 15, 28, 30, 800, 1000, 1200, 1400, 1600, 1800, 2000, 6200, 6400, 8600, 10400, 10600, 10800, 11000, 11200, 11400, 11600, 11800] from by decide)]; exact hs1.1
  have qn2 : (Z2.1 41 p).toInt = ((n : Nat) : Int) := by rw [hX2.1.1 41 p (show (8200 : Nat) ∉ [9, 10, 13, 15, 28, 30, 800, 1000, 1200, 1400, 1600, 1800, 2000, 6200, 6400, 8600, 10400, 10600, 10800, 11000, 11200, 11400, 11600, 11800] from by decide)]; exact hs1.2
  have en2 : ix (Z2.1 41 p) = n := by
    have := ixc (z := Z2.1 41 p) (by omega)
    omega
  have inn2 : inR (Z2.1 41 p) 3100 := ⟨by omega, show (Z2.1 41 p).toInt < ((3100 : Nat) : Int) by omega⟩
  have ino2 : inR o2 24000 := ⟨by omega, show o2.toInt < ((24000 : Nat) : Int) by omega⟩
  obtain ⟨o3, Z3, ho3, gs3, js3, ns3, ps3⟩ := jstep (r37 := r37) (a1 := a1) (a2 := a2) (s := p) (o := o2) (by omega) (by omega) (by omega) hw2 (one_8 hX2.2.1 (by omega) (by omega) ⟨by omega, by omega⟩ hX2.2.2.2.2.2.2 hw2 ino2 hop2 (d := d + 0) (by omega) (by omega) (by rw [c2_0]; exact v2_0) (by rw [eo2]; exact n43_2 _ (Nat.le_refl _) (by omega)) inn2 hX2.2.2.1)
  have mg3 := js3.2.2.2.1.1
  have mk3 := js3.2.2.1.1
  have hX3 := hX2.jr js3
  have go3 := go2.tr gs3
  have jr3 : JR Z0 Z3 (fun j => s ≤ j ∧ j < (p + 1)) := (jr2.mono (fun j (q : s ≤ j ∧ j < p) => (⟨by omega, by omega⟩ : s ≤ j ∧ j < (p + 1)))).tr (js3.mono (fun j (q : j = ix o2) => (⟨by omega, by omega⟩ : s ≤ j ∧ j < (p + 1))))
  by_cases hw3 : (Z3.1 0 9).toInt = 0
  rotate_left
  · exact ⟨_, o3, Z3, go3, by omega, jr3.mono (fun j (q : s ≤ j ∧ j < (p + 1)) => (⟨by omega, by omega⟩ : s ≤ j ∧ j < e)), ⟨by omega, by omega, by omega⟩, fun q => absurd q hw3⟩
  obtain ⟨hd3, ⟨kR, elkR, ce3, rkkR, gr3, vekR, sz3⟩, h58_3, h59_3⟩ := ps3 hw3
  have kp3 : ∀ j, j < d + 0 → Z3.1 58 j = Z2.1 58 j := fun j hj => h58_3 j (by omega)
  have bel3 : ∀ j, j < d → Z3.1 58 j = Z0.1 58 j := fun j hj => (kp3 j (by omega)).trans (bel2 j hj)
  have k59_3 : ∀ j : Nat, (j : Int) < sc → Z3.1 59 j = Z2.1 59 j := fun j hj => h59_3 j
  have l59_3 : ∀ j : Nat, (j : Int) < sc → Z3.1 59 j = Z0.1 59 j := fun j hj => (k59_3 j hj).trans (l59_2 j hj)
  have loc3 : LOC Z3 sc B t := loc2.jr hX2.2.1 js3 k59_3
  have n43_3 : ∀ j, (p + 1) ≤ j → j < e → (Z3.1 43 j).toInt = -1 := fun j q1 q2 => by rw [js3.2.2.2.2 j (fun (q : j = ix o2) => by omega)]; exact n43_2 j (by omega) q2
  have c3_0 : Z3.1 58 (d + 0) = kR := ce3
  have v3_0 : VK Z3 kR := ⟨rkkR.1, rkkR.2.1⟩
  have z3_0 : ksz Z3 (ix kR) ≤ ksz Z2 (ix kA) + 1 := by
    rcases sz3 with q | q
    · rw [c2_0] at q
      rw [q, ksz_kx hX2.2.1 hX3.2.1 js3.2.2.1 _ (by have := ixc v2_0.1; have := v2_0.2; omega)]
      omega
    · have h1 := ixc v2_0.1
      have h2 := v2_0.2
      have h3 := kszp hX2.2.1 (k := ix kA) (by omega)
      omega
  have oz3 : OA Z3 p 8 n := ⟨by rw [hX3.1.1 40 p (show (8000 : Nat) ∉ [9, 10, 13, 15, 28, 30, 800, 1000, 1200, 1400, 1600, 1800, 2000, 6200, 6400, 8600, 10400, 10600, 10800, 11000, 11200, 11400, 11600, 11800] from by decide)]; exact hs1.1, by rw [hX3.1.1 41 p (show (8200 : Nat) ∉ [9, 10, 13, 15, 28, 30, 800, 1000, 1200, 1400, 1600, 1800, 2000, 6200, 6400, 8600, 10400, 10600, 10800, 11000, 11200, 11400, 11600, 11800] from by decide)]; exact hs1.2⟩
  have sp3 : SEG Z3 p (p + 1) (exn t (f3 kA 0 0) 1) (exn t (f3 kR 0 0) 1) := SEG.gd1 (m := 0) ((hval.kx jr3.2.2.1).exn (VK3 (by decide) (fun _ => (v2_0.kx js3.2.2.1)) (fun h => absurd h (by decide)) (fun h => absurd h (by decide)))) oz3 (by omega) (by decide) (by have q := gr3; rw [eo2, c2_0] at q; exact q) v3_0 (fun j hj => by rcases j with _ | _ | _ | j <;> first | rfl | omega) rfl
  have sg3 := (sg2.jr hX2.2.1 js3 (fun j q1 q2 (q : j = ix o2) => by omega)).tr sp3
  obtain ⟨cc4, o4, Z4, gs4, b4, js4, ns4, ps4⟩ := hB.2.2 Z3 o3 (d + 1) B (exn t (f3 kR 0 0) 1) hX3 hw3 ho3 (by omega) (by omega) (by omega) (by omega) (by omega) (by omega) (fun j q1 q2 => n43_3 j q1 (by omega)) ⟨loc3.1, hsc1, hsc2⟩ ((hval.kx jr3.2.2.1).exn (VK3 (by decide) (fun _ => v3_0) (fun h => absurd h (by decide)) (fun h => absurd h (by decide))))
  have mg4 := js4.2.2.2.1.1
  have mk4 := js4.2.2.1.1
  have hX4 := hX3.jr js4
  have go4 := go3.tr gs4
  have jr4 : JR Z0 Z4 (fun j => s ≤ j ∧ j < pb) := (jr3.mono (fun j (q : s ≤ j ∧ j < (p + 1)) => (⟨by omega, by omega⟩ : s ≤ j ∧ j < pb))).tr (js4.mono (fun j (q : (p + 1) ≤ j ∧ j < pb) => (⟨by omega, by omega⟩ : s ≤ j ∧ j < pb)))
  by_cases hw4 : (Z4.1 0 9).toInt = 0
  rotate_left
  · exact ⟨_, o4, Z4, go4, by omega, jr4.mono (fun j (q : s ≤ j ∧ j < pb) => (⟨by omega, by omega⟩ : s ≤ j ∧ j < e)), ⟨by omega, by omega, by omega⟩, fun q => absurd q hw4⟩
  obtain ⟨ho4, hd4, h58_4, h59_4, w4_1, y4_1, sc4⟩ := ps4 hw4
  have kp4 : ∀ j, j < d + 1 → Z4.1 58 j = Z3.1 58 j := fun j hj => h58_4 j (by omega)
  have bel4 : ∀ j, j < d → Z4.1 58 j = Z0.1 58 j := fun j hj => (kp4 j (by omega)).trans (bel3 j hj)
  have k59_4 : ∀ j : Nat, (j : Int) < sc → Z4.1 59 j = Z3.1 59 j := fun j hj => h59_4 j hj
  have l59_4 : ∀ j : Nat, (j : Int) < sc → Z4.1 59 j = Z0.1 59 j := fun j hj => (k59_4 j hj).trans (l59_3 j hj)
  have loc4 : LOC Z4 sc B t := loc3.jr hX3.2.1 js4 k59_4
  have n43_4 : ∀ j, pb ≤ j → j < e → (Z4.1 43 j).toInt = -1 := fun j q1 q2 => by rw [js4.2.2.2.2 j (fun (q : (p + 1) ≤ j ∧ j < pb) => by omega)]; exact n43_3 j (by omega) q2
  have c4_0 : Z4.1 58 (d + 0) = kR := (kp4 (d + 0) (by omega)).trans c3_0
  have v4_0 : VK Z4 kR := v3_0.kx js4.2.2.1
  have z4_0 : ksz Z4 (ix kR) = ksz Z3 (ix kR) := ksz_kx hX3.2.1 hX4.2.1 js4.2.2.1 _ (by have := ixc v3_0.1; have := v3_0.2; omega)
  obtain ⟨kB, qkB⟩ : ∃ x, x = Z4.1 58 (d + 1) := ⟨_, rfl⟩
  rw [← qkB] at w4_1 y4_1 sc4
  have c4_1 : Z4.1 58 (d + 1) = kB := qkB.symm
  have v4_1 : VK Z4 kB := w4_1
  have z4_1 := y4_1
  have sp4 : SEG Z4 (p + 1) pb (exn t (f3 kR 0 0) 1) (exn t (f3 kR kB 0) 2) := sc4.to (exn_psh0 (fun j hj => by rcases j with _ | _ | _ | j <;> first | rfl | omega) rfl)
  have sg4 := (sg3.jr hX3.2.1 js4 (fun j q1 q2 (q : (p + 1) ≤ j ∧ j < pb) => by omega)).tr sp4
  have eo4 : ix o4 = pb := by
    have := ixc (z := o4) (by omega)
    omega
  have hop4 : (Z4.1 40 (ix o4)).toInt = 5 := by rw [eo4, hX4.1.1 40 pb (show (8000 : Nat) ∉ [9, 10, 13, 15, 28, 30, 800, 1000, 1200, 1400, 1600, 1800, 2000, 6200, 6400, 8600, 10400, 10600, 10800, 11000, 11200, 11400, 11600, 11800] from by decide)]; exact hs2.1
  have qn4 : (Z4.1 41 pb).toInt = (((ix (X0.1 24 n)) : Nat) : Int) := by rw [hX4.1.1 41 pb (show (8200 : Nat) ∉ [9, 10, 13, 15, 28, 30, 800, 1000, 1200, 1400, 1600, 1800, 2000, 6200, 6400, 8600, 10400, 10600, 10800, 11000, 11200, 11400, 11600, 11800] from by decide)]; exact hs2.2
  have en4 : ix (Z4.1 41 pb) = (ix (X0.1 24 n)) := by
    have := ixc (z := Z4.1 41 pb) (by omega)
    omega
  have inn4 : inR (Z4.1 41 pb) 3100 := ⟨by omega, show (Z4.1 41 pb).toInt < ((3100 : Nat) : Int) by omega⟩
  have ino4 : inR o4 24000 := ⟨by omega, show o4.toInt < ((24000 : Nat) : Int) by omega⟩
  obtain ⟨o5, Z5, ho5, gs5, js5, ns5, ps5⟩ := jstep (r37 := r37) (a1 := a1) (a2 := a2) (s := pb) (o := o4) (by omega) (by omega) (by omega) hw4 (one_5 hX4.2.1 (by omega) (by omega) ⟨by omega, by omega⟩ hX4.2.2.2.2.2.2 hw4 ino4 hop4 (d := d + 1) (by omega) (by omega) (by rw [c4_1]; exact v4_1) (by rw [eo4]; exact n43_4 _ (Nat.le_refl _) (by omega)) inn4 hX4.2.2.1)
  have mg5 := js5.2.2.2.1.1
  have mk5 := js5.2.2.1.1
  have hX5 := hX4.jr js5
  have go5 := go4.tr gs5
  have jr5 : JR Z0 Z5 (fun j => s ≤ j ∧ j < (pb + 1)) := (jr4.mono (fun j (q : s ≤ j ∧ j < pb) => (⟨by omega, by omega⟩ : s ≤ j ∧ j < (pb + 1)))).tr (js5.mono (fun j (q : j = ix o4) => (⟨by omega, by omega⟩ : s ≤ j ∧ j < (pb + 1))))
  by_cases hw5 : (Z5.1 0 9).toInt = 0
  rotate_left
  · exact ⟨_, o5, Z5, go5, by omega, jr5.mono (fun j (q : s ≤ j ∧ j < (pb + 1)) => (⟨by omega, by omega⟩ : s ≤ j ∧ j < e)), ⟨by omega, by omega, by omega⟩, fun q => absurd q hw5⟩
  obtain ⟨hd5, ce5, h58_5, h59_5, gr5⟩ := ps5 hw5
  have kp5 : ∀ j, j < d + 1 → Z5.1 58 j = Z4.1 58 j := fun j hj => h58_5 j (by omega)
  have bel5 : ∀ j, j < d → Z5.1 58 j = Z0.1 58 j := fun j hj => (kp5 j (by omega)).trans (bel4 j hj)
  have k59_5 : ∀ j : Nat, (j : Int) < sc → Z5.1 59 j = Z4.1 59 j := fun j hj => h59_5 j
  have l59_5 : ∀ j : Nat, (j : Int) < sc → Z5.1 59 j = Z0.1 59 j := fun j hj => (k59_5 j hj).trans (l59_4 j hj)
  have loc5 : LOC Z5 sc B t := loc4.jr hX4.2.1 js5 k59_5
  have n43_5 : ∀ j, (pb + 1) ≤ j → j < e → (Z5.1 43 j).toInt = -1 := fun j q1 q2 => by rw [js5.2.2.2.2 j (fun (q : j = ix o4) => by omega)]; exact n43_4 j (by omega) q2
  have c5_0 : Z5.1 58 (d + 0) = kR := (kp5 (d + 0) (by omega)).trans c4_0
  have v5_0 : VK Z5 kR := v4_0.kx js5.2.2.1
  have z5_0 : ksz Z5 (ix kR) = ksz Z4 (ix kR) := ksz_kx hX4.2.1 hX5.2.1 js5.2.2.1 _ (by have := ixc v4_0.1; have := v4_0.2; omega)
  have c5_1 : Z5.1 58 (d + 1) = 0 := ce5
  have v5_1 : VK Z5 0 := ⟨by decide, by have := hX5.2.2.1.1; have z : (0 : Int32).toInt = 0 := rfl; omega⟩
  have z5_1 : ksz Z5 (ix 0) = 1 := hX5.2.2.1.sz hX5.2.1 (k := 0) (by decide)
  have oz5 : OA Z5 pb 5 (ix (X0.1 24 n)) := ⟨by rw [hX5.1.1 40 pb (show (8000 : Nat) ∉ [9, 10, 13, 15, 28, 30, 800, 1000, 1200, 1400, 1600, 1800, 2000, 6200, 6400, 8600, 10400, 10600, 10800, 11000, 11200, 11400, 11600, 11800] from by decide)]; exact hs2.1, by rw [hX5.1.1 41 pb (show (8200 : Nat) ∉ [9, 10, 13, 15, 28, 30, 800, 1000, 1200, 1400, 1600, 1800, 2000, 6200, 6400, 8600, 10400, 10600, 10800, 11000, 11200, 11400, 11600, 11800] from by decide)]; exact hs2.2⟩
  have sp5 : SEG Z5 pb (pb + 1) (exn t (f3 kR kB 0) 2) (exn t (f3 kR 0 0) 2) := SEG.gd1 (m := 1) ((hval.kx jr5.2.2.1).exn (VK3 (by decide) (fun _ => v5_0) (fun _ => (v4_1.kx js5.2.2.1)) (fun h => absurd h (by decide)))) oz5 (by omega) (by decide) (by have q := gr5; rw [eo4, c4_1] at q; exact q) v5_1 (fun j hj => by rcases j with _ | _ | _ | j <;> first | rfl | omega) rfl
  have sg5 := (sg4.jr hX4.2.1 js5 (fun j q1 q2 (q : j = ix o4) => by omega)).tr sp5
  obtain ⟨cc6, o6, Z6, gs6, b6, js6, ns6, ps6⟩ := hC.2.2 Z5 o5 (d + 2) B (exn t (f3 kR 0 0) 2) hX5 hw5 ho5 (by omega) (by omega) (by omega) (by omega) (by omega) (by omega) (fun j q1 q2 => n43_5 j q1 (by omega)) ⟨loc5.1, hsc1, hsc2⟩ ((hval.kx jr5.2.2.1).exn (VK3 (by decide) (fun _ => v5_0) (fun _ => v5_1) (fun h => absurd h (by decide))))
  have mg6 := js6.2.2.2.1.1
  have mk6 := js6.2.2.1.1
  have hX6 := hX5.jr js6
  have go6 := go5.tr gs6
  have jr6 : JR Z0 Z6 (fun j => s ≤ j ∧ j < pc) := (jr5.mono (fun j (q : s ≤ j ∧ j < (pb + 1)) => (⟨by omega, by omega⟩ : s ≤ j ∧ j < pc))).tr (js6.mono (fun j (q : (pb + 1) ≤ j ∧ j < pc) => (⟨by omega, by omega⟩ : s ≤ j ∧ j < pc)))
  by_cases hw6 : (Z6.1 0 9).toInt = 0
  rotate_left
  · exact ⟨_, o6, Z6, go6, by omega, jr6.mono (fun j (q : s ≤ j ∧ j < pc) => (⟨by omega, by omega⟩ : s ≤ j ∧ j < e)), ⟨by omega, by omega, by omega⟩, fun q => absurd q hw6⟩
  obtain ⟨ho6, hd6, h58_6, h59_6, w6_2, y6_2, sc6⟩ := ps6 hw6
  have kp6 : ∀ j, j < d + 2 → Z6.1 58 j = Z5.1 58 j := fun j hj => h58_6 j (by omega)
  have bel6 : ∀ j, j < d → Z6.1 58 j = Z0.1 58 j := fun j hj => (kp6 j (by omega)).trans (bel5 j hj)
  have k59_6 : ∀ j : Nat, (j : Int) < sc → Z6.1 59 j = Z5.1 59 j := fun j hj => h59_6 j hj
  have l59_6 : ∀ j : Nat, (j : Int) < sc → Z6.1 59 j = Z0.1 59 j := fun j hj => (k59_6 j hj).trans (l59_5 j hj)
  have loc6 : LOC Z6 sc B t := loc5.jr hX5.2.1 js6 k59_6
  have n43_6 : ∀ j, pc ≤ j → j < e → (Z6.1 43 j).toInt = -1 := fun j q1 q2 => by rw [js6.2.2.2.2 j (fun (q : (pb + 1) ≤ j ∧ j < pc) => by omega)]; exact n43_5 j (by omega) q2
  have c6_0 : Z6.1 58 (d + 0) = kR := (kp6 (d + 0) (by omega)).trans c5_0
  have v6_0 : VK Z6 kR := v5_0.kx js6.2.2.1
  have z6_0 : ksz Z6 (ix kR) = ksz Z5 (ix kR) := ksz_kx hX5.2.1 hX6.2.1 js6.2.2.1 _ (by have := ixc v5_0.1; have := v5_0.2; omega)
  have c6_1 : Z6.1 58 (d + 1) = 0 := (kp6 (d + 1) (by omega)).trans c5_1
  have v6_1 : VK Z6 0 := v5_1.kx js6.2.2.1
  have z6_1 : ksz Z6 (ix 0) = ksz Z5 (ix 0) := ksz_kx hX5.2.1 hX6.2.1 js6.2.2.1 _ (by have := ixc v5_1.1; have := v5_1.2; omega)
  obtain ⟨kC, qkC⟩ : ∃ x, x = Z6.1 58 (d + 2) := ⟨_, rfl⟩
  rw [← qkC] at w6_2 y6_2 sc6
  have c6_2 : Z6.1 58 (d + 2) = kC := qkC.symm
  have v6_2 : VK Z6 kC := w6_2
  have z6_2 := y6_2
  have sp6 : SEG Z6 (pb + 1) pc (exn t (f3 kR 0 0) 2) (exn t (f3 kR 0 kC) 3) := sc6.to (exn_psh0 (fun j hj => by rcases j with _ | _ | _ | j <;> first | rfl | omega) rfl)
  have sg6 := (sg5.jr hX5.2.1 js6 (fun j q1 q2 (q : (pb + 1) ≤ j ∧ j < pc) => by omega)).tr sp6
  have rkz : ROWK Z6 kR elkR := (((rkkR.kx hX3.2.1 js4.2.2.1).kx hX4.2.1 js5.2.2.1).kx hX5.2.1 js6.2.2.1)
  have ecm : cmpK Z6 kR 0 = elkR := rkz.2.2.2.2
  have r5 := rkz.2.2.2.1
  have csz := cmp_sz hX6.2.1 ⟨rkz.1, rkz.2.1⟩ (i := 0) (by omega)
  rw [ecm] at csz
  have clt := cmpK_lt hX6.2.1 rkz.1 rkz.2.1 (i := 0) (by omega)
  rw [ecm] at clt
  have rkz2 := rkz.2.1
  have vel : VK Z6 elkR := ⟨clt.1, by omega⟩
  have g0 : Z6.1 58 d = kR := c6_0
  have g2 : Z6.1 58 (d + 2) = kC := c6_2
  have e25 : Z6.1 25 n = X0.1 25 n := hX6.1.1 25 n (show (5000 : Nat) ∉ [9, 10, 13, 15, 28, 30, 800, 1000, 1200, 1400, 1600, 1800, 2000, 6200, 6400, 8600, 10400, 10600, 10800, 11000, 11200, 11400, 11600, 11800] from by decide)
  have eo6 : ix o6 = pc := by
    have := ixc (z := o6) (by omega)
    omega
  have hop6 : (Z6.1 40 (ix o6)).toInt = 11 := by rw [eo6, hX6.1.1 40 pc (show (8000 : Nat) ∉ [9, 10, 13, 15, 28, 30, 800, 1000, 1200, 1400, 1600, 1800, 2000, 6200, 6400, 8600, 10400, 10600, 10800, 11000, 11200, 11400, 11600, 11800] from by decide)]; exact hs3.1
  have qn6 : (Z6.1 41 pc).toInt = ((n : Nat) : Int) := by rw [hX6.1.1 41 pc (show (8200 : Nat) ∉ [9, 10, 13, 15, 28, 30, 800, 1000, 1200, 1400, 1600, 1800, 2000, 6200, 6400, 8600, 10400, 10600, 10800, 11000, 11200, 11400, 11600, 11800] from by decide)]; exact hs3.2
  have en6 : ix (Z6.1 41 pc) = n := by
    have := ixc (z := Z6.1 41 pc) (by omega)
    omega
  have inn6 : inR (Z6.1 41 pc) 3100 := ⟨by omega, show (Z6.1 41 pc).toInt < ((3100 : Nat) : Int) by omega⟩
  have ino6 : inR o6 24000 := ⟨by omega, show o6.toInt < ((24000 : Nat) : Int) by omega⟩
  obtain ⟨o7, Z7, ho7, gs7, js7, ns7, ps7⟩ := jstep (r37 := r37) (a1 := a1) (a2 := a2) (s := pc) (o := o6) (by omega) (by omega) (by omega) hw6 (one_11 hX6.2.1 (by omega) (by omega) ⟨by omega, by omega⟩ hX6.2.2.2.2.2.2 hw6 ino6 hop6 (d := d) (by omega) (by omega) (by rw [g2]; exact v6_2) (by rw [eo6]; exact n43_6 _ (Nat.le_refl _) (by omega)) (by rw [g0]; exact v6_0) (by rw [g0]; omega) (by rw [g0, ecm]; omega) inn6 (by rw [en6, e25]; exact ⟨hC.1, show (X0.1 25 n).toInt < ((3100 : Nat) : Int) by have := ixc hC.1; omega⟩))
  have mg7 := js7.2.2.2.1.1
  have mk7 := js7.2.2.1.1
  have hX7 := hX6.jr js7
  have go7 := go6.tr gs7
  have jr7 : JR Z0 Z7 (fun j => s ≤ j ∧ j < (pc + 1)) := (jr6.mono (fun j (q : s ≤ j ∧ j < pc) => (⟨by omega, by omega⟩ : s ≤ j ∧ j < (pc + 1)))).tr (js7.mono (fun j (q : j = ix o6) => (⟨by omega, by omega⟩ : s ≤ j ∧ j < (pc + 1))))
  by_cases hw7 : (Z7.1 0 9).toInt = 0
  rotate_left
  · exact ⟨_, o7, Z7, go7, by omega, jr7.mono (fun j (q : s ≤ j ∧ j < (pc + 1)) => (⟨by omega, by omega⟩ : s ≤ j ∧ j < e)), ⟨by omega, by omega, by omega⟩, fun q => absurd q hw7⟩
  obtain ⟨hd7, ce7, h58_7, h59_7, gr7⟩ := ps7 hw7
  have kp7 : ∀ j, j < d + 2 → Z7.1 58 j = Z6.1 58 j := fun j hj => h58_7 j (by omega)
  have bel7 : ∀ j, j < d → Z7.1 58 j = Z0.1 58 j := fun j hj => (kp7 j (by omega)).trans (bel6 j hj)
  have k59_7 : ∀ j : Nat, (j : Int) < sc → Z7.1 59 j = Z6.1 59 j := fun j hj => h59_7 j
  have l59_7 : ∀ j : Nat, (j : Int) < sc → Z7.1 59 j = Z0.1 59 j := fun j hj => (k59_7 j hj).trans (l59_6 j hj)
  have loc7 : LOC Z7 sc B t := loc6.jr hX6.2.1 js7 k59_7
  have n43_7 : ∀ j, (pc + 1) ≤ j → j < e → (Z7.1 43 j).toInt = -1 := fun j q1 q2 => by rw [js7.2.2.2.2 j (fun (q : j = ix o6) => by omega)]; exact n43_6 j (by omega) q2
  have c7_0 : Z7.1 58 (d + 0) = kR := (kp7 (d + 0) (by omega)).trans c6_0
  have v7_0 : VK Z7 kR := v6_0.kx js7.2.2.1
  have z7_0 : ksz Z7 (ix kR) = ksz Z6 (ix kR) := ksz_kx hX6.2.1 hX7.2.1 js7.2.2.1 _ (by have := ixc v6_0.1; have := v6_0.2; omega)
  have c7_1 : Z7.1 58 (d + 1) = 0 := (kp7 (d + 1) (by omega)).trans c6_1
  have v7_1 : VK Z7 0 := v6_1.kx js7.2.2.1
  have z7_1 : ksz Z7 (ix 0) = ksz Z6 (ix 0) := ksz_kx hX6.2.1 hX7.2.1 js7.2.2.1 _ (by have := ixc v6_1.1; have := v6_1.2; omega)
  have c7_2 : Z7.1 58 (d + 2) = elkR := by rw [g0, ecm] at ce7; exact ce7
  have v7_2 : VK Z7 elkR := vel.kx js7.2.2.1
  have z7_2 : ksz Z7 (ix elkR) = ksz Z6 (ix elkR) := ksz_kx hX6.2.1 hX7.2.1 js7.2.2.1 _ (by have := ixc vel.1; omega)
  have oz7 : OA Z7 pc 11 n := ⟨by rw [hX7.1.1 40 pc (show (8000 : Nat) ∉ [9, 10, 13, 15, 28, 30, 800, 1000, 1200, 1400, 1600, 1800, 2000, 6200, 6400, 8600, 10400, 10600, 10800, 11000, 11200, 11400, 11600, 11800] from by decide)]; exact hs3.1, by rw [hX7.1.1 41 pc (show (8200 : Nat) ∉ [9, 10, 13, 15, 28, 30, 800, 1000, 1200, 1400, 1600, 1800, 2000, 6200, 6400, 8600, 10400, 10600, 10800, 11000, 11200, 11400, 11600, 11800] from by decide)]; exact hs3.2⟩
  have sp7 : SEG Z7 pc (pc + 1) (exn t (f3 kR 0 kC) 3) (exn t (f3 kR 0 elkR) 3) := SEG.gd1 (m := 2) ((hval.kx jr7.2.2.1).exn (VK3 (by decide) (fun _ => v7_0) (fun _ => v7_1) (fun _ => (v6_2.kx js7.2.2.1)))) oz7 (by omega) (by decide) (by have q := gr7; rw [eo6, g2, g0, ecm] at q; exact q) v7_2 (fun j hj => by rcases j with _ | _ | _ | j <;> first | rfl | omega) rfl
  have sg7 := (sg6.jr hX6.2.1 js7 (fun j q1 q2 (q : j = ix o6) => by omega)).tr sp7
  have rkw : ROWK Z7 kR elkR := rkz.kx hX6.2.1 js7.2.2.1
  have ecw : cmpK Z7 kR 0 = elkR := rkw.2.2.2.2
  have g0w : Z7.1 58 d = kR := c7_0
  have r5w := rkw.2.2.2.1
  have eo7 : ix o7 = (pc + 1) := by
    have := ixc (z := o7) (by omega)
    omega
  have hop7 : (Z7.1 40 (ix o7)).toInt = 27 := by rw [eo7, hX7.1.1 40 (pc + 1) (show (8000 : Nat) ∉ [9, 10, 13, 15, 28, 30, 800, 1000, 1200, 1400, 1600, 1800, 2000, 6200, 6400, 8600, 10400, 10600, 10800, 11000, 11200, 11400, 11600, 11800] from by decide)]; exact hs4.1
  have qn7 : (Z7.1 41 (pc + 1)).toInt = ((n : Nat) : Int) := by rw [hX7.1.1 41 (pc + 1) (show (8200 : Nat) ∉ [9, 10, 13, 15, 28, 30, 800, 1000, 1200, 1400, 1600, 1800, 2000, 6200, 6400, 8600, 10400, 10600, 10800, 11000, 11200, 11400, 11600, 11800] from by decide)]; exact hs4.2
  have en7 : ix (Z7.1 41 (pc + 1)) = n := by
    have := ixc (z := Z7.1 41 (pc + 1)) (by omega)
    omega
  have inn7 : inR (Z7.1 41 (pc + 1)) 3100 := ⟨by omega, show (Z7.1 41 (pc + 1)).toInt < ((3100 : Nat) : Int) by omega⟩
  have ino7 : inR o7 24000 := ⟨by omega, show o7.toInt < ((24000 : Nat) : Int) by omega⟩
  obtain ⟨o8, Z8, ho8, gs8, js8, ns8, ps8⟩ := jstep (r37 := r37) (a1 := a1) (a2 := a2) (s := (pc + 1)) (o := o7) (by omega) (by omega) (by omega) hw7 (one_27 hX7.2.1 (by omega) (by omega) ⟨by omega, by omega⟩ hX7.2.2.2.2.2.2 hw7 ino7 hop7 (d := d) (by omega) (by omega) (by rw [g0w]; exact v7_0) (by rw [g0w]; omega))
  have mg8 := js8.2.2.2.1.1
  have mk8 := js8.2.2.1.1
  have hX8 := hX7.jr js8
  have go8 := go7.tr gs8
  have jr8 : JR Z0 Z8 (fun j => s ≤ j ∧ j < ((pc + 1) + 1)) := (jr7.mono (fun j (q : s ≤ j ∧ j < (pc + 1)) => (⟨by omega, by omega⟩ : s ≤ j ∧ j < ((pc + 1) + 1)))).tr (js8.mono (fun j (q : False) => q.elim))
  by_cases hw8 : (Z8.1 0 9).toInt = 0
  rotate_left
  · exact ⟨_, o8, Z8, go8, by omega, jr8.mono (fun j (q : s ≤ j ∧ j < ((pc + 1) + 1)) => (⟨by omega, by omega⟩ : s ≤ j ∧ j < e)), ⟨by omega, by omega, by omega⟩, fun q => absurd q hw8⟩
  obtain ⟨hd8, ce8, h58_8, h59_8⟩ := ps8 hw8
  have kp8 : ∀ j, j < d + 0 → Z8.1 58 j = Z7.1 58 j := fun j hj => h58_8 j (by omega)
  have bel8 : ∀ j, j < d → Z8.1 58 j = Z0.1 58 j := fun j hj => (kp8 j (by omega)).trans (bel7 j hj)
  have k59_8 : ∀ j : Nat, (j : Int) < sc → Z8.1 59 j = Z7.1 59 j := fun j hj => h59_8 j
  have l59_8 : ∀ j : Nat, (j : Int) < sc → Z8.1 59 j = Z0.1 59 j := fun j hj => (k59_8 j hj).trans (l59_7 j hj)
  have loc8 : LOC Z8 sc B t := loc7.jr hX7.2.1 js8 k59_8
  have n43_8 : ∀ j, ((pc + 1) + 1) ≤ j → j < e → (Z8.1 43 j).toInt = -1 := fun j q1 q2 => by rw [js8.2.2.2.2 j (fun (q : False) => q)]; exact n43_7 j (by omega) q2
  have c8_0 : Z8.1 58 (d + 0) = elkR := by rw [g0w, ecw] at ce8; exact ce8
  have v8_0 : VK Z8 elkR := v7_2.kx js8.2.2.1
  have z8_0 : ksz Z8 (ix elkR) = ksz Z7 (ix elkR) := ksz_kx hX7.2.1 hX8.2.1 js8.2.2.1 _ (by have := ixc v7_2.1; have := v7_2.2; omega)
  have oz8 : OA Z8 (pc + 1) 27 n := ⟨by rw [hX8.1.1 40 (pc + 1) (show (8000 : Nat) ∉ [9, 10, 13, 15, 28, 30, 800, 1000, 1200, 1400, 1600, 1800, 2000, 6200, 6400, 8600, 10400, 10600, 10800, 11000, 11200, 11400, 11600, 11800] from by decide)]; exact hs4.1, by rw [hX8.1.1 41 (pc + 1) (show (8200 : Nat) ∉ [9, 10, 13, 15, 28, 30, 800, 1000, 1200, 1400, 1600, 1800, 2000, 6200, 6400, 8600, 10400, 10600, 10800, 11000, 11200, 11400, 11600, 11800] from by decide)]; exact hs4.2⟩
  have sp8 : SEG Z8 (pc + 1) ((pc + 1) + 1) (exn t (f3 kR 0 elkR) 3) (exn t (f3 elkR 0 0) 1) := SEG.assign ((hval.kx jr8.2.2.1).exn (VK3 (by decide) (fun _ => (v7_0.kx js8.2.2.1)) (fun _ => (v7_1.kx js8.2.2.1)) (fun _ => (v7_2.kx js8.2.2.1)))) oz8 (by omega) (by show 3 ≤ t.1 + 3; omega) (by rw [exn_tp (by decide)]; rfl) (by rw [exn_tp (by decide), exn_tp (by decide)]; exact rkw.kx hX7.2.1 js8.2.2.1) (exn_psh (i := 3) (by decide) (fun j hj => by rcases j with _ | _ | _ | j <;> first | rfl | omega) (by rw [exn_tp (by decide)]; rfl))
  have sg8 := (sg7.jr hX7.2.1 js8 (fun j q1 q2 (q : False) => q)).tr sp8
  refine ⟨_, o8, Z8, go8, by omega, jr8.mono (fun j (q : s ≤ j ∧ j < ((pc + 1) + 1)) => (⟨by omega, by omega⟩ : s ≤ j ∧ j < e)), ⟨by omega, by omega, by omega⟩, fun _ => ⟨by omega, by omega, bel8, l59_8, by rw [show Z8.1 58 d = elkR from c8_0]; exact v8_0, by rw [show Z8.1 58 d = elkR from c8_0]; omega, ?_⟩⟩
  rw [show Z8.1 58 d = elkR from c8_0]
  have qe : e = ((pc + 1) + 1) := by omega
  rw [qe]
  exact sg8.to (exn_end rfl)
theorem TE.bind {t : Ty} {f : Nat → Int32} {v : Nat} : TE ((exn t f 1).1 - 1, (exn t f 1).2.1, v + 1, tup (exn t f 1).2.2.2 v (tp (exn t f 1) 0)) (t.1, t.2.1, v + 1, tup t.2.2.2 v (f 0)) := by
  rw [exn_tp (by decide)]
  exact ⟨rfl, fun j hj => (if_pos (show j < t.1 from hj)).symm, Nat.le_refl _, fun _ _ => rfl⟩
theorem TE.unbind {t : Ty} {v : Nat} {k w : Int32} (h : t.2.2.1 = v) : TE (psh (t.1, t.2.1, v + 1, tup t.2.2.2 v w) k) (psh t k) := ⟨rfl, fun _ _ => rfl, by show t.2.2.1 ≤ v + 1; omega, fun j hj => (tup_ne _ _ (by have : j < t.2.2.1 := hj; omega)).symm⟩
set_option maxHeartbeats 4000000 in
theorem jp_17 {r37 : Int32 → St → Option (Int32 × St)} {a1 a2 : Int32} {X0 : St} {n lo hi : Nat} {sc : Int} {s e : Nat} (hlo : lo ≤ n) (hhi : n < hi) (hse : s < e) (hs0 : OA X0 s 0 n) {mm p : Nat} (hk : (X0.1 20 n).toInt = 17) (hl : n = lo) (hv : (X0.1 26 n).toInt = sc ∧ 0 ≤ sc ∧ sc ≤ 43) (hA : CHC (fun n lo hi sc s e => CX X0 n lo hi sc s e ∧ JP r37 a1 a2 X0 n lo hi sc s e) X0 23 n (n + 1) mm sc (s + 1) p) (hs1 : OA X0 p 12 n) (hs2 : OA X0 (p + 1) 13 n) (hB : CHC (fun n lo hi sc s e => CX X0 n lo hi sc s e ∧ JP r37 a1 a2 X0 n lo hi sc s e) X0 24 n mm hi (sc + 1) (p + 2) e) : JP r37 a1 a2 X0 n lo hi sc s e := by
  intro Z0 o0 d B t hX0 hw0 ho0 hea he24 hi31 hnn hd0 hnum n43_0 loc0 hval
  obtain ⟨u1, u2, u3, u4, u5, u6, u7⟩ := hnum
  have jr0 : JR Z0 Z0 (fun j => s ≤ j ∧ j < s) := JR.fr hX0.2.1 (Fr.rf (L := [])) (by decide) _
  have go0 : JGo r37 a1 a2 0 o0 o0 Z0 Z0 := JGo.rf
  have bel0 : ∀ j, j < d → Z0.1 58 j = Z0.1 58 j := fun _ _ => rfl
  have l59_0 : ∀ j : Nat, (j : Int) < sc → Z0.1 59 j = Z0.1 59 j := fun _ _ => rfl
  have hsc1 := loc0.2.1
  have hsc2 := loc0.2.2
  have bA := hA.2.1.bd
  have bB := hB.2.1.bd
  have eA := ixc hA.1
  obtain ⟨v, hvv⟩ : ∃ v : Nat, sc = (v : Int) := ⟨sc.toNat, (Int.toNat_of_nonneg hv.2.1).symm⟩
  have eo0 : ix o0 = s := by
    have := ixc (z := o0) (by omega)
    omega
  have hop0 : (Z0.1 40 (ix o0)).toInt = 0 := by rw [eo0, hX0.1.1 40 s (show (8000 : Nat) ∉ [9, 10, 13, 15, 28, 30, 800, 1000, 1200, 1400, 1600, 1800, 2000, 6200, 6400, 8600, 10400, 10600, 10800, 11000, 11200, 11400, 11600, 11800] from by decide)]; exact hs0.1
  have qn0 : (Z0.1 41 s).toInt = ((n : Nat) : Int) := by rw [hX0.1.1 41 s (show (8200 : Nat) ∉ [9, 10, 13, 15, 28, 30, 800, 1000, 1200, 1400, 1600, 1800, 2000, 6200, 6400, 8600, 10400, 10600, 10800, 11000, 11200, 11400, 11600, 11800] from by decide)]; exact hs0.2
  have en0 : ix (Z0.1 41 s) = n := by
    have := ixc (z := Z0.1 41 s) (by omega)
    omega
  have inn0 : inR (Z0.1 41 s) 3100 := ⟨by omega, show (Z0.1 41 s).toInt < ((3100 : Nat) : Int) by omega⟩
  have ino0 : inR o0 24000 := ⟨by omega, show o0.toInt < ((24000 : Nat) : Int) by omega⟩
  obtain ⟨o1, Z1, ho1, gs1, eZ1⟩ := jstep (r37 := r37) (a1 := a1) (a2 := a2) (s := s) (o := o0) ho0 (by omega) (by omega) hw0 (one_0 hX0.2.1 (by omega) (by omega) ⟨by omega, by omega⟩ hX0.2.2.2.2.2.2 hw0 ino0 hop0)
  have hX1 : JX X0 Z1 := by rw [← eZ1]; exact hX0
  have hw1 : (Z1.1 0 9).toInt = 0 := by rw [← eZ1]; exact hw0
  have loc1 : LOC Z1 sc B t := by rw [← eZ1]; exact loc0
  have bel1 : ∀ j, j < d → Z1.1 58 j = Z0.1 58 j := fun j _ => by rw [← eZ1]
  have l59_1 : ∀ j : Nat, (j : Int) < sc → Z1.1 59 j = Z0.1 59 j := fun j _ => by rw [← eZ1]
  have hd1 : (Z1.1 0 30).toInt = (d : Int) := by rw [← eZ1]; exact hd0
  have go1 := go0.tr gs1
  have jr1 : JR Z0 Z1 (fun j => s ≤ j ∧ j < (s + 1)) := by rw [← eZ1]; exact jr0.mono (fun j (q : s ≤ j ∧ j < s) => (⟨by omega, by omega⟩ : s ≤ j ∧ j < s + 1))
  have n43_1 : ∀ j, (s + 1) ≤ j → j < e → (Z1.1 43 j).toInt = -1 := fun j q1 q2 => by rw [← eZ1]; exact n43_0 j (by omega) q2
  have nq1 : (Z1.1 0 13).toInt = (Z0.1 0 13).toInt ∧ (Z1.1 0 15).toInt = (Z0.1 0 15).toInt ∧ (Z1.1 0 28).toInt = (Z0.1 0 28).toInt := by rw [← eZ1]; exact ⟨rfl, rfl, rfl⟩
  have oz1 : OA Z1 s 0 n := ⟨by rw [hX1.1.1 40 s (show (8000 : Nat) ∉ [9, 10, 13, 15, 28, 30, 800, 1000, 1200, 1400, 1600, 1800, 2000, 6200, 6400, 8600, 10400, 10600, 10800, 11000, 11200, 11400, 11600, 11800] from by decide)]; exact hs0.1, by rw [hX1.1.1 41 s (show (8200 : Nat) ∉ [9, 10, 13, 15, 28, 30, 800, 1000, 1200, 1400, 1600, 1800, 2000, 6200, 6400, 8600, 10400, 10600, 10800, 11000, 11200, 11400, 11600, 11800] from by decide)]; exact hs0.2⟩
  have sg1 : SEG Z1 s (s + 1) t (exn t (f3 0 0 0) 0) := SEG.step (hval.kx jr1.2.2.1) oz1 (by omega) exn_zero
  obtain ⟨cc2, o2, Z2, gs2, b2, js2, ns2, ps2⟩ := hA.2.2 Z1 o1 (d + 0) B (exn t (f3 0 0 0) 0) hX1 hw1 ho1 (by omega) (by omega) (by omega) (by omega) (by omega) (by omega) (fun j q1 q2 => n43_1 j q1 (by omega)) ⟨loc1.1, hsc1, hsc2⟩ ((hval.kx jr1.2.2.1).exn (VK3 (by decide) (fun h => absurd h (by decide)) (fun h => absurd h (by decide)) (fun h => absurd h (by decide))))
  have mg2 := js2.2.2.2.1.1
  have mk2 := js2.2.2.1.1
  have hX2 := hX1.jr js2
  have go2 := go1.tr gs2
  have jr2 : JR Z0 Z2 (fun j => s ≤ j ∧ j < p) := (jr1.mono (fun j (q : s ≤ j ∧ j < (s + 1)) => (⟨by omega, by omega⟩ : s ≤ j ∧ j < p))).tr (js2.mono (fun j (q : (s + 1) ≤ j ∧ j < p) => (⟨by omega, by omega⟩ : s ≤ j ∧ j < p)))
  by_cases hw2 : (Z2.1 0 9).toInt = 0
  rotate_left
  · exact ⟨_, o2, Z2, go2, by omega, jr2.mono (fun j (q : s ≤ j ∧ j < p) => (⟨by omega, by omega⟩ : s ≤ j ∧ j < e)), ⟨by omega, by omega, by omega⟩, fun q => absurd q hw2⟩
  obtain ⟨ho2, hd2, h58_2, h59_2, w2_0, y2_0, sc2⟩ := ps2 hw2
  have kp2 : ∀ j, j < d + 0 → Z2.1 58 j = Z1.1 58 j := fun j hj => h58_2 j (by omega)
  have bel2 : ∀ j, j < d → Z2.1 58 j = Z0.1 58 j := fun j hj => (kp2 j (by omega)).trans (bel1 j hj)
  have k59_2 : ∀ j : Nat, (j : Int) < sc → Z2.1 59 j = Z1.1 59 j := fun j hj => h59_2 j hj
  have l59_2 : ∀ j : Nat, (j : Int) < sc → Z2.1 59 j = Z0.1 59 j := fun j hj => (k59_2 j hj).trans (l59_1 j hj)
  have loc2 : LOC Z2 sc B t := loc1.jr hX1.2.1 js2 k59_2
  have n43_2 : ∀ j, p ≤ j → j < e → (Z2.1 43 j).toInt = -1 := fun j q1 q2 => by rw [js2.2.2.2.2 j (fun (q : (s + 1) ≤ j ∧ j < p) => by omega)]; exact n43_1 j (by omega) q2
  obtain ⟨kA, qkA⟩ : ∃ x, x = Z2.1 58 (d + 0) := ⟨_, rfl⟩
  rw [← qkA] at w2_0 y2_0 sc2
  have c2_0 : Z2.1 58 (d + 0) = kA := qkA.symm
  have v2_0 : VK Z2 kA := w2_0
  have z2_0 := y2_0
  have sp2 : SEG Z2 (s + 1) p (exn t (f3 0 0 0) 0) (exn t (f3 kA 0 0) 1) := sc2.to (exn_psh0 (fun j hj => by rcases j with _ | _ | _ | j <;> first | rfl | omega) rfl)
  have sg2 := (sg1.jr hX1.2.1 js2 (fun j q1 q2 (q : (s + 1) ≤ j ∧ j < p) => by omega)).tr sp2
  have f20 : Z2.1 20 n = X0.1 20 n := hX2.1.1 20 n (show (4000 : Nat) ∉ [9, 10, 13, 15, 28, 30, 800, 1000, 1200, 1400, 1600, 1800, 2000, 6200, 6400, 8600, 10400, 10600, 10800, 11000, 11200, 11400, 11600, 11800] from by decide)
  have f25 : Z2.1 25 n = X0.1 25 n := hX2.1.1 25 n (show (5000 : Nat) ∉ [9, 10, 13, 15, 28, 30, 800, 1000, 1200, 1400, 1600, 1800, 2000, 6200, 6400, 8600, 10400, 10600, 10800, 11000, 11200, 11400, 11600, 11800] from by decide)
  have f23 : Z2.1 23 n = X0.1 23 n := hX2.1.1 23 n (show (4600 : Nat) ∉ [9, 10, 13, 15, 28, 30, 800, 1000, 1200, 1400, 1600, 1800, 2000, 6200, 6400, 8600, 10400, 10600, 10800, 11000, 11200, 11400, 11600, 11800] from by decide)
  have f19 : Z2.1 0 19 = X0.1 0 19 := hX2.1.1 0 19 (by decide)
  have hc17 := hX2.2.2.2.2.1.2.1 n (by rw [f19]; omega) (by rw [f20]; exact hk)
  have eo2 : ix o2 = p := by
    have := ixc (z := o2) (by omega)
    omega
  have hop2 : (Z2.1 40 (ix o2)).toInt = 12 := by rw [eo2, hX2.1.1 40 p (show (8000 : Nat) ∉ [9, 10, 13, 15, 28, 30, 800, 1000, 1200, 1400, 1600, 1800, 2000, 6200, 6400, 8600, 10400, 10600, 10800, 11000, 11200, 11400, 11600, 11800] from by decide)]; exact hs1.1
  have qn2 : (Z2.1 41 p).toInt = ((n : Nat) : Int) := by rw [hX2.1.1 41 p (show (8200 : Nat) ∉ [9, 10, 13, 15, 28, 30, 800, 1000, 1200, 1400, 1600, 1800, 2000, 6200, 6400, 8600, 10400, 10600, 10800, 11000, 11200, 11400, 11600, 11800] from by decide)]; exact hs1.2
  have en2 : ix (Z2.1 41 p) = n := by
    have := ixc (z := Z2.1 41 p) (by omega)
    omega
  have inn2 : inR (Z2.1 41 p) 3100 := ⟨by omega, show (Z2.1 41 p).toInt < ((3100 : Nat) : Int) by omega⟩
  have ino2 : inR o2 24000 := ⟨by omega, show o2.toInt < ((24000 : Nat) : Int) by omega⟩
  obtain ⟨o3, Z3, ho3, gs3, js3, ns3, ps3⟩ := jstep (r37 := r37) (a1 := a1) (a2 := a2) (s := p) (o := o2) (by omega) (by omega) (by omega) hw2 (one_12 hX2.2.1 (by omega) (by omega) ⟨by omega, by omega⟩ hX2.2.2.2.2.2.2 hw2 ino2 hop2 (d := d + 0) (by omega) (by omega) (by rw [c2_0]; exact v2_0) (by rw [eo2]; exact n43_2 _ (Nat.le_refl _) (by omega)) inn2 hX2.2.2.1 (by rw [en2]; rcases hc17 with q | q; exact Or.inl q; exact Or.inr ⟨q.1, by omega⟩) (by rw [en2, f23]; exact ⟨hA.1, show (X0.1 23 n).toInt < ((3100 : Nat) : Int) by omega⟩))
  have mg3 := js3.2.2.2.1.1
  have mk3 := js3.2.2.1.1
  have hX3 := hX2.jr js3
  have go3 := go2.tr gs3
  have jr3 : JR Z0 Z3 (fun j => s ≤ j ∧ j < (p + 1)) := (jr2.mono (fun j (q : s ≤ j ∧ j < p) => (⟨by omega, by omega⟩ : s ≤ j ∧ j < (p + 1)))).tr (js3.mono (fun j (q : j = ix o2) => (⟨by omega, by omega⟩ : s ≤ j ∧ j < (p + 1))))
  by_cases hw3 : (Z3.1 0 9).toInt = 0
  rotate_left
  · exact ⟨_, o3, Z3, go3, by omega, jr3.mono (fun j (q : s ≤ j ∧ j < (p + 1)) => (⟨by omega, by omega⟩ : s ≤ j ∧ j < e)), ⟨by omega, by omega, by omega⟩, fun q => absurd q hw3⟩
  obtain ⟨hd3, ⟨kK, ce3, gr3, vk3, sz3⟩, h58_3, h59_3⟩ := ps3 hw3
  have kp3 : ∀ j, j < d + 0 → Z3.1 58 j = Z2.1 58 j := fun j hj => h58_3 j (by omega)
  have bel3 : ∀ j, j < d → Z3.1 58 j = Z0.1 58 j := fun j hj => (kp3 j (by omega)).trans (bel2 j hj)
  have k59_3 : ∀ j : Nat, (j : Int) < sc → Z3.1 59 j = Z2.1 59 j := fun j hj => h59_3 j
  have l59_3 : ∀ j : Nat, (j : Int) < sc → Z3.1 59 j = Z0.1 59 j := fun j hj => (k59_3 j hj).trans (l59_2 j hj)
  have loc3 : LOC Z3 sc B t := loc2.jr hX2.2.1 js3 k59_3
  have n43_3 : ∀ j, (p + 1) ≤ j → j < e → (Z3.1 43 j).toInt = -1 := fun j q1 q2 => by rw [js3.2.2.2.2 j (fun (q : j = ix o2) => by omega)]; exact n43_2 j (by omega) q2
  have c3_0 : Z3.1 58 (d + 0) = kK := ce3
  have v3_0 : VK Z3 kK := vk3
  have z3_0 : ksz Z3 (ix kK) ≤ ksz Z2 (ix kA) ∨ ksz Z3 (ix kK) ≤ 3000 := by
    rcases sz3 with q | q
    · left
      rw [c2_0] at q
      rw [q, ksz_kx hX2.2.1 hX3.2.1 js3.2.2.1 _ (by have := ixc v2_0.1; have := v2_0.2; omega)]
      exact Nat.le_refl _
    · exact Or.inr q
  have oz3 : OA Z3 p 12 n := ⟨by rw [hX3.1.1 40 p (show (8000 : Nat) ∉ [9, 10, 13, 15, 28, 30, 800, 1000, 1200, 1400, 1600, 1800, 2000, 6200, 6400, 8600, 10400, 10600, 10800, 11000, 11200, 11400, 11600, 11800] from by decide)]; exact hs1.1, by rw [hX3.1.1 41 p (show (8200 : Nat) ∉ [9, 10, 13, 15, 28, 30, 800, 1000, 1200, 1400, 1600, 1800, 2000, 6200, 6400, 8600, 10400, 10600, 10800, 11000, 11200, 11400, 11600, 11800] from by decide)]; exact hs1.2⟩
  have sp3 : SEG Z3 p (p + 1) (exn t (f3 kA 0 0) 1) (exn t (f3 kK 0 0) 1) := SEG.gd1 (m := 0) ((hval.kx jr3.2.2.1).exn (VK3 (by decide) (fun _ => (v2_0.kx js3.2.2.1)) (fun h => absurd h (by decide)) (fun h => absurd h (by decide)))) oz3 (by omega) (by decide) (by have q := gr3; rw [eo2, c2_0] at q; exact q) v3_0 (fun j hj => by rcases j with _ | _ | _ | j <;> first | rfl | omega) rfl
  have sg3 := (sg2.jr hX2.2.1 js3 (fun j q1 q2 (q : j = ix o2) => by omega)).tr sp3
  have eo3 : ix o3 = (p + 1) := by
    have := ixc (z := o3) (by omega)
    omega
  have hop3 : (Z3.1 40 (ix o3)).toInt = 13 := by rw [eo3, hX3.1.1 40 (p + 1) (show (8000 : Nat) ∉ [9, 10, 13, 15, 28, 30, 800, 1000, 1200, 1400, 1600, 1800, 2000, 6200, 6400, 8600, 10400, 10600, 10800, 11000, 11200, 11400, 11600, 11800] from by decide)]; exact hs2.1
  have qn3 : (Z3.1 41 (p + 1)).toInt = ((n : Nat) : Int) := by rw [hX3.1.1 41 (p + 1) (show (8200 : Nat) ∉ [9, 10, 13, 15, 28, 30, 800, 1000, 1200, 1400, 1600, 1800, 2000, 6200, 6400, 8600, 10400, 10600, 10800, 11000, 11200, 11400, 11600, 11800] from by decide)]; exact hs2.2
  have en3 : ix (Z3.1 41 (p + 1)) = n := by
    have := ixc (z := Z3.1 41 (p + 1)) (by omega)
    omega
  have inn3 : inR (Z3.1 41 (p + 1)) 3100 := ⟨by omega, show (Z3.1 41 (p + 1)).toInt < ((3100 : Nat) : Int) by omega⟩
  have ino3 : inR o3 24000 := ⟨by omega, show o3.toInt < ((24000 : Nat) : Int) by omega⟩
  have b26 : (Z3.1 26 n).toInt = (v : Int) := by rw [hX3.1.1 26 n (show (5200 : Nat) ∉ [9, 10, 13, 15, 28, 30, 800, 1000, 1200, 1400, 1600, 1800, 2000, 6200, 6400, 8600, 10400, 10600, 10800, 11000, 11200, 11400, 11600, 11800] from by decide)]; rw [← hvv]; exact hv.1
  obtain ⟨o4, Z4, ho4, gs4, js4, ns4, ps4⟩ := jstep (r37 := r37) (a1 := a1) (a2 := a2) (s := (p + 1)) (o := o3) (by omega) (by omega) (by omega) hw3 (one_13 hX3.2.1 (by omega) (by omega) ⟨by omega, by omega⟩ hX3.2.2.2.2.2.2 hw3 ino3 hop3 (d := d) (v := v) (by omega) (by omega) inn3 (by rw [en3]; exact b26) (by omega))
  have mg4 := js4.2.2.2.1.1
  have mk4 := js4.2.2.1.1
  have hX4 := hX3.jr js4
  have go4 := go3.tr gs4
  have jr4 : JR Z0 Z4 (fun j => s ≤ j ∧ j < ((p + 1) + 1)) := (jr3.mono (fun j (q : s ≤ j ∧ j < (p + 1)) => (⟨by omega, by omega⟩ : s ≤ j ∧ j < ((p + 1) + 1)))).tr (js4.mono (fun j (q : False) => q.elim))
  by_cases hw4 : (Z4.1 0 9).toInt = 0
  rotate_left
  · exact ⟨_, o4, Z4, go4, by omega, jr4.mono (fun j (q : s ≤ j ∧ j < ((p + 1) + 1)) => (⟨by omega, by omega⟩ : s ≤ j ∧ j < e)), ⟨by omega, by omega, by omega⟩, fun q => absurd q hw4⟩
  obtain ⟨hd4, h58_4, cb4, h59_4⟩ := ps4 hw4
  have kp4 : ∀ j, j < d + 0 → Z4.1 58 j = Z3.1 58 j := fun j hj => h58_4 j
  have bel4 : ∀ j, j < d → Z4.1 58 j = Z0.1 58 j := fun j hj => (kp4 j (by omega)).trans (bel3 j hj)
  have k59_4 : ∀ j : Nat, (j : Int) < sc → Z4.1 59 j = Z3.1 59 j := fun j hj => h59_4 j (by omega)
  have l59_4 : ∀ j : Nat, (j : Int) < sc → Z4.1 59 j = Z0.1 59 j := fun j hj => (k59_4 j hj).trans (l59_3 j hj)
  have loc4 : LOC Z4 sc B t := loc3.jr hX3.2.1 js4 k59_4
  have n43_4 : ∀ j, ((p + 1) + 1) ≤ j → j < e → (Z4.1 43 j).toInt = -1 := fun j q1 q2 => by rw [js4.2.2.2.2 j (fun (q : False) => q)]; exact n43_3 j (by omega) q2
  have cb : Z4.1 59 v = kK := cb4.trans c3_0
  have vb : VK Z4 kK := v3_0.kx js4.2.2.1
  have zb : ksz Z4 (ix kK) = ksz Z3 (ix kK) := ksz_kx hX3.2.1 hX4.2.1 js4.2.2.1 _ (by have := ixc v3_0.1; have := v3_0.2; omega)
  have oz4 : OA Z4 (p + 1) 13 n := ⟨by rw [hX4.1.1 40 (p + 1) (show (8000 : Nat) ∉ [9, 10, 13, 15, 28, 30, 800, 1000, 1200, 1400, 1600, 1800, 2000, 6200, 6400, 8600, 10400, 10600, 10800, 11000, 11200, 11400, 11600, 11800] from by decide)]; exact hs2.1, by rw [hX4.1.1 41 (p + 1) (show (8200 : Nat) ∉ [9, 10, 13, 15, 28, 30, 800, 1000, 1200, 1400, 1600, 1800, 2000, 6200, 6400, 8600, 10400, 10600, 10800, 11000, 11200, 11400, 11600, 11800] from by decide)]; exact hs2.2⟩
  have sp4 : SEG Z4 (p + 1) ((p + 1) + 1) (exn t (f3 kK 0 0) 1) (t.1, t.2.1, v + 1, tup t.2.2.2 v kK) := SEG.bind ((hval.kx jr4.2.2.1).exn (VK3 (by decide) (fun _ => vb) (fun h => absurd h (by decide)) (fun h => absurd h (by decide)))) oz4 (by omega) (v := v) (by show 1 ≤ t.1 + 1; omega) (by rw [js4.1.1 26 n (show (5200 : Nat) ∉ [9, 10, 13, 15, 28, 30, 800, 1000, 1200, 1400, 1600, 1800, 2000, 6200, 6400, 8600, 10400, 10600, 10800, 11000, 11200, 11400, 11600, 11800] from by decide)]; exact b26) (by omega) (by show v ≤ t.2.2.1; omega) TE.bind
  have sg4 := (sg3.jr hX3.2.1 js4 (fun j q1 q2 (q : False) => q)).tr sp4
  have locb : LOC Z4 (sc + 1) (B + (mm - (n + 1))) (t.1, t.2.1, v + 1, tup t.2.2.2 v kK) := by
    refine ⟨fun j hj => ?_, by show ((v + 1 : Nat) : Int) = sc + 1; omega, by omega⟩
    by_cases g : j = v
    · rw [g, cb]
      exact ⟨vb, by omega, tup_at _ _ _⟩
    · obtain ⟨q1, q2, q3⟩ := loc4.1 j (by omega)
      exact ⟨q1, by omega, (tup_ne _ _ g).trans q3⟩
  have hvk := hval.kx jr4.2.2.1
  have valb : VAL Z4 (t.1, t.2.1, v + 1, tup t.2.2.2 v kK) := by
    refine ⟨hvk.1, fun j hj => ?_, by show v + 1 ≤ 44; omega⟩
    show VK Z4 (tup t.2.2.2 v kK j)
    by_cases g : j = v
    · rw [g, tup_at]
      exact vb
    · rw [tup_ne _ _ g]
      exact hvk.2.1 j (by have : j < v + 1 := hj; omega)
  obtain ⟨cc5, o5, Z5, gs5, b5, js5, ns5, ps5⟩ := hB.2.2 Z4 o4 d (B + (mm - (n + 1))) (t.1, t.2.1, v + 1, tup t.2.2.2 v kK) hX4 hw4 (by omega) (by omega) (by omega) (by omega) (by omega) (by omega) (by omega) (fun j q1 q2 => n43_4 j (by omega) (by omega)) locb valb
  have mg5 := js5.2.2.2.1.1
  have go5 := go4.tr gs5
  have jr5 : JR Z0 Z5 (fun j => s ≤ j ∧ j < e) := (jr4.mono (fun j (q : s ≤ j ∧ j < ((p + 1) + 1)) => (⟨by omega, by omega⟩ : s ≤ j ∧ j < e))).tr (js5.mono (fun j (q : p + 2 ≤ j ∧ j < e) => (⟨by omega, by omega⟩ : s ≤ j ∧ j < e)))
  refine ⟨_, o5, Z5, go5, by omega, jr5, ⟨by omega, by omega, by omega⟩, fun hwz => ?_⟩
  obtain ⟨r1, r2, r3, r4, r5, r6, r7⟩ := ps5 hwz
  exact ⟨r1, r2, fun j hj => (r3 j hj).trans (bel4 j hj), fun j hj => (r4 j (by omega)).trans (l59_4 j hj), r5, by omega, (sg4.jr hX4.2.1 js5 (fun j q1 q2 (q : p + 2 ≤ j ∧ j < e) => by omega)).tr (r7.to (TE.unbind (by omega)))⟩
